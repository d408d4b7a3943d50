section
-- ===== PART A: goes FIRST, ahead of the names: the tables' words, and 'selects' of the private methods out of them =====
/-- a private method of a class that the tables say can be made, by its rows of tables_1 -/
def lw_okq (q : MethodName × Nat) : Prop := (q.1.cls ≠ "java/lang/invoke/MethodHandle" ∧ q.1.cls ≠ "java/lang/invoke/VarHandle") ∧ Cond.instantiable q.1.cls q.2 ∈ tables_1 ∧ Cond.privateMethod q.1 ∈ tables_1 ∧ Cond.instanceMethod q.1 ∈ tables_1
theorem lw_p0 : lw_okq (⟨"SorryWalk", "deny", "(I)Z"⟩, 18) := ⟨⟨by decide +kernel, by decide +kernel⟩, List.mem_of_getElem? (i := 23) (by decide +kernel), List.mem_of_getElem? (i := 527) (by decide +kernel), List.mem_of_getElem? (i := 528) (by decide +kernel)⟩
theorem lw_p1 : lw_okq (⟨"SorryWalk", "grant", "()Z"⟩, 18) := ⟨⟨by decide +kernel, by decide +kernel⟩, List.mem_of_getElem? (i := 23) (by decide +kernel), List.mem_of_getElem? (i := 538) (by decide +kernel), List.mem_of_getElem? (i := 539) (by decide +kernel)⟩
theorem lw_p2 : lw_okq (⟨"SorryWalk", "troubleAt", "(II)I"⟩, 18) := ⟨⟨by decide +kernel, by decide +kernel⟩, List.mem_of_getElem? (i := 23) (by decide +kernel), List.mem_of_getElem? (i := 546) (by decide +kernel), List.mem_of_getElem? (i := 547) (by decide +kernel)⟩
theorem lw_p3 : lw_okq (⟨"SorryWalk", "refuse", "(I)I"⟩, 18) := ⟨⟨by decide +kernel, by decide +kernel⟩, List.mem_of_getElem? (i := 23) (by decide +kernel), List.mem_of_getElem? (i := 562) (by decide +kernel), List.mem_of_getElem? (i := 563) (by decide +kernel)⟩
theorem lw_p4 : lw_okq (⟨"SorryWalk$Tape", "scanWord", "()V"⟩, 12) := ⟨⟨by decide +kernel, by decide +kernel⟩, List.mem_of_getElem? (i := 33) (by decide +kernel), List.mem_of_getElem? (i := 623) (by decide +kernel), List.mem_of_getElem? (i := 624) (by decide +kernel)⟩
theorem lw_p5 : lw_okq (⟨"SorryWalk$Tape", "scanNumber", "()V"⟩, 12) := ⟨⟨by decide +kernel, by decide +kernel⟩, List.mem_of_getElem? (i := 33) (by decide +kernel), List.mem_of_getElem? (i := 630) (by decide +kernel), List.mem_of_getElem? (i := 631) (by decide +kernel)⟩
theorem lw_p6 : lw_okq (⟨"SorryWalk$LandReader", "readPart", "()Z"⟩, 2) := ⟨⟨by decide +kernel, by decide +kernel⟩, List.mem_of_getElem? (i := 321) (by decide +kernel), List.mem_of_getElem? (i := 641) (by decide +kernel), List.mem_of_getElem? (i := 642) (by decide +kernel)⟩
theorem lw_p7 : lw_okq (⟨"SorryWalk$LandReader", "readHouse", "()Z"⟩, 2) := ⟨⟨by decide +kernel, by decide +kernel⟩, List.mem_of_getElem? (i := 321) (by decide +kernel), List.mem_of_getElem? (i := 649) (by decide +kernel), List.mem_of_getElem? (i := 650) (by decide +kernel)⟩
theorem lw_p8 : lw_okq (⟨"SorryWalk$LandReader", "isNewName", "()Z"⟩, 2) := ⟨⟨by decide +kernel, by decide +kernel⟩, List.mem_of_getElem? (i := 321) (by decide +kernel), List.mem_of_getElem? (i := 658) (by decide +kernel), List.mem_of_getElem? (i := 659) (by decide +kernel)⟩
theorem lw_p9 : lw_okq (⟨"SorryWalk$LandReader", "takeIf", "(I)Z"⟩, 2) := ⟨⟨by decide +kernel, by decide +kernel⟩, List.mem_of_getElem? (i := 321) (by decide +kernel), List.mem_of_getElem? (i := 674) (by decide +kernel), List.mem_of_getElem? (i := 675) (by decide +kernel)⟩
theorem lw_p10 : lw_okq (⟨"SorryWalk$LandReader", "readDoor", "()Z"⟩, 2) := ⟨⟨by decide +kernel, by decide +kernel⟩, List.mem_of_getElem? (i := 321) (by decide +kernel), List.mem_of_getElem? (i := 683) (by decide +kernel), List.mem_of_getElem? (i := 684) (by decide +kernel)⟩
theorem lw_p11 : lw_okq (⟨"SorryWalk$LandReader", "readPerson", "()Z"⟩, 2) := ⟨⟨by decide +kernel, by decide +kernel⟩, List.mem_of_getElem? (i := 321) (by decide +kernel), List.mem_of_getElem? (i := 702) (by decide +kernel), List.mem_of_getElem? (i := 703) (by decide +kernel)⟩
theorem lw_p12 : lw_okq (⟨"SorryWalk$LandReader", "readOwes", "()Z"⟩, 2) := ⟨⟨by decide +kernel, by decide +kernel⟩, List.mem_of_getElem? (i := 321) (by decide +kernel), List.mem_of_getElem? (i := 711) (by decide +kernel), List.mem_of_getElem? (i := 712) (by decide +kernel)⟩
theorem lw_p13 : lw_okq (⟨"SorryWalk$LandReader", "otherPerson", "(I)I"⟩, 2) := ⟨⟨by decide +kernel, by decide +kernel⟩, List.mem_of_getElem? (i := 321) (by decide +kernel), List.mem_of_getElem? (i := 724) (by decide +kernel), List.mem_of_getElem? (i := 725) (by decide +kernel)⟩
theorem lw_p14 : lw_okq (⟨"SorryWalk$LandReader", "readHeir", "()Z"⟩, 2) := ⟨⟨by decide +kernel, by decide +kernel⟩, List.mem_of_getElem? (i := 321) (by decide +kernel), List.mem_of_getElem? (i := 737) (by decide +kernel), List.mem_of_getElem? (i := 738) (by decide +kernel)⟩
theorem lw_p15 : lw_okq (⟨"SorryWalk$Roads", "measureFrom", "(I)V"⟩, 6) := ⟨⟨by decide +kernel, by decide +kernel⟩, List.mem_of_getElem? (i := 142) (by decide +kernel), List.mem_of_getElem? (i := 745) (by decide +kernel), List.mem_of_getElem? (i := 746) (by decide +kernel)⟩
def lw_privs_1 : List (MethodName × Nat) := [(⟨"SorryWalk", "deny", "(I)Z"⟩, 18), (⟨"SorryWalk", "grant", "()Z"⟩, 18), (⟨"SorryWalk", "troubleAt", "(II)I"⟩, 18), (⟨"SorryWalk", "refuse", "(I)I"⟩, 18), (⟨"SorryWalk$Tape", "scanWord", "()V"⟩, 12), (⟨"SorryWalk$Tape", "scanNumber", "()V"⟩, 12), (⟨"SorryWalk$LandReader", "readPart", "()Z"⟩, 2), (⟨"SorryWalk$LandReader", "readHouse", "()Z"⟩, 2), (⟨"SorryWalk$LandReader", "isNewName", "()Z"⟩, 2), (⟨"SorryWalk$LandReader", "takeIf", "(I)Z"⟩, 2), (⟨"SorryWalk$LandReader", "readDoor", "()Z"⟩, 2), (⟨"SorryWalk$LandReader", "readPerson", "()Z"⟩, 2), (⟨"SorryWalk$LandReader", "readOwes", "()Z"⟩, 2), (⟨"SorryWalk$LandReader", "otherPerson", "(I)I"⟩, 2), (⟨"SorryWalk$LandReader", "readHeir", "()Z"⟩, 2), (⟨"SorryWalk$Roads", "measureFrom", "(I)V"⟩, 6)]
theorem lw_r1 : ∀ q ∈ lw_privs_1, lw_okq q := List.forall_mem_cons.mpr ⟨lw_p0, List.forall_mem_cons.mpr ⟨lw_p1, List.forall_mem_cons.mpr ⟨lw_p2, List.forall_mem_cons.mpr ⟨lw_p3, List.forall_mem_cons.mpr ⟨lw_p4, List.forall_mem_cons.mpr ⟨lw_p5, List.forall_mem_cons.mpr ⟨lw_p6, List.forall_mem_cons.mpr ⟨lw_p7, List.forall_mem_cons.mpr ⟨lw_p8, List.forall_mem_cons.mpr ⟨lw_p9, List.forall_mem_cons.mpr ⟨lw_p10, List.forall_mem_cons.mpr ⟨lw_p11, List.forall_mem_cons.mpr ⟨lw_p12, List.forall_mem_cons.mpr ⟨lw_p13, List.forall_mem_cons.mpr ⟨lw_p14, List.forall_mem_cons.mpr ⟨lw_p15, fun _ h => absurd h List.not_mem_nil⟩⟩⟩⟩⟩⟩⟩⟩⟩⟩⟩⟩⟩⟩⟩⟩
theorem lw_p16 : lw_okq (⟨"SorryWalk$Roads", "leastNext", "(II)I"⟩, 6) := ⟨⟨by decide +kernel, by decide +kernel⟩, List.mem_of_getElem? (i := 142) (by decide +kernel), List.mem_of_getElem? (i := 756) (by decide +kernel), List.mem_of_getElem? (i := 757) (by decide +kernel)⟩
theorem lw_p17 : lw_okq (⟨"SorryWalk", "answer", "(I)I"⟩, 18) := ⟨⟨by decide +kernel, by decide +kernel⟩, List.mem_of_getElem? (i := 23) (by decide +kernel), List.mem_of_getElem? (i := 783) (by decide +kernel), List.mem_of_getElem? (i := 784) (by decide +kernel)⟩
theorem lw_p18 : lw_okq (⟨"SorryWalk$TalesReader", "readEnd", "()Z"⟩, 5) := ⟨⟨by decide +kernel, by decide +kernel⟩, List.mem_of_getElem? (i := 334) (by decide +kernel), List.mem_of_getElem? (i := 799) (by decide +kernel), List.mem_of_getElem? (i := 800) (by decide +kernel)⟩
theorem lw_p19 : lw_okq (⟨"SorryWalk$TalesReader", "readStep", "()Z"⟩, 5) := ⟨⟨by decide +kernel, by decide +kernel⟩, List.mem_of_getElem? (i := 334) (by decide +kernel), List.mem_of_getElem? (i := 810) (by decide +kernel), List.mem_of_getElem? (i := 811) (by decide +kernel)⟩
theorem lw_p20 : lw_okq (⟨"SorryWalk$TalesReader", "readTest", "()Z"⟩, 5) := ⟨⟨by decide +kernel, by decide +kernel⟩, List.mem_of_getElem? (i := 334) (by decide +kernel), List.mem_of_getElem? (i := 817) (by decide +kernel), List.mem_of_getElem? (i := 818) (by decide +kernel)⟩
theorem lw_p21 : lw_okq (⟨"SorryWalk$TalesReader", "readLabourTest", "()Z"⟩, 5) := ⟨⟨by decide +kernel, by decide +kernel⟩, List.mem_of_getElem? (i := 334) (by decide +kernel), List.mem_of_getElem? (i := 821) (by decide +kernel), List.mem_of_getElem? (i := 822) (by decide +kernel)⟩
theorem lw_p22 : lw_okq (⟨"SorryWalk$TalesReader", "readPersonStep", "(I)Z"⟩, 5) := ⟨⟨by decide +kernel, by decide +kernel⟩, List.mem_of_getElem? (i := 334) (by decide +kernel), List.mem_of_getElem? (i := 831) (by decide +kernel), List.mem_of_getElem? (i := 832) (by decide +kernel)⟩
theorem lw_p23 : lw_okq (⟨"SorryWalk$TalesReader", "readAtTest", "()Z"⟩, 5) := ⟨⟨by decide +kernel, by decide +kernel⟩, List.mem_of_getElem? (i := 334) (by decide +kernel), List.mem_of_getElem? (i := 836) (by decide +kernel), List.mem_of_getElem? (i := 837) (by decide +kernel)⟩
theorem lw_p24 : lw_okq (⟨"SorryWalk$TalesReader", "readRest", "(I)Z"⟩, 5) := ⟨⟨by decide +kernel, by decide +kernel⟩, List.mem_of_getElem? (i := 334) (by decide +kernel), List.mem_of_getElem? (i := 841) (by decide +kernel), List.mem_of_getElem? (i := 842) (by decide +kernel)⟩
theorem lw_p25 : lw_okq (⟨"SorryWalk$TalesReader", "readCount", "(II)Z"⟩, 5) := ⟨⟨by decide +kernel, by decide +kernel⟩, List.mem_of_getElem? (i := 334) (by decide +kernel), List.mem_of_getElem? (i := 845) (by decide +kernel), List.mem_of_getElem? (i := 846) (by decide +kernel)⟩
theorem lw_p26 : lw_okq (⟨"SorryWalk$TalesReader", "readHouseStep", "(I)Z"⟩, 5) := ⟨⟨by decide +kernel, by decide +kernel⟩, List.mem_of_getElem? (i := 334) (by decide +kernel), List.mem_of_getElem? (i := 849) (by decide +kernel), List.mem_of_getElem? (i := 850) (by decide +kernel)⟩
theorem lw_p27 : lw_okq (⟨"SorryWalk$TalesReader", "readForgive", "()Z"⟩, 5) := ⟨⟨by decide +kernel, by decide +kernel⟩, List.mem_of_getElem? (i := 334) (by decide +kernel), List.mem_of_getElem? (i := 853) (by decide +kernel), List.mem_of_getElem? (i := 854) (by decide +kernel)⟩
theorem lw_p28 : lw_okq (⟨"SorryWalk$TalesReader", "readForge", "()Z"⟩, 5) := ⟨⟨by decide +kernel, by decide +kernel⟩, List.mem_of_getElem? (i := 334) (by decide +kernel), List.mem_of_getElem? (i := 857) (by decide +kernel), List.mem_of_getElem? (i := 858) (by decide +kernel)⟩
theorem lw_p29 : lw_okq (⟨"SorryWalk", "isPerson", "(I)Z"⟩, 18) := ⟨⟨by decide +kernel, by decide +kernel⟩, List.mem_of_getElem? (i := 23) (by decide +kernel), List.mem_of_getElem? (i := 901) (by decide +kernel), List.mem_of_getElem? (i := 902) (by decide +kernel)⟩
theorem lw_p30 : lw_okq (⟨"SorryWalk", "areTwoPersons", "(II)Z"⟩, 18) := ⟨⟨by decide +kernel, by decide +kernel⟩, List.mem_of_getElem? (i := 23) (by decide +kernel), List.mem_of_getElem? (i := 920) (by decide +kernel), List.mem_of_getElem? (i := 921) (by decide +kernel)⟩
theorem lw_p31 : lw_okq (⟨"SorryWalk", "areTwoHouses", "(II)Z"⟩, 18) := ⟨⟨by decide +kernel, by decide +kernel⟩, List.mem_of_getElem? (i := 23) (by decide +kernel), List.mem_of_getElem? (i := 933) (by decide +kernel), List.mem_of_getElem? (i := 934) (by decide +kernel)⟩
def lw_privs_2 : List (MethodName × Nat) := [(⟨"SorryWalk$Roads", "leastNext", "(II)I"⟩, 6), (⟨"SorryWalk", "answer", "(I)I"⟩, 18), (⟨"SorryWalk$TalesReader", "readEnd", "()Z"⟩, 5), (⟨"SorryWalk$TalesReader", "readStep", "()Z"⟩, 5), (⟨"SorryWalk$TalesReader", "readTest", "()Z"⟩, 5), (⟨"SorryWalk$TalesReader", "readLabourTest", "()Z"⟩, 5), (⟨"SorryWalk$TalesReader", "readPersonStep", "(I)Z"⟩, 5), (⟨"SorryWalk$TalesReader", "readAtTest", "()Z"⟩, 5), (⟨"SorryWalk$TalesReader", "readRest", "(I)Z"⟩, 5), (⟨"SorryWalk$TalesReader", "readCount", "(II)Z"⟩, 5), (⟨"SorryWalk$TalesReader", "readHouseStep", "(I)Z"⟩, 5), (⟨"SorryWalk$TalesReader", "readForgive", "()Z"⟩, 5), (⟨"SorryWalk$TalesReader", "readForge", "()Z"⟩, 5), (⟨"SorryWalk", "isPerson", "(I)Z"⟩, 18), (⟨"SorryWalk", "areTwoPersons", "(II)Z"⟩, 18), (⟨"SorryWalk", "areTwoHouses", "(II)Z"⟩, 18)]
theorem lw_r2 : ∀ q ∈ lw_privs_2, lw_okq q := List.forall_mem_cons.mpr ⟨lw_p16, List.forall_mem_cons.mpr ⟨lw_p17, List.forall_mem_cons.mpr ⟨lw_p18, List.forall_mem_cons.mpr ⟨lw_p19, List.forall_mem_cons.mpr ⟨lw_p20, List.forall_mem_cons.mpr ⟨lw_p21, List.forall_mem_cons.mpr ⟨lw_p22, List.forall_mem_cons.mpr ⟨lw_p23, List.forall_mem_cons.mpr ⟨lw_p24, List.forall_mem_cons.mpr ⟨lw_p25, List.forall_mem_cons.mpr ⟨lw_p26, List.forall_mem_cons.mpr ⟨lw_p27, List.forall_mem_cons.mpr ⟨lw_p28, List.forall_mem_cons.mpr ⟨lw_p29, List.forall_mem_cons.mpr ⟨lw_p30, List.forall_mem_cons.mpr ⟨lw_p31, fun _ h => absurd h List.not_mem_nil⟩⟩⟩⟩⟩⟩⟩⟩⟩⟩⟩⟩⟩⟩⟩⟩
theorem lw_p32 : lw_okq (⟨"SorryWalk", "isHouse", "(I)Z"⟩, 18) := ⟨⟨by decide +kernel, by decide +kernel⟩, List.mem_of_getElem? (i := 23) (by decide +kernel), List.mem_of_getElem? (i := 937) (by decide +kernel), List.mem_of_getElem? (i := 938) (by decide +kernel)⟩
theorem lw_p33 : lw_okq (⟨"SorryWalk$Land", "haunt", "(I)V"⟩, 15) := ⟨⟨by decide +kernel, by decide +kernel⟩, List.mem_of_getElem? (i := 136) (by decide +kernel), List.mem_of_getElem? (i := 961) (by decide +kernel), List.mem_of_getElem? (i := 962) (by decide +kernel)⟩
theorem lw_p34 : lw_okq (⟨"SorryWalk$Land", "saySorry", "(II)V"⟩, 15) := ⟨⟨by decide +kernel, by decide +kernel⟩, List.mem_of_getElem? (i := 136) (by decide +kernel), List.mem_of_getElem? (i := 971) (by decide +kernel), List.mem_of_getElem? (i := 972) (by decide +kernel)⟩
theorem lw_p35 : lw_okq (⟨"SorryWalk$Land", "passOn", "(II)V"⟩, 15) := ⟨⟨by decide +kernel, by decide +kernel⟩, List.mem_of_getElem? (i := 136) (by decide +kernel), List.mem_of_getElem? (i := 988) (by decide +kernel), List.mem_of_getElem? (i := 989) (by decide +kernel)⟩
theorem lw_p36 : lw_okq (⟨"SorryWalk", "answerOrNone", "(I)I"⟩, 18) := ⟨⟨by decide +kernel, by decide +kernel⟩, List.mem_of_getElem? (i := 23) (by decide +kernel), List.mem_of_getElem? (i := 1056) (by decide +kernel), List.mem_of_getElem? (i := 1057) (by decide +kernel)⟩
theorem lw_p37 : lw_okq (⟨"SorryWalk$Seer", "countVisits", "()V"⟩, 2) := ⟨⟨by decide +kernel, by decide +kernel⟩, List.mem_of_getElem? (i := 356) (by decide +kernel), List.mem_of_getElem? (i := 1179) (by decide +kernel), List.mem_of_getElem? (i := 1180) (by decide +kernel)⟩
theorem lw_p38 : lw_okq (⟨"SorryWalk$Roads", "waysInto", "(III)I"⟩, 6) := ⟨⟨by decide +kernel, by decide +kernel⟩, List.mem_of_getElem? (i := 142) (by decide +kernel), List.mem_of_getElem? (i := 1204) (by decide +kernel), List.mem_of_getElem? (i := 1205) (by decide +kernel)⟩
theorem lw_p39 : lw_okq (⟨"SorryWalk$Planner", "labourWithKeeper", "(LSorryWalk$Land;I)I"⟩, 3) := ⟨⟨by decide +kernel, by decide +kernel⟩, List.mem_of_getElem? (i := 371) (by decide +kernel), List.mem_of_getElem? (i := 1243) (by decide +kernel), List.mem_of_getElem? (i := 1244) (by decide +kernel)⟩
theorem lw_p40 : lw_okq (⟨"SorryWalk", "answerSize", "(I)I"⟩, 18) := ⟨⟨by decide +kernel, by decide +kernel⟩, List.mem_of_getElem? (i := 23) (by decide +kernel), List.mem_of_getElem? (i := 1271) (by decide +kernel), List.mem_of_getElem? (i := 1272) (by decide +kernel)⟩
theorem lw_p41 : lw_okq (⟨"SorryWalk$Planner", "isQuietBy", "(LSorryWalk$Land;III)Z"⟩, 3) := ⟨⟨by decide +kernel, by decide +kernel⟩, List.mem_of_getElem? (i := 371) (by decide +kernel), List.mem_of_getElem? (i := 1291) (by decide +kernel), List.mem_of_getElem? (i := 1292) (by decide +kernel)⟩
theorem lw_p42 : lw_okq (⟨"SorryWalk", "tellFraction", "(II)V"⟩, 18) := ⟨⟨by decide +kernel, by decide +kernel⟩, List.mem_of_getElem? (i := 23) (by decide +kernel), List.mem_of_getElem? (i := 1333) (by decide +kernel), List.mem_of_getElem? (i := 1334) (by decide +kernel)⟩
theorem lw_p43 : lw_okq (⟨"SorryWalk$Planner", "lastsOf", "(I)I"⟩, 3) := ⟨⟨by decide +kernel, by decide +kernel⟩, List.mem_of_getElem? (i := 371) (by decide +kernel), List.mem_of_getElem? (i := 1354) (by decide +kernel), List.mem_of_getElem? (i := 1355) (by decide +kernel)⟩
theorem lw_p44 : lw_okq (⟨"SorryWalk$Planner", "ghostsKeptOff", "(LSorryWalk$Land;I)I"⟩, 3) := ⟨⟨by decide +kernel, by decide +kernel⟩, List.mem_of_getElem? (i := 371) (by decide +kernel), List.mem_of_getElem? (i := 1377) (by decide +kernel), List.mem_of_getElem? (i := 1378) (by decide +kernel)⟩
theorem lw_p45 : lw_okq (⟨"SorryWalk$Planner", "reachesSome", "(LSorryWalk$Land;II)Z"⟩, 3) := ⟨⟨by decide +kernel, by decide +kernel⟩, List.mem_of_getElem? (i := 371) (by decide +kernel), List.mem_of_getElem? (i := 1382) (by decide +kernel), List.mem_of_getElem? (i := 1383) (by decide +kernel)⟩
theorem lw_p46 : lw_okq (⟨"SorryWalk$Life", "begin", "(LSorryWalk$Land;I)V"⟩, 9) := ⟨⟨by decide +kernel, by decide +kernel⟩, List.mem_of_getElem? (i := 389) (by decide +kernel), List.mem_of_getElem? (i := 1394) (by decide +kernel), List.mem_of_getElem? (i := 1395) (by decide +kernel)⟩
theorem lw_p47 : lw_okq (⟨"SorryWalk$Life", "placeBehind", "(LSorryWalk$Tales;LSorryWalk$Land;I)I"⟩, 9) := ⟨⟨by decide +kernel, by decide +kernel⟩, List.mem_of_getElem? (i := 389) (by decide +kernel), List.mem_of_getElem? (i := 1400) (by decide +kernel), List.mem_of_getElem? (i := 1401) (by decide +kernel)⟩
def lw_privs_3 : List (MethodName × Nat) := [(⟨"SorryWalk", "isHouse", "(I)Z"⟩, 18), (⟨"SorryWalk$Land", "haunt", "(I)V"⟩, 15), (⟨"SorryWalk$Land", "saySorry", "(II)V"⟩, 15), (⟨"SorryWalk$Land", "passOn", "(II)V"⟩, 15), (⟨"SorryWalk", "answerOrNone", "(I)I"⟩, 18), (⟨"SorryWalk$Seer", "countVisits", "()V"⟩, 2), (⟨"SorryWalk$Roads", "waysInto", "(III)I"⟩, 6), (⟨"SorryWalk$Planner", "labourWithKeeper", "(LSorryWalk$Land;I)I"⟩, 3), (⟨"SorryWalk", "answerSize", "(I)I"⟩, 18), (⟨"SorryWalk$Planner", "isQuietBy", "(LSorryWalk$Land;III)Z"⟩, 3), (⟨"SorryWalk", "tellFraction", "(II)V"⟩, 18), (⟨"SorryWalk$Planner", "lastsOf", "(I)I"⟩, 3), (⟨"SorryWalk$Planner", "ghostsKeptOff", "(LSorryWalk$Land;I)I"⟩, 3), (⟨"SorryWalk$Planner", "reachesSome", "(LSorryWalk$Land;II)Z"⟩, 3), (⟨"SorryWalk$Life", "begin", "(LSorryWalk$Land;I)V"⟩, 9), (⟨"SorryWalk$Life", "placeBehind", "(LSorryWalk$Tales;LSorryWalk$Land;I)I"⟩, 9)]
theorem lw_r3 : ∀ q ∈ lw_privs_3, lw_okq q := List.forall_mem_cons.mpr ⟨lw_p32, List.forall_mem_cons.mpr ⟨lw_p33, List.forall_mem_cons.mpr ⟨lw_p34, List.forall_mem_cons.mpr ⟨lw_p35, List.forall_mem_cons.mpr ⟨lw_p36, List.forall_mem_cons.mpr ⟨lw_p37, List.forall_mem_cons.mpr ⟨lw_p38, List.forall_mem_cons.mpr ⟨lw_p39, List.forall_mem_cons.mpr ⟨lw_p40, List.forall_mem_cons.mpr ⟨lw_p41, List.forall_mem_cons.mpr ⟨lw_p42, List.forall_mem_cons.mpr ⟨lw_p43, List.forall_mem_cons.mpr ⟨lw_p44, List.forall_mem_cons.mpr ⟨lw_p45, List.forall_mem_cons.mpr ⟨lw_p46, List.forall_mem_cons.mpr ⟨lw_p47, fun _ h => absurd h List.not_mem_nil⟩⟩⟩⟩⟩⟩⟩⟩⟩⟩⟩⟩⟩⟩⟩⟩
theorem lw_p48 : lw_okq (⟨"SorryWalk$Life", "isDone", "(LSorryWalk$Tales;LSorryWalk$Land;I)Z"⟩, 9) := ⟨⟨by decide +kernel, by decide +kernel⟩, List.mem_of_getElem? (i := 389) (by decide +kernel), List.mem_of_getElem? (i := 1411) (by decide +kernel), List.mem_of_getElem? (i := 1412) (by decide +kernel)⟩
theorem lw_p49 : lw_okq (⟨"SorryWalk$Life", "drawLiving", "(LSorryWalk$Land;)I"⟩, 9) := ⟨⟨by decide +kernel, by decide +kernel⟩, List.mem_of_getElem? (i := 389) (by decide +kernel), List.mem_of_getElem? (i := 1420) (by decide +kernel), List.mem_of_getElem? (i := 1421) (by decide +kernel)⟩
theorem lw_p50 : lw_okq (⟨"SorryWalkModel", "plain", "(I)V"⟩, 34) := ⟨⟨by decide +kernel, by decide +kernel⟩, List.mem_of_getElem? (i := 1442) (by decide +kernel), List.mem_of_getElem? (i := 1448) (by decide +kernel), List.mem_of_getElem? (i := 1449) (by decide +kernel)⟩
theorem lw_p51 : lw_okq (⟨"SorryWalkModel", "is", "(I)Z"⟩, 34) := ⟨⟨by decide +kernel, by decide +kernel⟩, List.mem_of_getElem? (i := 1442) (by decide +kernel), List.mem_of_getElem? (i := 1574) (by decide +kernel), List.mem_of_getElem? (i := 1575) (by decide +kernel)⟩
theorem lw_p52 : lw_okq (⟨"SorryWalkModel", "wrongPlace", "(II)I"⟩, 34) := ⟨⟨by decide +kernel, by decide +kernel⟩, List.mem_of_getElem? (i := 1442) (by decide +kernel), List.mem_of_getElem? (i := 1582) (by decide +kernel), List.mem_of_getElem? (i := 1583) (by decide +kernel)⟩
theorem lw_p53 : lw_okq (⟨"SorryWalkModel", "four", "(I)V"⟩, 34) := ⟨⟨by decide +kernel, by decide +kernel⟩, List.mem_of_getElem? (i := 1442) (by decide +kernel), List.mem_of_getElem? (i := 1602) (by decide +kernel), List.mem_of_getElem? (i := 1603) (by decide +kernel)⟩
theorem lw_p54 : lw_okq (⟨"SorryWalkModel", "begins", "(II)Z"⟩, 34) := ⟨⟨by decide +kernel, by decide +kernel⟩, List.mem_of_getElem? (i := 1442) (by decide +kernel), List.mem_of_getElem? (i := 1614) (by decide +kernel), List.mem_of_getElem? (i := 1615) (by decide +kernel)⟩
theorem lw_p55 : lw_okq (⟨"SorryWalkModel", "ahead", "()V"⟩, 34) := ⟨⟨by decide +kernel, by decide +kernel⟩, List.mem_of_getElem? (i := 1442) (by decide +kernel), List.mem_of_getElem? (i := 1618) (by decide +kernel), List.mem_of_getElem? (i := 1619) (by decide +kernel)⟩
theorem lw_p56 : lw_okq (⟨"SorryWalkModel", "byteAt", "(I)I"⟩, 34) := ⟨⟨by decide +kernel, by decide +kernel⟩, List.mem_of_getElem? (i := 1442) (by decide +kernel), List.mem_of_getElem? (i := 1622) (by decide +kernel), List.mem_of_getElem? (i := 1623) (by decide +kernel)⟩
theorem lw_p57 : lw_okq (⟨"SorryWalkModel", "refuse", "(I)I"⟩, 34) := ⟨⟨by decide +kernel, by decide +kernel⟩, List.mem_of_getElem? (i := 1442) (by decide +kernel), List.mem_of_getElem? (i := 1634) (by decide +kernel), List.mem_of_getElem? (i := 1635) (by decide +kernel)⟩
theorem lw_p58 : lw_okq (⟨"SorryWalkModel", "landPart", "()Z"⟩, 34) := ⟨⟨by decide +kernel, by decide +kernel⟩, List.mem_of_getElem? (i := 1442) (by decide +kernel), List.mem_of_getElem? (i := 1638) (by decide +kernel), List.mem_of_getElem? (i := 1639) (by decide +kernel)⟩
theorem lw_p59 : lw_okq (⟨"SorryWalkModel", "inWords", "(Ljava/lang/String;)I"⟩, 34) := ⟨⟨by decide +kernel, by decide +kernel⟩, List.mem_of_getElem? (i := 1442) (by decide +kernel), List.mem_of_getElem? (i := 1643) (by decide +kernel), List.mem_of_getElem? (i := 1644) (by decide +kernel)⟩
theorem lw_p60 : lw_okq (⟨"SorryWalkModel", "aHouse", "()Z"⟩, 34) := ⟨⟨by decide +kernel, by decide +kernel⟩, List.mem_of_getElem? (i := 1442) (by decide +kernel), List.mem_of_getElem? (i := 1649) (by decide +kernel), List.mem_of_getElem? (i := 1650) (by decide +kernel)⟩
theorem lw_p61 : lw_okq (⟨"SorryWalkModel", "newOne", "(III)Z"⟩, 34) := ⟨⟨by decide +kernel, by decide +kernel⟩, List.mem_of_getElem? (i := 1442) (by decide +kernel), List.mem_of_getElem? (i := 1653) (by decide +kernel), List.mem_of_getElem? (i := 1654) (by decide +kernel)⟩
theorem lw_p62 : lw_okq (⟨"SorryWalkModel", "fails", "(I)Z"⟩, 34) := ⟨⟨by decide +kernel, by decide +kernel⟩, List.mem_of_getElem? (i := 1442) (by decide +kernel), List.mem_of_getElem? (i := 1657) (by decide +kernel), List.mem_of_getElem? (i := 1658) (by decide +kernel)⟩
theorem lw_p63 : lw_okq (⟨"SorryWalkModel", "isName", "(Ljava/lang/String;)Z"⟩, 34) := ⟨⟨by decide +kernel, by decide +kernel⟩, List.mem_of_getElem? (i := 1442) (by decide +kernel), List.mem_of_getElem? (i := 1661) (by decide +kernel), List.mem_of_getElem? (i := 1662) (by decide +kernel)⟩
def lw_privs_4 : List (MethodName × Nat) := [(⟨"SorryWalk$Life", "isDone", "(LSorryWalk$Tales;LSorryWalk$Land;I)Z"⟩, 9), (⟨"SorryWalk$Life", "drawLiving", "(LSorryWalk$Land;)I"⟩, 9), (⟨"SorryWalkModel", "plain", "(I)V"⟩, 34), (⟨"SorryWalkModel", "is", "(I)Z"⟩, 34), (⟨"SorryWalkModel", "wrongPlace", "(II)I"⟩, 34), (⟨"SorryWalkModel", "four", "(I)V"⟩, 34), (⟨"SorryWalkModel", "begins", "(II)Z"⟩, 34), (⟨"SorryWalkModel", "ahead", "()V"⟩, 34), (⟨"SorryWalkModel", "byteAt", "(I)I"⟩, 34), (⟨"SorryWalkModel", "refuse", "(I)I"⟩, 34), (⟨"SorryWalkModel", "landPart", "()Z"⟩, 34), (⟨"SorryWalkModel", "inWords", "(Ljava/lang/String;)I"⟩, 34), (⟨"SorryWalkModel", "aHouse", "()Z"⟩, 34), (⟨"SorryWalkModel", "newOne", "(III)Z"⟩, 34), (⟨"SorryWalkModel", "fails", "(I)Z"⟩, 34), (⟨"SorryWalkModel", "isName", "(Ljava/lang/String;)Z"⟩, 34)]
theorem lw_r4 : ∀ q ∈ lw_privs_4, lw_okq q := List.forall_mem_cons.mpr ⟨lw_p48, List.forall_mem_cons.mpr ⟨lw_p49, List.forall_mem_cons.mpr ⟨lw_p50, List.forall_mem_cons.mpr ⟨lw_p51, List.forall_mem_cons.mpr ⟨lw_p52, List.forall_mem_cons.mpr ⟨lw_p53, List.forall_mem_cons.mpr ⟨lw_p54, List.forall_mem_cons.mpr ⟨lw_p55, List.forall_mem_cons.mpr ⟨lw_p56, List.forall_mem_cons.mpr ⟨lw_p57, List.forall_mem_cons.mpr ⟨lw_p58, List.forall_mem_cons.mpr ⟨lw_p59, List.forall_mem_cons.mpr ⟨lw_p60, List.forall_mem_cons.mpr ⟨lw_p61, List.forall_mem_cons.mpr ⟨lw_p62, List.forall_mem_cons.mpr ⟨lw_p63, fun _ h => absurd h List.not_mem_nil⟩⟩⟩⟩⟩⟩⟩⟩⟩⟩⟩⟩⟩⟩⟩⟩
theorem lw_p64 : lw_okq (⟨"SorryWalkModel", "findHere", "(II)I"⟩, 34) := ⟨⟨by decide +kernel, by decide +kernel⟩, List.mem_of_getElem? (i := 1442) (by decide +kernel), List.mem_of_getElem? (i := 1665) (by decide +kernel), List.mem_of_getElem? (i := 1666) (by decide +kernel)⟩
theorem lw_p65 : lw_okq (⟨"SorryWalkModel", "nameHere", "()J"⟩, 34) := ⟨⟨by decide +kernel, by decide +kernel⟩, List.mem_of_getElem? (i := 1442) (by decide +kernel), List.mem_of_getElem? (i := 1669) (by decide +kernel), List.mem_of_getElem? (i := 1670) (by decide +kernel)⟩
theorem lw_p66 : lw_okq (⟨"SorryWalkModel", "isThere", "(I)Z"⟩, 34) := ⟨⟨by decide +kernel, by decide +kernel⟩, List.mem_of_getElem? (i := 1442) (by decide +kernel), List.mem_of_getElem? (i := 1673) (by decide +kernel), List.mem_of_getElem? (i := 1674) (by decide +kernel)⟩
theorem lw_p67 : lw_okq (⟨"SorryWalkModel", "aDoor", "()Z"⟩, 34) := ⟨⟨by decide +kernel, by decide +kernel⟩, List.mem_of_getElem? (i := 1442) (by decide +kernel), List.mem_of_getElem? (i := 1677) (by decide +kernel), List.mem_of_getElem? (i := 1678) (by decide +kernel)⟩
theorem lw_p68 : lw_okq (⟨"SorryWalkModel", "twoTo", "(III)Z"⟩, 34) := ⟨⟨by decide +kernel, by decide +kernel⟩, List.mem_of_getElem? (i := 1442) (by decide +kernel), List.mem_of_getElem? (i := 1681) (by decide +kernel), List.mem_of_getElem? (i := 1682) (by decide +kernel)⟩
theorem lw_p69 : lw_okq (⟨"SorryWalkModel", "oldOne", "(III)Z"⟩, 34) := ⟨⟨by decide +kernel, by decide +kernel⟩, List.mem_of_getElem? (i := 1442) (by decide +kernel), List.mem_of_getElem? (i := 1685) (by decide +kernel), List.mem_of_getElem? (i := 1686) (by decide +kernel)⟩
theorem lw_p70 : lw_okq (⟨"SorryWalkModel", "aPerson", "()Z"⟩, 34) := ⟨⟨by decide +kernel, by decide +kernel⟩, List.mem_of_getElem? (i := 1442) (by decide +kernel), List.mem_of_getElem? (i := 1689) (by decide +kernel), List.mem_of_getElem? (i := 1690) (by decide +kernel)⟩
theorem lw_p71 : lw_okq (⟨"SorryWalkModel", "wantWord", "(Ljava/lang/String;I)Z"⟩, 34) := ⟨⟨by decide +kernel, by decide +kernel⟩, List.mem_of_getElem? (i := 1442) (by decide +kernel), List.mem_of_getElem? (i := 1693) (by decide +kernel), List.mem_of_getElem? (i := 1694) (by decide +kernel)⟩
theorem lw_p72 : lw_okq (⟨"SorryWalkModel", "aDebt", "()Z"⟩, 34) := ⟨⟨by decide +kernel, by decide +kernel⟩, List.mem_of_getElem? (i := 1442) (by decide +kernel), List.mem_of_getElem? (i := 1697) (by decide +kernel), List.mem_of_getElem? (i := 1698) (by decide +kernel)⟩
theorem lw_p73 : lw_okq (⟨"SorryWalkModel", "number", "(III)Z"⟩, 34) := ⟨⟨by decide +kernel, by decide +kernel⟩, List.mem_of_getElem? (i := 1442) (by decide +kernel), List.mem_of_getElem? (i := 1701) (by decide +kernel), List.mem_of_getElem? (i := 1702) (by decide +kernel)⟩
theorem lw_p74 : lw_okq (⟨"SorryWalkModel", "anHeir", "()Z"⟩, 34) := ⟨⟨by decide +kernel, by decide +kernel⟩, List.mem_of_getElem? (i := 1442) (by decide +kernel), List.mem_of_getElem? (i := 1705) (by decide +kernel), List.mem_of_getElem? (i := 1706) (by decide +kernel)⟩
theorem lw_p75 : lw_okq (⟨"SorryWalkModel", "wantSign", "(I)Z"⟩, 34) := ⟨⟨by decide +kernel, by decide +kernel⟩, List.mem_of_getElem? (i := 1442) (by decide +kernel), List.mem_of_getElem? (i := 1709) (by decide +kernel), List.mem_of_getElem? (i := 1710) (by decide +kernel)⟩
theorem lw_p76 : lw_okq (⟨"SorryWalkModel", "isSign", "(I)Z"⟩, 34) := ⟨⟨by decide +kernel, by decide +kernel⟩, List.mem_of_getElem? (i := 1442) (by decide +kernel), List.mem_of_getElem? (i := 1713) (by decide +kernel), List.mem_of_getElem? (i := 1714) (by decide +kernel)⟩
theorem lw_p77 : lw_okq (⟨"SorryWalkModel", "taken", "(I)I"⟩, 34) := ⟨⟨by decide +kernel, by decide +kernel⟩, List.mem_of_getElem? (i := 1442) (by decide +kernel), List.mem_of_getElem? (i := 1717) (by decide +kernel), List.mem_of_getElem? (i := 1718) (by decide +kernel)⟩
theorem lw_p78 : lw_okq (⟨"SorryWalkModel", "gives", "(I)I"⟩, 34) := ⟨⟨by decide +kernel, by decide +kernel⟩, List.mem_of_getElem? (i := 1442) (by decide +kernel), List.mem_of_getElem? (i := 1721) (by decide +kernel), List.mem_of_getElem? (i := 1722) (by decide +kernel)⟩
theorem lw_p79 : lw_okq (⟨"SorryWalkModel", "taleStep", "()Z"⟩, 34) := ⟨⟨by decide +kernel, by decide +kernel⟩, List.mem_of_getElem? (i := 1442) (by decide +kernel), List.mem_of_getElem? (i := 1729) (by decide +kernel), List.mem_of_getElem? (i := 1730) (by decide +kernel)⟩
def lw_privs_5 : List (MethodName × Nat) := [(⟨"SorryWalkModel", "findHere", "(II)I"⟩, 34), (⟨"SorryWalkModel", "nameHere", "()J"⟩, 34), (⟨"SorryWalkModel", "isThere", "(I)Z"⟩, 34), (⟨"SorryWalkModel", "aDoor", "()Z"⟩, 34), (⟨"SorryWalkModel", "twoTo", "(III)Z"⟩, 34), (⟨"SorryWalkModel", "oldOne", "(III)Z"⟩, 34), (⟨"SorryWalkModel", "aPerson", "()Z"⟩, 34), (⟨"SorryWalkModel", "wantWord", "(Ljava/lang/String;I)Z"⟩, 34), (⟨"SorryWalkModel", "aDebt", "()Z"⟩, 34), (⟨"SorryWalkModel", "number", "(III)Z"⟩, 34), (⟨"SorryWalkModel", "anHeir", "()Z"⟩, 34), (⟨"SorryWalkModel", "wantSign", "(I)Z"⟩, 34), (⟨"SorryWalkModel", "isSign", "(I)Z"⟩, 34), (⟨"SorryWalkModel", "taken", "(I)I"⟩, 34), (⟨"SorryWalkModel", "gives", "(I)I"⟩, 34), (⟨"SorryWalkModel", "taleStep", "()Z"⟩, 34)]
theorem lw_r5 : ∀ q ∈ lw_privs_5, lw_okq q := List.forall_mem_cons.mpr ⟨lw_p64, List.forall_mem_cons.mpr ⟨lw_p65, List.forall_mem_cons.mpr ⟨lw_p66, List.forall_mem_cons.mpr ⟨lw_p67, List.forall_mem_cons.mpr ⟨lw_p68, List.forall_mem_cons.mpr ⟨lw_p69, List.forall_mem_cons.mpr ⟨lw_p70, List.forall_mem_cons.mpr ⟨lw_p71, List.forall_mem_cons.mpr ⟨lw_p72, List.forall_mem_cons.mpr ⟨lw_p73, List.forall_mem_cons.mpr ⟨lw_p74, List.forall_mem_cons.mpr ⟨lw_p75, List.forall_mem_cons.mpr ⟨lw_p76, List.forall_mem_cons.mpr ⟨lw_p77, List.forall_mem_cons.mpr ⟨lw_p78, List.forall_mem_cons.mpr ⟨lw_p79, fun _ h => absurd h List.not_mem_nil⟩⟩⟩⟩⟩⟩⟩⟩⟩⟩⟩⟩⟩⟩⟩⟩
theorem lw_p80 : lw_okq (⟨"SorryWalkModel", "taleOrder", "(II)Z"⟩, 34) := ⟨⟨by decide +kernel, by decide +kernel⟩, List.mem_of_getElem? (i := 1442) (by decide +kernel), List.mem_of_getElem? (i := 1733) (by decide +kernel), List.mem_of_getElem? (i := 1734) (by decide +kernel)⟩
theorem lw_p81 : lw_okq (⟨"SorryWalkModel", "personTo", "(I)Z"⟩, 34) := ⟨⟨by decide +kernel, by decide +kernel⟩, List.mem_of_getElem? (i := 1442) (by decide +kernel), List.mem_of_getElem? (i := 1737) (by decide +kernel), List.mem_of_getElem? (i := 1738) (by decide +kernel)⟩
theorem lw_p82 : lw_okq (⟨"SorryWalkModel", "houseTo", "(I)Z"⟩, 34) := ⟨⟨by decide +kernel, by decide +kernel⟩, List.mem_of_getElem? (i := 1442) (by decide +kernel), List.mem_of_getElem? (i := 1741) (by decide +kernel), List.mem_of_getElem? (i := 1742) (by decide +kernel)⟩
theorem lw_p83 : lw_okq (⟨"SorryWalkModel", "test", "(I)Z"⟩, 34) := ⟨⟨by decide +kernel, by decide +kernel⟩, List.mem_of_getElem? (i := 1442) (by decide +kernel), List.mem_of_getElem? (i := 1745) (by decide +kernel), List.mem_of_getElem? (i := 1746) (by decide +kernel)⟩
theorem lw_p84 : lw_okq (⟨"SorryWalkModel", "sorrow", "()I"⟩, 34) := ⟨⟨by decide +kernel, by decide +kernel⟩, List.mem_of_getElem? (i := 1442) (by decide +kernel), List.mem_of_getElem? (i := 1759) (by decide +kernel), List.mem_of_getElem? (i := 1760) (by decide +kernel)⟩
theorem lw_p85 : lw_okq (⟨"SorryWalkModel", "owesAll", "(I)I"⟩, 34) := ⟨⟨by decide +kernel, by decide +kernel⟩, List.mem_of_getElem? (i := 1442) (by decide +kernel), List.mem_of_getElem? (i := 1763) (by decide +kernel), List.mem_of_getElem? (i := 1764) (by decide +kernel)⟩
theorem lw_p86 : lw_okq (⟨"SorryWalkModel", "owes", "(II)I"⟩, 34) := ⟨⟨by decide +kernel, by decide +kernel⟩, List.mem_of_getElem? (i := 1442) (by decide +kernel), List.mem_of_getElem? (i := 1767) (by decide +kernel), List.mem_of_getElem? (i := 1768) (by decide +kernel)⟩
theorem lw_p87 : lw_okq (⟨"SorryWalkModel", "isSalt", "(I)Z"⟩, 34) := ⟨⟨by decide +kernel, by decide +kernel⟩, List.mem_of_getElem? (i := 1442) (by decide +kernel), List.mem_of_getElem? (i := 1771) (by decide +kernel), List.mem_of_getElem? (i := 1772) (by decide +kernel)⟩
theorem lw_p88 : lw_okq (⟨"SorryWalkModel", "setOf", "(I)I"⟩, 34) := ⟨⟨by decide +kernel, by decide +kernel⟩, List.mem_of_getElem? (i := 1442) (by decide +kernel), List.mem_of_getElem? (i := 1775) (by decide +kernel), List.mem_of_getElem? (i := 1776) (by decide +kernel)⟩
theorem lw_p89 : lw_okq (⟨"SorryWalkModel", "isDead", "(I)Z"⟩, 34) := ⟨⟨by decide +kernel, by decide +kernel⟩, List.mem_of_getElem? (i := 1442) (by decide +kernel), List.mem_of_getElem? (i := 1779) (by decide +kernel), List.mem_of_getElem? (i := 1780) (by decide +kernel)⟩
theorem lw_p90 : lw_okq (⟨"SorryWalkModel", "isGhost", "(I)Z"⟩, 34) := ⟨⟨by decide +kernel, by decide +kernel⟩, List.mem_of_getElem? (i := 1442) (by decide +kernel), List.mem_of_getElem? (i := 1786) (by decide +kernel), List.mem_of_getElem? (i := 1787) (by decide +kernel)⟩
theorem lw_p91 : lw_okq (⟨"SorryWalkModel", "isPerson", "(I)Z"⟩, 34) := ⟨⟨by decide +kernel, by decide +kernel⟩, List.mem_of_getElem? (i := 1442) (by decide +kernel), List.mem_of_getElem? (i := 1794) (by decide +kernel), List.mem_of_getElem? (i := 1795) (by decide +kernel)⟩
theorem lw_p92 : lw_okq (⟨"SorryWalkModel", "owedAll", "(I)I"⟩, 34) := ⟨⟨by decide +kernel, by decide +kernel⟩, List.mem_of_getElem? (i := 1442) (by decide +kernel), List.mem_of_getElem? (i := 1798) (by decide +kernel), List.mem_of_getElem? (i := 1799) (by decide +kernel)⟩
theorem lw_p93 : lw_okq (⟨"SorryWalkModel", "areTwo", "(II)Z"⟩, 34) := ⟨⟨by decide +kernel, by decide +kernel⟩, List.mem_of_getElem? (i := 1442) (by decide +kernel), List.mem_of_getElem? (i := 1806) (by decide +kernel), List.mem_of_getElem? (i := 1807) (by decide +kernel)⟩
theorem lw_p94 : lw_okq (⟨"SorryWalkModel", "isHouse", "(I)Z"⟩, 34) := ⟨⟨by decide +kernel, by decide +kernel⟩, List.mem_of_getElem? (i := 1442) (by decide +kernel), List.mem_of_getElem? (i := 1818) (by decide +kernel), List.mem_of_getElem? (i := 1819) (by decide +kernel)⟩
theorem lw_p95 : lw_okq (⟨"SorryWalkModel", "isDoor", "(II)Z"⟩, 34) := ⟨⟨by decide +kernel, by decide +kernel⟩, List.mem_of_getElem? (i := 1442) (by decide +kernel), List.mem_of_getElem? (i := 1822) (by decide +kernel), List.mem_of_getElem? (i := 1823) (by decide +kernel)⟩
def lw_privs_6 : List (MethodName × Nat) := [(⟨"SorryWalkModel", "taleOrder", "(II)Z"⟩, 34), (⟨"SorryWalkModel", "personTo", "(I)Z"⟩, 34), (⟨"SorryWalkModel", "houseTo", "(I)Z"⟩, 34), (⟨"SorryWalkModel", "test", "(I)Z"⟩, 34), (⟨"SorryWalkModel", "sorrow", "()I"⟩, 34), (⟨"SorryWalkModel", "owesAll", "(I)I"⟩, 34), (⟨"SorryWalkModel", "owes", "(II)I"⟩, 34), (⟨"SorryWalkModel", "isSalt", "(I)Z"⟩, 34), (⟨"SorryWalkModel", "setOf", "(I)I"⟩, 34), (⟨"SorryWalkModel", "isDead", "(I)Z"⟩, 34), (⟨"SorryWalkModel", "isGhost", "(I)Z"⟩, 34), (⟨"SorryWalkModel", "isPerson", "(I)Z"⟩, 34), (⟨"SorryWalkModel", "owedAll", "(I)I"⟩, 34), (⟨"SorryWalkModel", "areTwo", "(II)Z"⟩, 34), (⟨"SorryWalkModel", "isHouse", "(I)Z"⟩, 34), (⟨"SorryWalkModel", "isDoor", "(II)Z"⟩, 34)]
theorem lw_r6 : ∀ q ∈ lw_privs_6, lw_okq q := List.forall_mem_cons.mpr ⟨lw_p80, List.forall_mem_cons.mpr ⟨lw_p81, List.forall_mem_cons.mpr ⟨lw_p82, List.forall_mem_cons.mpr ⟨lw_p83, List.forall_mem_cons.mpr ⟨lw_p84, List.forall_mem_cons.mpr ⟨lw_p85, List.forall_mem_cons.mpr ⟨lw_p86, List.forall_mem_cons.mpr ⟨lw_p87, List.forall_mem_cons.mpr ⟨lw_p88, List.forall_mem_cons.mpr ⟨lw_p89, List.forall_mem_cons.mpr ⟨lw_p90, List.forall_mem_cons.mpr ⟨lw_p91, List.forall_mem_cons.mpr ⟨lw_p92, List.forall_mem_cons.mpr ⟨lw_p93, List.forall_mem_cons.mpr ⟨lw_p94, List.forall_mem_cons.mpr ⟨lw_p95, fun _ h => absurd h List.not_mem_nil⟩⟩⟩⟩⟩⟩⟩⟩⟩⟩⟩⟩⟩⟩⟩⟩
theorem lw_p96 : lw_okq (⟨"SorryWalkModel", "isIn", "(II)Z"⟩, 34) := ⟨⟨by decide +kernel, by decide +kernel⟩, List.mem_of_getElem? (i := 1442) (by decide +kernel), List.mem_of_getElem? (i := 1826) (by decide +kernel), List.mem_of_getElem? (i := 1827) (by decide +kernel)⟩
theorem lw_p97 : lw_okq (⟨"SorryWalkModel", "inHouse", "(I)I"⟩, 34) := ⟨⟨by decide +kernel, by decide +kernel⟩, List.mem_of_getElem? (i := 1442) (by decide +kernel), List.mem_of_getElem? (i := 1838) (by decide +kernel), List.mem_of_getElem? (i := 1839) (by decide +kernel)⟩
theorem lw_p98 : lw_okq (⟨"SorryWalkModel", "whereOf", "(I)I"⟩, 34) := ⟨⟨by decide +kernel, by decide +kernel⟩, List.mem_of_getElem? (i := 1442) (by decide +kernel), List.mem_of_getElem? (i := 1842) (by decide +kernel), List.mem_of_getElem? (i := 1843) (by decide +kernel)⟩
theorem lw_p99 : lw_okq (⟨"SorryWalkModel", "night0", "()V"⟩, 34) := ⟨⟨by decide +kernel, by decide +kernel⟩, List.mem_of_getElem? (i := 1442) (by decide +kernel), List.mem_of_getElem? (i := 1854) (by decide +kernel), List.mem_of_getElem? (i := 1855) (by decide +kernel)⟩
theorem lw_p100 : lw_okq (⟨"SorryWalkModel", "aimOf", "(I)I"⟩, 34) := ⟨⟨by decide +kernel, by decide +kernel⟩, List.mem_of_getElem? (i := 1442) (by decide +kernel), List.mem_of_getElem? (i := 1858) (by decide +kernel), List.mem_of_getElem? (i := 1859) (by decide +kernel)⟩
theorem lw_p101 : lw_okq (⟨"SorryWalkModel", "laysWays", "(II)V"⟩, 34) := ⟨⟨by decide +kernel, by decide +kernel⟩, List.mem_of_getElem? (i := 1442) (by decide +kernel), List.mem_of_getElem? (i := 1862) (by decide +kernel), List.mem_of_getElem? (i := 1863) (by decide +kernel)⟩
theorem lw_p102 : lw_okq (⟨"SorryWalkModel", "sorries", "(II)V"⟩, 34) := ⟨⟨by decide +kernel, by decide +kernel⟩, List.mem_of_getElem? (i := 1442) (by decide +kernel), List.mem_of_getElem? (i := 1867) (by decide +kernel), List.mem_of_getElem? (i := 1868) (by decide +kernel)⟩
theorem lw_p103 : lw_okq (⟨"SorryWalkModel", "owesNow", "(III)V"⟩, 34) := ⟨⟨by decide +kernel, by decide +kernel⟩, List.mem_of_getElem? (i := 1442) (by decide +kernel), List.mem_of_getElem? (i := 1871) (by decide +kernel), List.mem_of_getElem? (i := 1872) (by decide +kernel)⟩
theorem lw_p104 : lw_okq (⟨"SorryWalkModel", "nextOn", "(II)I"⟩, 34) := ⟨⟨by decide +kernel, by decide +kernel⟩, List.mem_of_getElem? (i := 1442) (by decide +kernel), List.mem_of_getElem? (i := 1875) (by decide +kernel), List.mem_of_getElem? (i := 1876) (by decide +kernel)⟩
theorem lw_p105 : lw_okq (⟨"SorryWalkModel", "dies", "(I)Z"⟩, 34) := ⟨⟨by decide +kernel, by decide +kernel⟩, List.mem_of_getElem? (i := 1442) (by decide +kernel), List.mem_of_getElem? (i := 1883) (by decide +kernel), List.mem_of_getElem? (i := 1884) (by decide +kernel)⟩
theorem lw_p106 : lw_okq (⟨"SorryWalkModel", "isHeirOf", "(II)Z"⟩, 34) := ⟨⟨by decide +kernel, by decide +kernel⟩, List.mem_of_getElem? (i := 1442) (by decide +kernel), List.mem_of_getElem? (i := 1887) (by decide +kernel), List.mem_of_getElem? (i := 1888) (by decide +kernel)⟩
theorem lw_p107 : lw_okq (⟨"SorryWalkModel", "partOf", "(III)I"⟩, 34) := ⟨⟨by decide +kernel, by decide +kernel⟩, List.mem_of_getElem? (i := 1442) (by decide +kernel), List.mem_of_getElem? (i := 1891) (by decide +kernel), List.mem_of_getElem? (i := 1892) (by decide +kernel)⟩
theorem lw_p108 : lw_okq (⟨"SorryWalkModel", "heirsBut", "(II)I"⟩, 34) := ⟨⟨by decide +kernel, by decide +kernel⟩, List.mem_of_getElem? (i := 1442) (by decide +kernel), List.mem_of_getElem? (i := 1895) (by decide +kernel), List.mem_of_getElem? (i := 1896) (by decide +kernel)⟩
theorem lw_p109 : lw_okq (⟨"SorryWalkModel", "forgives", "(II)I"⟩, 34) := ⟨⟨by decide +kernel, by decide +kernel⟩, List.mem_of_getElem? (i := 1442) (by decide +kernel), List.mem_of_getElem? (i := 1903) (by decide +kernel), List.mem_of_getElem? (i := 1904) (by decide +kernel)⟩
theorem lw_p110 : lw_okq (⟨"SorryWalkModel", "forges", "(III)Z"⟩, 34) := ⟨⟨by decide +kernel, by decide +kernel⟩, List.mem_of_getElem? (i := 1442) (by decide +kernel), List.mem_of_getElem? (i := 1911) (by decide +kernel), List.mem_of_getElem? (i := 1912) (by decide +kernel)⟩
theorem lw_p111 : lw_okq (⟨"SorryWalkModel", "turns", "(IZ)Z"⟩, 34) := ⟨⟨by decide +kernel, by decide +kernel⟩, List.mem_of_getElem? (i := 1442) (by decide +kernel), List.mem_of_getElem? (i := 1919) (by decide +kernel), List.mem_of_getElem? (i := 1920) (by decide +kernel)⟩
def lw_privs_7 : List (MethodName × Nat) := [(⟨"SorryWalkModel", "isIn", "(II)Z"⟩, 34), (⟨"SorryWalkModel", "inHouse", "(I)I"⟩, 34), (⟨"SorryWalkModel", "whereOf", "(I)I"⟩, 34), (⟨"SorryWalkModel", "night0", "()V"⟩, 34), (⟨"SorryWalkModel", "aimOf", "(I)I"⟩, 34), (⟨"SorryWalkModel", "laysWays", "(II)V"⟩, 34), (⟨"SorryWalkModel", "sorries", "(II)V"⟩, 34), (⟨"SorryWalkModel", "owesNow", "(III)V"⟩, 34), (⟨"SorryWalkModel", "nextOn", "(II)I"⟩, 34), (⟨"SorryWalkModel", "dies", "(I)Z"⟩, 34), (⟨"SorryWalkModel", "isHeirOf", "(II)Z"⟩, 34), (⟨"SorryWalkModel", "partOf", "(III)I"⟩, 34), (⟨"SorryWalkModel", "heirsBut", "(II)I"⟩, 34), (⟨"SorryWalkModel", "forgives", "(II)I"⟩, 34), (⟨"SorryWalkModel", "forges", "(III)Z"⟩, 34), (⟨"SorryWalkModel", "turns", "(IZ)Z"⟩, 34)]
theorem lw_r7 : ∀ q ∈ lw_privs_7, lw_okq q := List.forall_mem_cons.mpr ⟨lw_p96, List.forall_mem_cons.mpr ⟨lw_p97, List.forall_mem_cons.mpr ⟨lw_p98, List.forall_mem_cons.mpr ⟨lw_p99, List.forall_mem_cons.mpr ⟨lw_p100, List.forall_mem_cons.mpr ⟨lw_p101, List.forall_mem_cons.mpr ⟨lw_p102, List.forall_mem_cons.mpr ⟨lw_p103, List.forall_mem_cons.mpr ⟨lw_p104, List.forall_mem_cons.mpr ⟨lw_p105, List.forall_mem_cons.mpr ⟨lw_p106, List.forall_mem_cons.mpr ⟨lw_p107, List.forall_mem_cons.mpr ⟨lw_p108, List.forall_mem_cons.mpr ⟨lw_p109, List.forall_mem_cons.mpr ⟨lw_p110, List.forall_mem_cons.mpr ⟨lw_p111, fun _ h => absurd h List.not_mem_nil⟩⟩⟩⟩⟩⟩⟩⟩⟩⟩⟩⟩⟩⟩⟩⟩
theorem lw_p112 : lw_okq (⟨"SorryWalkModel", "orNone", "(I)I"⟩, 34) := ⟨⟨by decide +kernel, by decide +kernel⟩, List.mem_of_getElem? (i := 1442) (by decide +kernel), List.mem_of_getElem? (i := 1943) (by decide +kernel), List.mem_of_getElem? (i := 1944) (by decide +kernel)⟩
theorem lw_p113 : lw_okq (⟨"SorryWalkModel", "stepOf", "(I)I"⟩, 34) := ⟨⟨by decide +kernel, by decide +kernel⟩, List.mem_of_getElem? (i := 1442) (by decide +kernel), List.mem_of_getElem? (i := 1951) (by decide +kernel), List.mem_of_getElem? (i := 1952) (by decide +kernel)⟩
theorem lw_p114 : lw_okq (⟨"SorryWalkModel", "isLater", "(I)Z"⟩, 34) := ⟨⟨by decide +kernel, by decide +kernel⟩, List.mem_of_getElem? (i := 1442) (by decide +kernel), List.mem_of_getElem? (i := 1959) (by decide +kernel), List.mem_of_getElem? (i := 1960) (by decide +kernel)⟩
theorem lw_p115 : lw_okq (⟨"SorryWalkModel", "keeps", "(I)V"⟩, 34) := ⟨⟨by decide +kernel, by decide +kernel⟩, List.mem_of_getElem? (i := 1442) (by decide +kernel), List.mem_of_getElem? (i := 1964) (by decide +kernel), List.mem_of_getElem? (i := 1965) (by decide +kernel)⟩
theorem lw_p116 : lw_okq (⟨"SorryWalkModel", "nights", "(I)V"⟩, 34) := ⟨⟨by decide +kernel, by decide +kernel⟩, List.mem_of_getElem? (i := 1442) (by decide +kernel), List.mem_of_getElem? (i := 1968) (by decide +kernel), List.mem_of_getElem? (i := 1969) (by decide +kernel)⟩
theorem lw_p117 : lw_okq (⟨"SorryWalkModel", "restores", "(I)V"⟩, 34) := ⟨⟨by decide +kernel, by decide +kernel⟩, List.mem_of_getElem? (i := 1442) (by decide +kernel), List.mem_of_getElem? (i := 1972) (by decide +kernel), List.mem_of_getElem? (i := 1973) (by decide +kernel)⟩
theorem lw_p118 : lw_okq (⟨"SorryWalkModel", "nightsTill", "(IIII)I"⟩, 34) := ⟨⟨by decide +kernel, by decide +kernel⟩, List.mem_of_getElem? (i := 1442) (by decide +kernel), List.mem_of_getElem? (i := 1984) (by decide +kernel), List.mem_of_getElem? (i := 1985) (by decide +kernel)⟩
theorem lw_p119 : lw_okq (⟨"SorryWalkModel", "isSo", "(III)Z"⟩, 34) := ⟨⟨by decide +kernel, by decide +kernel⟩, List.mem_of_getElem? (i := 1442) (by decide +kernel), List.mem_of_getElem? (i := 1988) (by decide +kernel), List.mem_of_getElem? (i := 1989) (by decide +kernel)⟩
theorem lw_p120 : lw_okq (⟨"SorryWalkModel", "clears", "()V"⟩, 34) := ⟨⟨by decide +kernel, by decide +kernel⟩, List.mem_of_getElem? (i := 1442) (by decide +kernel), List.mem_of_getElem? (i := 2029) (by decide +kernel), List.mem_of_getElem? (i := 2030) (by decide +kernel)⟩
theorem lw_p121 : lw_okq (⟨"SorryWalkModel", "counts", "()V"⟩, 34) := ⟨⟨by decide +kernel, by decide +kernel⟩, List.mem_of_getElem? (i := 1442) (by decide +kernel), List.mem_of_getElem? (i := 2033) (by decide +kernel), List.mem_of_getElem? (i := 2034) (by decide +kernel)⟩
theorem lw_p122 : lw_okq (⟨"SorryWalkModel", "mostOf", "([I)I"⟩, 34) := ⟨⟨by decide +kernel, by decide +kernel⟩, List.mem_of_getElem? (i := 1442) (by decide +kernel), List.mem_of_getElem? (i := 2037) (by decide +kernel), List.mem_of_getElem? (i := 2038) (by decide +kernel)⟩
theorem lw_p123 : lw_okq (⟨"SorryWalkModel", "sorrowBehind", "(I)I"⟩, 34) := ⟨⟨by decide +kernel, by decide +kernel⟩, List.mem_of_getElem? (i := 1442) (by decide +kernel), List.mem_of_getElem? (i := 2065) (by decide +kernel), List.mem_of_getElem? (i := 2066) (by decide +kernel)⟩
theorem lw_p124 : lw_okq (⟨"SorryWalkModel", "labourBy", "(I)I"⟩, 34) := ⟨⟨by decide +kernel, by decide +kernel⟩, List.mem_of_getElem? (i := 1442) (by decide +kernel), List.mem_of_getElem? (i := 2077) (by decide +kernel), List.mem_of_getElem? (i := 2078) (by decide +kernel)⟩
theorem lw_p125 : lw_okq (⟨"SorryWalkModel", "weddingOf", "(I)I"⟩, 34) := ⟨⟨by decide +kernel, by decide +kernel⟩, List.mem_of_getElem? (i := 1442) (by decide +kernel), List.mem_of_getElem? (i := 2097) (by decide +kernel), List.mem_of_getElem? (i := 2098) (by decide +kernel)⟩
theorem lw_p126 : lw_okq (⟨"SorryWalkModel", "isHaunted", "(I)Z"⟩, 34) := ⟨⟨by decide +kernel, by decide +kernel⟩, List.mem_of_getElem? (i := 1442) (by decide +kernel), List.mem_of_getElem? (i := 2101) (by decide +kernel), List.mem_of_getElem? (i := 2102) (by decide +kernel)⟩
theorem lw_p127 : lw_okq (⟨"SorryWalkModel", "isPardon", "(II)Z"⟩, 34) := ⟨⟨by decide +kernel, by decide +kernel⟩, List.mem_of_getElem? (i := 1442) (by decide +kernel), List.mem_of_getElem? (i := 2113) (by decide +kernel), List.mem_of_getElem? (i := 2114) (by decide +kernel)⟩
def lw_privs_8 : List (MethodName × Nat) := [(⟨"SorryWalkModel", "orNone", "(I)I"⟩, 34), (⟨"SorryWalkModel", "stepOf", "(I)I"⟩, 34), (⟨"SorryWalkModel", "isLater", "(I)Z"⟩, 34), (⟨"SorryWalkModel", "keeps", "(I)V"⟩, 34), (⟨"SorryWalkModel", "nights", "(I)V"⟩, 34), (⟨"SorryWalkModel", "restores", "(I)V"⟩, 34), (⟨"SorryWalkModel", "nightsTill", "(IIII)I"⟩, 34), (⟨"SorryWalkModel", "isSo", "(III)Z"⟩, 34), (⟨"SorryWalkModel", "clears", "()V"⟩, 34), (⟨"SorryWalkModel", "counts", "()V"⟩, 34), (⟨"SorryWalkModel", "mostOf", "([I)I"⟩, 34), (⟨"SorryWalkModel", "sorrowBehind", "(I)I"⟩, 34), (⟨"SorryWalkModel", "labourBy", "(I)I"⟩, 34), (⟨"SorryWalkModel", "weddingOf", "(I)I"⟩, 34), (⟨"SorryWalkModel", "isHaunted", "(I)Z"⟩, 34), (⟨"SorryWalkModel", "isPardon", "(II)Z"⟩, 34)]
theorem lw_r8 : ∀ q ∈ lw_privs_8, lw_okq q := List.forall_mem_cons.mpr ⟨lw_p112, List.forall_mem_cons.mpr ⟨lw_p113, List.forall_mem_cons.mpr ⟨lw_p114, List.forall_mem_cons.mpr ⟨lw_p115, List.forall_mem_cons.mpr ⟨lw_p116, List.forall_mem_cons.mpr ⟨lw_p117, List.forall_mem_cons.mpr ⟨lw_p118, List.forall_mem_cons.mpr ⟨lw_p119, List.forall_mem_cons.mpr ⟨lw_p120, List.forall_mem_cons.mpr ⟨lw_p121, List.forall_mem_cons.mpr ⟨lw_p122, List.forall_mem_cons.mpr ⟨lw_p123, List.forall_mem_cons.mpr ⟨lw_p124, List.forall_mem_cons.mpr ⟨lw_p125, List.forall_mem_cons.mpr ⟨lw_p126, List.forall_mem_cons.mpr ⟨lw_p127, fun _ h => absurd h List.not_mem_nil⟩⟩⟩⟩⟩⟩⟩⟩⟩⟩⟩⟩⟩⟩⟩⟩
theorem lw_p128 : lw_okq (⟨"SorryWalkModel", "pardonOf", "(II)I"⟩, 34) := ⟨⟨by decide +kernel, by decide +kernel⟩, List.mem_of_getElem? (i := 1442) (by decide +kernel), List.mem_of_getElem? (i := 2118) (by decide +kernel), List.mem_of_getElem? (i := 2119) (by decide +kernel)⟩
theorem lw_p129 : lw_okq (⟨"SorryWalkModel", "areMutual", "(II)Z"⟩, 34) := ⟨⟨by decide +kernel, by decide +kernel⟩, List.mem_of_getElem? (i := 1442) (by decide +kernel), List.mem_of_getElem? (i := 2130) (by decide +kernel), List.mem_of_getElem? (i := 2131) (by decide +kernel)⟩
theorem lw_p130 : lw_okq (⟨"SorryWalkModel", "tellsBy", "(JJ)Z"⟩, 34) := ⟨⟨by decide +kernel, by decide +kernel⟩, List.mem_of_getElem? (i := 1442) (by decide +kernel), List.mem_of_getElem? (i := 2150) (by decide +kernel), List.mem_of_getElem? (i := 2151) (by decide +kernel)⟩
theorem lw_p131 : lw_okq (⟨"SorryWalkModel", "lives", "(I)V"⟩, 34) := ⟨⟨by decide +kernel, by decide +kernel⟩, List.mem_of_getElem? (i := 1442) (by decide +kernel), List.mem_of_getElem? (i := 2177) (by decide +kernel), List.mem_of_getElem? (i := 2178) (by decide +kernel)⟩
theorem lw_p132 : lw_okq (⟨"SorryWalkModel", "does", "(I)Z"⟩, 34) := ⟨⟨by decide +kernel, by decide +kernel⟩, List.mem_of_getElem? (i := 1442) (by decide +kernel), List.mem_of_getElem? (i := 2181) (by decide +kernel), List.mem_of_getElem? (i := 2182) (by decide +kernel)⟩
theorem lw_p133 : lw_okq (⟨"SorryWalkModel", "nightsBy", "(I)Z"⟩, 34) := ⟨⟨by decide +kernel, by decide +kernel⟩, List.mem_of_getElem? (i := 1442) (by decide +kernel), List.mem_of_getElem? (i := 2185) (by decide +kernel), List.mem_of_getElem? (i := 2186) (by decide +kernel)⟩
theorem lw_p134 : lw_okq (⟨"SorryWalkModel", "diesBy", "(I)Z"⟩, 34) := ⟨⟨by decide +kernel, by decide +kernel⟩, List.mem_of_getElem? (i := 1442) (by decide +kernel), List.mem_of_getElem? (i := 2189) (by decide +kernel), List.mem_of_getElem? (i := 2190) (by decide +kernel)⟩
theorem lw_p135 : lw_okq (⟨"SorryWalkModel", "diesAny", "()Z"⟩, 34) := ⟨⟨by decide +kernel, by decide +kernel⟩, List.mem_of_getElem? (i := 1442) (by decide +kernel), List.mem_of_getElem? (i := 2193) (by decide +kernel), List.mem_of_getElem? (i := 2194) (by decide +kernel)⟩
theorem lw_p136 : lw_okq (⟨"SorryWalkModel", "draw", "(I)I"⟩, 34) := ⟨⟨by decide +kernel, by decide +kernel⟩, List.mem_of_getElem? (i := 1442) (by decide +kernel), List.mem_of_getElem? (i := 2197) (by decide +kernel), List.mem_of_getElem? (i := 2198) (by decide +kernel)⟩
theorem lw_p137 : lw_okq (⟨"SorryWalkModel", "holds", "(I)Z"⟩, 34) := ⟨⟨by decide +kernel, by decide +kernel⟩, List.mem_of_getElem? (i := 1442) (by decide +kernel), List.mem_of_getElem? (i := 2202) (by decide +kernel), List.mem_of_getElem? (i := 2203) (by decide +kernel)⟩
theorem lw_p138 : lw_okq (⟨"SorryWalkModel", "behindEnds", "(I)I"⟩, 34) := ⟨⟨by decide +kernel, by decide +kernel⟩, List.mem_of_getElem? (i := 1442) (by decide +kernel), List.mem_of_getElem? (i := 2206) (by decide +kernel), List.mem_of_getElem? (i := 2207) (by decide +kernel)⟩
theorem lw_p139 : lw_okq (⟨"SorryWalkModel", "copies", "(II)V"⟩, 34) := ⟨⟨by decide +kernel, by decide +kernel⟩, List.mem_of_getElem? (i := 1442) (by decide +kernel), List.mem_of_getElem? (i := 2222) (by decide +kernel), List.mem_of_getElem? (i := 2223) (by decide +kernel)⟩
def lw_privs_9 : List (MethodName × Nat) := [(⟨"SorryWalkModel", "pardonOf", "(II)I"⟩, 34), (⟨"SorryWalkModel", "areMutual", "(II)Z"⟩, 34), (⟨"SorryWalkModel", "tellsBy", "(JJ)Z"⟩, 34), (⟨"SorryWalkModel", "lives", "(I)V"⟩, 34), (⟨"SorryWalkModel", "does", "(I)Z"⟩, 34), (⟨"SorryWalkModel", "nightsBy", "(I)Z"⟩, 34), (⟨"SorryWalkModel", "diesBy", "(I)Z"⟩, 34), (⟨"SorryWalkModel", "diesAny", "()Z"⟩, 34), (⟨"SorryWalkModel", "draw", "(I)I"⟩, 34), (⟨"SorryWalkModel", "holds", "(I)Z"⟩, 34), (⟨"SorryWalkModel", "behindEnds", "(I)I"⟩, 34), (⟨"SorryWalkModel", "copies", "(II)V"⟩, 34)]
theorem lw_r9 : ∀ q ∈ lw_privs_9, lw_okq q := List.forall_mem_cons.mpr ⟨lw_p128, List.forall_mem_cons.mpr ⟨lw_p129, List.forall_mem_cons.mpr ⟨lw_p130, List.forall_mem_cons.mpr ⟨lw_p131, List.forall_mem_cons.mpr ⟨lw_p132, List.forall_mem_cons.mpr ⟨lw_p133, List.forall_mem_cons.mpr ⟨lw_p134, List.forall_mem_cons.mpr ⟨lw_p135, List.forall_mem_cons.mpr ⟨lw_p136, List.forall_mem_cons.mpr ⟨lw_p137, List.forall_mem_cons.mpr ⟨lw_p138, List.forall_mem_cons.mpr ⟨lw_p139, fun _ h => absurd h List.not_mem_nil⟩⟩⟩⟩⟩⟩⟩⟩⟩⟩⟩⟩
def lw_privs : List (MethodName × Nat) := lw_privs_1 ++ (lw_privs_2 ++ (lw_privs_3 ++ (lw_privs_4 ++ (lw_privs_5 ++ (lw_privs_6 ++ (lw_privs_7 ++ (lw_privs_8 ++ (lw_privs_9))))))))
def lw_tbl : List Cond := k2_sels lw_privs ++ tables_1
theorem lw_privs_ok : ∀ q ∈ lw_privs, lw_okq q := by
  show ∀ q ∈ lw_privs_1 ++ (lw_privs_2 ++ (lw_privs_3 ++ (lw_privs_4 ++ (lw_privs_5 ++ (lw_privs_6 ++ (lw_privs_7 ++ (lw_privs_8 ++ (lw_privs_9)))))))), lw_okq q
  exact List.forall_mem_append.mpr ⟨lw_r1, List.forall_mem_append.mpr ⟨lw_r2, List.forall_mem_append.mpr ⟨lw_r3, List.forall_mem_append.mpr ⟨lw_r4, List.forall_mem_append.mpr ⟨lw_r5, List.forall_mem_append.mpr ⟨lw_r6, List.forall_mem_append.mpr ⟨lw_r7, List.forall_mem_append.mpr ⟨lw_r8, lw_r9⟩⟩⟩⟩⟩⟩⟩⟩

def RX0 : String := "SorryWalk$Debts"
def TX0 : u_T := fun k => match k with
  | 0 => ("SorryWalk$Debts", "owes", "[I", true)
  | _ => ("SorryWalk$Debts", "total", "[I", true)
def tyX0 : Nat → FieldType := fun k => match k with
  | 0 => .array .int
  | _ => .array .int
abbrev wsX00 : List Cond := u_ws RX0 TX0 2
theorem nmX0 : ∀ a, a < 2 → ∀ b, b < 2 → a ≠ b → (TX0 a).2.1 ≠ (TX0 b).2.1 := by decide +kernel
theorem tyX0_ok : ∀ k, k < 2 → parseFieldDescriptor (TX0 k).2.2.1 = some (tyX0 k) := by decide +kernel
abbrev cX0_init : ByteArray := prog_2_method_1_code
def yX0_init : MethodName := ⟨RX0, "<init>", "()V"⟩
abbrev cX0_clear : ByteArray := prog_2_method_2_code
def yX0_clear : MethodName := ⟨RX0, "clear", "()V"⟩
abbrev cX0_copyFrom : ByteArray := prog_2_method_3_code
def yX0_copyFrom : MethodName := ⟨RX0, "copyFrom", "(LSorryWalk$Debts;)V"⟩
abbrev cX0_of : ByteArray := prog_2_method_4_code
def yX0_of : MethodName := ⟨RX0, "of", "(II)I"⟩
abbrev cX0_put : ByteArray := prog_2_method_5_code
def yX0_put : MethodName := ⟨RX0, "put", "(III)V"⟩
abbrev cX0_add : ByteArray := prog_2_method_6_code
def yX0_add : MethodName := ⟨RX0, "add", "(III)V"⟩
abbrev cX0_claimOf : ByteArray := prog_2_method_7_code
def yX0_claimOf : MethodName := ⟨RX0, "claimOf", "(I)I"⟩
abbrev cX0_sorrow : ByteArray := prog_2_method_8_code
def yX0_sorrow : MethodName := ⟨RX0, "sorrow", "()I"⟩
abbrev cX0_isMutual : ByteArray := prog_2_method_9_code
def yX0_isMutual : MethodName := ⟨RX0, "isMutual", "(II)Z"⟩
abbrev cX0_creditors : ByteArray := prog_2_method_10_code
def yX0_creditors : MethodName := ⟨RX0, "creditors", "(I)I"⟩
abbrev cX0_debtorsOf : ByteArray := prog_2_method_11_code
def yX0_debtorsOf : MethodName := ⟨RX0, "debtorsOf", "(I)I"⟩
abbrev cX0_creditorsOfAll : ByteArray := prog_2_method_12_code
def yX0_creditorsOfAll : MethodName := ⟨RX0, "creditorsOfAll", "(I)I"⟩
def RX1 : String := "SorryWalk$Land"
def TX1 : u_T := fun k => match k with
  | 0 => ("SorryWalk$Land", "roads", "LSorryWalk$Roads;", true)
  | 1 => ("SorryWalk$Land", "debts", "LSorryWalk$Debts;", true)
  | 2 => ("SorryWalk$Land", "houseNames", "[J", true)
  | 3 => ("SorryWalk$Land", "personNames", "[J", true)
  | 4 => ("SorryWalk$Land", "persons", "I", false)
  | 5 => ("SorryWalk$Land", "at", "[I", true)
  | 6 => ("SorryWalk$Land", "home", "[I", true)
  | 7 => ("SorryWalk$Land", "dead", "I", false)
  | 8 => ("SorryWalk$Land", "deaf", "I", false)
  | 9 => ("SorryWalk$Land", "keeps", "I", false)
  | 10 => ("SorryWalk$Land", "heirs", "[I", true)
  | 11 => ("SorryWalk$Land", "heirCounts", "[I", true)
  | 12 => ("SorryWalk$Land", "night", "I", false)
  | 13 => ("SorryWalk$Land", "said", "I", false)
  | _ => ("SorryWalk$Land", "labour", "[I", true)
def tyX1 : Nat → FieldType := fun k => match k with
  | 0 => .object "SorryWalk$Roads"
  | 1 => .object "SorryWalk$Debts"
  | 2 => .array .long
  | 3 => .array .long
  | 4 => .int
  | 5 => .array .int
  | 6 => .array .int
  | 7 => .int
  | 8 => .int
  | 9 => .int
  | 10 => .array .int
  | 11 => .array .int
  | 12 => .int
  | 13 => .int
  | _ => .array .int
abbrev wsX10 : List Cond := u_ws RX1 TX1 15
theorem nmX1 : ∀ a, a < 15 → ∀ b, b < 15 → a ≠ b → (TX1 a).2.1 ≠ (TX1 b).2.1 := by decide +kernel
theorem tyX1_ok : ∀ k, k < 15 → parseFieldDescriptor (TX1 k).2.2.1 = some (tyX1 k) := by decide +kernel
abbrev cX1_init : ByteArray := prog_3_method_1_code
def yX1_init : MethodName := ⟨RX1, "<init>", "()V"⟩
abbrev cX1_clear : ByteArray := prog_3_method_2_code
def yX1_clear : MethodName := ⟨RX1, "clear", "()V"⟩
abbrev cX1_copyFrom : ByteArray := prog_3_method_3_code
def yX1_copyFrom : MethodName := ⟨RX1, "copyFrom", "(LSorryWalk$Land;)V"⟩
abbrev cX1_houseNamed : ByteArray := prog_3_method_4_code
def yX1_houseNamed : MethodName := ⟨RX1, "houseNamed", "(J)I"⟩
abbrev cX1_personNamed : ByteArray := prog_3_method_5_code
def yX1_personNamed : MethodName := ⟨RX1, "personNamed", "(J)I"⟩
abbrev cX1_isDead : ByteArray := prog_3_method_6_code
def yX1_isDead : MethodName := ⟨RX1, "isDead", "(I)Z"⟩
abbrev cX1_isGhost : ByteArray := prog_3_method_7_code
def yX1_isGhost : MethodName := ⟨RX1, "isGhost", "(I)Z"⟩
abbrev cX1_ghosts : ByteArray := prog_3_method_8_code
def yX1_ghosts : MethodName := ⟨RX1, "ghosts", "()I"⟩
abbrev cX1_ghostHouses : ByteArray := prog_3_method_9_code
def yX1_ghostHouses : MethodName := ⟨RX1, "ghostHouses", "()I"⟩
abbrev cX1_inHouse : ByteArray := prog_3_method_10_code
def yX1_inHouse : MethodName := ⟨RX1, "inHouse", "(I)I"⟩
abbrev cX1_aimOf : ByteArray := prog_3_method_11_code
def yX1_aimOf : MethodName := ⟨RX1, "aimOf", "(I)I"⟩
abbrev cX1_nextStop : ByteArray := prog_3_method_12_code
def yX1_nextStop : MethodName := ⟨RX1, "nextStop", "(I)I"⟩
abbrev cX1_passNights : ByteArray := prog_3_method_13_code
def yX1_passNights : MethodName := ⟨RX1, "passNights", "(I)V"⟩
abbrev cX1_haunt : ByteArray := prog_3_method_14_code
def yX1_haunt : MethodName := ⟨RX1, "haunt", "(I)V"⟩
abbrev cX1_saySorry : ByteArray := prog_3_method_15_code
def yX1_saySorry : MethodName := ⟨RX1, "saySorry", "(II)V"⟩
abbrev cX1_heirSet : ByteArray := prog_3_method_16_code
def yX1_heirSet : MethodName := ⟨RX1, "heirSet", "(II)I"⟩
abbrev cX1_shareOf : ByteArray := prog_3_method_17_code
def yX1_shareOf : MethodName := ⟨RX1, "shareOf", "(IIII)I"⟩
abbrev cX1_bury : ByteArray := prog_3_method_18_code
def yX1_bury : MethodName := ⟨RX1, "bury", "(I)Z"⟩
abbrev cX1_passOn : ByteArray := prog_3_method_19_code
def yX1_passOn : MethodName := ⟨RX1, "passOn", "(II)V"⟩
abbrev cX1_remit : ByteArray := prog_3_method_20_code
def yX1_remit : MethodName := ⟨RX1, "remit", "(II)Z"⟩
abbrev cX1_remitAll : ByteArray := prog_3_method_21_code
def yX1_remitAll : MethodName := ⟨RX1, "remitAll", "(I)V"⟩
abbrev cX1_slander : ByteArray := prog_3_method_22_code
def yX1_slander : MethodName := ⟨RX1, "slander", "(III)Z"⟩
def RX2 : String := "SorryWalk$LandReader"
def TX2 : u_T := fun k => match k with
  | 0 => ("SorryWalk$LandReader", "tape", "LSorryWalk$Tape;", true)
  | _ => ("SorryWalk$LandReader", "land", "LSorryWalk$Land;", true)
def tyX2 : Nat → FieldType := fun k => match k with
  | 0 => .object "SorryWalk$Tape"
  | _ => .object "SorryWalk$Land"
abbrev wsX20 : List Cond := u_ws RX2 TX2 2
theorem nmX2 : ∀ a, a < 2 → ∀ b, b < 2 → a ≠ b → (TX2 a).2.1 ≠ (TX2 b).2.1 := by decide +kernel
theorem tyX2_ok : ∀ k, k < 2 → parseFieldDescriptor (TX2 k).2.2.1 = some (tyX2 k) := by decide +kernel
abbrev cX2_init : ByteArray := prog_4_method_1_code
def yX2_init : MethodName := ⟨RX2, "<init>", "(LSorryWalk$Tape;LSorryWalk$Land;)V"⟩
abbrev cX2_readAll : ByteArray := prog_4_method_2_code
def yX2_readAll : MethodName := ⟨RX2, "readAll", "(I)V"⟩
abbrev cX2_readPart : ByteArray := prog_4_method_3_code
def yX2_readPart : MethodName := ⟨RX2, "readPart", "()Z"⟩
abbrev cX2_isNewName : ByteArray := prog_4_method_4_code
def yX2_isNewName : MethodName := ⟨RX2, "isNewName", "()Z"⟩
abbrev cX2_takeIf : ByteArray := prog_4_method_5_code
def yX2_takeIf : MethodName := ⟨RX2, "takeIf", "(I)Z"⟩
abbrev cX2_readHouse : ByteArray := prog_4_method_6_code
def yX2_readHouse : MethodName := ⟨RX2, "readHouse", "()Z"⟩
abbrev cX2_readDoor : ByteArray := prog_4_method_7_code
def yX2_readDoor : MethodName := ⟨RX2, "readDoor", "()Z"⟩
abbrev cX2_readPerson : ByteArray := prog_4_method_8_code
def yX2_readPerson : MethodName := ⟨RX2, "readPerson", "()Z"⟩
abbrev cX2_readOwes : ByteArray := prog_4_method_9_code
def yX2_readOwes : MethodName := ⟨RX2, "readOwes", "()Z"⟩
abbrev cX2_readHeir : ByteArray := prog_4_method_10_code
def yX2_readHeir : MethodName := ⟨RX2, "readHeir", "()Z"⟩
abbrev cX2_otherPerson : ByteArray := prog_4_method_11_code
def yX2_otherPerson : MethodName := ⟨RX2, "otherPerson", "(I)I"⟩
def RX3 : String := "SorryWalk$Life"
def TX3 : u_T := fun k => match k with
  | 0 => ("SorryWalk$Life", "there", "Z", false)
  | 1 => ("SorryWalk$Life", "done", "I", false)
  | 2 => ("SorryWalk$Life", "missed", "I", false)
  | 3 => ("SorryWalk$Life", "nights", "I", false)
  | 4 => ("SorryWalk$Life", "said", "I", false)
  | 5 => ("SorryWalk$Life", "deaths", "I", false)
  | 6 => ("SorryWalk$Life", "left", "I", false)
  | 7 => ("SorryWalk$Life", "draws", "I", false)
  | _ => ("SorryWalk$Life", "turns", "[I", true)
def tyX3 : Nat → FieldType := fun k => match k with
  | 0 => .boolean
  | 1 => .int
  | 2 => .int
  | 3 => .int
  | 4 => .int
  | 5 => .int
  | 6 => .int
  | 7 => .int
  | _ => .array .int
abbrev wsX30 : List Cond := u_ws RX3 TX3 9
theorem nmX3 : ∀ a, a < 9 → ∀ b, b < 9 → a ≠ b → (TX3 a).2.1 ≠ (TX3 b).2.1 := by decide +kernel
theorem tyX3_ok : ∀ k, k < 9 → parseFieldDescriptor (TX3 k).2.2.1 = some (tyX3 k) := by decide +kernel
abbrev cX3_init : ByteArray := prog_5_method_1_code
def yX3_init : MethodName := ⟨RX3, "<init>", "()V"⟩
abbrev cX3_run : ByteArray := prog_5_method_2_code
def yX3_run : MethodName := ⟨RX3, "run", "(LSorryWalk$Tales;LSorryWalk$Land;I)V"⟩
abbrev cX3_begin : ByteArray := prog_5_method_3_code
def yX3_begin : MethodName := ⟨RX3, "begin", "(LSorryWalk$Land;I)V"⟩
abbrev cX3_placeBehind : ByteArray := prog_5_method_4_code
def yX3_placeBehind : MethodName := ⟨RX3, "placeBehind", "(LSorryWalk$Tales;LSorryWalk$Land;I)I"⟩
abbrev cX3_holds : ByteArray := prog_5_method_5_code
def yX3_holds : MethodName := ⟨RX3, "holds", "(LSorryWalk$Tales;LSorryWalk$Land;I)Z"⟩
abbrev cX3_compares : ByteArray := prog_5_method_6_code
def yX3_compares : MethodName := ⟨RX3, "compares", "(III)Z"⟩
abbrev cX3_isDone : ByteArray := prog_5_method_7_code
def yX3_isDone : MethodName := ⟨RX3, "isDone", "(LSorryWalk$Tales;LSorryWalk$Land;I)Z"⟩
abbrev cX3_drawLiving : ByteArray := prog_5_method_8_code
def yX3_drawLiving : MethodName := ⟨RX3, "drawLiving", "(LSorryWalk$Land;)I"⟩
def RX4 : String := "SorryWalk$Planner"
def TX4 : u_T := fun k => match k with
  | 0 => ("SorryWalk$Planner", "dream", "LSorryWalk$Land;", true)
  | 1 => ("SorryWalk$Planner", "lasts", "[I", true)
  | _ => ("SorryWalk$Planner", "debtors", "[I", true)
def tyX4 : Nat → FieldType := fun k => match k with
  | 0 => .object "SorryWalk$Land"
  | 1 => .array .int
  | _ => .array .int
abbrev wsX40 : List Cond := u_ws RX4 TX4 3
theorem nmX4 : ∀ a, a < 3 → ∀ b, b < 3 → a ≠ b → (TX4 a).2.1 ≠ (TX4 b).2.1 := by decide +kernel
theorem tyX4_ok : ∀ k, k < 3 → parseFieldDescriptor (TX4 k).2.2.1 = some (tyX4 k) := by decide +kernel
abbrev cX4_init : ByteArray := prog_6_method_1_code
def yX4_init : MethodName := ⟨RX4, "<init>", "()V"⟩
abbrev cX4_sorrowWithout : ByteArray := prog_6_method_2_code
def yX4_sorrowWithout : MethodName := ⟨RX4, "sorrowWithout", "(LSorryWalk$Land;I)I"⟩
abbrev cX4_bestDeath : ByteArray := prog_6_method_3_code
def yX4_bestDeath : MethodName := ⟨RX4, "bestDeath", "(LSorryWalk$Land;)I"⟩
abbrev cX4_bestKeeper : ByteArray := prog_6_method_4_code
def yX4_bestKeeper : MethodName := ⟨RX4, "bestKeeper", "(LSorryWalk$Land;)I"⟩
abbrev cX4_labourWithKeeper : ByteArray := prog_6_method_5_code
def yX4_labourWithKeeper : MethodName := ⟨RX4, "labourWithKeeper", "(LSorryWalk$Land;I)I"⟩
abbrev cX4_leastSalt : ByteArray := prog_6_method_6_code
def yX4_leastSalt : MethodName := ⟨RX4, "leastSalt", "(LSorryWalk$Land;I)I"⟩
abbrev cX4_leastPardon : ByteArray := prog_6_method_7_code
def yX4_leastPardon : MethodName := ⟨RX4, "leastPardon", "(LSorryWalk$Land;II)I"⟩
abbrev cX4_isQuietBy : ByteArray := prog_6_method_8_code
def yX4_isQuietBy : MethodName := ⟨RX4, "isQuietBy", "(LSorryWalk$Land;III)Z"⟩
abbrev cX4_deadCouple : ByteArray := prog_6_method_9_code
def yX4_deadCouple : MethodName := ⟨RX4, "deadCouple", "(LSorryWalk$Land;)I"⟩
abbrev cX4_longestRow : ByteArray := prog_6_method_10_code
def yX4_longestRow : MethodName := ⟨RX4, "longestRow", "(LSorryWalk$Land;)I"⟩
abbrev cX4_lastsOf : ByteArray := prog_6_method_11_code
def yX4_lastsOf : MethodName := ⟨RX4, "lastsOf", "(I)I"⟩
abbrev cX4_bestThreshold : ByteArray := prog_6_method_12_code
def yX4_bestThreshold : MethodName := ⟨RX4, "bestThreshold", "(LSorryWalk$Land;)I"⟩
abbrev cX4_ghostsKeptOff : ByteArray := prog_6_method_13_code
def yX4_ghostsKeptOff : MethodName := ⟨RX4, "ghostsKeptOff", "(LSorryWalk$Land;I)I"⟩
abbrev cX4_reachesSome : ByteArray := prog_6_method_14_code
def yX4_reachesSome : MethodName := ⟨RX4, "reachesSome", "(LSorryWalk$Land;II)Z"⟩
def RX5 : String := "SorryWalk$Roads"
def TX5 : u_T := fun k => match k with
  | 0 => ("SorryWalk$Roads", "houses", "I", false)
  | 1 => ("SorryWalk$Roads", "salt", "I", false)
  | 2 => ("SorryWalk$Roads", "doors", "[I", true)
  | 3 => ("SorryWalk$Roads", "lengths", "[I", true)
  | 4 => ("SorryWalk$Roads", "nexts", "[I", true)
  | _ => ("SorryWalk$Roads", "counts", "[I", true)
def tyX5 : Nat → FieldType := fun k => match k with
  | 0 => .int
  | 1 => .int
  | 2 => .array .int
  | 3 => .array .int
  | 4 => .array .int
  | _ => .array .int
abbrev wsX50 : List Cond := u_ws RX5 TX5 6
theorem nmX5 : ∀ a, a < 6 → ∀ b, b < 6 → a ≠ b → (TX5 a).2.1 ≠ (TX5 b).2.1 := by decide +kernel
theorem tyX5_ok : ∀ k, k < 6 → parseFieldDescriptor (TX5 k).2.2.1 = some (tyX5 k) := by decide +kernel
abbrev cX5_init : ByteArray := prog_7_method_1_code
def yX5_init : MethodName := ⟨RX5, "<init>", "()V"⟩
abbrev cX5_clear : ByteArray := prog_7_method_2_code
def yX5_clear : MethodName := ⟨RX5, "clear", "()V"⟩
abbrev cX5_copyFrom : ByteArray := prog_7_method_3_code
def yX5_copyFrom : MethodName := ⟨RX5, "copyFrom", "(LSorryWalk$Roads;)V"⟩
abbrev cX5_hang : ByteArray := prog_7_method_4_code
def yX5_hang : MethodName := ⟨RX5, "hang", "(IIZ)V"⟩
abbrev cX5_strew : ByteArray := prog_7_method_5_code
def yX5_strew : MethodName := ⟨RX5, "strew", "(IZ)Z"⟩
abbrev cX5_couples : ByteArray := prog_7_method_6_code
def yX5_couples : MethodName := ⟨RX5, "couples", "()I"⟩
abbrev cX5_around : ByteArray := prog_7_method_7_code
def yX5_around : MethodName := ⟨RX5, "around", "(I)I"⟩
abbrev cX5_spread : ByteArray := prog_7_method_8_code
def yX5_spread : MethodName := ⟨RX5, "spread", "(II)I"⟩
abbrev cX5_survey : ByteArray := prog_7_method_9_code
def yX5_survey : MethodName := ⟨RX5, "survey", "()V"⟩
abbrev cX5_measureFrom : ByteArray := prog_7_method_10_code
def yX5_measureFrom : MethodName := ⟨RX5, "measureFrom", "(I)V"⟩
abbrev cX5_leastNext : ByteArray := prog_7_method_11_code
def yX5_leastNext : MethodName := ⟨RX5, "leastNext", "(II)I"⟩
abbrev cX5_distance : ByteArray := prog_7_method_12_code
def yX5_distance : MethodName := ⟨RX5, "distance", "(II)I"⟩
abbrev cX5_nextHouse : ByteArray := prog_7_method_13_code
def yX5_nextHouse : MethodName := ⟨RX5, "nextHouse", "(II)I"⟩
abbrev cX5_straits : ByteArray := prog_7_method_14_code
def yX5_straits : MethodName := ⟨RX5, "straits", "(II)I"⟩
abbrev cX5_shortestWays : ByteArray := prog_7_method_15_code
def yX5_shortestWays : MethodName := ⟨RX5, "shortestWays", "(II)I"⟩
abbrev cX5_waysInto : ByteArray := prog_7_method_16_code
def yX5_waysInto : MethodName := ⟨RX5, "waysInto", "(III)I"⟩
def RX6 : String := "SorryWalk$Seer"
def TX6 : u_T := fun k => match k with
  | 0 => ("SorryWalk$Seer", "dream", "LSorryWalk$Land;", true)
  | _ => ("SorryWalk$Seer", "visits", "[I", true)
def tyX6 : Nat → FieldType := fun k => match k with
  | 0 => .object "SorryWalk$Land"
  | _ => .array .int
abbrev wsX60 : List Cond := u_ws RX6 TX6 2
theorem nmX6 : ∀ a, a < 2 → ∀ b, b < 2 → a ≠ b → (TX6 a).2.1 ≠ (TX6 b).2.1 := by decide +kernel
theorem tyX6_ok : ∀ k, k < 2 → parseFieldDescriptor (TX6 k).2.2.1 = some (tyX6 k) := by decide +kernel
abbrev cX6_init : ByteArray := prog_8_method_1_code
def yX6_init : MethodName := ⟨RX6, "<init>", "()V"⟩
abbrev cX6_after : ByteArray := prog_8_method_2_code
def yX6_after : MethodName := ⟨RX6, "after", "(LSorryWalk$Land;I)LSorryWalk$Land;"⟩
abbrev cX6_nightsToRest : ByteArray := prog_8_method_3_code
def yX6_nightsToRest : MethodName := ⟨RX6, "nightsToRest", "(LSorryWalk$Land;I)I"⟩
abbrev cX6_nightsToQuiet : ByteArray := prog_8_method_4_code
def yX6_nightsToQuiet : MethodName := ⟨RX6, "nightsToQuiet", "(LSorryWalk$Land;I)I"⟩
abbrev cX6_nightsToLabour : ByteArray := prog_8_method_5_code
def yX6_nightsToLabour : MethodName := ⟨RX6, "nightsToLabour", "(LSorryWalk$Land;II)I"⟩
abbrev cX6_nightsToMeeting : ByteArray := prog_8_method_6_code
def yX6_nightsToMeeting : MethodName := ⟨RX6, "nightsToMeeting", "(LSorryWalk$Land;II)I"⟩
abbrev cX6_ghostsSeen : ByteArray := prog_8_method_7_code
def yX6_ghostsSeen : MethodName := ⟨RX6, "ghostsSeen", "(LSorryWalk$Land;II)I"⟩
abbrev cX6_nightsSpent : ByteArray := prog_8_method_8_code
def yX6_nightsSpent : MethodName := ⟨RX6, "nightsSpent", "(LSorryWalk$Land;III)I"⟩
abbrev cX6_housesSeen : ByteArray := prog_8_method_9_code
def yX6_housesSeen : MethodName := ⟨RX6, "housesSeen", "(LSorryWalk$Land;II)I"⟩
abbrev cX6_fullestHouse : ByteArray := prog_8_method_10_code
def yX6_fullestHouse : MethodName := ⟨RX6, "fullestHouse", "(LSorryWalk$Land;I)I"⟩
abbrev cX6_countVisits : ByteArray := prog_8_method_11_code
def yX6_countVisits : MethodName := ⟨RX6, "countVisits", "()V"⟩
def RX7 : String := "SorryWalk$Tales"
def TX7 : u_T := fun k => match k with
  | 0 => ("SorryWalk$Tales", "there", "Z", false)
  | 1 => ("SorryWalk$Tales", "steps", "I", false)
  | 2 => ("SorryWalk$Tales", "size", "I", false)
  | 3 => ("SorryWalk$Tales", "kinds", "[I", true)
  | 4 => ("SorryWalk$Tales", "firsts", "[I", true)
  | 5 => ("SorryWalk$Tales", "seconds", "[I", true)
  | 6 => ("SorryWalk$Tales", "numbers", "[I", true)
  | _ => ("SorryWalk$Tales", "partners", "[I", true)
def tyX7 : Nat → FieldType := fun k => match k with
  | 0 => .boolean
  | 1 => .int
  | 2 => .int
  | 3 => .array .int
  | 4 => .array .int
  | 5 => .array .int
  | 6 => .array .int
  | _ => .array .int
abbrev wsX70 : List Cond := u_ws RX7 TX7 8
theorem nmX7 : ∀ a, a < 8 → ∀ b, b < 8 → a ≠ b → (TX7 a).2.1 ≠ (TX7 b).2.1 := by decide +kernel
theorem tyX7_ok : ∀ k, k < 8 → parseFieldDescriptor (TX7 k).2.2.1 = some (tyX7 k) := by decide +kernel
abbrev cX7_init : ByteArray := prog_9_method_1_code
def yX7_init : MethodName := ⟨RX7, "<init>", "()V"⟩
abbrev cX7_clear : ByteArray := prog_9_method_2_code
def yX7_clear : MethodName := ⟨RX7, "clear", "()V"⟩
abbrev cX7_copyFrom : ByteArray := prog_9_method_3_code
def yX7_copyFrom : MethodName := ⟨RX7, "copyFrom", "(LSorryWalk$Tales;)V"⟩
abbrev cX7_add : ByteArray := prog_9_method_4_code
def yX7_add : MethodName := ⟨RX7, "add", "(IIII)V"⟩
def RX8 : String := "SorryWalk$TalesReader"
def TX8 : u_T := fun k => match k with
  | 0 => ("SorryWalk$TalesReader", "tape", "LSorryWalk$Tape;", true)
  | 1 => ("SorryWalk$TalesReader", "land", "LSorryWalk$Land;", true)
  | 2 => ("SorryWalk$TalesReader", "tales", "LSorryWalk$Tales;", true)
  | 3 => ("SorryWalk$TalesReader", "open", "[I", true)
  | _ => ("SorryWalk$TalesReader", "depth", "I", false)
def tyX8 : Nat → FieldType := fun k => match k with
  | 0 => .object "SorryWalk$Tape"
  | 1 => .object "SorryWalk$Land"
  | 2 => .object "SorryWalk$Tales"
  | 3 => .array .int
  | _ => .int
abbrev wsX80 : List Cond := u_ws RX8 TX8 5
theorem nmX8 : ∀ a, a < 5 → ∀ b, b < 5 → a ≠ b → (TX8 a).2.1 ≠ (TX8 b).2.1 := by decide +kernel
theorem tyX8_ok : ∀ k, k < 5 → parseFieldDescriptor (TX8 k).2.2.1 = some (tyX8 k) := by decide +kernel
abbrev cX8_init : ByteArray := prog_10_method_1_code
def yX8_init : MethodName := ⟨RX8, "<init>", "(LSorryWalk$Tape;LSorryWalk$Land;LSorryWalk$Tales;)V"⟩
abbrev cX8_readAll : ByteArray := prog_10_method_2_code
def yX8_readAll : MethodName := ⟨RX8, "readAll", "(I)V"⟩
abbrev cX8_readEnd : ByteArray := prog_10_method_3_code
def yX8_readEnd : MethodName := ⟨RX8, "readEnd", "()Z"⟩
abbrev cX8_readStep : ByteArray := prog_10_method_4_code
def yX8_readStep : MethodName := ⟨RX8, "readStep", "()Z"⟩
abbrev cX8_isStep : ByteArray := prog_10_method_5_code
def yX8_isStep : MethodName := ⟨RX8, "isStep", "(I)Z"⟩
abbrev cX8_readRest : ByteArray := prog_10_method_6_code
def yX8_readRest : MethodName := ⟨RX8, "readRest", "(I)Z"⟩
abbrev cX8_readCount : ByteArray := prog_10_method_7_code
def yX8_readCount : MethodName := ⟨RX8, "readCount", "(II)Z"⟩
abbrev cX8_readPersonStep : ByteArray := prog_10_method_8_code
def yX8_readPersonStep : MethodName := ⟨RX8, "readPersonStep", "(I)Z"⟩
abbrev cX8_readHouseStep : ByteArray := prog_10_method_9_code
def yX8_readHouseStep : MethodName := ⟨RX8, "readHouseStep", "(I)Z"⟩
abbrev cX8_readForgive : ByteArray := prog_10_method_10_code
def yX8_readForgive : MethodName := ⟨RX8, "readForgive", "()Z"⟩
abbrev cX8_readForge : ByteArray := prog_10_method_11_code
def yX8_readForge : MethodName := ⟨RX8, "readForge", "()Z"⟩
abbrev cX8_readTest : ByteArray := prog_10_method_12_code
def yX8_readTest : MethodName := ⟨RX8, "readTest", "()Z"⟩
abbrev cX8_readLabourTest : ByteArray := prog_10_method_13_code
def yX8_readLabourTest : MethodName := ⟨RX8, "readLabourTest", "()Z"⟩
abbrev cX8_readAtTest : ByteArray := prog_10_method_14_code
def yX8_readAtTest : MethodName := ⟨RX8, "readAtTest", "()Z"⟩
def RX9 : String := "SorryWalk$Tape"
def TX9 : u_T := fun k => match k with
  | 0 => ("SorryWalk$Tape", "bytes", "[I", true)
  | 1 => ("SorryWalk$Tape", "length", "I", false)
  | 2 => ("SorryWalk$Tape", "keywords", "[J", true)
  | 3 => ("SorryWalk$Tape", "textEnd", "I", false)
  | 4 => ("SorryWalk$Tape", "next", "I", false)
  | 5 => ("SorryWalk$Tape", "kind", "I", false)
  | 6 => ("SorryWalk$Tape", "start", "I", false)
  | 7 => ("SorryWalk$Tape", "name", "J", false)
  | 8 => ("SorryWalk$Tape", "keyword", "I", false)
  | 9 => ("SorryWalk$Tape", "value", "I", false)
  | 10 => ("SorryWalk$Tape", "faultKind", "I", false)
  | _ => ("SorryWalk$Tape", "faultPlace", "I", false)
def tyX9 : Nat → FieldType := fun k => match k with
  | 0 => .array .int
  | 1 => .int
  | 2 => .array .long
  | 3 => .int
  | 4 => .int
  | 5 => .int
  | 6 => .int
  | 7 => .long
  | 8 => .int
  | 9 => .int
  | 10 => .int
  | _ => .int
abbrev wsX90 : List Cond := u_ws RX9 TX9 12
theorem nmX9 : ∀ a, a < 12 → ∀ b, b < 12 → a ≠ b → (TX9 a).2.1 ≠ (TX9 b).2.1 := by decide +kernel
theorem tyX9_ok : ∀ k, k < 12 → parseFieldDescriptor (TX9 k).2.2.1 = some (tyX9 k) := by decide +kernel
abbrev cX9_init : ByteArray := prog_11_method_1_code
def yX9_init : MethodName := ⟨RX9, "<init>", "()V"⟩
abbrev cX9_put : ByteArray := prog_11_method_2_code
def yX9_put : MethodName := ⟨RX9, "put", "(I)V"⟩
abbrev cX9_begin : ByteArray := prog_11_method_3_code
def yX9_begin : MethodName := ⟨RX9, "begin", "(I)V"⟩
abbrev cX9_advance : ByteArray := prog_11_method_4_code
def yX9_advance : MethodName := ⟨RX9, "advance", "()V"⟩
abbrev cX9_scanWord : ByteArray := prog_11_method_5_code
def yX9_scanWord : MethodName := ⟨RX9, "scanWord", "()V"⟩
abbrev cX9_scanNumber : ByteArray := prog_11_method_6_code
def yX9_scanNumber : MethodName := ⟨RX9, "scanNumber", "()V"⟩
abbrev cX9_isBlank : ByteArray := prog_11_method_7_code
def yX9_isBlank : MethodName := ⟨RX9, "isBlank", "(I)Z"⟩
abbrev cX9_isLetter : ByteArray := prog_11_method_8_code
def yX9_isLetter : MethodName := ⟨RX9, "isLetter", "(I)Z"⟩
abbrev cX9_isDigit : ByteArray := prog_11_method_9_code
def yX9_isDigit : MethodName := ⟨RX9, "isDigit", "(I)Z"⟩
abbrev cX9_isSign : ByteArray := prog_11_method_10_code
def yX9_isSign : MethodName := ⟨RX9, "isSign", "(I)Z"⟩
abbrev cX9_goesOn : ByteArray := prog_11_method_11_code
def yX9_goesOn : MethodName := ⟨RX9, "goesOn", "()Z"⟩
abbrev cX9_fail : ByteArray := prog_11_method_12_code
def yX9_fail : MethodName := ⟨RX9, "fail", "(I)Z"⟩
abbrev cX9_isWord : ByteArray := prog_11_method_13_code
def yX9_isWord : MethodName := ⟨RX9, "isWord", "(I)Z"⟩
abbrev cX9_isName : ByteArray := prog_11_method_14_code
def yX9_isName : MethodName := ⟨RX9, "isName", "()Z"⟩
abbrev cX9_takeWord : ByteArray := prog_11_method_15_code
def yX9_takeWord : MethodName := ⟨RX9, "takeWord", "(I)Z"⟩
abbrev cX9_takeSemicolon : ByteArray := prog_11_method_16_code
def yX9_takeSemicolon : MethodName := ⟨RX9, "takeSemicolon", "()Z"⟩
abbrev cX9_takeCompare : ByteArray := prog_11_method_17_code
def yX9_takeCompare : MethodName := ⟨RX9, "takeCompare", "()I"⟩
abbrev cX9_takeNumber : ByteArray := prog_11_method_18_code
def yX9_takeNumber : MethodName := ⟨RX9, "takeNumber", "(II)I"⟩
abbrev cX9_houseHere : ByteArray := prog_11_method_19_code
def yX9_houseHere : MethodName := ⟨RX9, "houseHere", "(LSorryWalk$Land;)I"⟩
abbrev cX9_personHere : ByteArray := prog_11_method_20_code
def yX9_personHere : MethodName := ⟨RX9, "personHere", "(LSorryWalk$Land;)I"⟩
abbrev cX9_takeHouse : ByteArray := prog_11_method_21_code
def yX9_takeHouse : MethodName := ⟨RX9, "takeHouse", "(LSorryWalk$Land;)I"⟩
abbrev cX9_takePerson : ByteArray := prog_11_method_22_code
def yX9_takePerson : MethodName := ⟨RX9, "takePerson", "(LSorryWalk$Land;)I"⟩
def RX10 : String := "SorryWalk$Tray"
def TX10 : u_T := fun k => match k with
  | 0 => ("SorryWalk$Tray", "there", "Z", false)
  | 1 => ("SorryWalk$Tray", "sort", "I", false)
  | 2 => ("SorryWalk$Tray", "size", "I", false)
  | _ => ("SorryWalk$Tray", "cells", "[J", true)
def tyX10 : Nat → FieldType := fun k => match k with
  | 0 => .boolean
  | 1 => .int
  | 2 => .int
  | _ => .array .long
abbrev wsX100 : List Cond := u_ws RX10 TX10 4
theorem nmX10 : ∀ a, a < 4 → ∀ b, b < 4 → a ≠ b → (TX10 a).2.1 ≠ (TX10 b).2.1 := by decide +kernel
theorem tyX10_ok : ∀ k, k < 4 → parseFieldDescriptor (TX10 k).2.2.1 = some (tyX10 k) := by decide +kernel
abbrev cX10_init : ByteArray := prog_12_method_1_code
def yX10_init : MethodName := ⟨RX10, "<init>", "()V"⟩
abbrev cX10_lay : ByteArray := prog_12_method_2_code
def yX10_lay : MethodName := ⟨RX10, "lay", "(II)V"⟩
abbrev cX10_holds : ByteArray := prog_12_method_3_code
def yX10_holds : MethodName := ⟨RX10, "holds", "(II)Z"⟩
abbrev cX10_put : ByteArray := prog_12_method_4_code
def yX10_put : MethodName := ⟨RX10, "put", "(IJ)V"⟩
def RX11 : String := "SorryWalk"
def TX11 : u_T := fun k => match k with
  | 0 => ("SorryWalk", "status", "I", false)
  | 1 => ("SorryWalk", "top", "J", false)
  | 2 => ("SorryWalk", "bottom", "J", false)
  | 3 => ("SorryWalk", "trays", "[LSorryWalk$Tray;", true)
  | 4 => ("SorryWalk", "tape", "LSorryWalk$Tape;", true)
  | 5 => ("SorryWalk", "now", "LSorryWalk$Land;", true)
  | 6 => ("SorryWalk", "tales", "LSorryWalk$Tales;", true)
  | 7 => ("SorryWalk", "draft", "LSorryWalk$Land;", true)
  | 8 => ("SorryWalk", "draftTales", "LSorryWalk$Tales;", true)
  | 9 => ("SorryWalk", "landReader", "LSorryWalk$LandReader;", true)
  | 10 => ("SorryWalk", "talesReader", "LSorryWalk$TalesReader;", true)
  | 11 => ("SorryWalk", "seer", "LSorryWalk$Seer;", true)
  | 12 => ("SorryWalk", "planner", "LSorryWalk$Planner;", true)
  | 13 => ("SorryWalk", "life", "LSorryWalk$Life;", true)
  | 14 => ("SorryWalk", "trial", "LSorryWalk$Life;", true)
  | 15 => ("SorryWalk", "markedLands", "[LSorryWalk$Land;", true)
  | 16 => ("SorryWalk", "markedTales", "[LSorryWalk$Tales;", true)
  | _ => ("SorryWalk", "marks", "I", false)
def tyX11 : Nat → FieldType := fun k => match k with
  | 0 => .int
  | 1 => .long
  | 2 => .long
  | 3 => .array (.object "SorryWalk$Tray")
  | 4 => .object "SorryWalk$Tape"
  | 5 => .object "SorryWalk$Land"
  | 6 => .object "SorryWalk$Tales"
  | 7 => .object "SorryWalk$Land"
  | 8 => .object "SorryWalk$Tales"
  | 9 => .object "SorryWalk$LandReader"
  | 10 => .object "SorryWalk$TalesReader"
  | 11 => .object "SorryWalk$Seer"
  | 12 => .object "SorryWalk$Planner"
  | 13 => .object "SorryWalk$Life"
  | 14 => .object "SorryWalk$Life"
  | 15 => .array (.object "SorryWalk$Land")
  | 16 => .array (.object "SorryWalk$Tales")
  | _ => .int
abbrev wsX110 : List Cond := u_ws RX11 TX11 18
theorem nmX11 : ∀ a, a < 18 → ∀ b, b < 18 → a ≠ b → (TX11 a).2.1 ≠ (TX11 b).2.1 := by decide +kernel
theorem tyX11_ok : ∀ k, k < 18 → parseFieldDescriptor (TX11 k).2.2.1 = some (tyX11 k) := by decide +kernel
abbrev cX11_init : ByteArray := prog_1_method_1_code
def yX11_init : MethodName := ⟨RX11, "<init>", "()V"⟩
abbrev cX11_status : ByteArray := prog_1_method_2_code
def yX11_status : MethodName := ⟨RX11, "status", "()I"⟩
abbrev cX11_top : ByteArray := prog_1_method_3_code
def yX11_top : MethodName := ⟨RX11, "top", "()J"⟩
abbrev cX11_bottom : ByteArray := prog_1_method_4_code
def yX11_bottom : MethodName := ⟨RX11, "bottom", "()J"⟩
abbrev cX11_tray : ByteArray := prog_1_method_5_code
def yX11_tray : MethodName := ⟨RX11, "tray", "(III)Z"⟩
abbrev cX11_write : ByteArray := prog_1_method_6_code
def yX11_write : MethodName := ⟨RX11, "write", "(IIJ)Z"⟩
abbrev cX11_read : ByteArray := prog_1_method_7_code
def yX11_read : MethodName := ⟨RX11, "read", "(II)J"⟩
abbrev cX11_pour : ByteArray := prog_1_method_8_code
def yX11_pour : MethodName := ⟨RX11, "pour", "(IIIII)Z"⟩
abbrev cX11_feed : ByteArray := prog_1_method_9_code
def yX11_feed : MethodName := ⟨RX11, "feed", "(IIIII)I"⟩
abbrev cX11_land : ByteArray := prog_1_method_10_code
def yX11_land : MethodName := ⟨RX11, "land", "(I)I"⟩
abbrev cX11_tales : ByteArray := prog_1_method_11_code
def yX11_tales : MethodName := ⟨RX11, "tales", "(I)I"⟩
abbrev cX11_fault : ByteArray := prog_1_method_12_code
def yX11_fault : MethodName := ⟨RX11, "fault", "(I)I"⟩
abbrev cX11_told : ByteArray := prog_1_method_13_code
def yX11_told : MethodName := ⟨RX11, "told", "(I)I"⟩
abbrev cX11_person : ByteArray := prog_1_method_14_code
def yX11_person : MethodName := ⟨RX11, "person", "(II)I"⟩
abbrev cX11_owed : ByteArray := prog_1_method_15_code
def yX11_owed : MethodName := ⟨RX11, "owed", "(II)I"⟩
abbrev cX11_heir : ByteArray := prog_1_method_16_code
def yX11_heir : MethodName := ⟨RX11, "heir", "(II)I"⟩
abbrev cX11_door : ByteArray := prog_1_method_17_code
def yX11_door : MethodName := ⟨RX11, "door", "(II)I"⟩
abbrev cX11_labour : ByteArray := prog_1_method_18_code
def yX11_labour : MethodName := ⟨RX11, "labour", "(I)I"⟩
abbrev cX11_within : ByteArray := prog_1_method_19_code
def yX11_within : MethodName := ⟨RX11, "within", "(II)I"⟩
abbrev cX11_night : ByteArray := prog_1_method_20_code
def yX11_night : MethodName := ⟨RX11, "night", "(I)I"⟩
abbrev cX11_die : ByteArray := prog_1_method_21_code
def yX11_die : MethodName := ⟨RX11, "die", "(I)I"⟩
abbrev cX11_forgive : ByteArray := prog_1_method_22_code
def yX11_forgive : MethodName := ⟨RX11, "forgive", "(II)I"⟩
abbrev cX11_forge : ByteArray := prog_1_method_23_code
def yX11_forge : MethodName := ⟨RX11, "forge", "(III)I"⟩
abbrev cX11_salt : ByteArray := prog_1_method_24_code
def yX11_salt : MethodName := ⟨RX11, "salt", "(IZ)Z"⟩
abbrev cX11_keep : ByteArray := prog_1_method_25_code
def yX11_keep : MethodName := ⟨RX11, "keep", "(IZ)Z"⟩
abbrev cX11_wall : ByteArray := prog_1_method_26_code
def yX11_wall : MethodName := ⟨RX11, "wall", "(IIZ)Z"⟩
abbrev cX11_move : ByteArray := prog_1_method_27_code
def yX11_move : MethodName := ⟨RX11, "move", "(II)Z"⟩
abbrev cX11_way : ByteArray := prog_1_method_28_code
def yX11_way : MethodName := ⟨RX11, "way", "(II)I"⟩
abbrev cX11_aim : ByteArray := prog_1_method_29_code
def yX11_aim : MethodName := ⟨RX11, "aim", "(I)I"⟩
abbrev cX11_step : ByteArray := prog_1_method_30_code
def yX11_step : MethodName := ⟨RX11, "step", "(I)I"⟩
abbrev cX11_walks : ByteArray := prog_1_method_31_code
def yX11_walks : MethodName := ⟨RX11, "walks", "(II)I"⟩
abbrev cX11_later : ByteArray := prog_1_method_32_code
def yX11_later : MethodName := ⟨RX11, "later", "(II)I"⟩
abbrev cX11_rest : ByteArray := prog_1_method_33_code
def yX11_rest : MethodName := ⟨RX11, "rest", "(I)I"⟩
abbrev cX11_quiet : ByteArray := prog_1_method_34_code
def yX11_quiet : MethodName := ⟨RX11, "quiet", "(I)I"⟩
abbrev cX11_harvest : ByteArray := prog_1_method_35_code
def yX11_harvest : MethodName := ⟨RX11, "harvest", "(II)I"⟩
abbrev cX11_visitors : ByteArray := prog_1_method_36_code
def yX11_visitors : MethodName := ⟨RX11, "visitors", "(II)I"⟩
abbrev cX11_stays : ByteArray := prog_1_method_37_code
def yX11_stays : MethodName := ⟨RX11, "stays", "(III)I"⟩
abbrev cX11_must : ByteArray := prog_1_method_38_code
def yX11_must : MethodName := ⟨RX11, "must", "(II)I"⟩
abbrev cX11_reach : ByteArray := prog_1_method_39_code
def yX11_reach : MethodName := ⟨RX11, "reach", "(I)I"⟩
abbrev cX11_tours : ByteArray := prog_1_method_40_code
def yX11_tours : MethodName := ⟨RX11, "tours", "(II)I"⟩
abbrev cX11_meets : ByteArray := prog_1_method_41_code
def yX11_meets : MethodName := ⟨RX11, "meets", "(II)I"⟩
abbrev cX11_crowd : ByteArray := prog_1_method_42_code
def yX11_crowd : MethodName := ⟨RX11, "crowd", "()I"⟩
abbrev cX11_busiest : ByteArray := prog_1_method_43_code
def yX11_busiest : MethodName := ⟨RX11, "busiest", "(I)I"⟩
abbrev cX11_exposed : ByteArray := prog_1_method_44_code
def yX11_exposed : MethodName := ⟨RX11, "exposed", "()I"⟩
abbrev cX11_wells : ByteArray := prog_1_method_45_code
def yX11_wells : MethodName := ⟨RX11, "wells", "(II)I"⟩
abbrev cX11_ways : ByteArray := prog_1_method_46_code
def yX11_ways : MethodName := ⟨RX11, "ways", "(II)I"⟩
abbrev cX11_heirs : ByteArray := prog_1_method_47_code
def yX11_heirs : MethodName := ⟨RX11, "heirs", "(II)I"⟩
abbrev cX11_loss : ByteArray := prog_1_method_48_code
def yX11_loss : MethodName := ⟨RX11, "loss", "(I)I"⟩
abbrev cX11_saint : ByteArray := prog_1_method_49_code
def yX11_saint : MethodName := ⟨RX11, "saint", "()I"⟩
abbrev cX11_keeper : ByteArray := prog_1_method_50_code
def yX11_keeper : MethodName := ⟨RX11, "keeper", "()I"⟩
abbrev cX11_lonely : ByteArray := prog_1_method_51_code
def yX11_lonely : MethodName := ⟨RX11, "lonely", "()I"⟩
abbrev cX11_due : ByteArray := prog_1_method_52_code
def yX11_due : MethodName := ⟨RX11, "due", "(I)I"⟩
abbrev cX11_net : ByteArray := prog_1_method_53_code
def yX11_net : MethodName := ⟨RX11, "net", "(I)I"⟩
abbrev cX11_wedding : ByteArray := prog_1_method_54_code
def yX11_wedding : MethodName := ⟨RX11, "wedding", "(I)I"⟩
abbrev cX11_weddingSet : ByteArray := prog_1_method_55_code
def yX11_weddingSet : MethodName := ⟨RX11, "weddingSet", "(I)I"⟩
abbrev cX11_pardon : ByteArray := prog_1_method_56_code
def yX11_pardon : MethodName := ⟨RX11, "pardon", "(II)I"⟩
abbrev cX11_pardonSet : ByteArray := prog_1_method_57_code
def yX11_pardonSet : MethodName := ⟨RX11, "pardonSet", "(II)I"⟩
abbrev cX11_pair : ByteArray := prog_1_method_58_code
def yX11_pair : MethodName := ⟨RX11, "pair", "(I)I"⟩
abbrev cX11_share : ByteArray := prog_1_method_59_code
def yX11_share : MethodName := ⟨RX11, "share", "(III)I"⟩
abbrev cX11_gracious : ByteArray := prog_1_method_60_code
def yX11_gracious : MethodName := ⟨RX11, "gracious", "()I"⟩
abbrev cX11_deepest : ByteArray := prog_1_method_61_code
def yX11_deepest : MethodName := ⟨RX11, "deepest", "()I"⟩
abbrev cX11_weight : ByteArray := prog_1_method_62_code
def yX11_weight : MethodName := ⟨RX11, "weight", "()Z"⟩
abbrev cX11_mutual : ByteArray := prog_1_method_63_code
def yX11_mutual : MethodName := ⟨RX11, "mutual", "()I"⟩
abbrev cX11_chain : ByteArray := prog_1_method_64_code
def yX11_chain : MethodName := ⟨RX11, "chain", "()I"⟩
abbrev cX11_circle : ByteArray := prog_1_method_65_code
def yX11_circle : MethodName := ⟨RX11, "circle", "(I)I"⟩
abbrev cX11_bestSalt : ByteArray := prog_1_method_66_code
def yX11_bestSalt : MethodName := ⟨RX11, "bestSalt", "()I"⟩
abbrev cX11_live : ByteArray := prog_1_method_67_code
def yX11_live : MethodName := ⟨RX11, "live", "(I)I"⟩
abbrev cX11_lived : ByteArray := prog_1_method_68_code
def yX11_lived : MethodName := ⟨RX11, "lived", "(I)I"⟩
abbrev cX11_mean : ByteArray := prog_1_method_69_code
def yX11_mean : MethodName := ⟨RX11, "mean", "(II)Z"⟩
abbrev cX11_mark : ByteArray := prog_1_method_70_code
def yX11_mark : MethodName := ⟨RX11, "mark", "()I"⟩
abbrev cX11_undo : ByteArray := prog_1_method_71_code
def yX11_undo : MethodName := ⟨RX11, "undo", "()I"⟩
abbrev cX11_answer : ByteArray := prog_1_method_72_code
def yX11_answer : MethodName := ⟨RX11, "answer", "(I)I"⟩
abbrev cX11_answerOrNone : ByteArray := prog_1_method_73_code
def yX11_answerOrNone : MethodName := ⟨RX11, "answerOrNone", "(I)I"⟩
abbrev cX11_answerSize : ByteArray := prog_1_method_74_code
def yX11_answerSize : MethodName := ⟨RX11, "answerSize", "(I)I"⟩
abbrev cX11_refuse : ByteArray := prog_1_method_75_code
def yX11_refuse : MethodName := ⟨RX11, "refuse", "(I)I"⟩
abbrev cX11_grant : ByteArray := prog_1_method_76_code
def yX11_grant : MethodName := ⟨RX11, "grant", "()Z"⟩
abbrev cX11_deny : ByteArray := prog_1_method_77_code
def yX11_deny : MethodName := ⟨RX11, "deny", "(I)Z"⟩
abbrev cX11_isHouse : ByteArray := prog_1_method_78_code
def yX11_isHouse : MethodName := ⟨RX11, "isHouse", "(I)Z"⟩
abbrev cX11_isPerson : ByteArray := prog_1_method_79_code
def yX11_isPerson : MethodName := ⟨RX11, "isPerson", "(I)Z"⟩
abbrev cX11_areTwoHouses : ByteArray := prog_1_method_80_code
def yX11_areTwoHouses : MethodName := ⟨RX11, "areTwoHouses", "(II)Z"⟩
abbrev cX11_areTwoPersons : ByteArray := prog_1_method_81_code
def yX11_areTwoPersons : MethodName := ⟨RX11, "areTwoPersons", "(II)Z"⟩
abbrev cX11_isWithin : ByteArray := prog_1_method_82_code
def yX11_isWithin : MethodName := ⟨RX11, "isWithin", "(II)Z"⟩
abbrev cX11_has : ByteArray := prog_1_method_83_code
def yX11_has : MethodName := ⟨RX11, "has", "(II)Z"⟩
abbrev cX11_bit : ByteArray := prog_1_method_84_code
def yX11_bit : MethodName := ⟨RX11, "bit", "(II)I"⟩
abbrev cX11_troubleAt : ByteArray := prog_1_method_85_code
def yX11_troubleAt : MethodName := ⟨RX11, "troubleAt", "(II)I"⟩
abbrev cX11_tellFraction : ByteArray := prog_1_method_86_code
def yX11_tellFraction : MethodName := ⟨RX11, "tellFraction", "(II)V"⟩
def RX12 : String := "SorryWalkModel"
def TX12 : u_T := fun k => match k with
  | 0 => ("SorryWalkModel", "at", "[I", true)
  | 1 => ("SorryWalkModel", "names", "[J", true)
  | 2 => ("SorryWalkModel", "status", "I", false)
  | 3 => ("SorryWalkModel", "top", "J", false)
  | 4 => ("SorryWalkModel", "bottom", "J", false)
  | 5 => ("SorryWalkModel", "sort", "[I", true)
  | 6 => ("SorryWalkModel", "trayMany", "[I", true)
  | 7 => ("SorryWalkModel", "trays", "[J", true)
  | 8 => ("SorryWalkModel", "tape", "[B", true)
  | 9 => ("SorryWalkModel", "text", "[B", true)
  | 10 => ("SorryWalkModel", "taped", "I", false)
  | 11 => ("SorryWalkModel", "size", "I", false)
  | 12 => ("SorryWalkModel", "token", "I", false)
  | 13 => ("SorryWalkModel", "from", "I", false)
  | 14 => ("SorryWalkModel", "end", "I", false)
  | 15 => ("SorryWalkModel", "value", "I", false)
  | 16 => ("SorryWalkModel", "faultKind", "I", false)
  | 17 => ("SorryWalkModel", "faultPlace", "I", false)
  | 18 => ("SorryWalkModel", "faults", "I", false)
  | 19 => ("SorryWalkModel", "seen", "I", false)
  | 20 => ("SorryWalkModel", "opened", "[I", true)
  | 21 => ("SorryWalkModel", "depth", "I", false)
  | 22 => ("SorryWalkModel", "counted", "I", false)
  | 23 => ("SorryWalkModel", "by", "[I", true)
  | 24 => ("SorryWalkModel", "ghostsIn", "[I", true)
  | 25 => ("SorryWalkModel", "shortest", "[I", true)
  | 26 => ("SorryWalkModel", "endsBy", "[I", true)
  | 27 => ("SorryWalkModel", "drawn", "I", false)
  | 28 => ("SorryWalkModel", "ranSteps", "I", false)
  | 29 => ("SorryWalkModel", "loops", "[I", true)
  | 30 => ("SorryWalkModel", "ran", "[I", true)
  | 31 => ("SorryWalkModel", "told1", "[I", true)
  | 32 => ("SorryWalkModel", "isTold", "Z", false)
  | _ => ("SorryWalkModel", "marks", "I", false)
def tyX12 : Nat → FieldType := fun k => match k with
  | 0 => .array .int
  | 1 => .array .long
  | 2 => .int
  | 3 => .long
  | 4 => .long
  | 5 => .array .int
  | 6 => .array .int
  | 7 => .array .long
  | 8 => .array .byte
  | 9 => .array .byte
  | 10 => .int
  | 11 => .int
  | 12 => .int
  | 13 => .int
  | 14 => .int
  | 15 => .int
  | 16 => .int
  | 17 => .int
  | 18 => .int
  | 19 => .int
  | 20 => .array .int
  | 21 => .int
  | 22 => .int
  | 23 => .array .int
  | 24 => .array .int
  | 25 => .array .int
  | 26 => .array .int
  | 27 => .int
  | 28 => .int
  | 29 => .array .int
  | 30 => .array .int
  | 31 => .array .int
  | 32 => .boolean
  | _ => .int
abbrev wsX120 : List Cond := u_ws RX12 TX12 34
theorem nmX12 : ∀ a, a < 34 → ∀ b, b < 34 → a ≠ b → (TX12 a).2.1 ≠ (TX12 b).2.1 := by decide +kernel
theorem tyX12_ok : ∀ k, k < 34 → parseFieldDescriptor (TX12 k).2.2.1 = some (tyX12 k) := by decide +kernel
abbrev cX12_init : ByteArray := prog_14_method_1_code
def yX12_init : MethodName := ⟨RX12, "<init>", "()V"⟩
abbrev cX12_plain : ByteArray := prog_14_method_2_code
def yX12_plain : MethodName := ⟨RX12, "plain", "(I)V"⟩
abbrev cX12_status : ByteArray := prog_14_method_3_code
def yX12_status : MethodName := ⟨RX12, "status", "()I"⟩
abbrev cX12_top : ByteArray := prog_14_method_4_code
def yX12_top : MethodName := ⟨RX12, "top", "()J"⟩
abbrev cX12_bottom : ByteArray := prog_14_method_5_code
def yX12_bottom : MethodName := ⟨RX12, "bottom", "()J"⟩
abbrev cX12_is : ByteArray := prog_14_method_6_code
def yX12_is : MethodName := ⟨RX12, "is", "(I)Z"⟩
abbrev cX12_refuse : ByteArray := prog_14_method_7_code
def yX12_refuse : MethodName := ⟨RX12, "refuse", "(I)I"⟩
abbrev cX12_gives : ByteArray := prog_14_method_8_code
def yX12_gives : MethodName := ⟨RX12, "gives", "(I)I"⟩
abbrev cX12_orNone : ByteArray := prog_14_method_9_code
def yX12_orNone : MethodName := ⟨RX12, "orNone", "(I)I"⟩
abbrev cX12_tellsBy : ByteArray := prog_14_method_10_code
def yX12_tellsBy : MethodName := ⟨RX12, "tellsBy", "(JJ)Z"⟩
abbrev cX12_isTray : ByteArray := prog_14_method_11_code
def yX12_isTray : MethodName := ⟨RX12, "isTray", "(I)Z"⟩
abbrev cX12_cut : ByteArray := prog_14_method_12_code
def yX12_cut : MethodName := ⟨RX12, "cut", "(JI)J"⟩
abbrev cX12_tray : ByteArray := prog_14_method_13_code
def yX12_tray : MethodName := ⟨RX12, "tray", "(III)Z"⟩
abbrev cX12_wrongPlace : ByteArray := prog_14_method_14_code
def yX12_wrongPlace : MethodName := ⟨RX12, "wrongPlace", "(II)I"⟩
abbrev cX12_write : ByteArray := prog_14_method_15_code
def yX12_write : MethodName := ⟨RX12, "write", "(IIJ)Z"⟩
abbrev cX12_read : ByteArray := prog_14_method_16_code
def yX12_read : MethodName := ⟨RX12, "read", "(II)J"⟩
abbrev cX12_pour : ByteArray := prog_14_method_17_code
def yX12_pour : MethodName := ⟨RX12, "pour", "(IIIII)Z"⟩
abbrev cX12_isFrom : ByteArray := prog_14_method_18_code
def yX12_isFrom : MethodName := ⟨RX12, "isFrom", "(JJJ)Z"⟩
abbrev cX12_feed : ByteArray := prog_14_method_19_code
def yX12_feed : MethodName := ⟨RX12, "feed", "(IIIII)I"⟩
abbrev cX12_four : ByteArray := prog_14_method_20_code
def yX12_four : MethodName := ⟨RX12, "four", "(I)V"⟩
abbrev cX12_byteAt : ByteArray := prog_14_method_21_code
def yX12_byteAt : MethodName := ⟨RX12, "byteAt", "(I)I"⟩
abbrev cX12_isSmall : ByteArray := prog_14_method_22_code
def yX12_isSmall : MethodName := ⟨RX12, "isSmall", "(I)Z"⟩
abbrev cX12_isDigit : ByteArray := prog_14_method_23_code
def yX12_isDigit : MethodName := ⟨RX12, "isDigit", "(I)Z"⟩
abbrev cX12_ahead : ByteArray := prog_14_method_24_code
def yX12_ahead : MethodName := ⟨RX12, "ahead", "()V"⟩
abbrev cX12_isSign : ByteArray := prog_14_method_25_code
def yX12_isSign : MethodName := ⟨RX12, "isSign", "(I)Z"⟩
abbrev cX12_inWords : ByteArray := prog_14_method_26_code
def yX12_inWords : MethodName := ⟨RX12, "inWords", "(Ljava/lang/String;)I"⟩
abbrev cX12_fails : ByteArray := prog_14_method_27_code
def yX12_fails : MethodName := ⟨RX12, "fails", "(I)Z"⟩
abbrev cX12_begins : ByteArray := prog_14_method_28_code
def yX12_begins : MethodName := ⟨RX12, "begins", "(II)Z"⟩
abbrev cX12_wantSign : ByteArray := prog_14_method_29_code
def yX12_wantSign : MethodName := ⟨RX12, "wantSign", "(I)Z"⟩
abbrev cX12_wantWord : ByteArray := prog_14_method_30_code
def yX12_wantWord : MethodName := ⟨RX12, "wantWord", "(Ljava/lang/String;I)Z"⟩
abbrev cX12_number : ByteArray := prog_14_method_31_code
def yX12_number : MethodName := ⟨RX12, "number", "(III)Z"⟩
abbrev cX12_isName : ByteArray := prog_14_method_32_code
def yX12_isName : MethodName := ⟨RX12, "isName", "(Ljava/lang/String;)Z"⟩
abbrev cX12_nameHere : ByteArray := prog_14_method_33_code
def yX12_nameHere : MethodName := ⟨RX12, "nameHere", "()J"⟩
abbrev cX12_findHere : ByteArray := prog_14_method_34_code
def yX12_findHere : MethodName := ⟨RX12, "findHere", "(II)I"⟩
abbrev cX12_fault : ByteArray := prog_14_method_35_code
def yX12_fault : MethodName := ⟨RX12, "fault", "(I)I"⟩
abbrev cX12_taken : ByteArray := prog_14_method_36_code
def yX12_taken : MethodName := ⟨RX12, "taken", "(I)I"⟩
abbrev cX12_isThere : ByteArray := prog_14_method_37_code
def yX12_isThere : MethodName := ⟨RX12, "isThere", "(I)Z"⟩
abbrev cX12_newOne : ByteArray := prog_14_method_38_code
def yX12_newOne : MethodName := ⟨RX12, "newOne", "(III)Z"⟩
abbrev cX12_oldOne : ByteArray := prog_14_method_39_code
def yX12_oldOne : MethodName := ⟨RX12, "oldOne", "(III)Z"⟩
abbrev cX12_aHouse : ByteArray := prog_14_method_40_code
def yX12_aHouse : MethodName := ⟨RX12, "aHouse", "()Z"⟩
abbrev cX12_twoTo : ByteArray := prog_14_method_41_code
def yX12_twoTo : MethodName := ⟨RX12, "twoTo", "(III)Z"⟩
abbrev cX12_aDoor : ByteArray := prog_14_method_42_code
def yX12_aDoor : MethodName := ⟨RX12, "aDoor", "()Z"⟩
abbrev cX12_aPerson : ByteArray := prog_14_method_43_code
def yX12_aPerson : MethodName := ⟨RX12, "aPerson", "()Z"⟩
abbrev cX12_aDebt : ByteArray := prog_14_method_44_code
def yX12_aDebt : MethodName := ⟨RX12, "aDebt", "()Z"⟩
abbrev cX12_anHeir : ByteArray := prog_14_method_45_code
def yX12_anHeir : MethodName := ⟨RX12, "anHeir", "()Z"⟩
abbrev cX12_landPart : ByteArray := prog_14_method_46_code
def yX12_landPart : MethodName := ⟨RX12, "landPart", "()Z"⟩
abbrev cX12_land : ByteArray := prog_14_method_47_code
def yX12_land : MethodName := ⟨RX12, "land", "(I)I"⟩
abbrev cX12_houseTo : ByteArray := prog_14_method_48_code
def yX12_houseTo : MethodName := ⟨RX12, "houseTo", "(I)Z"⟩
abbrev cX12_personTo : ByteArray := prog_14_method_49_code
def yX12_personTo : MethodName := ⟨RX12, "personTo", "(I)Z"⟩
abbrev cX12_test : ByteArray := prog_14_method_50_code
def yX12_test : MethodName := ⟨RX12, "test", "(I)Z"⟩
abbrev cX12_taleOrder : ByteArray := prog_14_method_51_code
def yX12_taleOrder : MethodName := ⟨RX12, "taleOrder", "(II)Z"⟩
abbrev cX12_taleStep : ByteArray := prog_14_method_52_code
def yX12_taleStep : MethodName := ⟨RX12, "taleStep", "()Z"⟩
abbrev cX12_tales : ByteArray := prog_14_method_53_code
def yX12_tales : MethodName := ⟨RX12, "tales", "(I)I"⟩
abbrev cX12_houseRow : ByteArray := prog_14_method_54_code
def yX12_houseRow : MethodName := ⟨RX12, "houseRow", "(I)I"⟩
abbrev cX12_personRow : ByteArray := prog_14_method_55_code
def yX12_personRow : MethodName := ⟨RX12, "personRow", "(I)I"⟩
abbrev cX12_isHouse : ByteArray := prog_14_method_56_code
def yX12_isHouse : MethodName := ⟨RX12, "isHouse", "(I)Z"⟩
abbrev cX12_isPerson : ByteArray := prog_14_method_57_code
def yX12_isPerson : MethodName := ⟨RX12, "isPerson", "(I)Z"⟩
abbrev cX12_areTwo : ByteArray := prog_14_method_58_code
def yX12_areTwo : MethodName := ⟨RX12, "areTwo", "(II)Z"⟩
abbrev cX12_isIn : ByteArray := prog_14_method_59_code
def yX12_isIn : MethodName := ⟨RX12, "isIn", "(II)Z"⟩
abbrev cX12_bits : ByteArray := prog_14_method_60_code
def yX12_bits : MethodName := ⟨RX12, "bits", "(I)I"⟩
abbrev cX12_isSalt : ByteArray := prog_14_method_61_code
def yX12_isSalt : MethodName := ⟨RX12, "isSalt", "(I)Z"⟩
abbrev cX12_isDead : ByteArray := prog_14_method_62_code
def yX12_isDead : MethodName := ⟨RX12, "isDead", "(I)Z"⟩
abbrev cX12_whereOf : ByteArray := prog_14_method_63_code
def yX12_whereOf : MethodName := ⟨RX12, "whereOf", "(I)I"⟩
abbrev cX12_owes : ByteArray := prog_14_method_64_code
def yX12_owes : MethodName := ⟨RX12, "owes", "(II)I"⟩
abbrev cX12_owesNow : ByteArray := prog_14_method_65_code
def yX12_owesNow : MethodName := ⟨RX12, "owesNow", "(III)V"⟩
abbrev cX12_owesAll : ByteArray := prog_14_method_66_code
def yX12_owesAll : MethodName := ⟨RX12, "owesAll", "(I)I"⟩
abbrev cX12_owedAll : ByteArray := prog_14_method_67_code
def yX12_owedAll : MethodName := ⟨RX12, "owedAll", "(I)I"⟩
abbrev cX12_sorrow : ByteArray := prog_14_method_68_code
def yX12_sorrow : MethodName := ⟨RX12, "sorrow", "()I"⟩
abbrev cX12_isGhost : ByteArray := prog_14_method_69_code
def yX12_isGhost : MethodName := ⟨RX12, "isGhost", "(I)Z"⟩
abbrev cX12_setOf : ByteArray := prog_14_method_70_code
def yX12_setOf : MethodName := ⟨RX12, "setOf", "(I)I"⟩
abbrev cX12_told : ByteArray := prog_14_method_71_code
def yX12_told : MethodName := ⟨RX12, "told", "(I)I"⟩
abbrev cX12_person : ByteArray := prog_14_method_72_code
def yX12_person : MethodName := ⟨RX12, "person", "(II)I"⟩
abbrev cX12_owed : ByteArray := prog_14_method_73_code
def yX12_owed : MethodName := ⟨RX12, "owed", "(II)I"⟩
abbrev cX12_heir : ByteArray := prog_14_method_74_code
def yX12_heir : MethodName := ⟨RX12, "heir", "(II)I"⟩
abbrev cX12_isDoor : ByteArray := prog_14_method_75_code
def yX12_isDoor : MethodName := ⟨RX12, "isDoor", "(II)Z"⟩
abbrev cX12_door : ByteArray := prog_14_method_76_code
def yX12_door : MethodName := ⟨RX12, "door", "(II)I"⟩
abbrev cX12_labour : ByteArray := prog_14_method_77_code
def yX12_labour : MethodName := ⟨RX12, "labour", "(I)I"⟩
abbrev cX12_inHouse : ByteArray := prog_14_method_78_code
def yX12_inHouse : MethodName := ⟨RX12, "inHouse", "(I)I"⟩
abbrev cX12_within : ByteArray := prog_14_method_79_code
def yX12_within : MethodName := ⟨RX12, "within", "(II)I"⟩
abbrev cX12_laysWays : ByteArray := prog_14_method_80_code
def yX12_laysWays : MethodName := ⟨RX12, "laysWays", "(II)V"⟩
abbrev cX12_aimOf : ByteArray := prog_14_method_81_code
def yX12_aimOf : MethodName := ⟨RX12, "aimOf", "(I)I"⟩
abbrev cX12_nextOn : ByteArray := prog_14_method_82_code
def yX12_nextOn : MethodName := ⟨RX12, "nextOn", "(II)I"⟩
abbrev cX12_stepOf : ByteArray := prog_14_method_83_code
def yX12_stepOf : MethodName := ⟨RX12, "stepOf", "(I)I"⟩
abbrev cX12_sorries : ByteArray := prog_14_method_84_code
def yX12_sorries : MethodName := ⟨RX12, "sorries", "(II)V"⟩
abbrev cX12_night0 : ByteArray := prog_14_method_85_code
def yX12_night0 : MethodName := ⟨RX12, "night0", "()V"⟩
abbrev cX12_night : ByteArray := prog_14_method_86_code
def yX12_night : MethodName := ⟨RX12, "night", "(I)I"⟩
abbrev cX12_heirsBut : ByteArray := prog_14_method_87_code
def yX12_heirsBut : MethodName := ⟨RX12, "heirsBut", "(II)I"⟩
abbrev cX12_isHeirOf : ByteArray := prog_14_method_88_code
def yX12_isHeirOf : MethodName := ⟨RX12, "isHeirOf", "(II)Z"⟩
abbrev cX12_partOf : ByteArray := prog_14_method_89_code
def yX12_partOf : MethodName := ⟨RX12, "partOf", "(III)I"⟩
abbrev cX12_dies : ByteArray := prog_14_method_90_code
def yX12_dies : MethodName := ⟨RX12, "dies", "(I)Z"⟩
abbrev cX12_die : ByteArray := prog_14_method_91_code
def yX12_die : MethodName := ⟨RX12, "die", "(I)I"⟩
abbrev cX12_forgives : ByteArray := prog_14_method_92_code
def yX12_forgives : MethodName := ⟨RX12, "forgives", "(II)I"⟩
abbrev cX12_forgive : ByteArray := prog_14_method_93_code
def yX12_forgive : MethodName := ⟨RX12, "forgive", "(II)I"⟩
abbrev cX12_forges : ByteArray := prog_14_method_94_code
def yX12_forges : MethodName := ⟨RX12, "forges", "(III)Z"⟩
abbrev cX12_forge : ByteArray := prog_14_method_95_code
def yX12_forge : MethodName := ⟨RX12, "forge", "(III)I"⟩
abbrev cX12_turns : ByteArray := prog_14_method_96_code
def yX12_turns : MethodName := ⟨RX12, "turns", "(IZ)Z"⟩
abbrev cX12_salt : ByteArray := prog_14_method_97_code
def yX12_salt : MethodName := ⟨RX12, "salt", "(IZ)Z"⟩
abbrev cX12_keep : ByteArray := prog_14_method_98_code
def yX12_keep : MethodName := ⟨RX12, "keep", "(IZ)Z"⟩
abbrev cX12_wall : ByteArray := prog_14_method_99_code
def yX12_wall : MethodName := ⟨RX12, "wall", "(IIZ)Z"⟩
abbrev cX12_move : ByteArray := prog_14_method_100_code
def yX12_move : MethodName := ⟨RX12, "move", "(II)Z"⟩
abbrev cX12_way : ByteArray := prog_14_method_101_code
def yX12_way : MethodName := ⟨RX12, "way", "(II)I"⟩
abbrev cX12_aim : ByteArray := prog_14_method_102_code
def yX12_aim : MethodName := ⟨RX12, "aim", "(I)I"⟩
abbrev cX12_step : ByteArray := prog_14_method_103_code
def yX12_step : MethodName := ⟨RX12, "step", "(I)I"⟩
abbrev cX12_keeps : ByteArray := prog_14_method_104_code
def yX12_keeps : MethodName := ⟨RX12, "keeps", "(I)V"⟩
abbrev cX12_restores : ByteArray := prog_14_method_105_code
def yX12_restores : MethodName := ⟨RX12, "restores", "(I)V"⟩
abbrev cX12_nights : ByteArray := prog_14_method_106_code
def yX12_nights : MethodName := ⟨RX12, "nights", "(I)V"⟩
abbrev cX12_isLater : ByteArray := prog_14_method_107_code
def yX12_isLater : MethodName := ⟨RX12, "isLater", "(I)Z"⟩
abbrev cX12_walks : ByteArray := prog_14_method_108_code
def yX12_walks : MethodName := ⟨RX12, "walks", "(II)I"⟩
abbrev cX12_later : ByteArray := prog_14_method_109_code
def yX12_later : MethodName := ⟨RX12, "later", "(II)I"⟩
abbrev cX12_isSo : ByteArray := prog_14_method_110_code
def yX12_isSo : MethodName := ⟨RX12, "isSo", "(III)Z"⟩
abbrev cX12_nightsTill : ByteArray := prog_14_method_111_code
def yX12_nightsTill : MethodName := ⟨RX12, "nightsTill", "(IIII)I"⟩
abbrev cX12_rest : ByteArray := prog_14_method_112_code
def yX12_rest : MethodName := ⟨RX12, "rest", "(I)I"⟩
abbrev cX12_quiet : ByteArray := prog_14_method_113_code
def yX12_quiet : MethodName := ⟨RX12, "quiet", "(I)I"⟩
abbrev cX12_harvest : ByteArray := prog_14_method_114_code
def yX12_harvest : MethodName := ⟨RX12, "harvest", "(II)I"⟩
abbrev cX12_visitors : ByteArray := prog_14_method_115_code
def yX12_visitors : MethodName := ⟨RX12, "visitors", "(II)I"⟩
abbrev cX12_stays : ByteArray := prog_14_method_116_code
def yX12_stays : MethodName := ⟨RX12, "stays", "(III)I"⟩
abbrev cX12_must : ByteArray := prog_14_method_117_code
def yX12_must : MethodName := ⟨RX12, "must", "(II)I"⟩
abbrev cX12_reach : ByteArray := prog_14_method_118_code
def yX12_reach : MethodName := ⟨RX12, "reach", "(I)I"⟩
abbrev cX12_tours : ByteArray := prog_14_method_119_code
def yX12_tours : MethodName := ⟨RX12, "tours", "(II)I"⟩
abbrev cX12_meets : ByteArray := prog_14_method_120_code
def yX12_meets : MethodName := ⟨RX12, "meets", "(II)I"⟩
abbrev cX12_mostOf : ByteArray := prog_14_method_121_code
def yX12_mostOf : MethodName := ⟨RX12, "mostOf", "([I)I"⟩
abbrev cX12_counts : ByteArray := prog_14_method_122_code
def yX12_counts : MethodName := ⟨RX12, "counts", "()V"⟩
abbrev cX12_clears : ByteArray := prog_14_method_123_code
def yX12_clears : MethodName := ⟨RX12, "clears", "()V"⟩
abbrev cX12_crowd : ByteArray := prog_14_method_124_code
def yX12_crowd : MethodName := ⟨RX12, "crowd", "()I"⟩
abbrev cX12_busiest : ByteArray := prog_14_method_125_code
def yX12_busiest : MethodName := ⟨RX12, "busiest", "(I)I"⟩
abbrev cX12_exposed : ByteArray := prog_14_method_126_code
def yX12_exposed : MethodName := ⟨RX12, "exposed", "()I"⟩
abbrev cX12_wells : ByteArray := prog_14_method_127_code
def yX12_wells : MethodName := ⟨RX12, "wells", "(II)I"⟩
abbrev cX12_ways : ByteArray := prog_14_method_128_code
def yX12_ways : MethodName := ⟨RX12, "ways", "(II)I"⟩
abbrev cX12_heirs : ByteArray := prog_14_method_129_code
def yX12_heirs : MethodName := ⟨RX12, "heirs", "(II)I"⟩
abbrev cX12_sorrowBehind : ByteArray := prog_14_method_130_code
def yX12_sorrowBehind : MethodName := ⟨RX12, "sorrowBehind", "(I)I"⟩
abbrev cX12_loss : ByteArray := prog_14_method_131_code
def yX12_loss : MethodName := ⟨RX12, "loss", "(I)I"⟩
abbrev cX12_saint : ByteArray := prog_14_method_132_code
def yX12_saint : MethodName := ⟨RX12, "saint", "()I"⟩
abbrev cX12_labourBy : ByteArray := prog_14_method_133_code
def yX12_labourBy : MethodName := ⟨RX12, "labourBy", "(I)I"⟩
abbrev cX12_keeper : ByteArray := prog_14_method_134_code
def yX12_keeper : MethodName := ⟨RX12, "keeper", "()I"⟩
abbrev cX12_lonely : ByteArray := prog_14_method_135_code
def yX12_lonely : MethodName := ⟨RX12, "lonely", "()I"⟩
abbrev cX12_due : ByteArray := prog_14_method_136_code
def yX12_due : MethodName := ⟨RX12, "due", "(I)I"⟩
abbrev cX12_net : ByteArray := prog_14_method_137_code
def yX12_net : MethodName := ⟨RX12, "net", "(I)I"⟩
abbrev cX12_isHaunted : ByteArray := prog_14_method_138_code
def yX12_isHaunted : MethodName := ⟨RX12, "isHaunted", "(I)Z"⟩
abbrev cX12_weddingOf : ByteArray := prog_14_method_139_code
def yX12_weddingOf : MethodName := ⟨RX12, "weddingOf", "(I)I"⟩
abbrev cX12_wedding : ByteArray := prog_14_method_140_code
def yX12_wedding : MethodName := ⟨RX12, "wedding", "(I)I"⟩
abbrev cX12_weddingSet : ByteArray := prog_14_method_141_code
def yX12_weddingSet : MethodName := ⟨RX12, "weddingSet", "(I)I"⟩
abbrev cX12_pardonOf : ByteArray := prog_14_method_142_code
def yX12_pardonOf : MethodName := ⟨RX12, "pardonOf", "(II)I"⟩
abbrev cX12_isPardon : ByteArray := prog_14_method_143_code
def yX12_isPardon : MethodName := ⟨RX12, "isPardon", "(II)Z"⟩
abbrev cX12_pardon : ByteArray := prog_14_method_144_code
def yX12_pardon : MethodName := ⟨RX12, "pardon", "(II)I"⟩
abbrev cX12_pardonSet : ByteArray := prog_14_method_145_code
def yX12_pardonSet : MethodName := ⟨RX12, "pardonSet", "(II)I"⟩
abbrev cX12_areMutual : ByteArray := prog_14_method_146_code
def yX12_areMutual : MethodName := ⟨RX12, "areMutual", "(II)Z"⟩
abbrev cX12_pair : ByteArray := prog_14_method_147_code
def yX12_pair : MethodName := ⟨RX12, "pair", "(I)I"⟩
abbrev cX12_share : ByteArray := prog_14_method_148_code
def yX12_share : MethodName := ⟨RX12, "share", "(III)I"⟩
abbrev cX12_gracious : ByteArray := prog_14_method_149_code
def yX12_gracious : MethodName := ⟨RX12, "gracious", "()I"⟩
abbrev cX12_deepest : ByteArray := prog_14_method_150_code
def yX12_deepest : MethodName := ⟨RX12, "deepest", "()I"⟩
abbrev cX12_weight : ByteArray := prog_14_method_151_code
def yX12_weight : MethodName := ⟨RX12, "weight", "()Z"⟩
abbrev cX12_mutual : ByteArray := prog_14_method_152_code
def yX12_mutual : MethodName := ⟨RX12, "mutual", "()I"⟩
abbrev cX12_chain : ByteArray := prog_14_method_153_code
def yX12_chain : MethodName := ⟨RX12, "chain", "()I"⟩
abbrev cX12_circle : ByteArray := prog_14_method_154_code
def yX12_circle : MethodName := ⟨RX12, "circle", "(I)I"⟩
abbrev cX12_bestSalt : ByteArray := prog_14_method_155_code
def yX12_bestSalt : MethodName := ⟨RX12, "bestSalt", "()I"⟩
abbrev cX12_draw : ByteArray := prog_14_method_156_code
def yX12_draw : MethodName := ⟨RX12, "draw", "(I)I"⟩
abbrev cX12_diesBy : ByteArray := prog_14_method_157_code
def yX12_diesBy : MethodName := ⟨RX12, "diesBy", "(I)Z"⟩
abbrev cX12_diesAny : ByteArray := prog_14_method_158_code
def yX12_diesAny : MethodName := ⟨RX12, "diesAny", "()Z"⟩
abbrev cX12_nightsBy : ByteArray := prog_14_method_159_code
def yX12_nightsBy : MethodName := ⟨RX12, "nightsBy", "(I)Z"⟩
abbrev cX12_does : ByteArray := prog_14_method_160_code
def yX12_does : MethodName := ⟨RX12, "does", "(I)Z"⟩
abbrev cX12_holds : ByteArray := prog_14_method_161_code
def yX12_holds : MethodName := ⟨RX12, "holds", "(I)Z"⟩
abbrev cX12_behindEnds : ByteArray := prog_14_method_162_code
def yX12_behindEnds : MethodName := ⟨RX12, "behindEnds", "(I)I"⟩
abbrev cX12_lives : ByteArray := prog_14_method_163_code
def yX12_lives : MethodName := ⟨RX12, "lives", "(I)V"⟩
abbrev cX12_live : ByteArray := prog_14_method_164_code
def yX12_live : MethodName := ⟨RX12, "live", "(I)I"⟩
abbrev cX12_lived : ByteArray := prog_14_method_165_code
def yX12_lived : MethodName := ⟨RX12, "lived", "(I)I"⟩
abbrev cX12_mean : ByteArray := prog_14_method_166_code
def yX12_mean : MethodName := ⟨RX12, "mean", "(II)Z"⟩
abbrev cX12_copies : ByteArray := prog_14_method_167_code
def yX12_copies : MethodName := ⟨RX12, "copies", "(II)V"⟩
abbrev cX12_mark : ByteArray := prog_14_method_168_code
def yX12_mark : MethodName := ⟨RX12, "mark", "()I"⟩
abbrev cX12_undo : ByteArray := prog_14_method_169_code
def yX12_undo : MethodName := ⟨RX12, "undo", "()I"⟩
def RJ6 : String := "java/lang/Integer"
abbrev cJ6_bitCount_0f7a4 : ByteArray := prog_15_method_49_code
def yJ6_bitCount_0f7a4 : MethodName := ⟨RJ6, "bitCount", "(I)I"⟩
def RJ9 : String := "java/lang/Math"
abbrev cJ9_max_7cf53 : ByteArray := prog_16_method_65_code
def yJ9_max_7cf53 : MethodName := ⟨RJ9, "max", "(II)I"⟩
abbrev cJ9_min_7cf53 : ByteArray := prog_16_method_69_code
def yJ9_min_7cf53 : MethodName := ⟨RJ9, "min", "(II)I"⟩
def RJ0 : String := "java/lang/String"
abbrev cJ0_length_8abf5 : ByteArray := prog_17_method_54_code
def yJ0_length_8abf5 : MethodName := ⟨RJ0, "length", "()I"⟩
abbrev cJ0_charAt_5068e : ByteArray := prog_17_method_56_code
def yJ0_charAt_5068e : MethodName := ⟨RJ0, "charAt", "(I)C"⟩
abbrev cJ0_coder_7d493 : ByteArray := prog_17_method_152_code
def yJ0_coder_7d493 : MethodName := ⟨RJ0, "coder", "()B"⟩
abbrev cJ0_isLatin1_aae02 : ByteArray := prog_17_method_154_code
def yJ0_isLatin1_aae02 : MethodName := ⟨RJ0, "isLatin1", "()Z"⟩
abbrev cJ0_checkIndex_df160 : ByteArray := prog_17_method_155_code
def yJ0_checkIndex_df160 : MethodName := ⟨RJ0, "checkIndex", "(II)V"⟩
def RJ1 : String := "java/lang/StringLatin1"
abbrev cJ1_charAt_3b067 : ByteArray := prog_18_method_2_code
def yJ1_charAt_3b067 : MethodName := ⟨RJ1, "charAt", "([BI)C"⟩
def RJ2 : String := "java/lang/StringUTF16"
abbrev cJ2_getChar_3b067 : ByteArray := prog_19_method_5_code
def yJ2_getChar_3b067 : MethodName := ⟨RJ2, "getChar", "([BI)C"⟩
abbrev cJ2_length_9d52b : ByteArray := prog_19_method_6_code
def yJ2_length_9d52b : MethodName := ⟨RJ2, "length", "([B)I"⟩
abbrev cJ2_charAt_3b067 : ByteArray := prog_19_method_83_code
def yJ2_charAt_3b067 : MethodName := ⟨RJ2, "charAt", "([BI)C"⟩
abbrev cJ2_checkIndex_2214a : ByteArray := prog_19_method_91_code
def yJ2_checkIndex_2214a : MethodName := ⟨RJ2, "checkIndex", "(I[B)V"⟩
def RJ10 : String := "java/lang/System"
def RJ7 : String := "java/util/Arrays"
abbrev cJ7_fill_d0a16 : ByteArray := prog_21_method_101_code
def yJ7_fill_d0a16 : MethodName := ⟨RJ7, "fill", "([JJ)V"⟩
abbrev cJ7_fill_53178 : ByteArray := prog_21_method_103_code
def yJ7_fill_53178 : MethodName := ⟨RJ7, "fill", "([II)V"⟩
def RJ3 : String := "jdk/internal/util/Preconditions"
abbrev cJ3_checkIndex_8e157 : ByteArray := prog_22_method_11_code
def yJ3_checkIndex_8e157 : MethodName := ⟨RJ3, "checkIndex", "(IILjava/util/function/BiFunction;)I"⟩
def RL : String := "SorryWalkLaw"
abbrev cL_law : ByteArray := code
def yL_law : MethodName := ⟨RL, "law", "([I)Z"⟩
abbrev vwCl : List vw_C := [(RX0, TX0, 2), (RX1, TX1, 15), (RX2, TX2, 2), (RX3, TX3, 9), (RX4, TX4, 3), (RX5, TX5, 6), (RX6, TX6, 2), (RX7, TX7, 8), (RX8, TX8, 5), (RX9, TX9, 12), (RX10, TX10, 4), (RX11, TX11, 18), (RX12, TX12, 34)]
end
section
/-! THE ABSTRACT MACHINE, 1: data. A value is a pair of a tag and a number: (0, n) an int, (1, n) a long, (2, k) the cell k, (3, _) null, (4, k) the int unknown k, (5, k) the long unknown k, (6, i) an old cell. -/
abbrev AV : Type := Nat × Nat
abbrev AC : Type := Nat × Nat × List (List AV)
abbrev AH : Type := Nat × List (List AC)
abbrev AS : Type := List (Nat × Nat)
abbrev AL : Type := List (Nat × AV)
abbrev ME : Type := Nat × Nat × Nat × List Nat × Instr
abbrev MR : Type := MethodName × ByteArray × Nat × Option FieldType × Room × Nat × List ME
abbrev AO : Type := AS × AH × Nat × Nat × Nat × Nat × AL × List AV
abbrev RS : Type := Option (List AO)
noncomputable def ax_fc {β : Type} (n : Nat) (k : Nat → β) : β := Nat.rec (motive := fun _ => β) (k 0) (fun m _ => k (Nat.succ m)) n
theorem ax_fc_eq {β : Type} (n : Nat) (k : Nat → β) : ax_fc n k = k n := by cases n <;> rfl
noncomputable def ax_nth {α : Type} (l : List α) : Nat → Option α := List.rec (motive := fun _ => Nat → Option α) (fun _ => none) (fun x _ ih n => Nat.rec (motive := fun _ => Option α) (some x) (fun m _ => ih m) n) l
theorem ax_nth_eq {α : Type} (l : List α) (n : Nat) : ax_nth l n = l[n]? := by
  induction l generalizing n with
  | nil => rfl
  | cons x t ih =>
    cases n with
    | zero => rfl
    | succ m => exact (ih m).trans (by simp)
noncomputable def ax_set {α β : Type} (l : List α) : Nat → α → (List α → β) → β := List.rec (motive := fun _ => Nat → α → (List α → β) → β) (fun _ _ k => k []) (fun x t ih n v k => Nat.rec (motive := fun _ => β) (k (v :: t)) (fun m _ => ih m v (fun t' => k (x :: t'))) n) l
theorem ax_set_eq {α β : Type} (l : List α) (n : Nat) (v : α) (k : List α → β) : ax_set l n v k = k (l.set n v) := by
  induction l generalizing n k with
  | nil => rfl
  | cons x t ih =>
    cases n with
    | zero => rfl
    | succ m => exact (ih m (fun t' => k (x :: t'))).trans (by simp)
/-- what stands at place j of rows of 64 -/
noncomputable def ax_el (cs : List (List AV)) (j : Nat) : Option AV := match ax_nth cs (j / 64) with
  | some ch => ax_nth ch (j % 64)
  | none => none
def ax_stv (cs : List (List AV)) (j : Nat) (v : AV) : List (List AV) := match cs[j / 64]? with
  | some ch => cs.set (j / 64) (ch.set (j % 64) v)
  | none => cs
noncomputable def ax_st {β : Type} (cs : List (List AV)) (j : Nat) (v : AV) (k : List (List AV) → β) : β := match ax_nth cs (j / 64) with
  | some ch => ax_set ch (j % 64) v (fun ch' => ax_set cs (j / 64) ch' k)
  | none => k cs
theorem ax_st_eq {β : Type} (cs : List (List AV)) (j : Nat) (v : AV) (k : List (List AV) → β) : ax_st cs j v k = k (ax_stv cs j v) := by
  unfold ax_st ax_stv
  rw [ax_nth_eq]
  cases cs[j / 64]? with
  | none => rfl
  | some ch => exact (ax_set_eq _ _ _ _).trans (ax_set_eq _ _ _ _)
theorem ax_el_stv {cs : List (List AV)} {j i : Nat} {v w : AV} (h : ax_el (ax_stv cs j v) i = some w) : (i = j ∧ w = v) ∨ (i ≠ j ∧ ax_el cs i = some w) := by
  unfold ax_el at h ⊢
  rw [ax_nth_eq] at h ⊢
  unfold ax_stv at h
  cases hc : cs[j / 64]? with
  | none =>
    rw [hc] at h
    by_cases hij : i = j
    · subst hij
      simp [hc] at h
    · exact Or.inr ⟨hij, h⟩
  | some ch =>
    rw [hc] at h
    dsimp only at h
    by_cases hq : i / 64 = j / 64
    · rw [hq] at h ⊢
      rw [hc]
      have hl : j / 64 < cs.length := (List.getElem?_eq_some_iff.mp hc).1
      rw [List.getElem?_set_self hl] at h
      dsimp only at h ⊢
      rw [ax_nth_eq] at h ⊢
      by_cases hr : i % 64 = j % 64
      · have hij : i = j := by omega
        rw [hr] at h
        rw [List.getElem?_set] at h
        simp only [if_true] at h
        split at h
        · exact Or.inl ⟨hij, (Option.some.inj h).symm⟩
        · cases h
      · rw [List.getElem?_set_ne (fun q => hr q.symm)] at h
        exact Or.inr ⟨fun q => hr (by rw [q]), h⟩
    · rw [List.getElem?_set_ne (fun q => hq q.symm)] at h
      exact Or.inr ⟨fun q => hq (by rw [q]), h⟩
theorem ax_el_nil {j : Nat} {w : AV} (h : ax_el [] j = some w) : False := by
  unfold ax_el at h
  rw [ax_nth_eq] at h
  simp at h
/-- rows of one value -/
def ax_rep (n : Nat) (v : AV) : List (List AV) := List.replicate (n / 64) (List.replicate 64 v) ++ [List.replicate (n % 64) v]
theorem ax_el_rep {n j : Nat} {v w : AV} (h : ax_el (ax_rep n v) j = some w) : w = v := by
  unfold ax_el at h
  rw [ax_nth_eq] at h
  unfold ax_rep at h
  cases hc : (List.replicate (n / 64) (List.replicate 64 v) ++ [List.replicate (n % 64) v])[j / 64]? with
  | none => rw [hc] at h; cases h
  | some ch =>
    rw [hc] at h
    dsimp only at h
    rw [ax_nth_eq] at h
    have hm := List.mem_of_getElem? hc
    have hw := List.mem_of_getElem? h
    rcases List.mem_append.mp hm with q | q
    · rw [List.eq_of_mem_replicate q] at hw
      exact List.eq_of_mem_replicate hw
    · rw [List.mem_singleton.mp q] at hw
      exact List.eq_of_mem_replicate hw
/-! 2: numbers. An unknown's value is kept with 2^63 added. -/
def zI (r : Int32) : Nat := (r.toInt + 9223372036854775808).toNat
def zL (r : Int64) : Nat := (r.toInt + 9223372036854775808).toNat
theorem i32_rng (r : Int32) : -2147483648 ≤ r.toInt ∧ r.toInt < 2147483648 := ⟨by have := Int32.le_toInt r; omega, by have := Int32.toInt_lt r; omega⟩
theorem i64_rng (r : Int64) : -9223372036854775808 ≤ r.toInt ∧ r.toInt < 9223372036854775808 := ⟨by have := Int64.le_toInt r; omega, by have := Int64.toInt_lt r; omega⟩
theorem nI_toInt_bmod (n : Nat) : (nI n).toInt = (n : Int).bmod 4294967296 := by
  unfold nI
  rw [Int32.toInt_ofNat']
theorem lN_toInt_bmod (n : Nat) : (lN n).toInt = (n : Int).bmod 18446744073709551616 := by
  unfold lN
  rw [Int64.toInt_ofNat']
theorem zI_cast (r : Int32) : (zI r : Int) = r.toInt + 9223372036854775808 := by
  have := i32_rng r
  unfold zI
  omega
theorem zL_cast (r : Int64) : (zL r : Int) = r.toInt + 9223372036854775808 := by
  have := i64_rng r
  unfold zL
  omega
theorem zI_back (r : Int32) : nI (zI r + 9223372036854775808) = r := by
  apply Int32.toInt_inj.mp
  rw [nI_toInt_bmod]
  have h1 := zI_cast r
  have h2 := i32_rng r
  rw [Int.bmod_def]
  omega
theorem zL_back (r : Int64) : lN (zL r + 9223372036854775808) = r := by
  apply Int64.toInt_inj.mp
  rw [lN_toInt_bmod]
  have h1 := zL_cast r
  have h2 := i64_rng r
  rw [Int.bmod_def]
  omega
theorem zI_rng (r : Int32) : 9223372034707292160 ≤ zI r ∧ zI r ≤ 9223372039002259455 := by
  have h1 := zI_cast r
  have h2 := i32_rng r
  omega
theorem zL_rng (r : Int64) : zL r ≤ 18446744073709551615 := by
  have h1 := zL_cast r
  have h2 := i64_rng r
  omega
/-- an unknown int's number, by its kept value -/
theorem nI_z {z : Nat} (h1 : 9223372034707292160 ≤ z) (h2 : z ≤ 9223372039002259455) : (nI (z + 9223372036854775808)).toInt = (z : Int) - 9223372036854775808 := by
  rw [nI_toInt_bmod, Int.bmod_def]
  omega
theorem lN_z {z : Nat} (h2 : z ≤ 18446744073709551615) : (lN (z + 9223372036854775808)).toInt = (z : Int) - 9223372036854775808 := by
  rw [lN_toInt_bmod, Int.bmod_def]
  omega
def ax_bi (n : Nat) : Nat := if n < 2147483648 then n + 9223372036854775808 else n + 9223372036854775808 - 4294967296
def ax_bl (n : Nat) : Nat := if n < 9223372036854775808 then n + 9223372036854775808 else n - 9223372036854775808
theorem nI_b {n : Nat} (h : n < 4294967296) : (nI n).toInt = (ax_bi n : Int) - 9223372036854775808 := by
  rw [nI_toInt_bmod, Int.bmod_def]
  unfold ax_bi
  by_cases hn : n < 2147483648
  · rw [if_pos hn]; omega
  · rw [if_neg hn]; omega
theorem lN_b {n : Nat} (h : n < 18446744073709551616) : (lN n).toInt = (ax_bl n : Int) - 9223372036854775808 := by
  rw [lN_toInt_bmod, Int.bmod_def]
  unfold ax_bl
  by_cases hn : n < 9223372036854775808
  · rw [if_pos hn]; omega
  · rw [if_neg hn]; omega
theorem nI_mod (n : Nat) : nI (n % 4294967296) = nI n := by
  apply Int32.toInt_inj.mp
  rw [nI_toInt_bmod, nI_toInt_bmod, Int.bmod_def, Int.bmod_def]
  omega
theorem lN_mod (n : Nat) : lN (n % 18446744073709551616) = lN n := by
  apply Int64.toInt_inj.mp
  rw [lN_toInt_bmod, lN_toInt_bmod, Int.bmod_def, Int.bmod_def]
  omega
/-! 3: what the abstract stands for -/
def Sb {α : Type} (l l' : List α) : Prop := ∀ (k : Nat) (x : α), l[k]? = some x → l'[k]? = some x
theorem Sb.rf {α : Type} (l : List α) : Sb l l := fun _ _ h => h
theorem Sb.tr {α : Type} {a b c : List α} (h1 : Sb a b) (h2 : Sb b c) : Sb a c := fun k x h => h2 k x (h1 k x h)
theorem Sb.app {α : Type} (l r : List α) : Sb l (l ++ r) := fun k x h => by
  rw [List.getElem?_append_left ((List.getElem?_eq_some_iff.mp h).1)]
  exact h
def Rp (sp : Nat → Nat) (ρ ad : List Nat) (v : AV) (V : Value) : Prop := match v with
  | (0, n) => V = .int (nI n)
  | (1, n) => V = .long (lN n)
  | (2, k) => ∃ a, ad[k]? = some a ∧ V = .ref a
  | (3, _) => V = .null
  | (4, k) => ∃ z, ρ[k]? = some z ∧ V = .int (nI (z + 9223372036854775808))
  | (5, k) => ∃ z, ρ[k]? = some z ∧ V = .long (lN (z + 9223372036854775808))
  | (6, i) => V = .ref (sp i)
  | (7, _) => V.category = 1
  | _ => False
theorem Rp.mono {sp : Nat → Nat} {ρ ρ' ad ad' : List Nat} (h1 : Sb ρ ρ') (h2 : Sb ad ad') {v : AV} {V : Value} (h : Rp sp ρ ad v V) : Rp sp ρ' ad' v V := by
  obtain ⟨t, n⟩ := v
  match t, h with
  | 0, h => exact h
  | 1, h => exact h
  | 2, ⟨a, ha, e⟩ => exact ⟨a, h2 _ _ ha, e⟩
  | 3, h => exact h
  | 4, ⟨z, hz, e⟩ => exact ⟨z, h1 _ _ hz, e⟩
  | 5, ⟨z, hz, e⟩ => exact ⟨z, h1 _ _ hz, e⟩
  | 6, h => exact h
  | 7, h => exact h
def St (ρ : List Nat) (σ : AS) : Prop := ρ.length = σ.length ∧ ∀ (k z : Nat), ρ[k]? = some z → ∃ q, σ[k]? = some q ∧ q.1 ≤ z ∧ z ≤ q.2
theorem St.app {ρ : List Nat} {σ : AS} (h : St ρ σ) {z lo hi : Nat} (h1 : lo ≤ z) (h2 : z ≤ hi) : St (ρ ++ [z]) (σ ++ [(lo, hi)]) := by
  refine ⟨by simp [h.1], fun k y hy => ?_⟩
  by_cases hk : k < ρ.length
  · rw [List.getElem?_append_left hk] at hy
    obtain ⟨q, e1, e2⟩ := h.2 k y hy
    exact ⟨q, by rw [List.getElem?_append_left (by rw [← h.1]; exact hk)]; exact e1, e2⟩
  · rw [List.getElem?_append_right (by omega)] at hy
    have hz : k - ρ.length < 1 := (List.getElem?_eq_some_iff.mp hy).1
    have hk0 : k = ρ.length := by omega
    subst hk0
    simp at hy
    subst hy
    exact ⟨(lo, hi), by rw [h.1]; simp, h1, h2⟩
theorem St.cut {ρ : List Nat} {σ : AS} (h : St ρ σ) {k lo hi : Nat} (hz : ∀ z, ρ[k]? = some z → lo ≤ z ∧ z ≤ hi) : St ρ (σ.set k (lo, hi)) := by
  refine ⟨by simp [h.1], fun j y hy => ?_⟩
  obtain ⟨q, e1, e2⟩ := h.2 j y hy
  by_cases hj : j = k
  · subst hj
    have hl : j < σ.length := (List.getElem?_eq_some_iff.mp e1).1
    exact ⟨(lo, hi), by rw [List.getElem?_set_self hl], hz y hy⟩
  · exact ⟨q, by rw [List.getElem?_set_ne (fun q => hj q.symm)]; exact e1, e2⟩
end
section
/-! THE ABSTRACT MACHINE, 2: its steps -/
noncomputable def ob {α β : Type} (o : Option α) (k : α → Option β) : Option β := Option.rec (motive := fun _ => Option β) none k o
noncomputable def lc {α β : Type} (l : List α) (k : α → List α → Option β) : Option β := List.rec (motive := fun _ => Option β) none (fun x t _ => k x t) l
noncomputable def gd {β : Type} (b : Bool) (x : Option β) : Option β := Bool.rec (motive := fun _ => Option β) none x b
theorem ob_s {α β : Type} {o : Option α} {k : α → Option β} {r : β} (h : ob o k = some r) : ∃ x, o = some x ∧ k x = some r := by
  cases o with
  | none => cases h
  | some x => exact ⟨x, rfl, h⟩
theorem lc_s {α β : Type} {l : List α} {k : α → List α → Option β} {r : β} (h : lc l k = some r) : ∃ x t, l = x :: t ∧ k x t = some r := by
  cases l with
  | nil => cases h
  | cons x t => exact ⟨x, t, rfl, h⟩
theorem gd_s {β : Type} {b : Bool} {x : Option β} {r : β} (h : gd b x = some r) : b = true ∧ x = some r := by
  cases b with
  | false => cases h
  | true => exact ⟨rfl, h⟩
noncomputable def ax_lk (lv : AL) (i : Nat) : Option AV := List.rec (motive := fun _ => Option AV) none (fun q _ ih => bif Nat.beq q.1 i then some q.2 else ih) lv
def ax_c2 (v : AV) : Bool := Nat.beq v.1 1 || Nat.beq v.1 5
noncomputable def ax_flt {β : Type} (keep : Nat × AV → Bool) (lv : AL) : (AL → β) → β := List.rec (motive := fun _ => (AL → β) → β) (fun k => k []) (fun q _ ih k => ih (fun t => bif keep q then k (q :: t) else k t)) lv
def ax_k1 (i : Nat) : Nat × AV → Bool := fun q => !(Nat.beq q.1 i) && !(Nat.beq (q.1 + 1) i && ax_c2 q.2)
def ax_k2 (i : Nat) : Nat × AV → Bool := fun q => !(Nat.beq q.1 i) && (!(Nat.beq q.1 (i + 1)) && !(Nat.beq (q.1 + 1) i && ax_c2 q.2))
/-- an int, a long, a cell -/
def ax_tI (v : AV) : Bool := Nat.beq v.1 0 || Nat.beq v.1 4
def ax_tL (v : AV) : Bool := Nat.beq v.1 1 || Nat.beq v.1 5
def ax_tR (v : AV) : Bool := Nat.beq v.1 2 || Nat.beq v.1 6
/-- an unknown that can be one number alone is that number -/
noncomputable def ax_nv (σ : AS) (v : AV) : AV := bif Nat.beq v.1 4 then (match ax_nth σ v.2 with
  | some q => bif Nat.beq q.1 q.2 then (0, (q.1 + 9223372036854775808) % 4294967296) else v
  | none => v) else v
noncomputable def ax_rI (σ : AS) (v : AV) : Option (Nat × Nat) :=
  bif Nat.beq v.1 0 then gd (Nat.blt v.2 4294967296) (some (ax_bi v.2, ax_bi v.2))
  else gd (Nat.beq v.1 4) (ob (ax_nth σ v.2) (fun q => gd (Nat.ble 9223372034707292160 q.1 && Nat.ble q.2 9223372039002259455) (some q)))
noncomputable def ax_rL (σ : AS) (v : AV) : Option (Nat × Nat) :=
  bif Nat.beq v.1 1 then gd (Nat.blt v.2 18446744073709551616) (some (ax_bl v.2, ax_bl v.2))
  else gd (Nat.beq v.1 5) (ob (ax_nth σ v.2) (fun q => gd (Nat.ble q.2 18446744073709551615) (some q)))
def ax_full : Nat × Nat := (9223372034707292160, 9223372039002259455)
def ax_fullL : Nat × Nat := (0, 18446744073709551615)
/-- int operations on numbers: 0 add, 1 sub, 2 mul, 3 and, 4 or, 5 xor, 6 shl, 7 shr, 8 ushr -/
def ax_cop (op x y : Nat) : Nat := match op with
  | 0 => (x + y) % 4294967296
  | 1 => (x + (4294967296 - y)) % 4294967296
  | 2 => (x * y) % 4294967296
  | 3 => Nat.land x y
  | 4 => Nat.lor x y
  | 5 => Nat.xor x y
  | 6 => (x * 2 ^ (y % 32)) % 4294967296
  | 7 => bif Nat.blt x 2147483648 then x / 2 ^ (y % 32) else 4294967295 - (4294967295 - x) / 2 ^ (y % 32)
  | _ => x / 2 ^ (y % 32)
def ax_iv (op : Nat) (a b : Nat × Nat) : Nat × Nat := match op with
  | 0 => bif Nat.ble 18446744071562067968 (a.1 + b.1) && Nat.ble (a.2 + b.2) 18446744075857035263 then (a.1 + b.1 - 9223372036854775808, a.2 + b.2 - 9223372036854775808) else ax_full
  | 1 => bif Nat.ble (9223372034707292160 + b.2) (a.1 + 9223372036854775808) && Nat.ble (a.2 + 9223372036854775808) (9223372039002259455 + b.1) then (a.1 + 9223372036854775808 - b.2, a.2 + 9223372036854775808 - b.1) else ax_full
  | 3 => bif Nat.beq b.1 b.2 && Nat.ble 9223372036854775808 b.1 then (9223372036854775808, b.1) else ax_full
  | _ => ax_full
/-- a new unknown -/
def ax_nw {β : Type} (tag : Nat) (σ : AS) (q : Nat × Nat) (k : AS → AV → Option β) : Option β := k (σ ++ [q]) (tag, σ.length)
noncomputable def ax_ib {β : Type} (op : Nat) (σ : AS) (a b : AV) (k : AS → AV → Option β) : Option β :=
  bif Nat.beq a.1 0 && Nat.beq b.1 0 then gd (Nat.blt a.2 4294967296 && Nat.blt b.2 4294967296) (ax_fc (ax_cop op a.2 b.2) (fun n => k σ (0, n)))
  else ob (ax_rI σ a) (fun ra => ob (ax_rI σ b) (fun rb => ax_nw 4 σ (ax_iv op ra rb) k))
/-- int division (0) and rest (1), by a number above 0 -/
noncomputable def ax_id {β : Type} (op : Nat) (σ : AS) (a b : AV) (k : AS → AV → Option β) : Option β :=
  gd (Nat.beq b.1 0 && (Nat.ble 1 b.2 && Nat.blt b.2 2147483648))
    (bif Nat.beq a.1 0 && Nat.blt a.2 2147483648 then ax_fc (bif Nat.beq op 0 then a.2 / b.2 else a.2 % b.2) (fun n => k σ (0, n))
     else ob (ax_rI σ a) (fun _ => ax_nw 4 σ ax_full k))
/-- long operations on numbers: 0 add, 1 sub, 2 mul, 3 and, 4 or -/
def ax_lop (op x y : Nat) : Nat := match op with
  | 0 => (x + y) % 18446744073709551616
  | 1 => (x + (18446744073709551616 - y)) % 18446744073709551616
  | 2 => (x * y) % 18446744073709551616
  | 3 => Nat.land x y
  | _ => Nat.lor x y
noncomputable def ax_lb {β : Type} (op : Nat) (σ : AS) (a b : AV) (k : AS → AV → Option β) : Option β :=
  bif Nat.beq a.1 1 && Nat.beq b.1 1 then gd (Nat.blt a.2 18446744073709551616 && Nat.blt b.2 18446744073709551616) (ax_fc (ax_lop op a.2 b.2) (fun n => k σ (1, n)))
  else gd (ax_tL a && ax_tL b) (ax_nw 5 σ ax_fullL k)
/-- conversions of an int: 0 i2b, 1 i2s, 2 i2c, 3 ineg -/
def ax_cu (op x : Nat) : Nat := match op with
  | 0 => bif Nat.blt (x % 256) 128 then x % 256 else x % 256 + 4294967040
  | 1 => bif Nat.blt (x % 65536) 32768 then x % 65536 else x % 65536 + 4294901760
  | 2 => x % 65536
  | _ => (4294967296 - x) % 4294967296
def ax_cuv (op : Nat) : Nat × Nat := match op with
  | 0 => (9223372036854775680, 9223372036854775935)
  | 1 => (9223372036854743040, 9223372036854808575)
  | 2 => (9223372036854775808, 9223372036854841343)
  | _ => ax_full
noncomputable def ax_un {β : Type} (op : Nat) (σ : AS) (a : AV) (k : AS → AV → Option β) : Option β :=
  bif Nat.beq a.1 0 then gd (Nat.blt a.2 4294967296) (ax_fc (ax_cu op a.2) (fun n => k σ (0, n)))
  else gd (Nat.beq a.1 4) (ax_nw 4 σ (ax_cuv op) k)
noncomputable def ax_i2l {β : Type} (σ : AS) (a : AV) (k : AS → AV → Option β) : Option β :=
  bif Nat.beq a.1 0 then gd (Nat.blt a.2 4294967296) (ax_fc (bif Nat.blt a.2 2147483648 then a.2 else a.2 + 18446744069414584320) (fun n => k σ (1, n)))
  else gd (Nat.beq a.1 4) (ob (ax_rI σ a) (fun _ => k σ (5, a.2)))
noncomputable def ax_l2i {β : Type} (σ : AS) (a : AV) (k : AS → AV → Option β) : Option β :=
  bif Nat.beq a.1 1 then ax_fc (a.2 % 4294967296) (fun n => k σ (0, n))
  else gd (Nat.beq a.1 5) (ax_nw 4 σ ax_full k)
noncomputable def ax_lsh {β : Type} (σ : AS) (a b : AV) (k : AS → AV → Option β) : Option β := gd (ax_tL a && ax_tI b) (ax_nw 5 σ ax_fullL k)
/-- a comparison of longs that can be decided: less, more, equal -/
noncomputable def ax_lcm {β : Type} (ra rb : Nat × Nat) (kd : Nat → Option β) (ku : Option β) : Option β :=
  bif Nat.blt ra.2 rb.1 then kd 4294967295 else bif Nat.blt rb.2 ra.1 then kd 1 else bif Nat.beq ra.1 ra.2 && (Nat.beq rb.1 rb.2 && Nat.beq ra.1 rb.1) then kd 0 else ku
/-! branches -/
noncomputable def ax_cut (σ : AS) (v : AV) (lo hi : Nat) : AS := bif Nat.beq v.1 4 then ax_set σ v.2 (lo, hi) (fun s => s) else σ
noncomputable def ax_lt (σ : AS) (a b : AV) : Option (Option AS × Option AS) := ob (ax_rI σ a) (fun ra => ob (ax_rI σ b) (fun rb => some (
        (gd (Nat.blt ra.1 rb.2) (some (ax_cut (ax_cut σ a ra.1 (min ra.2 (rb.2 - 1))) b (max rb.1 (ra.1 + 1)) rb.2))),
        (gd (Nat.ble rb.1 ra.2) (some (ax_cut (ax_cut σ a (max ra.1 rb.1) ra.2) b rb.1 (min rb.2 ra.2)))))))
noncomputable def ax_eq (σ : AS) (a b : AV) : Option (Option AS × Option AS) := ob (ax_rI σ a) (fun ra => ob (ax_rI σ b) (fun rb => some (
        (gd (Nat.ble (max ra.1 rb.1) (min ra.2 rb.2)) (some (ax_cut (ax_cut σ a (max ra.1 rb.1) (min ra.2 rb.2)) b (max ra.1 rb.1) (min ra.2 rb.2)))),
        (bif Nat.beq ra.1 ra.2 && (Nat.beq rb.1 rb.2 && Nat.beq ra.1 rb.1) then none
         else some (bif Nat.beq rb.1 rb.2 then ax_cut σ a (bif Nat.beq ra.1 rb.1 then ra.1 + 1 else ra.1) (bif Nat.beq ra.2 rb.1 then ra.2 - 1 else ra.2) else σ)))))
noncomputable def ax_two (x y : RS) : RS := ob x (fun l => ob y (fun l' => some (l ++ l')))
noncomputable def ax_go (o : Option AS) (go : AS → RS) : RS := Option.rec (motive := fun _ => RS) (some []) go o
noncomputable def ax_br (r : Option (Option AS × Option AS)) (gt gf : AS → RS) : RS := ob r (fun q => ax_two (ax_go q.1 gt) (ax_go q.2 gf))
/-- the six conditions: 0 eq, 1 ne, 2 lt, 3 ge, 4 gt, 5 le -/
noncomputable def ax_cnd (c : Nat) (σ : AS) (a b : AV) (gt gf : AS → RS) : RS :=
  bif Nat.ble c 1 then (bif Nat.beq c 0 then ax_br (ax_eq σ a b) gt gf else ax_br (ax_eq σ a b) gf gt)
  else bif Nat.ble c 3 then (bif Nat.beq c 2 then ax_br (ax_lt σ a b) gt gf else ax_br (ax_lt σ a b) gf gt)
  else (bif Nat.beq c 4 then ax_br (ax_lt σ b a) gt gf else ax_br (ax_lt σ b a) gf gt)
noncomputable def ax_sw (go : Nat → AS → RS) (v : AV) (d : Nat) (ks : List Nat) : AS → RS := match ks with
  | k :: t :: r => fun σ => ax_br (ax_eq σ v (0, k)) (go t) (ax_sw go v d r)
  | _ => go d
noncomputable def ax_all (l : List RS) : RS := List.rec (motive := fun _ => RS) (some []) (fun x _ ih => ax_two x ih) l
noncomputable def ax_jmp (tab : List ME) (pc : Nat) : List ME := List.rec (motive := fun _ => List ME) [] (fun e t ih => bif Nat.beq e.1 pc then e :: t else ih) tab
end
section
/-! steps on the heap: rows of 16 cells -/
noncomputable def ax_hn (h : AH) (k : Nat) : Option AC := ob (ax_nth h.2 (k / 16)) (fun r => ax_nth r (k % 16))
noncomputable def ax_hs {β : Type} (h : AH) (k : Nat) (c : AC) (kk : AH → Option β) : Option β := ob (ax_nth h.2 (k / 16)) (fun r => ax_set r (k % 16) c (fun r' => ax_set h.2 (k / 16) r' (fun t => kk (h.1, t))))
noncomputable def ax_ha {β : Type} (h : AH) (c : AC) (kk : AH → Option β) : Option β :=
  bif Nat.beq (h.1 % 16) 0 then gd (Nat.beq h.2.length (h.1 / 16)) (ax_fc (h.1 + 1) (fun n => kk (n, h.2 ++ [[c]])))
  else ob (ax_nth h.2 (h.1 / 16)) (fun r => gd (Nat.beq r.length (h.1 % 16)) (ax_set h.2 (h.1 / 16) (r ++ [c]) (fun t => ax_fc (h.1 + 1) (fun n => kk (n, t)))))
/-- the field k of a cell of kind ci; of an old String (kind 200) its bytes (0) and its coder (1) -/
noncomputable def ax_getf {β : Type} (lk : List Nat) (h : AH) (st : List AV) (kk : List AV → Option β) : Option β := lc lk (fun ci lk => lc lk (fun k _ => lc st (fun a r =>
    bif Nat.beq a.1 2 then ob (ax_hn h a.2) (fun c => gd (Nat.beq c.1 ci && Nat.blt ci 100) (ob (ax_el c.2.2 k) (fun v => kk (v :: r))))
    else gd (Nat.beq a.1 6 && (Nat.beq ci 200 && (Nat.beq a.2 1 || Nat.beq a.2 3))) (bif Nat.beq k 0 then kk ((6, a.2 + 1) :: r) else kk ((0, 0) :: r)))))
/-- may v be put into a field of type code tc (0 int, 1 boolean, 2 long, 3 a reference) -/
def ax_fit (tc : Nat) (v : AV) : Bool := match tc with
  | 0 => ax_tI v
  | 1 => Nat.beq v.1 0 && Nat.ble v.2 1
  | 2 => ax_tL v
  | 3 => Nat.beq v.1 2
  | _ => false
noncomputable def ax_putf {β : Type} (lk : List Nat) (h : AH) (st : List AV) (kk : AH → List AV → Option β) : Option β := lc lk (fun ci lk => lc lk (fun k lk => lc lk (fun tc _ => lc st (fun v st => lc st (fun a r =>
    gd (Nat.beq a.1 2 && ax_fit tc v) (ob (ax_hn h a.2) (fun c => gd (Nat.beq c.1 ci && (Nat.blt ci 100 && Nat.blt k c.2.1)) (ax_st c.2.2 k v (fun cs => ax_hs h a.2 (c.1, c.2.1, cs) (fun h' => kk h' r))))))))))
/-- array loads; 103 stands for the three kinds of arrays of references -/
def ax_kd (kd ck : Nat) : Bool := bif Nat.beq kd 103 then Nat.ble 103 ck && Nat.ble ck 105 else Nat.beq ck kd
noncomputable def ax_ald {β : Type} (kd : Nat) (h : AH) (i a : AV) (r : List AV) (kk : List AV → Option β) : Option β :=
  ob (ax_hn h a.2) (fun c => gd (ax_kd kd c.1 && (Nat.blt i.2 c.2.1 && Nat.blt i.2 2147483648)) (ob (ax_el c.2.2 i.2) (fun v => kk (v :: r))))
/-- of the law's script, when it has six ints (0); of the bytes of an old String (2, 4) -/
noncomputable def ax_old {β : Type} (sb : Nat → List Nat) (kd : Nat) (σ : AS) (i a : AV) (r : List AV) (kk : List AV → Option β) : Option β :=
  bif Nat.beq kd 100 then gd (Nat.beq a.2 0 && Nat.blt i.2 6) (ob (ax_nth σ 6) (fun q => gd (Nat.beq q.1 9223372036854775814) (kk ((4, i.2) :: r))))
  else gd (Nat.beq kd 102 && (Nat.beq a.2 2 || Nat.beq a.2 4)) (ob (ax_nth (sb a.2) i.2) (fun n => kk ((0, n) :: r)))
/-- array stores; bytes (102): a number from -128 to 127 alone; references: a cell of the kind that fits -/
noncomputable def ax_sok (σ : AS) (h : AH) (kd ck : Nat) (v : AV) : Bool :=
  bif Nat.beq kd 100 then Nat.beq ck 100 && ax_tI v
  else bif Nat.beq kd 101 then Nat.beq ck 101 && ax_tL v
  else bif Nat.beq kd 102 then Nat.beq ck 102 && (match ax_rI σ v with
    | some q => Nat.ble 9223372036854775680 q.1 && Nat.ble q.2 9223372036854775935
    | none => false)
  else Nat.beq v.1 2 && (match ax_hn h v.2 with
    | some c => (Nat.beq ck 103 && Nat.beq c.1 10) || ((Nat.beq ck 104 && Nat.beq c.1 1) || (Nat.beq ck 105 && Nat.beq c.1 7))
    | none => false)
noncomputable def ax_ast {β : Type} (kd : Nat) (σ : AS) (h : AH) (v i a : AV) (kk : AH → Option β) : Option β :=
  gd (Nat.beq a.1 2) (ob (ax_hn h a.2) (fun c => gd (ax_sok σ h kd c.1 v && (Nat.blt i.2 c.2.1 && Nat.blt i.2 2147483648)) (ax_st c.2.2 i.2 v (fun cs => ax_hs h a.2 (c.1, c.2.1, cs) kk))))
noncomputable def ax_alen {β : Type} (sb : Nat → List Nat) (h : AH) (a : AV) (kk : AV → Option β) : Option β :=
  bif Nat.beq a.1 2 then ob (ax_hn h a.2) (fun c => gd (Nat.ble 100 c.1 && Nat.ble c.1 105) (kk (0, c.2.1)))
  else gd (Nat.beq a.1 6) (bif Nat.beq a.2 0 then kk (4, 6) else gd (Nat.beq a.2 2 || Nat.beq a.2 4) (kk (0, (sb a.2).length)))
noncomputable def ax_new {β : Type} (R : Room) (lk : List Nat) (h : AH) (nc ns : Nat) (kk : AH → Nat → Nat → Option β) : Option β := lc lk (fun ci lk => lc lk (fun n lk =>
    gd (Nat.ble (nc + 1) R.cells && Nat.ble (ns + n) R.slots) (ax_ha h (ci, n, [(lk.drop 6).map (fun t => (t, 0))]) (fun h' => ax_fc (nc + 1) (fun nc' => ax_fc (ns + n) (fun ns' => kk h' nc' ns'))))))
noncomputable def ax_newa {β : Type} (R : Room) (lk : List Nat) (h : AH) (nc ns : Nat) (a : AV) (kk : AH → Nat → Nat → Option β) : Option β := lc lk (fun kd lk => lc lk (fun t _ =>
    gd (Nat.beq a.1 0 && (Nat.ble a.2 65536 && (Nat.ble (nc + 1) R.cells && Nat.ble (ns + a.2) R.slots))) (ax_ha h (kd, a.2, ax_rep a.2 (t, 0)) (fun h' => ax_fc (nc + 1) (fun nc' => ax_fc (ns + a.2) (fun ns' => kk h' nc' ns'))))))
/-! calls -/
def ax_args (n : Nat) (st acc : List AV) : Option (List AV × List AV) := match n with
  | 0 => some (acc, st)
  | m + 1 => match st with
    | v :: r => ax_args m r (v :: acc)
    | [] => none
def ax_locs (i : Nat) (l : List AV) : AL := match l with
  | [] => []
  | v :: r => (i, v) :: ax_locs (bif ax_c2 v then i + 2 else i + 1) r
def ax_wt (l : List AV) : Nat := match l with
  | [] => 0
  | v :: r => (bif ax_c2 v then 2 else 1) + ax_wt r
def ax_hd (as : List AV) : Bool := match as with
  | a :: _ => ax_tR a
  | [] => false
noncomputable def ax_rcv (h : AH) (ci : Nat) (as : List AV) : Bool := match as with
  | a :: _ => bif Nat.beq a.1 2 then (match ax_hn h a.2 with
      | some c => Nat.beq c.1 ci && Nat.blt ci 100
      | none => false) else Nat.beq a.1 6 && (Nat.beq ci 200 && (Nat.beq a.2 1 || Nat.beq a.2 3))
  | [] => false
/-- what may be given back: 22 an int, 23 a long, 24 a cell, 25 nothing -/
def ax_rok (ret : Option FieldType) (op : Nat) (st : List AV) : Bool := match op with
  | 22 => (match st with
    | [v] => (match ret with
      | some .int => ax_tI v
      | some .boolean => Nat.beq v.1 0 && Nat.ble v.2 1
      | some .byte => Nat.beq v.1 0 && Nat.ble v.2 1
      | some .char => Nat.beq v.1 0 && Nat.ble v.2 65535
      | _ => false)
    | _ => false)
  | 23 => (match st with
    | [v] => (match ret with
      | some .long => ax_tL v
      | _ => false)
    | _ => false)
  | 24 => (match st with
    | [v] => (match ret with
      | some (.object _) => Nat.beq v.1 2
      | _ => false)
    | _ => false)
  | 25 => (match st with
    | [] => (match ret with
      | none => true
      | _ => false)
    | _ => false)
  | _ => false
/-- the whole of one array (kinds 100, 101) into another of its length -/
noncomputable def ax_copy {β : Type} (σ : AS) (h : AH) (st : List AV) (kk : AH → List AV → Option β) : Option β := lc st (fun n st => lc st (fun dp st => lc st (fun d st => lc st (fun sp st => lc st (fun s r =>
    gd (Nat.beq d.1 2 && (Nat.beq s.1 2 && (Nat.beq (ax_nv σ n).1 0 && (Nat.beq (ax_nv σ dp).1 0 && (Nat.beq (ax_nv σ sp).1 0 && (Nat.beq (ax_nv σ dp).2 0 && Nat.beq (ax_nv σ sp).2 0)))))) (ob (ax_hn h d.2) (fun cd => ob (ax_hn h s.2) (fun cs => gd (Nat.beq cd.1 cs.1 && ((Nat.beq cs.1 100 || Nat.beq cs.1 101) && (Nat.beq cd.2.1 cs.2.1 && (Nat.beq cs.2.1 (ax_nv σ n).2 && Nat.ble cs.2.1 65536)))) (ax_hs h d.2 (cd.1, cd.2.1, cs.2.2) (fun h' => kk h' r))))))))))
/-- an unknown place: one after another -/
noncomputable def ax_spl (σ : AS) (i : AV) (go : AS → RS) : RS := gd (Nat.beq i.1 4) (ob (ax_nth σ i.2) (fun q => gd (Nat.ble q.2 (q.1 + 20) && Nat.blt q.1 q.2) (ax_all ((List.range (q.2 + 1 - q.1)).map (fun d => ax_set σ i.2 (q.1 + d, q.1 + d) go)))))
/-- an unknown long that is compared: less, equal, more -/
noncomputable def ax_spc (σ : AS) (a : AV) (ra rb : Nat × Nat) (go : AS → RS) : RS := gd (Nat.beq a.1 5 && Nat.beq rb.1 rb.2)
   (ax_two (bif Nat.blt ra.1 rb.1 then ax_set σ a.2 (ra.1, min ra.2 (rb.1 - 1)) go else some []) (ax_two (bif Nat.ble ra.1 rb.1 && Nat.ble rb.1 ra.2 then ax_set σ a.2 (rb.1, rb.1) go else some []) (bif Nat.blt rb.1 ra.2 then ax_set σ a.2 (max ra.1 (rb.1 + 1), ra.2) go else some [])))
abbrev GO : Type := MR → Nat → Nat → List ME → AS → AH → Nat → Nat → AL → List AV → RS
noncomputable def ax_call (mt : Nat → Nat → Option MR) (ih : GO) (M : MR) (lk : List Nat) (σ : AS) (h : AH) (nc ns : Nat) (st : List AV) (go : AO → List AV → Nat → Nat → RS) : RS := lc lk (fun a lk => lc lk (fun b lk => lc lk (fun kc lk => lc lk (fun ci _ => ob (mt a b) (fun C => ob (ax_args C.2.2.2.2.2.1 st []) (fun q =>
    gd (Nat.blt C.2.2.2.2.1.frames M.2.2.2.2.1.frames && (Nat.ble (8 + (C.2.2.1 + 11) + C.2.2.2.2.1.locals) M.2.2.2.2.1.locals && (Nat.ble (ax_wt q.2) 8 && (Nat.ble (nc + C.2.2.2.2.1.cells) M.2.2.2.2.1.cells && (Nat.ble (ns + C.2.2.2.2.1.slots) M.2.2.2.2.1.slots && (Nat.ble (ax_wt q.1) C.2.2.1 && ((Nat.beq kc 2 || (Nat.beq kc 1 && ax_hd q.1)) || (Nat.beq kc 0 && ax_rcv h ci q.1))))))))
      (ob (ih C 999999 0 C.2.2.2.2.2.2 σ h 0 0 (ax_locs 0 q.1) []) (fun outs => gd (outs.all (fun o => Nat.ble o.2.2.2.2.2.1 25)) (ax_all (outs.map (fun o => go o q.2 (nc + C.2.2.2.2.1.cells) (ns + C.2.2.2.2.1.slots))))))))))))
/-- the lesser of two ints -/
noncomputable def ax_mn {β : Type} (σ : AS) (a b : AV) (k : AS → AV → Option β) : Option β := ob (ax_rI σ a) (fun ra => ob (ax_rI σ b) (fun rb => bif Nat.beq ra.1 ra.2 && Nat.beq rb.1 rb.2 then (bif Nat.blt rb.1 ra.1 then k σ b else k σ a) else ax_nw 4 σ (min ra.1 rb.1, min ra.2 rb.2) k))
noncomputable def ax_inv (mt : Nat → Nat → Option MR) (ih : GO) (M : MR) (cut pc : Nat) (tl : List ME) (lk : List Nat) (σ : AS) (h : AH) (nc ns : Nat) (lv : AL) (st : List AV) : RS := lc lk (fun x _ =>
    bif Nat.beq x 900 then lc st (fun a r => gd (Nat.beq a.1 2 && (Nat.ble 1 M.2.2.2.2.1.frames && Nat.ble (ax_wt r + 12) M.2.2.2.2.1.locals)) (ih M cut pc tl σ h nc ns lv r))
    else bif Nat.beq x 901 then gd (Nat.ble 1 M.2.2.2.2.1.frames && (Nat.ble 60 M.2.2.2.2.1.locals && Nat.ble (ax_wt st) 20)) (ax_copy σ h st (fun h' r => ih M cut pc tl σ h' nc ns lv r))
    else bif Nat.beq x 902 then lc st (fun b st => lc st (fun a r => gd (Nat.ble 1 M.2.2.2.2.1.frames && (Nat.ble (ax_wt r + 13) M.2.2.2.2.1.locals && (Nat.ble nc M.2.2.2.2.1.cells && Nat.ble ns M.2.2.2.2.1.slots))) (ax_mn σ (ax_nv σ a) (ax_nv σ b) (fun σ' v => ih M cut pc tl σ' h nc ns lv (v :: r)))))
    else ax_call mt ih M lk σ h nc ns st (fun o rest nc' ns' => ih M cut pc tl o.1 o.2.1 nc' ns' lv (o.2.2.2.2.2.2.2 ++ rest)))
/-! one step, by the number of its operation -/
noncomputable def ax_load (ok : AV → Bool) (ih : GO) (M : MR) (cut pc : Nat) (tl : List ME) (lk : List Nat) (σ : AS) (h : AH) (nc ns : Nat) (lv : AL) (st : List AV) : RS := lc lk (fun i _ => ob (ax_lk lv i) (fun v => gd (ok v) (ih M cut pc tl σ h nc ns lv (v :: st))))
noncomputable def ax_sto (ok : AV → Bool) (kp : Nat → Nat × AV → Bool) (ih : GO) (M : MR) (cut pc : Nat) (tl : List ME) (lk : List Nat) (σ : AS) (h : AH) (nc ns : Nat) (lv : AL) (st : List AV) : RS := lc lk (fun i _ => lc st (fun v r => gd (ok v) (ax_flt (kp i) lv (fun lv' => ih M cut pc tl σ h nc ns ((i, v) :: lv') r))))
/-- 0 a number, 1 iload, 2 lload, 3 aload, 4 istore, 5 lstore, 6 astore, 7 iinc -/
noncomputable def ax_b0 (op : Nat) (ih : GO) (M : MR) (cut pc : Nat) (tl : List ME) (lk : List Nat) (σ : AS) (h : AH) (nc ns : Nat) (lv : AL) (st : List AV) : RS :=
  bif Nat.ble op 3 then (bif Nat.ble op 1 then (bif Nat.beq op 0 then lc lk (fun t lk => lc lk (fun n _ => ih M cut pc tl σ h nc ns lv ((t, n) :: st)))
      else ax_load ax_tI ih M cut pc tl lk σ h nc ns lv st)
    else (bif Nat.beq op 2 then ax_load ax_tL ih M cut pc tl lk σ h nc ns lv st else ax_load ax_tR ih M cut pc tl lk σ h nc ns lv st))
  else (bif Nat.ble op 5 then (bif Nat.beq op 4 then ax_sto ax_tI ax_k1 ih M cut pc tl lk σ h nc ns lv st else ax_sto ax_tL ax_k2 ih M cut pc tl lk σ h nc ns lv st)
    else (bif Nat.beq op 6 then ax_sto ax_tR ax_k1 ih M cut pc tl lk σ h nc ns lv st
      else lc lk (fun i lk => lc lk (fun n _ => ob (ax_lk lv i) (fun v => ax_ib 0 σ (ax_nv σ v) (0, n) (fun σ' w => ax_flt (ax_k1 i) lv (fun lv' => ih M cut pc tl σ' h nc ns ((i, w) :: lv') st)))))))
/-- array loads (10 to 13) and stores (14 to 17) -/
noncomputable def ax_b1a (kd : Nat) (sb : Nat → List Nat) (ih : GO) (M : MR) (cut pc0 pc : Nat) (cd tl : List ME) (σ : AS) (h : AH) (nc ns : Nat) (lv : AL) (st : List AV) : RS := lc st (fun i st' => lc st' (fun a r =>
    bif Nat.beq (ax_nv σ i).1 0 then (bif Nat.beq a.1 2 then ax_ald kd h (ax_nv σ i) a r (fun s' => ih M cut pc tl σ h nc ns lv s') else gd (Nat.beq a.1 6) (ax_old sb kd σ (ax_nv σ i) a r (fun s' => ih M cut pc tl σ h nc ns lv s')))
    else ax_spl σ i (fun σ' => ih M cut pc0 cd σ' h nc ns lv st)))
noncomputable def ax_b1s (kd : Nat) (ih : GO) (M : MR) (cut pc0 pc : Nat) (cd tl : List ME) (σ : AS) (h : AH) (nc ns : Nat) (lv : AL) (st : List AV) : RS := lc st (fun v st' => lc st' (fun i st'' => lc st'' (fun a r =>
    bif Nat.beq (ax_nv σ i).1 0 then ax_ast kd σ h v (ax_nv σ i) a (fun h' => ih M cut pc tl σ h' nc ns lv r)
    else ax_spl σ i (fun σ' => ih M cut pc0 cd σ' h nc ns lv st))))
/-- 8 getfield, 9 putfield, 10 to 17 arrays -/
noncomputable def ax_b1 (op : Nat) (sb : Nat → List Nat) (ih : GO) (M : MR) (cut pc0 pc : Nat) (cd tl : List ME) (lk : List Nat) (σ : AS) (h : AH) (nc ns : Nat) (lv : AL) (st : List AV) : RS :=
  bif Nat.ble op 9 then (bif Nat.beq op 8 then ax_getf lk h st (fun s' => ih M cut pc tl σ h nc ns lv s') else ax_putf lk h st (fun h' r => ih M cut pc tl σ h' nc ns lv r))
  else bif Nat.ble op 13 then ax_b1a (op + 90) sb ih M cut pc0 pc cd tl σ h nc ns lv st
  else ax_b1s (op + 86) ih M cut pc0 pc cd tl σ h nc ns lv st
/-- 18 if_icmp, 19 ifCond, 20 goto, 21 calls, 22 to 25 returns -/
noncomputable def ax_b2 (op : Nat) (mt : Nat → Nat → Option MR) (ih : GO) (M : MR) (cut pc0 pc : Nat) (tl : List ME) (lk : List Nat) (σ : AS) (h : AH) (nc ns : Nat) (lv : AL) (st : List AV) : RS :=
  bif Nat.ble op 19 then lc lk (fun t lk => lc lk (fun c _ =>
      bif Nat.beq op 18 then lc st (fun b st => lc st (fun a r => ax_cnd c σ a b (fun σ' => ih M cut t (ax_jmp M.2.2.2.2.2.2 t) σ' h nc ns lv r) (fun σ' => ih M cut pc tl σ' h nc ns lv r)))
      else lc st (fun a r => ax_cnd c σ a (0, 0) (fun σ' => ih M cut t (ax_jmp M.2.2.2.2.2.2 t) σ' h nc ns lv r) (fun σ' => ih M cut pc tl σ' h nc ns lv r))))
  else bif Nat.ble op 21 then (bif Nat.beq op 20 then lc lk (fun t _ => ih M cut t (ax_jmp M.2.2.2.2.2.2 t) σ h nc ns lv st) else ax_inv mt ih M cut pc tl lk σ h nc ns lv st)
  else gd (ax_rok M.2.2.2.1 op st && (Nat.ble nc M.2.2.2.2.1.cells && Nat.ble ns M.2.2.2.2.1.slots)) (some [(σ, h, nc, ns, pc0, op, lv, st)])
noncomputable def ax_bin (f : AS → AV → AV → (AS → AV → RS) → RS) (ih : GO) (M : MR) (cut pc : Nat) (tl : List ME) (σ : AS) (h : AH) (nc ns : Nat) (lv : AL) (st : List AV) : RS := lc st (fun b st => lc st (fun a r => f σ (ax_nv σ a) (ax_nv σ b) (fun σ' v => ih M cut pc tl σ' h nc ns lv (v :: r))))
noncomputable def ax_one (f : AS → AV → (AS → AV → RS) → RS) (ih : GO) (M : MR) (cut pc : Nat) (tl : List ME) (σ : AS) (h : AH) (nc ns : Nat) (lv : AL) (st : List AV) : RS := lc st (fun a r => f σ (ax_nv σ a) (fun σ' v => ih M cut pc tl σ' h nc ns lv (v :: r)))
/-- 26 to 34 ints by two, 35 idiv, 36 irem, 37 to 41 longs by two, 42 lshl, 43 lcmp -/
noncomputable def ax_b3 (op : Nat) (ih : GO) (M : MR) (cut pc0 pc : Nat) (cd tl : List ME) (σ : AS) (h : AH) (nc ns : Nat) (lv : AL) (st : List AV) : RS :=
  bif Nat.ble op 34 then ax_bin (ax_ib (op - 26)) ih M cut pc tl σ h nc ns lv st
  else bif Nat.ble op 36 then ax_bin (ax_id (op - 35)) ih M cut pc tl σ h nc ns lv st
  else bif Nat.ble op 41 then ax_bin (ax_lb (op - 37)) ih M cut pc tl σ h nc ns lv st
  else bif Nat.beq op 42 then ax_bin ax_lsh ih M cut pc tl σ h nc ns lv st
  else lc st (fun b st' => lc st' (fun a r => ob (ax_rL σ a) (fun ra => ob (ax_rL σ b) (fun rb => ax_lcm ra rb (fun n => ih M cut pc tl σ h nc ns lv ((0, n) :: r)) (ax_spc σ a ra rb (fun σ' => ih M cut pc0 cd σ' h nc ns lv st))))))
/-- 44 to 47 ints by one, 48 i2l, 49 l2i, 50 dup, 51 dup2, 52 pop -/
noncomputable def ax_b4 (op : Nat) (ih : GO) (M : MR) (cut pc : Nat) (tl : List ME) (σ : AS) (h : AH) (nc ns : Nat) (lv : AL) (st : List AV) : RS :=
  bif Nat.ble op 47 then ax_one (ax_un (op - 44)) ih M cut pc tl σ h nc ns lv st
  else bif Nat.beq op 48 then ax_one ax_i2l ih M cut pc tl σ h nc ns lv st
  else bif Nat.beq op 49 then ax_one ax_l2i ih M cut pc tl σ h nc ns lv st
  else lc st (fun a r => bif Nat.beq op 50 then gd (!ax_c2 a) (ih M cut pc tl σ h nc ns lv (a :: a :: r))
    else bif Nat.beq op 51 then (bif ax_c2 a then ih M cut pc tl σ h nc ns lv (a :: a :: r) else lc r (fun b r' => gd (!ax_c2 b) (ih M cut pc tl σ h nc ns lv (a :: b :: a :: b :: r'))))
    else gd (!ax_c2 a) (ih M cut pc tl σ h nc ns lv r))
/-- 53 arraylength, 54 new, 55 newarray, anewarray, 56 getstatic, 57 tableswitch, 58 lookupswitch -/
noncomputable def ax_b5 (op : Nat) (sb : Nat → List Nat) (ih : GO) (M : MR) (cut pc : Nat) (tl : List ME) (lk : List Nat) (σ : AS) (h : AH) (nc ns : Nat) (lv : AL) (st : List AV) : RS :=
  bif Nat.ble op 54 then (bif Nat.beq op 53 then lc st (fun a r => ax_alen sb h a (fun v => ih M cut pc tl σ h nc ns lv (v :: r)))
    else ax_new M.2.2.2.2.1 lk h nc ns (fun h' nc' ns' => ih M cut pc tl σ h' nc' ns' lv ((2, h.1) :: st)))
  else bif Nat.ble op 56 then (bif Nat.beq op 55 then lc st (fun a r => ax_newa M.2.2.2.2.1 lk h nc ns (ax_nv σ a) (fun h' nc' ns' => ih M cut pc tl σ h' nc' ns' lv ((2, h.1) :: r)))
    else lc lk (fun x _ => bif Nat.beq x 0 then ih M cut pc tl σ h nc ns lv ((0, 1) :: st) else ih M cut pc tl σ h nc ns lv ((7, 0) :: st)))
  else lc st (fun v r => lc lk (fun d lk => bif Nat.beq op 57 then lc lk (fun lo lk => lc lk (fun hi ks =>
      ax_br (ax_lt σ v (0, lo)) (fun σ' => ih M cut d (ax_jmp M.2.2.2.2.2.2 d) σ' h nc ns lv r) (fun σ1 => ax_br (ax_lt σ1 (0, hi) v) (fun σ' => ih M cut d (ax_jmp M.2.2.2.2.2.2 d) σ' h nc ns lv r) (ax_sw (fun t σ' => ih M cut t (ax_jmp M.2.2.2.2.2.2 t) σ' h nc ns lv r) v d ks))))
      else lc lk (fun _ _ => ax_sw (fun t σ' => ih M cut t (ax_jmp M.2.2.2.2.2.2 t) σ' h nc ns lv r) v d lk σ)))
noncomputable def ax_bd (sb : Nat → List Nat) (mt : Nat → Nat → Option MR) (ih : GO) : GO := fun M cut pc cd σ h nc ns lv st =>
  bif Nat.ble cut pc then some [(σ, h, nc, ns, pc, 99, lv, st)] else lc cd (fun e tl => gd (Nat.beq e.1 pc)
    (bif Nat.ble e.2.1 17 then (bif Nat.ble e.2.1 7 then ax_b0 e.2.1 ih M cut (e.1 + e.2.2.1) tl e.2.2.2.1 σ h nc ns lv st else ax_b1 e.2.1 sb ih M cut e.1 (e.1 + e.2.2.1) cd tl e.2.2.2.1 σ h nc ns lv st)
     else bif Nat.ble e.2.1 25 then ax_b2 e.2.1 mt ih M cut e.1 (e.1 + e.2.2.1) tl e.2.2.2.1 σ h nc ns lv st
     else bif Nat.ble e.2.1 43 then ax_b3 e.2.1 ih M cut e.1 (e.1 + e.2.2.1) cd tl σ h nc ns lv st
     else bif Nat.ble e.2.1 52 then ax_b4 e.2.1 ih M cut (e.1 + e.2.2.1) tl σ h nc ns lv st
     else gd (Nat.ble e.2.1 58) (ax_b5 e.2.1 sb ih M cut (e.1 + e.2.2.1) tl e.2.2.2.1 σ h nc ns lv st)))
noncomputable def ax_run (sb : Nat → List Nat) (mt : Nat → Nat → Option MR) (n : Nat) : GO := Nat.rec (motive := fun _ => GO) (fun _ _ _ _ _ _ _ _ _ _ => none) (fun _ ih => ax_bd sb mt ih) n
/-- the number of an operation -/
def ax_op (ins : Instr) : Nat := match ins with
  | .iconst _ => 0
  | .bipush _ => 0
  | .sipush _ => 0
  | .lconst _ => 0
  | .ldc _ => 0
  | .ldc_w _ => 0
  | .ldc2_w _ => 0
  | .iload _ => 1
  | .iload_n _ => 1
  | .lload _ => 2
  | .lload_n _ => 2
  | .aload _ => 3
  | .aload_n _ => 3
  | .istore _ => 4
  | .istore_n _ => 4
  | .lstore _ => 5
  | .lstore_n _ => 5
  | .astore _ => 6
  | .astore_n _ => 6
  | .iinc _ _ => 7
  | .getfield _ => 8
  | .putfield _ => 9
  | .iaload => 10
  | .laload => 11
  | .baload => 12
  | .aaload => 13
  | .iastore => 14
  | .lastore => 15
  | .bastore => 16
  | .aastore => 17
  | .if_icmp _ _ => 18
  | .ifCond _ _ => 19
  | .goto _ => 20
  | .invokevirtual _ => 21
  | .invokespecial _ => 21
  | .invokestatic _ => 21
  | .ireturn => 22
  | .lreturn => 23
  | .areturn => 24
  | .return_ => 25
  | .iadd => 26
  | .isub => 27
  | .imul => 28
  | .iand => 29
  | .ior => 30
  | .ixor => 31
  | .ishl => 32
  | .ishr => 33
  | .iushr => 34
  | .idiv => 35
  | .irem => 36
  | .ladd => 37
  | .lsub => 38
  | .lmul => 39
  | .land => 40
  | .lor => 41
  | .lshl => 42
  | .lcmp => 43
  | .i2b => 44
  | .i2s => 45
  | .i2c => 46
  | .ineg => 47
  | .i2l => 48
  | .l2i => 49
  | .dup => 50
  | .dup2 => 51
  | .pop => 52
  | .arraylength => 53
  | .new _ => 54
  | .newarray _ => 55
  | .anewarray _ => 55
  | .getstatic _ => 56
  | .tableswitch _ _ _ _ => 57
  | .lookupswitch _ _ => 58
  | _ => 98
end
section
/-! THE ABSTRACT MACHINE, 3: what a state of it stands for -/
/-- stacks -/
def Rs (sp : Nat → Nat) (ρ ad : List Nat) : List AV → List Value → Prop
  | [], [] => True
  | v :: r, V :: R => Rp sp ρ ad v V ∧ Rs sp ρ ad r R
  | _, _ => False
/-- locals -/
def Rl (sp : Nat → Nat) (ρ ad : List Nat) : AL → List (Nat × Value) → Prop
  | [], [] => True
  | v :: r, V :: R => (v.1 = V.1 ∧ Rp sp ρ ad v.2 V.2) ∧ Rl sp ρ ad r R
  | _, _ => False
def Er (sp : Nat → Nat) (dA : Nat → ClassId) (ρ ad : List Nat) (c : AC) (E : va_E) : Prop :=
  (c.1 < 100 ∧ ∃ VS : List Value, E = .inr (c.1, VS) ∧ VS.length = c.2.1 ∧ ∀ (j : Nat) (v : AV), ax_el c.2.2 j = some v → ∃ V, VS[j]? = some V ∧ Rp sp ρ ad v V) ∨
  ((c.1 = 100 ∨ c.1 = 102) ∧ ∃ f : Nat → Int32, E = .inl (dA c.1, c.2.1, .inl f) ∧ ∀ (j : Nat) (v : AV), ax_el c.2.2 j = some v → j < c.2.1 ∧ Rp sp ρ ad v (.int (f j))) ∨
  (c.1 = 101 ∧ ∃ f : Nat → Int64, E = .inl (dA c.1, c.2.1, .inr (.inl f)) ∧ ∀ (j : Nat) (v : AV), ax_el c.2.2 j = some v → j < c.2.1 ∧ Rp sp ρ ad v (.long (f j))) ∨
  ((103 ≤ c.1 ∧ c.1 ≤ 105) ∧ ∃ f : Nat → Option Nat, E = .inl (dA c.1, c.2.1, .inr (.inr (.inr (.inr f)))) ∧ ∀ (j : Nat) (v : AV), ax_el c.2.2 j = some v → j < c.2.1 ∧ Rp sp ρ ad v (va_rf (f j)))
def Hr (sp : Nat → Nat) (dA : Nat → ClassId) (ρ ad : List Nat) (h : AH) (ws : va_W) : Prop := h.1 = ws.length ∧ ad = ws.map (fun q => q.1) ∧ ∀ (k : Nat) (c : AC), ax_hn h k = some c → ∃ q, ws[k]? = some q ∧ Er sp dA ρ ad c q.2
theorem Rs.mono {sp : Nat → Nat} {ρ ρ' ad ad' : List Nat} (h1 : Sb ρ ρ') (h2 : Sb ad ad') : ∀ {st : List AV} {ST : List Value}, Rs sp ρ ad st ST → Rs sp ρ' ad' st ST
  | [], [], _ => trivial
  | _ :: _, _ :: _, h => ⟨h.1.mono h1 h2, Rs.mono h1 h2 h.2⟩
theorem Rl.mono {sp : Nat → Nat} {ρ ρ' ad ad' : List Nat} (h1 : Sb ρ ρ') (h2 : Sb ad ad') : ∀ {lv : AL} {LV : List (Nat × Value)}, Rl sp ρ ad lv LV → Rl sp ρ' ad' lv LV
  | [], [], _ => trivial
  | _ :: _, _ :: _, h => ⟨⟨h.1.1, h.1.2.mono h1 h2⟩, Rl.mono h1 h2 h.2⟩
theorem Er.mono {sp : Nat → Nat} {dA : Nat → ClassId} {ρ ρ' ad ad' : List Nat} (h1 : Sb ρ ρ') (h2 : Sb ad ad') {c : AC} {E : va_E} (h : Er sp dA ρ ad c E) : Er sp dA ρ' ad' c E := by
  rcases h with ⟨a, VS, b, d, e⟩ | ⟨a, f, b, e⟩ | ⟨a, f, b, e⟩ | ⟨a, f, b, e⟩
  · exact Or.inl ⟨a, VS, b, d, fun j v hv => by obtain ⟨V, q1, q2⟩ := e j v hv; exact ⟨V, q1, q2.mono h1 h2⟩⟩
  · exact Or.inr (Or.inl ⟨a, f, b, fun j v hv => ⟨(e j v hv).1, (e j v hv).2.mono h1 h2⟩⟩)
  · exact Or.inr (Or.inr (Or.inl ⟨a, f, b, fun j v hv => ⟨(e j v hv).1, (e j v hv).2.mono h1 h2⟩⟩))
  · exact Or.inr (Or.inr (Or.inr ⟨a, f, b, fun j v hv => ⟨(e j v hv).1, (e j v hv).2.mono h1 h2⟩⟩))
theorem Hr.monoρ {sp : Nat → Nat} {dA : Nat → ClassId} {ρ ρ' ad : List Nat} (h1 : Sb ρ ρ') {h : AH} {ws : va_W} (hh : Hr sp dA ρ ad h ws) : Hr sp dA ρ' ad h ws :=
  ⟨hh.1, hh.2.1, fun k c hk => by obtain ⟨q, e1, e2⟩ := hh.2.2 k c hk; exact ⟨q, e1, e2.mono h1 (Sb.rf ad)⟩⟩
theorem Rs.cons {sp : Nat → Nat} {ρ ad : List Nat} {v : AV} {r : List AV} {ST : List Value} (h : Rs sp ρ ad (v :: r) ST) : ∃ V R, ST = V :: R ∧ Rp sp ρ ad v V ∧ Rs sp ρ ad r R := by
  cases ST with
  | nil => exact h.elim
  | cons V R => exact ⟨V, R, rfl, h.1, h.2⟩
theorem Rs.nil {sp : Nat → Nat} {ρ ad : List Nat} {ST : List Value} (h : Rs sp ρ ad [] ST) : ST = [] := by
  cases ST with
  | nil => rfl
  | cons V R => exact h.elim
theorem Rs.app {sp : Nat → Nat} {ρ ad : List Nat} : ∀ {a b : List AV} {A B : List Value}, Rs sp ρ ad a A → Rs sp ρ ad b B → Rs sp ρ ad (a ++ b) (A ++ B)
  | [], _, [], _, _, h => h
  | _ :: _, _, _ :: _, _, h1, h2 => ⟨h1.1, Rs.app h1.2 h2⟩
theorem Rp.tI {sp : Nat → Nat} {ρ ad : List Nat} {v : AV} {V : Value} (h : Rp sp ρ ad v V) (ht : ax_tI v = true) : ∃ x : Int32, V = .int x := by
  obtain ⟨t, n⟩ := v
  unfold ax_tI at ht
  match t, h with
  | 0, h => exact ⟨_, h⟩
  | 4, ⟨z, _, e⟩ => exact ⟨_, e⟩
  | 1, _ => cases ht
  | 2, _ => cases ht
  | 3, _ => cases ht
  | 5, _ => cases ht
  | 6, _ => cases ht
  | 7, _ => cases ht
theorem Rp.tL {sp : Nat → Nat} {ρ ad : List Nat} {v : AV} {V : Value} (h : Rp sp ρ ad v V) (ht : ax_tL v = true) : ∃ x : Int64, V = .long x := by
  obtain ⟨t, n⟩ := v
  unfold ax_tL at ht
  match t, h with
  | 1, h => exact ⟨_, h⟩
  | 5, ⟨z, _, e⟩ => exact ⟨_, e⟩
  | 0, _ => cases ht
  | 2, _ => cases ht
  | 3, _ => cases ht
  | 4, _ => cases ht
  | 6, _ => cases ht
  | 7, _ => cases ht
theorem Rp.tR {sp : Nat → Nat} {ρ ad : List Nat} {v : AV} {V : Value} (h : Rp sp ρ ad v V) (ht : ax_tR v = true) : ∃ a : Nat, V = .ref a := by
  obtain ⟨t, n⟩ := v
  unfold ax_tR at ht
  match t, h with
  | 2, ⟨a, _, e⟩ => exact ⟨a, e⟩
  | 6, h => exact ⟨_, h⟩
  | 0, _ => cases ht
  | 1, _ => cases ht
  | 3, _ => cases ht
  | 4, _ => cases ht
  | 5, _ => cases ht
  | 7, _ => cases ht
theorem Rp.cat {sp : Nat → Nat} {ρ ad : List Nat} {v : AV} {V : Value} (h : Rp sp ρ ad v V) : V.category = if ax_c2 v = true then 2 else 1 := by
  obtain ⟨t, n⟩ := v
  unfold ax_c2
  match t, h with
  | 0, h => cases h; rfl
  | 1, h => cases h; rfl
  | 2, ⟨a, _, e⟩ => cases e; rfl
  | 3, h => cases h; rfl
  | 4, ⟨z, _, e⟩ => cases e; rfl
  | 5, ⟨z, _, e⟩ => cases e; rfl
  | 6, h => cases h; rfl
  | 7, h => exact h
theorem Rp.cat1 {sp : Nat → Nat} {ρ ad : List Nat} {v : AV} {V : Value} (h : Rp sp ρ ad v V) (hc : ax_c2 v = false) : V.category = 1 := by rw [h.cat, hc]; rfl
theorem Rp.cat2 {sp : Nat → Nat} {ρ ad : List Nat} {v : AV} {V : Value} (h : Rp sp ρ ad v V) (hc : ax_c2 v = true) : V.category = 2 := by rw [h.cat, hc]; rfl
/-- a local that is found -/
theorem ax_lk_has {sp : Nat → Nat} {ρ ad : List Nat} {i : Nat} {v : AV} : ∀ {lv : AL} {LV : List (Nat × Value)}, Rl sp ρ ad lv LV → ax_lk lv i = some v → ∃ V, (i, V) ∈ LV ∧ Rp sp ρ ad v V
  | [], [], _, hk => by cases hk
  | q :: r, V :: R, h, hk => by
    have hk : (bif Nat.beq q.1 i then some q.2 else ax_lk r i) = some v := hk
    cases hb : Nat.beq q.1 i with
    | true =>
      rw [hb] at hk
      cases hk
      have e : q.1 = i := Nat.eq_of_beq_eq_true hb
      exact ⟨V.2, by rw [← e, h.1.1]; exact List.mem_cons_self, h.1.2⟩
    | false =>
      rw [hb] at hk
      obtain ⟨V', m1, m2⟩ := ax_lk_has h.2 hk
      exact ⟨V', List.mem_cons_of_mem _ m1, m2⟩
theorem ax_flt_eq {β : Type} (keep : Nat × AV → Bool) : ∀ (lv : AL) (k : AL → β), ax_flt keep lv k = k (lv.filter keep)
  | [], _ => rfl
  | q :: r, k => by
    have e : ax_flt keep (q :: r) k = ax_flt keep r (fun t => bif keep q then k (q :: t) else k t) := rfl
    rw [e, ax_flt_eq keep r, List.filter_cons]
    cases keep q <;> rfl
theorem nbeq (a b : Nat) : Nat.beq a b = (a == b) := by rw [Bool.eq_iff_iff, beq_iff_eq, Nat.beq_eq]
theorem Rl.flt1 {sp : Nat → Nat} {ρ ad : List Nat} {i : Nat} : ∀ {lv : AL} {LV : List (Nat × Value)}, Rl sp ρ ad lv LV → Rl sp ρ ad (lv.filter (ax_k1 i)) (LV.filter (fun q => !(q.1 == i) && !(q.1 + 1 == i && q.2.category == 2)))
  | [], [], _ => trivial
  | q :: r, V :: R, h => by
    have e : ax_k1 i q = (!(V.1 == i) && !(V.1 + 1 == i && V.2.category == 2)) := by
      unfold ax_k1
      rw [h.1.2.cat, ← h.1.1, nbeq, nbeq]
      cases ax_c2 q.2 <;> rfl
    rw [List.filter_cons, List.filter_cons, e]
    cases (!(V.1 == i) && !(V.1 + 1 == i && V.2.category == 2))
    · exact Rl.flt1 h.2
    · exact ⟨h.1, Rl.flt1 h.2⟩
theorem Rl.flt2 {sp : Nat → Nat} {ρ ad : List Nat} {i : Nat} : ∀ {lv : AL} {LV : List (Nat × Value)}, Rl sp ρ ad lv LV → Rl sp ρ ad (lv.filter (ax_k2 i)) (LV.filter (fun q => !(q.1 == i) && (!(q.1 == i + 1) && !(q.1 + 1 == i && q.2.category == 2))))
  | [], [], _ => trivial
  | q :: r, V :: R, h => by
    have e : ax_k2 i q = (!(V.1 == i) && (!(V.1 == i + 1) && !(V.1 + 1 == i && V.2.category == 2))) := by
      unfold ax_k2
      rw [h.1.2.cat, ← h.1.1, nbeq, nbeq, nbeq]
      cases ax_c2 q.2 <;> rfl
    rw [List.filter_cons, List.filter_cons, e]
    cases (!(V.1 == i) && (!(V.1 == i + 1) && !(V.1 + 1 == i && V.2.category == 2)))
    · exact Rl.flt2 h.2
    · exact ⟨h.1, Rl.flt2 h.2⟩
theorem Rl.locs {sp : Nat → Nat} {ρ ad : List Nat} : ∀ {as : List AV} {VS : List Value} (i : Nat), Rs sp ρ ad as VS → Rl sp ρ ad (ax_locs i as) (lv_args i VS)
  | [], [], _, _ => trivial
  | v :: r, V :: R, i, h => by
    refine ⟨⟨rfl, h.1⟩, ?_⟩
    have e : (if V.category = 2 then i + 2 else i + 1) = (bif ax_c2 v then i + 2 else i + 1) := by
      rw [h.1.cat]
      cases ax_c2 v <;> rfl
    show Rl sp ρ ad (ax_locs (bif ax_c2 v then i + 2 else i + 1) r) (lv_args (if V.category = 2 then i + 2 else i + 1) R)
    rw [e]
    exact Rl.locs _ h.2
theorem Rs.wt {sp : Nat → Nat} {ρ ad : List Nat} : ∀ {as : List AV} {VS : List Value}, Rs sp ρ ad as VS → (VS.map fun v => v.category).sum = ax_wt as
  | [], [], _ => rfl
  | v :: r, V :: R, h => by
    have e : V.category = (bif ax_c2 v then 2 else 1) := by
      rw [h.1.cat]
      cases ax_c2 v <;> rfl
    show (V.category :: R.map fun v => v.category).sum = (bif ax_c2 v then 2 else 1) + ax_wt r
    rw [List.sum_cons, Rs.wt h.2, e]
theorem lg_len : ∀ (VS : List Value), (lg_sl VS).length = (VS.map fun v => v.category).sum
  | [] => rfl
  | V :: R => by
    have hc := lv_cat V
    have e : lg_sl (V :: R) = (if V.category = 2 then [Slot.val V, Slot.second] else [Slot.val V]) ++ lg_sl R := rfl
    rw [e, List.length_append, lg_len R, List.map_cons, List.sum_cons]
    rcases hc with h | h
    · rw [h]; rfl
    · rw [h]; rfl
/-- numbers of ints -/
theorem ax_nv_ok {sp : Nat → Nat} {ρ ad : List Nat} {σ : AS} (hS : St ρ σ) {v : AV} {V : Value} (h : Rp sp ρ ad v V) : Rp sp ρ ad (ax_nv σ v) V := by
  unfold ax_nv
  cases hb : Nat.beq v.1 4 with
  | false => exact h
  | true =>
    obtain ⟨t, k⟩ := v
    have ht : t = 4 := Nat.eq_of_beq_eq_true hb
    subst ht
    rw [ax_nth_eq]
    obtain ⟨z, hz, e⟩ := h
    obtain ⟨q, hq, h1, h2⟩ := hS.2 k z hz
    show Rp sp ρ ad (match σ[k]? with | some q => bif Nat.beq q.1 q.2 then (0, (q.1 + 9223372036854775808) % 4294967296) else (4, k) | none => (4, k)) V
    rw [hq]
    show Rp sp ρ ad (bif Nat.beq q.1 q.2 then (0, (q.1 + 9223372036854775808) % 4294967296) else (4, k)) V
    cases hb2 : Nat.beq q.1 q.2 with
    | false => exact ⟨z, hz, e⟩
    | true =>
      have e2 : q.1 = q.2 := Nat.eq_of_beq_eq_true hb2
      show V = .int (nI ((q.1 + 9223372036854775808) % 4294967296))
      rw [nI_mod, e, show z = q.1 by omega]
theorem zI_nI {n : Nat} (h : n < 4294967296) : zI (nI n) = ax_bi n := by
  have h1 := zI_cast (nI n)
  have h2 := nI_b h
  omega
theorem zI_z {z : Nat} (h1 : 9223372034707292160 ≤ z) (h2 : z ≤ 9223372039002259455) : zI (nI (z + 9223372036854775808)) = z := by
  have h3 := zI_cast (nI (z + 9223372036854775808))
  have h4 := nI_z h1 h2
  omega
theorem zL_lN {n : Nat} (h : n < 18446744073709551616) : zL (lN n) = ax_bl n := by
  have h1 := zL_cast (lN n)
  have h2 := lN_b h
  omega
theorem zL_z {z : Nat} (h2 : z ≤ 18446744073709551615) : zL (lN (z + 9223372036854775808)) = z := by
  have h3 := zL_cast (lN (z + 9223372036854775808))
  have h4 := lN_z h2
  omega
/-- the range of an int; for an unknown: its kept value is that int's -/
theorem ax_rI_ok {sp : Nat → Nat} {ρ ad : List Nat} {σ : AS} (hS : St ρ σ) {v : AV} {V : Value} (h : Rp sp ρ ad v V) {q : Nat × Nat} (hq : ax_rI σ v = some q) : ∃ x : Int32, V = .int x ∧ q.1 ≤ zI x ∧ zI x ≤ q.2 ∧ (v.1 = 4 → ρ[v.2]? = some (zI x)) := by
  unfold ax_rI at hq
  cases hb : Nat.beq v.1 0 with
  | true =>
    rw [hb] at hq
    obtain ⟨h1, h2⟩ := gd_s hq
    obtain ⟨t, n⟩ := v
    have ht : t = 0 := Nat.eq_of_beq_eq_true hb
    subst ht
    cases h2
    have hn : n < 4294967296 := Nat.le_of_ble_eq_true h1
    have e := zI_nI hn
    exact ⟨nI n, h, by rw [e]; exact Nat.le_refl _, by rw [e]; exact Nat.le_refl _, fun q => by cases q⟩
  | false =>
    rw [hb] at hq
    obtain ⟨h1, h2⟩ := gd_s (b := Nat.beq v.1 4) hq
    obtain ⟨t, k⟩ := v
    have ht : t = 4 := Nat.eq_of_beq_eq_true h1
    subst ht
    obtain ⟨q', hq', h3⟩ := ob_s h2
    obtain ⟨h4, h5⟩ := gd_s h3
    cases h5
    rw [Bool.and_eq_true] at h4
    have b1 := Nat.le_of_ble_eq_true h4.1
    have b2 := Nat.le_of_ble_eq_true h4.2
    obtain ⟨z, hz, e⟩ := h
    rw [ax_nth_eq] at hq'
    obtain ⟨q2, e1, e2, e3⟩ := hS.2 k z hz
    cases hq'.symm.trans e1
    have ez := zI_z (z := z) (by omega) (by omega)
    exact ⟨_, e, by rw [ez]; exact e2, by rw [ez]; exact e3, fun _ => by rw [ez]; exact hz⟩
theorem ax_rL_ok {sp : Nat → Nat} {ρ ad : List Nat} {σ : AS} (hS : St ρ σ) {v : AV} {V : Value} (h : Rp sp ρ ad v V) {q : Nat × Nat} (hq : ax_rL σ v = some q) : ∃ x : Int64, V = .long x ∧ q.1 ≤ zL x ∧ zL x ≤ q.2 ∧ (v.1 = 5 → ρ[v.2]? = some (zL x)) := by
  unfold ax_rL at hq
  cases hb : Nat.beq v.1 1 with
  | true =>
    rw [hb] at hq
    obtain ⟨h1, h2⟩ := gd_s hq
    obtain ⟨t, n⟩ := v
    have ht : t = 1 := Nat.eq_of_beq_eq_true hb
    subst ht
    cases h2
    have hn : n < 18446744073709551616 := Nat.le_of_ble_eq_true h1
    have e := zL_lN hn
    exact ⟨lN n, h, by rw [e]; exact Nat.le_refl _, by rw [e]; exact Nat.le_refl _, fun q => by cases q⟩
  | false =>
    rw [hb] at hq
    obtain ⟨h1, h2⟩ := gd_s (b := Nat.beq v.1 5) hq
    obtain ⟨t, k⟩ := v
    have ht : t = 5 := Nat.eq_of_beq_eq_true h1
    subst ht
    obtain ⟨q', hq', h3⟩ := ob_s h2
    obtain ⟨h4, h5⟩ := gd_s h3
    cases h5
    have b2 := Nat.le_of_ble_eq_true h4
    obtain ⟨z, hz, e⟩ := h
    rw [ax_nth_eq] at hq'
    obtain ⟨q2, e1, e2, e3⟩ := hS.2 k z hz
    cases hq'.symm.trans e1
    have ez := zL_z (z := z) (by omega)
    exact ⟨_, e, by rw [ez]; exact e2, by rw [ez]; exact e3, fun _ => by rw [ez]; exact hz⟩
end
section
/-! THE ABSTRACT MACHINE, 4: its numbers are right -/
theorem lt_zI (x y : Int32) : x < y ↔ zI x < zI y := by
  have h1 := zI_cast x
  have h2 := zI_cast y
  rw [Int32.lt_iff_toInt_lt]
  omega
theorem le_zI (x y : Int32) : x ≤ y ↔ zI x ≤ zI y := by
  have h1 := zI_cast x
  have h2 := zI_cast y
  rw [Int32.le_iff_toInt_le]
  omega
theorem eq_zI (x y : Int32) : x = y ↔ zI x = zI y := by
  have h1 := zI_cast x
  have h2 := zI_cast y
  rw [← Int32.toInt_inj]
  omega
theorem bb_le {a b : Nat} (h : Nat.ble a b = true) : a ≤ b := Nat.le_of_ble_eq_true h
theorem bb_lt {a b : Nat} (h : Nat.blt a b = true) : a < b := Nat.le_of_ble_eq_true h
theorem bb_nle {a b : Nat} (h : Nat.ble a b = false) : b < a := Nat.lt_of_not_le (fun q => by rw [Nat.ble_eq_true_of_le q] at h; cases h)
theorem bb_nlt {a b : Nat} (h : Nat.blt a b = false) : b ≤ a := Nat.le_of_lt_succ (bb_nle h)
theorem bb_eq {a b : Nat} (h : Nat.beq a b = true) : a = b := Nat.eq_of_beq_eq_true h
theorem bb_ne {a b : Nat} (h : Nat.beq a b = false) : a ≠ b := Nat.ne_of_beq_eq_false h
theorem bb_and {a b : Bool} (h : (a && b) = true) : a = true ∧ b = true := by rw [Bool.and_eq_true] at h; exact h
theorem ax_cut_ok {sp : Nat → Nat} {ρ ad : List Nat} {σ : AS} (hS : St ρ σ) {v : AV} {x : Int32} (hv : v.1 = 4 → ρ[v.2]? = some (zI x)) {lo hi : Nat} (h1 : lo ≤ zI x) (h2 : zI x ≤ hi) : St ρ (ax_cut σ v lo hi) := by
  unfold ax_cut
  cases hb : Nat.beq v.1 4 with
  | false => exact hS
  | true =>
    show St ρ (ax_set σ v.2 (lo, hi) (fun s => s))
    rw [ax_set_eq]
    refine hS.cut (fun z hz => ?_)
    rw [hv (bb_eq hb)] at hz
    cases hz
    exact ⟨h1, h2⟩
/-- what a test of two ints leaves -/
theorem ax_lt_ok {sp : Nat → Nat} {ρ ad : List Nat} {σ : AS} (hS : St ρ σ) {a b : AV} {A B : Value} (ha : Rp sp ρ ad a A) (hb : Rp sp ρ ad b B) {T F : Option AS} (h : ax_lt σ a b = some (T, F)) :
    ∃ x y : Int32, A = .int x ∧ B = .int y ∧ (x < y → ∃ σ', T = some σ' ∧ St ρ σ') ∧ (¬ x < y → ∃ σ', F = some σ' ∧ St ρ σ') := by
  unfold ax_lt at h
  obtain ⟨ra, ea, h⟩ := ob_s h
  obtain ⟨rb, eb, h⟩ := ob_s h
  obtain ⟨x, hx, x1, x2, x3⟩ := ax_rI_ok hS ha ea
  obtain ⟨y, hy, y1, y2, y3⟩ := ax_rI_ok hS hb eb
  cases h
  refine ⟨x, y, hx, hy, fun q => ?_, fun q => ?_⟩
  · rw [lt_zI] at q
    cases hc : Nat.blt ra.1 rb.2 with
    | false => exact absurd (bb_nlt hc) (by omega)
    | true => exact ⟨_, rfl, ax_cut_ok (sp := sp) (ad := ad) (ax_cut_ok (sp := sp) (ad := ad) hS x3 x1 (by omega)) y3 (by omega) y2⟩
  · rw [lt_zI] at q
    cases hc : Nat.ble rb.1 ra.2 with
    | false => exact absurd (bb_nle hc) (by omega)
    | true => exact ⟨_, rfl, ax_cut_ok (sp := sp) (ad := ad) (ax_cut_ok (sp := sp) (ad := ad) hS x3 (by omega) x2) y3 y1 (by omega)⟩
theorem ax_eq_ok {sp : Nat → Nat} {ρ ad : List Nat} {σ : AS} (hS : St ρ σ) {a b : AV} {A B : Value} (ha : Rp sp ρ ad a A) (hb : Rp sp ρ ad b B) {T F : Option AS} (h : ax_eq σ a b = some (T, F)) :
    ∃ x y : Int32, A = .int x ∧ B = .int y ∧ (x = y → ∃ σ', T = some σ' ∧ St ρ σ') ∧ (¬ x = y → ∃ σ', F = some σ' ∧ St ρ σ') := by
  unfold ax_eq at h
  obtain ⟨ra, ea, h⟩ := ob_s h
  obtain ⟨rb, eb, h⟩ := ob_s h
  obtain ⟨x, hx, x1, x2, x3⟩ := ax_rI_ok hS ha ea
  obtain ⟨y, hy, y1, y2, y3⟩ := ax_rI_ok hS hb eb
  cases h
  refine ⟨x, y, hx, hy, fun q => ?_, fun q => ?_⟩
  · rw [eq_zI] at q
    cases hc : Nat.ble (max ra.1 rb.1) (min ra.2 rb.2) with
    | false => exact absurd (bb_nle hc) (by omega)
    | true => exact ⟨_, rfl, ax_cut_ok (sp := sp) (ad := ad) (ax_cut_ok (sp := sp) (ad := ad) hS x3 (by omega) (by omega)) y3 (by omega) (by omega)⟩
  · rw [eq_zI] at q
    cases hc : (Nat.beq ra.1 ra.2 && (Nat.beq rb.1 rb.2 && Nat.beq ra.1 rb.1)) with
    | true =>
      have q1 := bb_and hc
      have q2 := bb_and q1.2
      have := bb_eq q1.1
      have := bb_eq q2.1
      have := bb_eq q2.2
      exact absurd q (by omega)
    | false =>
      refine ⟨_, rfl, ?_⟩
      cases hd : Nat.beq rb.1 rb.2 with
      | false => exact hS
      | true =>
        have e := bb_eq hd
        refine ax_cut_ok (sp := sp) (ad := ad) hS x3 ?_ ?_
        · cases he : Nat.beq ra.1 rb.1 with
          | false => exact x1
          | true => have := bb_eq he; show ra.1 + 1 ≤ _; omega
        · cases he : Nat.beq ra.2 rb.1 with
          | false => exact x2
          | true => have := bb_eq he; show _ ≤ ra.2 - 1; omega
/-- a new unknown int, a new unknown long -/
theorem nwI {sp : Nat → Nat} {ρ ad : List Nat} {σ : AS} (hS : St ρ σ) (r : Int32) {q : Nat × Nat} (h1 : q.1 ≤ zI r) (h2 : zI r ≤ q.2) : Sb ρ (ρ ++ [zI r]) ∧ St (ρ ++ [zI r]) (σ ++ [q]) ∧ Rp sp (ρ ++ [zI r]) ad (4, σ.length) (.int r) :=
  ⟨Sb.app _ _, hS.app h1 h2, zI r, by rw [← hS.1]; simp, by rw [zI_back]⟩
theorem nwL {sp : Nat → Nat} {ρ ad : List Nat} {σ : AS} (hS : St ρ σ) (r : Int64) : Sb ρ (ρ ++ [zL r]) ∧ St (ρ ++ [zL r]) (σ ++ [ax_fullL]) ∧ Rp sp (ρ ++ [zL r]) ad (5, σ.length) (.long r) :=
  ⟨Sb.app _ _, hS.app (Nat.zero_le _) (zL_rng r), zL r, by rw [← hS.1]; simp, by rw [zL_back]⟩
/-- the int operations -/
def ax_fop (op : Nat) (x y : Int32) : Int32 := match op with
  | 0 => x + y
  | 1 => x - y
  | 2 => x * y
  | 3 => x &&& y
  | 4 => x ||| y
  | 5 => x ^^^ y
  | 6 => x <<< (y &&& 31)
  | 7 => x >>> (y &&& 31)
  | _ => (x.toUInt32 >>> (y.toUInt32 &&& Int32.toUInt32 31)).toInt32
theorem nI_bv (n : Nat) : (nI n).toBitVec = BitVec.ofNat 32 n := rfl
theorem nI_bvn {n : Nat} (h : n < 4294967296) : (nI n).toBitVec.toNat = n := by
  rw [nI_bv, BitVec.toNat_ofNat]
  exact Nat.mod_eq_of_lt h
theorem i32_bv {x y : Int32} (h : x.toBitVec.toNat = y.toBitVec.toNat) : x = y := Int32.toBitVec_inj.mp (BitVec.eq_of_toNat_eq h)
theorem nI_and31 (y : Nat) : nI y &&& 31 = nI (y % 32) := by
  apply i32_bv
  rw [Int32.toBitVec_and, BitVec.toNat_and, nI_bv, nI_bv, BitVec.toNat_ofNat, BitVec.toNat_ofNat]
  show (y % 2 ^ 32) &&& (2 ^ 5 - 1) = _
  rw [Nat.and_two_pow_sub_one_eq_mod]
  omega
theorem sh31 : ∀ k, k < 32 → ((nI k).toBitVec.smod 32).toNat = k := by decide +kernel
theorem sh31u : ∀ k, k < 32 → (((nI k).toUInt32 &&& Int32.toUInt32 31).toBitVec % 32).toNat = k := by decide +kernel
theorem nI_u31 (y : Nat) : (nI y).toUInt32 &&& Int32.toUInt32 31 = (nI (y % 32)).toUInt32 &&& Int32.toUInt32 31 := by
  have h : (nI y &&& 31).toUInt32 = (nI (y % 32) &&& 31).toUInt32 := by rw [nI_and31, nI_and31, Nat.mod_mod]
  exact h
set_option maxRecDepth 20000 in
theorem ax_cop_ok (op x y : Nat) (hx : x < 4294967296) (hy : y < 4294967296) : nI (ax_cop op x y) = ax_fop op (nI x) (nI y) := by
  match op with
  | 0 => show nI ((x + y) % 4294967296) = nI x + nI y; rw [nI_mod, nI_add]
  | 1 =>
    show nI ((x + (4294967296 - y)) % 4294967296) = nI x - nI y
    apply Int32.toInt_inj.mp
    rw [nI_mod, Int32.toInt_sub, nI_toInt_bmod, nI_toInt_bmod, nI_toInt_bmod]
    simp only [Int.bmod_def]
    omega
  | 2 => show nI ((x * y) % 4294967296) = nI x * nI y; rw [nI_mod, pk_mul]
  | 3 =>
    show nI (Nat.land x y) = nI x &&& nI y
    apply i32_bv
    rw [Int32.toBitVec_and, BitVec.toNat_and, nI_bvn hx, nI_bvn hy, nI_bvn]
    · rfl
    · exact Nat.lt_of_le_of_lt Nat.and_le_left hx
  | 4 =>
    show nI (Nat.lor x y) = nI x ||| nI y
    apply i32_bv
    rw [Int32.toBitVec_or, BitVec.toNat_or, nI_bvn hx, nI_bvn hy, nI_bvn]
    · rfl
    · exact Nat.or_lt_two_pow (n := 32) hx hy
  | 5 =>
    show nI (Nat.xor x y) = nI x ^^^ nI y
    apply i32_bv
    rw [Int32.toBitVec_xor, BitVec.toNat_xor, nI_bvn hx, nI_bvn hy, nI_bvn]
    · rfl
    · exact Nat.xor_lt_two_pow (n := 32) hx hy
  | 6 =>
    show nI ((x * 2 ^ (y % 32)) % 4294967296) = nI x <<< (nI y &&& 31)
    rw [nI_and31]
    apply i32_bv
    rw [pk_shl _ _ (y % 32) (sh31 _ (Nat.mod_lt _ (by decide))), nI_bvn hx, nI_bvn (Nat.mod_lt _ (by decide))]
  | 7 =>
    show nI (bif Nat.blt x 2147483648 then x / 2 ^ (y % 32) else 4294967295 - (4294967295 - x) / 2 ^ (y % 32)) = nI x >>> (nI y &&& 31)
    rw [nI_and31]
    apply Int32.toInt_inj.mp
    rw [pk_shr _ _ (y % 32) (sh31 _ (Nat.mod_lt _ (by decide))), Int.shiftRight_eq_div_pow]
    have hp : 0 < 2 ^ (y % 32) := Nat.two_pow_pos _
    have hz : ∀ a : Nat, a / 2 ^ (y % 32) ≤ a := fun a => Nat.div_le_self _ _
    cases hb : Nat.blt x 2147483648 with
    | true =>
      have h1 := bb_lt hb
      have h2 := hz x
      show (nI (x / 2 ^ (y % 32))).toInt = _
      rw [nI_toInt (by omega), nI_toInt (by omega)]
      push_cast
      rfl
    | false =>
      have h1 := bb_nlt hb
      have h2 := hz (4294967295 - x)
      have e4 : (-(((4294967295 - x : Nat) : Int) + 1)) / ((2 ^ (y % 32) : Nat) : Int) = -(((4294967295 - x) / 2 ^ (y % 32) : Nat) : Int) - 1 := by
        have h := Int.negSucc_ediv (4294967295 - x) (b := ((2 ^ (y % 32) : Nat) : Int)) (by exact_mod_cast hp)
        rw [Int.negSucc_eq] at h
        rw [h]
        have h5 : ((4294967295 - x : Nat) : Int).ediv ((2 ^ (y % 32) : Nat) : Int) = (((4294967295 - x) / 2 ^ (y % 32) : Nat) : Int) := rfl
        rw [h5]
        omega
      show (nI (4294967295 - (4294967295 - x) / 2 ^ (y % 32))).toInt = _
      generalize (4294967295 - x) / 2 ^ (y % 32) = d at h2 e4 ⊢
      rw [nI_b (by omega), nI_b hx]
      have e1 : ax_bi x = x + 9223372036854775808 - 4294967296 := by unfold ax_bi; rw [if_neg (by omega)]
      have e2 : ax_bi (4294967295 - d) = 4294967295 - d + 9223372036854775808 - 4294967296 := by unfold ax_bi; rw [if_neg (by omega)]
      have e3 : ((x + 9223372036854775808 - 4294967296 : Nat) : Int) - 9223372036854775808 = -(((4294967295 - x : Nat) : Int) + 1) := by omega
      rw [e1, e2, e3]
      have e5 : ((2 : Int) ^ (y % 32)) = ((2 ^ (y % 32) : Nat) : Int) := by push_cast; rfl
      refine Eq.trans ?_ (e4.symm.trans ?_)
      · clear e4 e5 hz hp e3 e1 e2
        omega
      · first | rfl | (rw [e5])
  | n + 8 =>
    show nI (x / 2 ^ (y % 32)) = ((nI x).toUInt32 >>> ((nI y).toUInt32 &&& Int32.toUInt32 31)).toInt32
    rw [nI_u31, pk_ushrN hx _ (y % 32) (sh31u _ (Nat.mod_lt _ (by decide)))]
theorem full_in (r : Int32) : ax_full.1 ≤ zI r ∧ zI r ≤ ax_full.2 := zI_rng r
theorem and_rng {x y : Int32} (h : 9223372036854775808 ≤ zI y) : 9223372036854775808 ≤ zI (x &&& y) ∧ zI (x &&& y) ≤ zI y := by
  have hy := zI_cast y
  have hr := i32_rng y
  have hxy := zI_cast (x &&& y)
  have e1 : y.toInt = (y.toBitVec.toNat : Int) := by
    have h1 : y.toInt = if 2 * y.toBitVec.toNat < 2 ^ 32 then (y.toBitVec.toNat : Int) else (y.toBitVec.toNat : Int) - ((2 ^ 32 : Nat) : Int) := BitVec.toInt_eq_toNat_cond y.toBitVec
    have hl := y.toBitVec.isLt
    split at h1
    · exact h1
    · omega
  have hb : (x &&& y).toBitVec.toNat ≤ y.toBitVec.toNat := by
    rw [Int32.toBitVec_and, BitVec.toNat_and]
    exact Nat.and_le_right
  have e2 : (x &&& y).toInt = ((x &&& y).toBitVec.toNat : Int) := by
    have h1 : (x &&& y).toInt = (x &&& y).toBitVec.toInt := rfl
    rw [h1, BitVec.toInt_eq_toNat_cond]
    have hlt := (x &&& y).toBitVec.isLt
    rw [if_pos]
    omega
  omega
theorem ax_iv_ok (op : Nat) {a b : Nat × Nat} {x y : Int32} (x1 : a.1 ≤ zI x) (x2 : zI x ≤ a.2) (y1 : b.1 ≤ zI y) (y2 : zI y ≤ b.2) : (ax_iv op a b).1 ≤ zI (ax_fop op x y) ∧ zI (ax_fop op x y) ≤ (ax_iv op a b).2 := by
  match op with
  | 0 =>
    unfold ax_iv
    cases hc : (Nat.ble 18446744071562067968 (a.1 + b.1) && Nat.ble (a.2 + b.2) 18446744075857035263) with
    | false => simp only [hc]; exact full_in _
    | true =>
      simp only [hc]
      have q := bb_and hc
      have q1 := bb_le q.1
      have q2 := bb_le q.2
      have h1 := zI_cast x
      have h2 := zI_cast y
      have h3 := zI_cast (x + y)
      have h4 : (x + y).toInt = x.toInt + y.toInt := by
        rw [Int32.toInt_add, Int.bmod_def]
        omega
      show a.1 + b.1 - 9223372036854775808 ≤ zI (x + y) ∧ zI (x + y) ≤ a.2 + b.2 - 9223372036854775808
      omega
  | 1 =>
    unfold ax_iv
    cases hc : (Nat.ble (9223372034707292160 + b.2) (a.1 + 9223372036854775808) && Nat.ble (a.2 + 9223372036854775808) (9223372039002259455 + b.1)) with
    | false => simp only [hc]; exact full_in _
    | true =>
      simp only [hc]
      have q := bb_and hc
      have q1 := bb_le q.1
      have q2 := bb_le q.2
      have h1 := zI_cast x
      have h2 := zI_cast y
      have h3 := zI_cast (x - y)
      have h4 : (x - y).toInt = x.toInt - y.toInt := by
        rw [Int32.toInt_sub, Int.bmod_def]
        omega
      show a.1 + 9223372036854775808 - b.2 ≤ zI (x - y) ∧ zI (x - y) ≤ a.2 + 9223372036854775808 - b.1
      omega
  | 2 => exact full_in _
  | 3 =>
    unfold ax_iv
    cases hc : (Nat.beq b.1 b.2 && Nat.ble 9223372036854775808 b.1) with
    | false => simp only [hc]; exact full_in _
    | true =>
      simp only [hc]
      have q := bb_and hc
      have q1 := bb_eq q.1
      have q2 := bb_le q.2
      have h1 := and_rng (x := x) (y := y) (by omega)
      show 9223372036854775808 ≤ zI (x &&& y) ∧ zI (x &&& y) ≤ b.1
      omega
  | n + 4 => exact full_in _
/-- two ints make one -/
theorem ax_ib_ok {sp : Nat → Nat} {ρ ad : List Nat} {σ : AS} (hS : St ρ σ) {op : Nat} {a b : AV} {A B : Value} (ha : Rp sp ρ ad a A) (hb : Rp sp ρ ad b B) {β : Type} {k : AS → AV → Option β} {r : β} (h : ax_ib op σ a b k = some r) :
    ∃ (x y : Int32) (σ' : AS) (v : AV) (ρ' : List Nat), A = .int x ∧ B = .int y ∧ k σ' v = some r ∧ Sb ρ ρ' ∧ St ρ' σ' ∧ Rp sp ρ' ad v (.int (ax_fop op x y)) := by
  unfold ax_ib at h
  cases hc : (Nat.beq a.1 0 && Nat.beq b.1 0) with
  | true =>
    rw [hc] at h
    obtain ⟨h1, h2⟩ := gd_s h
    have q := bb_and hc
    have q1 := bb_eq q.1
    have q2 := bb_eq q.2
    obtain ⟨ta, na⟩ := a
    obtain ⟨tb, nb⟩ := b
    dsimp only at q1 q2
    subst q1
    subst q2
    have w := bb_and h1
    have w1 := bb_lt w.1
    have w2 := bb_lt w.2
    rw [ax_fc_eq] at h2
    exact ⟨nI na, nI nb, σ, (0, ax_cop op na nb), ρ, ha, hb, h2, Sb.rf ρ, hS, by show Value.int _ = Value.int _; rw [ax_cop_ok op na nb w1 w2]⟩
  | false =>
    rw [hc] at h
    obtain ⟨ra, ea, h⟩ := ob_s (o := ax_rI σ a) h
    obtain ⟨rb, eb, h⟩ := ob_s h
    obtain ⟨x, hx, x1, x2, x3⟩ := ax_rI_ok hS ha ea
    obtain ⟨y, hy, y1, y2, y3⟩ := ax_rI_ok hS hb eb
    have hi := ax_iv_ok op x1 x2 y1 y2
    have hn := nwI (sp := sp) (ad := ad) hS (ax_fop op x y) hi.1 hi.2
    exact ⟨x, y, _, _, _, hx, hy, h, hn.1, hn.2.1, hn.2.2⟩
theorem nI_div {a b : Nat} (ha : a < 2147483648) (h0 : 1 ≤ b) (hb : b < 2147483648) : nI a / nI b = nI (a / b) := pk_div (by omega) (by omega) (by omega)
theorem ax_id_ok {sp : Nat → Nat} {ρ ad : List Nat} {σ : AS} (hS : St ρ σ) {op : Nat} {a b : AV} {A B : Value} (ha : Rp sp ρ ad a A) (hb : Rp sp ρ ad b B) {β : Type} {k : AS → AV → Option β} {r : β} (h : ax_id op σ a b k = some r) :
    ∃ (x y : Int32) (σ' : AS) (v : AV) (ρ' : List Nat), A = .int x ∧ B = .int y ∧ ¬ y = 0 ∧ k σ' v = some r ∧ Sb ρ ρ' ∧ St ρ' σ' ∧ Rp sp ρ' ad v (.int (if op = 0 then x / y else x - x / y * y)) := by
  unfold ax_id at h
  obtain ⟨h1, h⟩ := gd_s h
  have q := bb_and h1
  have q1 := bb_eq q.1
  have q2 := bb_and q.2
  have q3 := bb_le q2.1
  have q4 := bb_lt q2.2
  obtain ⟨tb, nb⟩ := b
  dsimp only at q1 q3 q4
  subst q1
  have hy : ¬ nI nb = 0 := nI_ne0 (by omega) (by omega)
  cases hc : (Nat.beq a.1 0 && Nat.blt a.2 2147483648) with
  | true =>
    rw [hc] at h
    have w := bb_and hc
    have w1 := bb_eq w.1
    have w2 := bb_lt w.2
    obtain ⟨ta, na⟩ := a
    dsimp only at w1 w2
    subst w1
    have h : ax_fc (bif Nat.beq op 0 then na / nb else na % nb) (fun n => k σ (0, n)) = some r := h
    rw [ax_fc_eq] at h
    refine ⟨nI na, nI nb, σ, _, ρ, ha, hb, hy, h, Sb.rf ρ, hS, ?_⟩
    show Value.int _ = Value.int (nI (bif Nat.beq op 0 then na / nb else na % nb))
    by_cases ho : op = 0
    · subst ho
      rw [if_pos rfl, nI_div w2 q3 q4]
      rfl
    · rw [if_neg ho, pk_rem (by omega) (by omega) (by omega), show Nat.beq op 0 = false by cases op with | zero => exact absurd rfl ho | succ m => rfl]
      rfl
  | false =>
    rw [hc] at h
    obtain ⟨ra, ea, h⟩ := ob_s (o := ax_rI σ a) h
    obtain ⟨x, hx, -⟩ := ax_rI_ok hS ha ea
    have hf := full_in (if op = 0 then x / nI nb else x - x / nI nb * nI nb)
    have hn := nwI (sp := sp) (ad := ad) hS (if op = 0 then x / nI nb else x - x / nI nb * nI nb) hf.1 hf.2
    exact ⟨x, nI nb, _, _, _, hx, hb, hy, h, hn.1, hn.2.1, hn.2.2⟩
/-- the long operations -/
def ax_flo (op : Nat) (x y : Int64) : Int64 := match op with
  | 0 => x + y
  | 1 => x - y
  | 2 => x * y
  | 3 => x &&& y
  | _ => x ||| y
theorem lN_bv (n : Nat) : (lN n).toBitVec = BitVec.ofNat 64 n := rfl
theorem lN_bvn {n : Nat} (h : n < 18446744073709551616) : (lN n).toBitVec.toNat = n := by
  rw [lN_bv, BitVec.toNat_ofNat]
  exact Nat.mod_eq_of_lt h
theorem i64_bv {x y : Int64} (h : x.toBitVec.toNat = y.toBitVec.toNat) : x = y := Int64.toBitVec_inj.mp (BitVec.eq_of_toNat_eq h)
theorem ax_lop_ok (op x y : Nat) (hx : x < 18446744073709551616) (hy : y < 18446744073709551616) : lN (ax_lop op x y) = ax_flo op (lN x) (lN y) := by
  match op with
  | 0 => show lN ((x + y) % 18446744073709551616) = lN x + lN y; rw [lN_mod, lN_add]
  | 1 =>
    show lN ((x + (18446744073709551616 - y)) % 18446744073709551616) = lN x - lN y
    apply Int64.toInt_inj.mp
    rw [lN_mod, Int64.toInt_sub, lN_toInt_bmod, lN_toInt_bmod, lN_toInt_bmod]
    simp only [Int.bmod_def]
    omega
  | 2 => show lN ((x * y) % 18446744073709551616) = lN x * lN y; rw [lN_mod, lN_mul]
  | 3 =>
    show lN (Nat.land x y) = lN x &&& lN y
    apply i64_bv
    rw [Int64.toBitVec_and, BitVec.toNat_and, lN_bvn hx, lN_bvn hy, lN_bvn]
    · rfl
    · exact Nat.lt_of_le_of_lt Nat.and_le_left hx
  | n + 4 =>
    show lN (Nat.lor x y) = lN x ||| lN y
    apply i64_bv
    rw [Int64.toBitVec_or, BitVec.toNat_or, lN_bvn hx, lN_bvn hy, lN_bvn]
    · rfl
    · exact Nat.or_lt_two_pow (n := 64) hx hy
theorem ax_lb_ok {sp : Nat → Nat} {ρ ad : List Nat} {σ : AS} (hS : St ρ σ) {op : Nat} {a b : AV} {A B : Value} (ha : Rp sp ρ ad a A) (hb : Rp sp ρ ad b B) {β : Type} {k : AS → AV → Option β} {r : β} (h : ax_lb op σ a b k = some r) :
    ∃ (x y : Int64) (σ' : AS) (v : AV) (ρ' : List Nat), A = .long x ∧ B = .long y ∧ k σ' v = some r ∧ Sb ρ ρ' ∧ St ρ' σ' ∧ Rp sp ρ' ad v (.long (ax_flo op x y)) := by
  unfold ax_lb at h
  cases hc : (Nat.beq a.1 1 && Nat.beq b.1 1) with
  | true =>
    rw [hc] at h
    obtain ⟨h1, h2⟩ := gd_s h
    have q := bb_and hc
    have q1 := bb_eq q.1
    have q2 := bb_eq q.2
    obtain ⟨ta, na⟩ := a
    obtain ⟨tb, nb⟩ := b
    dsimp only at q1 q2
    subst q1
    subst q2
    have w := bb_and h1
    rw [ax_fc_eq] at h2
    exact ⟨lN na, lN nb, σ, (1, ax_lop op na nb), ρ, ha, hb, h2, Sb.rf ρ, hS, by show Value.long _ = Value.long _; rw [ax_lop_ok op na nb (bb_lt w.1) (bb_lt w.2)]⟩
  | false =>
    rw [hc] at h
    obtain ⟨h1, h⟩ := gd_s (b := ax_tL a && ax_tL b) h
    have w := bb_and h1
    obtain ⟨x, hx⟩ := ha.tL w.1
    obtain ⟨y, hy⟩ := hb.tL w.2
    have hn := nwL (sp := sp) (ad := ad) hS (ax_flo op x y)
    exact ⟨x, y, _, _, _, hx, hy, h, hn.1, hn.2.1, hn.2.2⟩
/-- conversions of an int -/
def ax_fu (op : Nat) (x : Int32) : Int32 := match op with
  | 0 => x.toInt8.toInt32
  | 1 => x.toInt16.toInt32
  | 2 => (x.toUInt32 % 65536).toInt32
  | _ => -x
theorem nI_b8 (n : Nat) : (nI n).toInt8.toInt32.toInt = (n : Int).bmod 256 := by
  rw [Int8.toInt_toInt32, Int32.toInt_toInt8, nI_toInt_bmod]
  simp only [Int.bmod_def]
  omega
theorem nI_b16 (n : Nat) : (nI n).toInt16.toInt32.toInt = (n : Int).bmod 65536 := by
  rw [Int16.toInt_toInt32, Int32.toInt_toInt16, nI_toInt_bmod]
  simp only [Int.bmod_def]
  omega
theorem ax_cu_ok (op x : Nat) (hx : x < 4294967296) : nI (ax_cu op x) = ax_fu op (nI x) := by
  match op with
  | 0 =>
    show nI (bif Nat.blt (x % 256) 128 then x % 256 else x % 256 + 4294967040) = (nI x).toInt8.toInt32
    apply Int32.toInt_inj.mp
    rw [nI_b8]
    cases hb : Nat.blt (x % 256) 128 with
    | true =>
      have := bb_lt hb
      show (nI (x % 256)).toInt = _
      rw [nI_toInt_bmod]
      simp only [Int.bmod_def]
      omega
    | false =>
      have := bb_nlt hb
      show (nI (x % 256 + 4294967040)).toInt = _
      rw [nI_toInt_bmod]
      simp only [Int.bmod_def]
      omega
  | 1 =>
    show nI (bif Nat.blt (x % 65536) 32768 then x % 65536 else x % 65536 + 4294901760) = (nI x).toInt16.toInt32
    apply Int32.toInt_inj.mp
    rw [nI_b16]
    cases hb : Nat.blt (x % 65536) 32768 with
    | true =>
      have := bb_lt hb
      show (nI (x % 65536)).toInt = _
      rw [nI_toInt_bmod]
      simp only [Int.bmod_def]
      omega
    | false =>
      have := bb_nlt hb
      show (nI (x % 65536 + 4294901760)).toInt = _
      rw [nI_toInt_bmod]
      simp only [Int.bmod_def]
      omega
  | 2 =>
    show nI (x % 65536) = ((nI x).toUInt32 % 65536).toInt32
    rw [pk_char, nI_bvn hx]
  | n + 3 =>
    show nI ((4294967296 - x) % 4294967296) = -(nI x)
    apply Int32.toInt_inj.mp
    rw [nI_mod, Int32.toInt_neg, nI_toInt_bmod, nI_toInt_bmod]
    simp only [Int.bmod_def]
    omega
theorem ax_cuv_ok (op : Nat) (x : Int32) : (ax_cuv op).1 ≤ zI (ax_fu op x) ∧ zI (ax_fu op x) ≤ (ax_cuv op).2 := by
  match op with
  | 0 =>
    show 9223372036854775680 ≤ zI x.toInt8.toInt32 ∧ zI x.toInt8.toInt32 ≤ 9223372036854775935
    have h1 := zI_cast x.toInt8.toInt32
    rw [Int8.toInt_toInt32] at h1
    have h2 := Int8.le_toInt x.toInt8
    have h3 := Int8.toInt_lt x.toInt8
    omega
  | 1 =>
    show 9223372036854743040 ≤ zI x.toInt16.toInt32 ∧ zI x.toInt16.toInt32 ≤ 9223372036854808575
    have h1 := zI_cast x.toInt16.toInt32
    rw [Int16.toInt_toInt32] at h1
    have h2 := Int16.le_toInt x.toInt16
    have h3 := Int16.toInt_lt x.toInt16
    omega
  | 2 =>
    show 9223372036854775808 ≤ zI (x.toUInt32 % 65536).toInt32 ∧ zI (x.toUInt32 % 65536).toInt32 ≤ 9223372036854841343
    rw [pk_char]
    have hl : x.toBitVec.toNat % 65536 < 65536 := Nat.mod_lt _ (by decide)
    generalize x.toBitVec.toNat % 65536 = d at hl
    rw [zI_nI (by omega)]
    unfold ax_bi
    rw [if_pos (by omega)]
    omega
  | n + 3 => exact full_in _
theorem ax_un_ok {sp : Nat → Nat} {ρ ad : List Nat} {σ : AS} (hS : St ρ σ) {op : Nat} {a : AV} {A : Value} (ha : Rp sp ρ ad a A) {β : Type} {k : AS → AV → Option β} {r : β} (h : ax_un op σ a k = some r) :
    ∃ (x : Int32) (σ' : AS) (v : AV) (ρ' : List Nat), A = .int x ∧ k σ' v = some r ∧ Sb ρ ρ' ∧ St ρ' σ' ∧ Rp sp ρ' ad v (.int (ax_fu op x)) := by
  unfold ax_un at h
  cases hc : Nat.beq a.1 0 with
  | true =>
    rw [hc] at h
    obtain ⟨h1, h2⟩ := gd_s h
    have q1 := bb_eq hc
    obtain ⟨ta, na⟩ := a
    dsimp only at q1
    subst q1
    rw [ax_fc_eq] at h2
    exact ⟨nI na, σ, _, ρ, ha, h2, Sb.rf ρ, hS, by show Value.int _ = Value.int _; rw [ax_cu_ok op na (bb_lt h1)]⟩
  | false =>
    rw [hc] at h
    obtain ⟨h1, h⟩ := gd_s (b := Nat.beq a.1 4) h
    obtain ⟨x, hx⟩ := ha.tI (by unfold ax_tI; rw [h1]; exact Bool.or_true _)
    have hi := ax_cuv_ok op x
    have hn := nwI (sp := sp) (ad := ad) hS (ax_fu op x) hi.1 hi.2
    exact ⟨x, _, _, _, hx, h, hn.1, hn.2.1, hn.2.2⟩
theorem ax_i2l_ok {sp : Nat → Nat} {ρ ad : List Nat} {σ : AS} (hS : St ρ σ) {a : AV} {A : Value} (ha : Rp sp ρ ad a A) {β : Type} {k : AS → AV → Option β} {r : β} (h : ax_i2l σ a k = some r) :
    ∃ (x : Int32) (v : AV), A = .int x ∧ k σ v = some r ∧ Rp sp ρ ad v (.long x.toInt64) := by
  unfold ax_i2l at h
  cases hc : Nat.beq a.1 0 with
  | true =>
    rw [hc] at h
    obtain ⟨h1, h2⟩ := gd_s h
    have q1 := bb_eq hc
    have q2 := bb_lt h1
    obtain ⟨ta, na⟩ := a
    dsimp only at q1 q2
    subst q1
    have h2 : ax_fc (bif Nat.blt na 2147483648 then na else na + 18446744069414584320) (fun n => k σ (1, n)) = some r := h2
    rw [ax_fc_eq] at h2
    refine ⟨nI na, _, ha, h2, ?_⟩
    show Value.long _ = Value.long (lN (bif Nat.blt na 2147483648 then na else na + 18446744069414584320))
    refine congrArg Value.long ?_
    apply Int64.toInt_inj.mp
    rw [Int32.toInt_toInt64, nI_toInt_bmod, lN_toInt_bmod]
    cases hb : Nat.blt na 2147483648 with
    | true =>
      have := bb_lt hb
      show _ = (na : Int).bmod 18446744073709551616
      simp only [Int.bmod_def]
      omega
    | false =>
      have := bb_nlt hb
      show _ = ((na + 18446744069414584320 : Nat) : Int).bmod 18446744073709551616
      simp only [Int.bmod_def]
      omega
  | false =>
    rw [hc] at h
    obtain ⟨h1, h⟩ := gd_s (b := Nat.beq a.1 4) h
    obtain ⟨q, e, h⟩ := ob_s h
    obtain ⟨x, hx, -, -, x3⟩ := ax_rI_ok hS ha e
    refine ⟨x, _, hx, h, zI x, x3 (bb_eq h1), ?_⟩
    refine congrArg Value.long ?_
    apply Int64.toInt_inj.mp
    have h2 := zI_rng x
    have h3 := zI_cast x
    rw [Int32.toInt_toInt64, lN_z (by omega)]
    omega
theorem ax_l2i_ok {sp : Nat → Nat} {ρ ad : List Nat} {σ : AS} (hS : St ρ σ) {a : AV} {A : Value} (ha : Rp sp ρ ad a A) {β : Type} {k : AS → AV → Option β} {r : β} (h : ax_l2i σ a k = some r) :
    ∃ (x : Int64) (σ' : AS) (v : AV) (ρ' : List Nat), A = .long x ∧ k σ' v = some r ∧ Sb ρ ρ' ∧ St ρ' σ' ∧ Rp sp ρ' ad v (.int x.toInt32) := by
  unfold ax_l2i at h
  cases hc : Nat.beq a.1 1 with
  | true =>
    rw [hc] at h
    have q1 := bb_eq hc
    obtain ⟨ta, na⟩ := a
    dsimp only at q1
    subst q1
    have h : ax_fc (na % 4294967296) (fun n => k σ (0, n)) = some r := h
    rw [ax_fc_eq] at h
    refine ⟨lN na, σ, _, ρ, ha, h, Sb.rf ρ, hS, ?_⟩
    show Value.int _ = Value.int (nI (na % 4294967296))
    rw [nI_mod, lN_i]
  | false =>
    rw [hc] at h
    obtain ⟨h1, h⟩ := gd_s (b := Nat.beq a.1 5) h
    obtain ⟨x, hx⟩ := ha.tL (by unfold ax_tL; rw [h1]; exact Bool.or_true _)
    have hf := full_in x.toInt32
    have hn := nwI (sp := sp) (ad := ad) hS x.toInt32 hf.1 hf.2
    exact ⟨x, _, _, _, hx, h, hn.1, hn.2.1, hn.2.2⟩
end
section
/-! THE ABSTRACT MACHINE, 5: its heap; what an entry of a table must say; the context of a method -/
theorem ax_hs_ok {β : Type} {h : AH} {k : Nat} {c : AC} {kk : AH → Option β} {r : β} (e : ax_hs h k c kk = some r) : ∃ h', kk h' = some r ∧ h'.1 = h.1 ∧ ∀ i d, ax_hn h' i = some d → (i = k ∧ d = c) ∨ (i ≠ k ∧ ax_hn h i = some d) := by
  unfold ax_hs at e
  obtain ⟨r0, e0, e⟩ := ob_s e
  rw [ax_set_eq, ax_set_eq] at e
  rw [ax_nth_eq] at e0
  refine ⟨_, e, rfl, fun i d hd => ?_⟩
  unfold ax_hn at hd ⊢
  obtain ⟨r1, e1, e2⟩ := ob_s hd
  rw [ax_nth_eq] at e1
  rw [ax_nth_eq] at e2
  dsimp only at e1
  by_cases hq : i / 16 = k / 16
  · rw [hq] at e1
    rw [List.getElem?_set_self (List.getElem?_eq_some_iff.mp e0).1] at e1
    cases e1
    by_cases hr : i % 16 = k % 16
    · rw [hr, List.getElem?_set] at e2
      simp only [if_true] at e2
      split at e2
      · exact Or.inl ⟨by omega, (Option.some.inj e2).symm⟩
      · cases e2
    · rw [List.getElem?_set_ne (fun q => hr q.symm)] at e2
      refine Or.inr ⟨fun q => hr (by rw [q]), ?_⟩
      rw [ax_nth_eq, hq, e0]
      show ax_nth r0 (i % 16) = some d
      rw [ax_nth_eq]
      exact e2
  · rw [List.getElem?_set_ne (fun q => hq q.symm)] at e1
    refine Or.inr ⟨fun q => hq (by rw [q]), ?_⟩
    rw [ax_nth_eq, e1]
    show ax_nth r1 (i % 16) = some d
    rw [ax_nth_eq]
    exact e2
theorem ax_ha_ok {β : Type} {h : AH} {c : AC} {kk : AH → Option β} {r : β} (e : ax_ha h c kk = some r) : ∃ h', kk h' = some r ∧ h'.1 = h.1 + 1 ∧ ∀ i d, ax_hn h' i = some d → (i = h.1 ∧ d = c) ∨ (i ≠ h.1 ∧ ax_hn h i = some d) := by
  unfold ax_ha at e
  cases hb : Nat.beq (h.1 % 16) 0 with
  | true =>
    rw [hb] at e
    obtain ⟨g1, e⟩ := gd_s (b := Nat.beq h.2.length (h.1 / 16)) e
    rw [ax_fc_eq] at e
    have q1 := bb_eq hb
    have q2 := bb_eq g1
    refine ⟨_, e, rfl, fun i d hd => ?_⟩
    unfold ax_hn at hd ⊢
    obtain ⟨r1, e1, e2⟩ := ob_s hd
    rw [ax_nth_eq] at e1 e2
    dsimp only at e1
    by_cases hl : i / 16 < h.2.length
    · rw [List.getElem?_append_left hl] at e1
      refine Or.inr ⟨fun q => by omega, ?_⟩
      rw [ax_nth_eq, e1]
      show ax_nth r1 (i % 16) = some d
      rw [ax_nth_eq]
      exact e2
    · rw [List.getElem?_append_right (by omega)] at e1
      have hz : i / 16 - h.2.length < 1 := (List.getElem?_eq_some_iff.mp e1).1
      rw [show i / 16 - h.2.length = 0 by omega] at e1
      cases e1
      have hz2 : i % 16 < 1 := (List.getElem?_eq_some_iff.mp e2).1
      rw [show i % 16 = 0 by omega] at e2
      cases e2
      exact Or.inl ⟨by omega, rfl⟩
  | false =>
    rw [hb] at e
    obtain ⟨r0, e0, e⟩ := ob_s (o := ax_nth h.2 (h.1 / 16)) e
    obtain ⟨g1, e⟩ := gd_s e
    rw [ax_set_eq, ax_fc_eq] at e
    rw [ax_nth_eq] at e0
    have q2 := bb_eq g1
    refine ⟨_, e, rfl, fun i d hd => ?_⟩
    unfold ax_hn at hd ⊢
    obtain ⟨r1, e1, e2⟩ := ob_s hd
    rw [ax_nth_eq] at e1 e2
    dsimp only at e1
    by_cases hq : i / 16 = h.1 / 16
    · rw [hq, List.getElem?_set_self (List.getElem?_eq_some_iff.mp e0).1] at e1
      cases e1
      by_cases hl : i % 16 < r0.length
      · rw [List.getElem?_append_left hl] at e2
        refine Or.inr ⟨fun q => by rw [q] at hl; omega, ?_⟩
        rw [ax_nth_eq, hq, e0]
        show ax_nth r0 (i % 16) = some d
        rw [ax_nth_eq]
        exact e2
      · rw [List.getElem?_append_right (by omega)] at e2
        have hz : i % 16 - r0.length < 1 := (List.getElem?_eq_some_iff.mp e2).1
        rw [show i % 16 - r0.length = 0 by omega] at e2
        cases e2
        exact Or.inl ⟨by omega, rfl⟩
    · rw [List.getElem?_set_ne (fun q => hq q.symm)] at e1
      refine Or.inr ⟨fun q => hq (by rw [q]), ?_⟩
      rw [ax_nth_eq, e1]
      show ax_nth r1 (i % 16) = some d
      rw [ax_nth_eq]
      exact e2
theorem ax_el_rep_lt {n j : Nat} {v w : AV} (h : ax_el (ax_rep n v) j = some w) : j < n := by
  unfold ax_el at h
  rw [ax_nth_eq] at h
  unfold ax_rep at h
  cases hc : (List.replicate (n / 64) (List.replicate 64 v) ++ [List.replicate (n % 64) v])[j / 64]? with
  | none => rw [hc] at h; cases h
  | some ch =>
    rw [hc] at h
    dsimp only at h
    rw [ax_nth_eq] at h
    by_cases hl : j / 64 < n / 64
    · omega
    · rw [List.getElem?_append_right (by simp; omega)] at hc
      have hz := (List.getElem?_eq_some_iff.mp hc).1
      simp only [List.length_replicate, List.length_singleton] at hz hc
      rw [show j / 64 - n / 64 = 0 by omega] at hc
      cases hc
      have h2 := (List.getElem?_eq_some_iff.mp h).1
      rw [List.length_replicate] at h2
      omega
/-- the cells with one of them changed -/
theorem Hr.set {sp : Nat → Nat} {dA : Nat → ClassId} {ρ ad : List Nat} {h h' : AH} {ws : va_W} (hh : Hr sp dA ρ ad h ws) {k : Nat} {c : AC} {a : Nat} {E0 E : va_E} (hw : ws[k]? = some (a, E0)) (h1 : h'.1 = h.1) (h2 : ∀ i d, ax_hn h' i = some d → (i = k ∧ d = c) ∨ (i ≠ k ∧ ax_hn h i = some d)) (hE : Er sp dA ρ ad c E) : Hr sp dA ρ ad h' (ws.set k (a, E)) := by
  have hk : k < ws.length := (List.getElem?_eq_some_iff.mp hw).1
  refine ⟨by rw [h1, hh.1]; simp, ?_, fun i d hd => ?_⟩
  · rw [hh.2.1]
    apply List.ext_getElem?
    intro i
    rw [List.getElem?_map, List.getElem?_map]
    by_cases hi : i = k
    · subst hi
      rw [hw, List.getElem?_set_self hk]
      rfl
    · rw [List.getElem?_set_ne (fun q => hi q.symm)]
  · rcases h2 i d hd with ⟨rfl, rfl⟩ | ⟨hi, hd⟩
    · exact ⟨(a, E), by rw [List.getElem?_set_self hk], hE⟩
    · obtain ⟨q, e1, e2⟩ := hh.2.2 i d hd
      exact ⟨q, by rw [List.getElem?_set_ne (fun q => hi q.symm)]; exact e1, e2⟩
theorem Hr.add {sp : Nat → Nat} {dA : Nat → ClassId} {ρ ad : List Nat} {h h' : AH} {ws : va_W} (hh : Hr sp dA ρ ad h ws) {c : AC} {a : Nat} {E : va_E} (h1 : h'.1 = h.1 + 1) (h2 : ∀ i d, ax_hn h' i = some d → (i = h.1 ∧ d = c) ∨ (i ≠ h.1 ∧ ax_hn h i = some d)) (hE : Er sp dA ρ (ad ++ [a]) c E) : Sb ad (ad ++ [a]) ∧ Hr sp dA ρ (ad ++ [a]) h' (ws ++ [(a, E)]) ∧ Rp sp ρ (ad ++ [a]) (2, h.1) (.ref a) := by
  have hl : ad.length = ws.length := by rw [hh.2.1]; simp
  refine ⟨Sb.app _ _, ⟨by rw [h1, hh.1]; simp, by rw [hh.2.1]; simp, fun i d hd => ?_⟩, a, by rw [hh.1, ← hl]; simp, rfl⟩
  rcases h2 i d hd with ⟨rfl, rfl⟩ | ⟨hi, hd⟩
  · exact ⟨(a, E), by rw [hh.1]; simp, hE⟩
  · obtain ⟨q, e1, e2⟩ := hh.2.2 i d hd
    exact ⟨q, by rw [List.getElem?_append_left (List.getElem?_eq_some_iff.mp e1).1]; exact e1, e2.mono (Sb.rf ρ) (Sb.app _ _)⟩
/-- a cell that is read: its address, its element -/
theorem Hr.get {sp : Nat → Nat} {dA : Nat → ClassId} {ρ ad : List Nat} {h : AH} {ws : va_W} (hh : Hr sp dA ρ ad h ws) {k : Nat} {c : AC} (hk : ax_hn h k = some c) {V : Value} (hV : Rp sp ρ ad (2, k) V) : ∃ a E, ws[k]? = some (a, E) ∧ V = .ref a ∧ Er sp dA ρ ad c E := by
  obtain ⟨q, e1, e2⟩ := hh.2.2 k c hk
  obtain ⟨a, ha, rfl⟩ := hV
  rw [hh.2.1, List.getElem?_map, e1] at ha
  cases ha
  exact ⟨q.1, q.2, e1, rfl, e2⟩
/-! words by their places -/
noncomputable def wch (i : Nat) : List Cond := match i with
  | 0 => tables_1_1
  | 1 => tables_1_2
  | 2 => tables_1_3
  | 3 => tables_1_4
  | 4 => tables_1_5
  | 5 => tables_1_6
  | 6 => tables_1_7
  | 7 => tables_1_8
  | 8 => tables_1_9
  | 9 => tables_1_10
  | _ => k2_sels lw_privs
noncomputable def wdq (i j : Nat) (w : Cond) : Bool := match ax_nth (wch i) j with
  | some w' => decide (w' = w) && goodWord w
  | none => false
/-- words that aren't kept as the others are: by their places too -/
noncomputable def wdn (i j : Nat) (w : Cond) : Bool := match ax_nth (wch i) j with
  | some w' => decide (w' = w)
  | none => false
def GW : List Cond := lw_tbl.filter goodWord
theorem wch_in {i : Nat} {w : Cond} (h : w ∈ wch i) : w ∈ lw_tbl := by
  unfold lw_tbl
  have ht : ∀ w, w ∈ tables_1 → w ∈ k2_sels lw_privs ++ tables_1 := fun w h => List.mem_append_right _ h
  unfold wch at h
  split at h
  all_goals first
    | (apply ht; unfold tables_1; simp only [List.mem_append, h, true_or, or_true]; done)
    | exact List.mem_append_left _ h
theorem wdq_in {i j : Nat} {w : Cond} (h : wdq i j w = true) : w ∈ GW := by
  unfold wdq at h
  rw [ax_nth_eq] at h
  cases hc : (wch i)[j]? with
  | none => rw [hc] at h; cases h
  | some w' =>
    rw [hc] at h
    have q := bb_and h
    have e : w' = w := of_decide_eq_true q.1
    subst e
    exact List.mem_filter.mpr ⟨wch_in (List.mem_of_getElem? hc), q.2⟩
theorem wdn_in {i j : Nat} {w : Cond} (h : wdn i j w = true) : w ∈ lw_tbl := by
  unfold wdn at h
  rw [ax_nth_eq] at h
  cases hc : (wch i)[j]? with
  | none => rw [hc] at h; cases h
  | some w' =>
    rw [hc] at h
    have e : w' = w := of_decide_eq_true h
    subst e
    exact wch_in (List.mem_of_getElem? hc)
theorem GW_good {ws : List Cond} (h : ∀ w ∈ ws, w ∈ GW) : GoodIn GW ws := fun w hw => ⟨h w hw, good_of_word (List.mem_filter.mp (h w hw)).2⟩
end
section
/-! THE ABSTRACT MACHINE, 6: what an entry must say -/
def sSTR : String := "java/lang/String"
def sPRE : String := "jdk/internal/util/Preconditions"
def tx1 : String := "house salt door person in dead deaf keeps owes heir night die forgive sweep forge to any when labour rest at loop end stop "
def tx3 : String := " house door person owes heir salt in dead deaf keeps night die forgive sweep forge any to when loop end stop labour rest at "
def ax_cc (c : ClassFile.Cond) : Nat := match c with
  | .eq => 0
  | .ne => 1
  | .lt => 2
  | .ge => 3
  | .gt => 4
  | .le => 5
def ax_len (ins : Instr) : Nat := match ins with
  | .bipush _ => 2
  | .sipush _ => 3
  | .ldc _ => 2
  | .ldc_w _ => 3
  | .ldc2_w _ => 3
  | .iload _ => 2
  | .lload _ => 2
  | .aload _ => 2
  | .istore _ => 2
  | .lstore _ => 2
  | .astore _ => 2
  | .iinc _ _ => 3
  | .getfield _ => 3
  | .putfield _ => 3
  | .if_icmp _ _ => 3
  | .ifCond _ _ => 3
  | .goto _ => 3
  | .invokevirtual _ => 3
  | .invokespecial _ => 3
  | .invokestatic _ => 3
  | .new _ => 3
  | .newarray _ => 2
  | .anewarray _ => 3
  | .getstatic _ => 3
  | _ => 1
/-- the type code of a field -/
def ax_ty (d : String) : Nat := match parseFieldDescriptor d with
  | some .int => 0
  | some .boolean => 1
  | some .long => 2
  | some (.object _) => 3
  | some (.array _) => 3
  | _ => 9
/-- keys and targets of a switch -/
def ax_sk (f : Nat → Nat → Bool) (ks : List Nat) : Bool := match ks with
  | [] => true
  | [_] => false
  | k :: t :: r => f k t && ax_sk f r
def ax_key (k : Nat) (ks : List Nat) : Bool := match ks with
  | a :: _ :: r => Nat.beq a k || ax_key k r
  | _ => false
noncomputable def lok (mt : Nat → Nat → Option MR) (M : MR) (pc : Nat) (ins : Instr) (lk : List Nat) : Bool := match ins with
  | .iconst i => (match lk with
    | t :: n :: _ => Nat.beq t 0 && decide (Int32.ofInt i = nI n)
    | _ => false)
  | .bipush i => (match lk with
    | t :: n :: _ => Nat.beq t 0 && decide ((Int8.ofInt i).toInt32 = nI n)
    | _ => false)
  | .sipush i => (match lk with
    | t :: n :: _ => Nat.beq t 0 && decide ((Int16.ofInt i).toInt32 = nI n)
    | _ => false)
  | .lconst i => (match lk with
    | t :: n :: _ => Nat.beq t 1 && decide (Int64.ofNat (i : Nat) = lN n)
    | _ => false)
  | .ldc idx => (match lk with
    | t :: n :: c :: j :: _ => bif Nat.beq t 0 then wdq c j (.constant M.1.cls idx (nI n)) else Nat.beq t 6 && ((Nat.beq n 1 && (decide (M.1.cls = RX9) && Nat.beq idx 51)) || (Nat.beq n 3 && (decide (M.1.cls = RX12) && Nat.beq idx 171)))
    | _ => false)
  | .ldc_w idx => (match lk with
    | t :: n :: c :: j :: _ => Nat.beq t 0 && wdq c j (.constant M.1.cls idx (nI n))
    | _ => false)
  | .ldc2_w idx => (match lk with
    | t :: n :: c :: j :: _ => Nat.beq t 1 && wdq c j (.constantLong M.1.cls idx (lN n))
    | _ => false)
  | .iload i => (match lk with
    | k :: _ => Nat.beq i k
    | _ => false)
  | .lload i => (match lk with
    | k :: _ => Nat.beq i k
    | _ => false)
  | .aload i => (match lk with
    | k :: _ => Nat.beq i k
    | _ => false)
  | .iload_n i => (match lk with
    | k :: _ => Nat.beq (i : Nat) k
    | _ => false)
  | .lload_n i => (match lk with
    | k :: _ => Nat.beq (i : Nat) k
    | _ => false)
  | .aload_n i => (match lk with
    | k :: _ => Nat.beq (i : Nat) k
    | _ => false)
  | .istore i => (match lk with
    | k :: _ => Nat.beq i k && Nat.blt k M.2.2.1
    | _ => false)
  | .lstore i => (match lk with
    | k :: _ => Nat.beq i k && Nat.blt (k + 1) M.2.2.1
    | _ => false)
  | .astore i => (match lk with
    | k :: _ => Nat.beq i k && Nat.blt k M.2.2.1
    | _ => false)
  | .istore_n i => (match lk with
    | k :: _ => Nat.beq (i : Nat) k && Nat.blt k M.2.2.1
    | _ => false)
  | .lstore_n i => (match lk with
    | k :: _ => Nat.beq (i : Nat) k && Nat.blt (k + 1) M.2.2.1
    | _ => false)
  | .astore_n i => (match lk with
    | k :: _ => Nat.beq (i : Nat) k && Nat.blt k M.2.2.1
    | _ => false)
  | .iinc i n => (match lk with
    | k :: n' :: _ => Nat.beq i k && (decide (Int32.ofInt n = nI n') && Nat.blt k M.2.2.1)
    | _ => false)
  | .getfield idx => (match lk with
    | ci :: k :: c :: j :: _ => bif Nat.beq ci 200 then (bif Nat.beq k 0 then wdq c j (.fieldLink M.1.cls idx sSTR "value" "[B") else wdq c j (.fieldLink M.1.cls idx sSTR "coder" "B"))
      else (match vwCl[ci]? with
        | some q => Nat.blt k q.2.2 && wdq c j (.fieldLink M.1.cls idx (q.2.1 k).1 (q.2.1 k).2.1 (q.2.1 k).2.2.1)
        | none => false)
    | _ => false)
  | .putfield idx => (match lk with
    | ci :: k :: tc :: c :: j :: _ => (match vwCl[ci]? with
        | some q => Nat.blt k q.2.2 && (wdq c j (.fieldLink M.1.cls idx (q.2.1 k).1 (q.2.1 k).2.1 (q.2.1 k).2.2.1) && (Nat.beq (ax_ty (q.2.1 k).2.2.1) tc && (!(q.2.1 k).2.2.2 || (decide (M.1.name = "<init>") && decide ((q.2.1 k).1 = M.1.cls)))))
        | none => false)
    | _ => false)
  | .if_icmp c off => (match lk with
    | t :: k :: _ => decide ((pc : Int) + off = (t : Int)) && Nat.beq k (ax_cc c)
    | _ => false)
  | .ifCond c off => (match lk with
    | t :: k :: _ => decide ((pc : Int) + off = (t : Int)) && Nat.beq k (ax_cc c)
    | _ => false)
  | .goto off => (match lk with
    | t :: _ => decide ((pc : Int) + off = (t : Int))
    | _ => false)
  | .new idx => (match lk with
    | ci :: n :: c1 :: j1 :: c2 :: j2 :: c3 :: j3 :: ts => (match vwCl[ci]? with
        | some q => Nat.beq n q.2.2 && (wdq c1 j1 (.classLink M.1.cls idx q.1) && (wdq c2 j2 (.instantiable q.1 q.2.2) && (wdq c3 j3 (.initialized q.1) && (Nat.blt ci 100 && (Nat.beq ts.length n && (List.range n).all (fun k => match ax_ty (q.2.1 k).2.2.1 with
          | 0 => decide (ts[k]? = some 0)
          | 1 => decide (ts[k]? = some 0)
          | 2 => decide (ts[k]? = some 1)
          | 3 => decide (ts[k]? = some 3)
          | _ => false))))))
        | none => false)
    | _ => false)
  | .newarray t => (match lk with
    | kd :: tg :: c :: j :: _ => (match t with
      | .int => Nat.beq kd 100 && (Nat.beq tg 0 && wdq c j (.arrayClass .int))
      | .long => Nat.beq kd 101 && (Nat.beq tg 1 && wdq c j (.arrayClass .long))
      | .byte => Nat.beq kd 102 && (Nat.beq tg 0 && wdq c j (.arrayClass .byte))
      | _ => false)
    | _ => false)
  | .anewarray idx => (match lk with
    | kd :: tg :: c :: j :: _ => Nat.beq tg 3 && ((Nat.beq kd 103 && wdq c j (.classLink M.1.cls idx RX10)) || ((Nat.beq kd 104 && wdq c j (.classLink M.1.cls idx RX1)) || (Nat.beq kd 105 && wdq c j (.classLink M.1.cls idx RX7))))
    | _ => false)
  | .getstatic idx => (match lk with
    | x :: c :: j :: _ => bif Nat.beq x 0 then wdq c j (.fieldLink M.1.cls idx sSTR "COMPACT_STRINGS" "Z") else wdq c j (.fieldLink M.1.cls idx sPRE "SIOOBE_FORMATTER" "Ljava/util/function/BiFunction;")
    | _ => false)
  | .tableswitch d lo hi offs => (match lk with
    | d' :: l :: h :: ks => decide ((pc : Int) + d = (d' : Int)) && (decide ((nI l).toInt = lo) && (decide ((nI h).toInt = hi) && (Nat.blt l 4294967296 && (Nat.blt h 4294967296 && (ax_sk (fun k t => Nat.blt k 4294967296 && match offs[((nI k).toInt - lo).toNat]? with
        | some o => decide ((pc : Int) + o = (t : Int)) && (decide (lo ≤ (nI k).toInt) && decide ((nI k).toInt ≤ hi))
        | none => false) ks && (List.range (hi - lo + 1).toNat).all (fun i => ax_key ((lo + i).toNat) ks && decide (0 ≤ lo)))))))
    | _ => false)
  | .lookupswitch d ps => (match lk with
    | d' :: ks => decide ((pc : Int) + d = (d' : Int)) && ((ps.toList.zip (ps.toList.drop 1)).all (fun (a, next) => a.1 < next.1) && (ax_sk (fun k t => Nat.blt k 4294967296 && decide ((pc : Int) + Op.lookupswitch.offset ps.toList d (nI k).toInt = (t : Int))) ks && ps.toList.all (fun p => decide (0 ≤ p.1 ∧ p.1 < 2147483648) && ax_key p.1.toNat ks)))
    | _ => false)
  | .invokevirtual idx => (match lk with
    | a :: b :: kc :: ci :: m1 :: m2 :: i1 :: i2 :: s1 :: s2 :: n1 :: n2 :: _ => (match mt a b with
      | some C => Nat.beq kc 0 && (wdq m1 m2 (.methodLink M.1.cls idx C.1) && (wdq i1 i2 (.instanceMethod C.1) && (wdq s1 s2 (.selects C.1.cls C.1 C.1) && (wdq n1 n2 (.initialized C.1.cls) && ((bif Nat.beq ci 200 then decide (C.1.cls = sSTR) else decide (vwCl[ci]?.map (fun q => q.1) = some C.1.cls)) && (decide (C.1.cls ≠ "java/lang/invoke/MethodHandle" ∧ C.1.cls ≠ "java/lang/invoke/VarHandle" ∧ (parseMethodDescriptor C.1.desc).map (fun d => d.parameters.length) = some (C.2.2.2.2.2.1 - 1)) && (Nat.ble 1 C.2.2.2.2.2.1 && (!(Nat.beq a 900) && (!(Nat.beq a 901) && !(Nat.beq a 902))))))))))
      | none => false)
    | _ => false)
  | .invokespecial idx => (match lk with
    | a :: l1 => bif Nat.beq a 900 then (match l1 with
        | m1 :: m2 :: i1 :: i2 :: c1 :: c2 :: _ => wdq m1 m2 (.methodLink M.1.cls idx objectInit) && (wdq i1 i2 (.instanceMethod objectInit) && wdq c1 c2 (.code objectInit ⟨#[0xb1]⟩ 1 none))
        | _ => false) else (match l1 with
        | b :: kc :: ci :: m1 :: m2 :: i1 :: i2 :: n1 :: n2 :: ne :: _ => (match mt a b with
          | some C => Nat.beq kc 1 && ((bif Nat.beq ne 0 then wdq m1 m2 (.methodLink M.1.cls idx C.1) else wdn m1 m2 (.methodLinkNest M.1.cls idx C.1 RX11)) && (wdq i1 i2 (.instanceMethod C.1) && (wdq n1 n2 (.initialized C.1.cls) && (decide (C.1.cls ≠ "java/lang/invoke/MethodHandle" ∧ C.1.cls ≠ "java/lang/invoke/VarHandle" ∧ (parseMethodDescriptor C.1.desc).map (fun d => d.parameters.length) = some (C.2.2.2.2.2.1 - 1)) && (Nat.ble 1 C.2.2.2.2.2.1 && (decide (C.1.name = "<init>") && (decide (C.2.2.2.1 = none) && (!(Nat.beq a 901) && !(Nat.beq a 902)))))))))
          | none => false)
        | _ => false)
    | _ => false)
  | .invokestatic idx => (match lk with
    | a :: l1 => bif Nat.beq a 901 then (match l1 with
        | m1 :: m2 :: i1 :: i2 :: s1 :: s2 :: n1 :: n2 :: _ => wdq m1 m2 (.methodLink M.1.cls idx arraycopyName) && (wdq i1 i2 (.native arraycopyName) && (wdq s1 s2 (.static arraycopyName) && wdq n1 n2 (.initialized "java/lang/System")))
        | _ => false) else bif Nat.beq a 902 then (match l1 with
        | m1 :: m2 :: s1 :: s2 :: n1 :: n2 :: c1 :: c2 :: _ => wdq m1 m2 (.methodLink M.1.cls idx Lib.Math.min.name) && (wdq s1 s2 (.static Lib.Math.min.name) && (wdq n1 n2 (.initialized "java/lang/Math") && wdq c1 c2 (.code Lib.Math.min.name Lib.Math.min.code 2 (some .int))))
        | _ => false) else (match l1 with
        | b :: kc :: ci :: m1 :: m2 :: i1 :: i2 :: n1 :: n2 :: ne :: _ => (match mt a b with
          | some C => Nat.beq kc 2 && ((bif Nat.beq ne 0 then wdq m1 m2 (.methodLink M.1.cls idx C.1) else wdn m1 m2 (.methodLinkNest M.1.cls idx C.1 RX11)) && (wdq i1 i2 (.static C.1) && (wdq n1 n2 (.initialized C.1.cls) && (decide (C.1.cls ≠ "java/lang/invoke/MethodHandle" ∧ C.1.cls ≠ "java/lang/invoke/VarHandle" ∧ (parseMethodDescriptor C.1.desc).map (fun d => d.parameters.length) = some C.2.2.2.2.2.1) && !(Nat.beq a 900)))))
          | none => false)
        | _ => false)
    | _ => false)
  | _ => true
/-- an entry is right -/
noncomputable def eok (mt : Nat → Nat → Option MR) (M : MR) (e : ME) : Bool := decide (decode M.2.1 e.1 = .ok (e.2.2.2.2, e.2.2.1)) && (Nat.beq e.2.1 (ax_op e.2.2.2.2) && ((Nat.ble 57 e.2.1 || Nat.beq e.2.2.1 (ax_len e.2.2.2.2)) && lok mt M e.1 e.2.2.2.2 e.2.2.2.1))
def Mok (mt : Nat → Nat → Option MR) (M : MR) : Prop := ∀ e ∈ M.2.2.2.2.2.2, eok mt M e = true
def Mcw (M : MR) : Prop := Cond.code M.1 M.2.1 M.2.2.1 M.2.2.2.1 ∈ GW ∧ plainName M.1.cls = true
end
section
/-! THE ABSTRACT MACHINE, 7: the context of a method's walk -/
def ax_tys (dA : Nat → ClassId) : List (ClassId × FieldType) := [(dA 100, .int), (dA 101, .long), (dA 102, .byte), (dA 103, .object RX10), (dA 104, .object RX1), (dA 105, .object RX7)]
abbrev aA (H0 : Heap) : Nat → Prop := fun q => H0.size ≤ q
/-- an old String and its bytes -/
def SO (sp : Nat → Nat) (sb : Nat → List Nat) (H0 : Heap) (x : Nat) (U : State) : Prop := va_O sSTR (sp x) (aA H0) U H0 ∧ va_OF sSTR "coder" "B" (.int 0) (sp x) (aA H0) U H0 ∧ va_OF sSTR "value" "[B" (.ref (sp (x + 1))) (sp x) (aA H0) U H0 ∧ va_T .byte (sp (x + 1)) (sb (x + 1)).length (fun j => .int (nI ((sb (x + 1)).getD j 0))) (aA H0) U H0
def nestW : List Cond := lw_tbl.filter (fun w => match w with | .methodLinkNest _ _ _ _ => true | _ => false)
/-- what holds of old cells and of words that are kept in another way -/
def OX (sp : Nat → Nat) (sb : Nat → List Nat) (H0 : Heap) (ρ0 : List Nat) (U : State) : Prop :=
  (∃ (L : Nat) (xs : Nat → Int32), va_X (sp 0) L xs U H0 ∧ sp 0 < H0.size ∧ L < 2147483648 ∧ ρ0[6]? = some (L + 9223372036854775808) ∧ ∀ j, j < 6 → ρ0[j]? = some (zI (xs j))) ∧
  SO sp sb H0 1 U ∧ SO sp sb H0 3 U ∧ vk_R RX9 51 tx1 (sp 1) U ∧ vk_R RX12 171 tx3 (sp 3) U ∧
  va_Z sSTR "COMPACT_STRINGS" "Z" (.int 1) (aA H0) U H0 ∧ va_Zq sPRE "SIOOBE_FORMATTER" "Ljava/util/function/BiFunction;" (aA H0) U H0 ∧
  va_AO RX10 U ∧ va_AO RX1 U ∧ va_AO RX7 U ∧ ∀ w ∈ nestW, va_Nw w U
theorem OX.warm {sp : Nat → Nat} {sb : Nat → List Nat} {H0 : Heap} {ρ0 ρ1 : List Nat} {s U : State} (hW : s.WarmedH U.vm) (hρ : Sb ρ0 ρ1) (h : OX sp sb H0 ρ0 s) : OX sp sb H0 ρ1 U := by
  obtain ⟨⟨L, xs, a1, a2, a3, a4, a5⟩, b1, b3, c1, c3, d, e, f1, f2, f3, g⟩ := h
  have hv := hW.alike
  refine ⟨⟨L, xs, a1.moved hv, a2, a3, hρ _ _ a4, fun j hj => hρ _ _ (a5 j hj)⟩, ⟨b1.1.moved hv, b1.2.1.moved hv, b1.2.2.1.moved hv, b1.2.2.2.moved hv⟩, ⟨b3.1.moved hv, b3.2.1.moved hv, b3.2.2.1.moved hv, b3.2.2.2.moved hv⟩, c1.warm hW, c3.warm hW, d.moved hv, e.moved hv, f1.moved hv, f2.moved hv, f3.moved hv, fun w hw => ?_⟩
  have hw2 := (List.mem_filter.mp hw).2
  have hg := g w hw
  split at hw2
  · exact va_Nw.warmM hW hg
  · cases hw2
section CTX
variable (sb : Nat → List Nat) (mt : Nat → Nat → Option MR) (dC : Nat → ClassId) (dI : Nat → Nat → Nat) (dA : Nat → ClassId) (sp : Nat → Nat) (H0 : Heap) (l : Launch)
/-- the context: the machine, the method's code, the words, the classes, the room -/
def CX (ρ0 : List Nat) (M : MR) (p : Program) (R : Room) (s : State) (m : MethodId) (args : Array Value) (meth : Method) (c : Code) : Prop :=
  p.tables.exec = Jvm.exec ∧ c.code = M.2.1 ∧ c.maxLocals = M.2.2.1 ∧ s.vm.findClass M.1.cls = some m.cls ∧ (∀ w ∈ GW, w.before args s = true) ∧ va_K (dC, dI) vwCl (ax_tys dA) s ∧ meth.locks = false ∧ meth.sig.returnType = M.2.2.2.1 ∧ (M.1.name = "<init>" → meth.name = "<init>") ∧ R = M.2.2.2.2.1 ∧ OX sp sb H0 ρ0 s
/-- the goal at a state of the abstract machine -/
def GG (p : Program) (e : Env) (R : Room) (s : State) (m : MethodId) (args : Array Value) (below : List Frame) (meth : Method) (c : Code) (Q : State → Prop) (ρ0 ad0 : List Nat) (nL pc : Nat) (σ : AS) (h : AH) (nc ns : Nat) (lv : AL) (st : List AV) : Prop :=
  ∀ (ρ ad : List Nat) (ws : va_W) (H : Heap) (locs : List Loc) (ls : Array Slot) (LV : List (Nat × Value)) (ST : List Value), Sb ρ0 ρ → Sb ad0 ad → St ρ σ → Hr sp dA ρ ad h ws → va_P (dC, dI) vwCl ws H → va_D (aA H0) ws → va_S (aA H0) H0 H locs → Rl sp ρ ad lv LV → lv_has ls nL LV → Rs sp ρ ad st ST → W p l e R s m args below meth c H locs nc ns Q (F0 m pc ls ST)
/-- what stands at an end: the goal there -/
def RO (p : Program) (e : Env) (R : Room) (s : State) (m : MethodId) (args : Array Value) (below : List Frame) (meth : Method) (c : Code) (Q : State → Prop) (ρ0 ad0 : List Nat) (M : MR) (o : AO) : Prop :=
  (o.2.2.2.2.2.1 = 99 ∨ ∃ ins, ax_op ins = o.2.2.2.2.2.1 ∧ decode M.2.1 o.2.2.2.2.1 = .ok (ins, 1) ∧ ax_rok M.2.2.2.1 o.2.2.2.2.2.1 o.2.2.2.2.2.2.2 = true ∧ o.2.2.1 ≤ M.2.2.2.2.1.cells ∧ o.2.2.2.1 ≤ M.2.2.2.2.1.slots) → GG dC dI dA sp H0 l p e R s m args below meth c Q ρ0 ad0 M.2.2.1 o.2.2.2.2.1 o.1 o.2.1 o.2.2.1 o.2.2.2.1 o.2.2.2.2.2.2.1 o.2.2.2.2.2.2.2
/-- the abstract machine is sound -/
def Snd (f : GO) : Prop := ∀ (p : Program) (e : Env) (R : Room) (s : State) (m : MethodId) (args : Array Value) (below : List Frame) (meth : Method) (c : Code) (Q : State → Prop) (ρ0 ad0 : List Nat) (M : MR) (cut pc : Nat) (cd : List ME) (σ : AS) (h : AH) (nc ns : Nat) (lv : AL) (st : List AV) (outs : List AO), Mok mt M → (∀ x ∈ cd, x ∈ M.2.2.2.2.2.2) → CX sb dC dI dA sp H0 ρ0 M p R s m args meth c → f M cut pc cd σ h nc ns lv st = some outs → (∀ o ∈ outs, RO dC dI dA sp H0 l p e R s m args below meth c Q ρ0 ad0 M o) → GG dC dI dA sp H0 l p e R s m args below meth c Q ρ0 ad0 M.2.2.1 pc σ h nc ns lv st
end CTX
theorem ax_two_s {x y : RS} {r : List AO} (h : ax_two x y = some r) : ∃ a b, x = some a ∧ y = some b ∧ r = a ++ b := by
  obtain ⟨a, e1, h⟩ := ob_s h
  obtain ⟨b, e2, h⟩ := ob_s h
  exact ⟨a, b, e1, e2, (Option.some.inj h).symm⟩
theorem ax_go_s {o : Option AS} {go : AS → RS} {r : List AO} (h : ax_go o go = some r) {σ : AS} (ho : o = some σ) : go σ = some r := by subst ho; exact h
theorem ax_jmp_in (tab : List ME) (pc : Nat) : ∀ x ∈ ax_jmp tab pc, x ∈ tab := by
  induction tab with
  | nil => intro x hx; cases hx
  | cons e t ih =>
    intro x hx
    have hx : x ∈ (bif Nat.beq e.1 pc then e :: t else ax_jmp t pc) := hx
    cases hb : Nat.beq e.1 pc with
    | true => rw [hb] at hx; exact hx
    | false => rw [hb] at hx; exact List.mem_cons_of_mem _ (ih x hx)
end
section
/-! THE ABSTRACT MACHINE, 8: its steps are the machine's: numbers, locals -/
section OPS
variable {sb : Nat → List Nat} {mt : Nat → Nat → Option MR} {dC : Nat → ClassId} {dI : Nat → Nat → Nat} {dA : Nat → ClassId} {sp : Nat → Nat} {H0 : Heap} {l : Launch}
variable {ih : GO} {p : Program} {e : Env} {R : Room} {s : State} {m : MethodId} {args : Array Value} {below : List Frame} {meth : Method} {c : Code} {Q : State → Prop} {ρ0 ad0 : List Nat} {M : MR} {cut pc len : Nat} {ins : Instr} {lk : List Nat} {cd tl : List ME} {σ : AS} {h : AH} {nc ns : Nat} {lv : AL} {st : List AV} {outs : List AO}
theorem sn_push (hI : Snd sb mt dC dI dA sp H0 l ih) (hM : Mok mt M) (htl : ∀ x ∈ tl, x ∈ M.2.2.2.2.2.2) (hX : CX sb dC dI dA sp H0 ρ0 M p R s m args meth c) (hR : ∀ o ∈ outs, RO dC dI dA sp H0 l p e R s m args below meth c Q ρ0 ad0 M o) (hdg : decode M.2.1 pc = .ok (ins, len)) (hlen : len = ax_len ins) (hlk : lok mt M pc ins lk = true) (ho : ax_op ins = 0)
    (hr : lc lk (fun t lk => lc lk (fun n _ => ih M cut (pc + len) tl σ h nc ns lv ((t, n) :: st))) = some outs) : GG dC dI dA sp H0 l p e R s m args below meth c Q ρ0 ad0 M.2.2.1 pc σ h nc ns lv st := by
  obtain ⟨t, lk1, rfl, hr1⟩ := lc_s hr
  obtain ⟨n, lk2, rfl, hr2⟩ := lc_s hr1
  have G := hI p e R s m args below meth c Q ρ0 ad0 M cut _ tl _ _ _ _ _ _ outs hM htl hX hr2 hR
  obtain ⟨hx, hb, hml, hown, hts, hK, hlocks, hrt, hin, hRoom, hO⟩ := hX
  intro ρ ad ws H locs ls LV ST q1 q2 q3 q4 q5 q6 q7 q8 q9 q10
  cases ins <;> first | (exact absurd ho (Nat.ne_of_beq_eq_false rfl)) | skip
  case bipush i =>
    subst hlen
    have hl : (Nat.beq t 0 && decide ((Int8.ofInt i).toInt32 = nI n)) = true := hlk
    have w := bb_and hl
    obtain rfl := bb_eq w.1
    exact lv_bipush hx hb hdg (of_decide_eq_true w.2) (G ρ ad ws H locs ls LV (.int (nI n) :: ST) q1 q2 q3 q4 q5 q6 q7 q8 q9 ⟨rfl, q10⟩)
  case iconst i =>
    subst hlen
    have hl : (Nat.beq t 0 && decide (Int32.ofInt i = nI n)) = true := hlk
    have w := bb_and hl
    obtain rfl := bb_eq w.1
    exact lv_iconst hx hb hdg (of_decide_eq_true w.2) (G ρ ad ws H locs ls LV (.int (nI n) :: ST) q1 q2 q3 q4 q5 q6 q7 q8 q9 ⟨rfl, q10⟩)
  case lconst i =>
    subst hlen
    have hl : (Nat.beq t 1 && decide (Int64.ofNat (i : Nat) = lN n)) = true := hlk
    have w := bb_and hl
    obtain rfl := bb_eq w.1
    exact lv_lconst hx hb hdg (of_decide_eq_true w.2) (G ρ ad ws H locs ls LV (.long (lN n) :: ST) q1 q2 q3 q4 q5 q6 q7 q8 q9 ⟨rfl, q10⟩)
  case sipush i =>
    subst hlen
    have hl : (Nat.beq t 0 && decide ((Int16.ofInt i).toInt32 = nI n)) = true := hlk
    have w := bb_and hl
    obtain rfl := bb_eq w.1
    exact lv_sipush hx hb hdg (of_decide_eq_true w.2) (G ρ ad ws H locs ls LV (.int (nI n) :: ST) q1 q2 q3 q4 q5 q6 q7 q8 q9 ⟨rfl, q10⟩)
  case ldc idx =>
    subst hlen
    cases lk2 with
    | nil => cases hlk
    | cons c1 lk3 =>
      cases lk3 with
      | nil => cases hlk
      | cons j1 lk4 =>
        have hl : (bif Nat.beq t 0 then wdq c1 j1 (.constant M.1.cls idx (nI n)) else Nat.beq t 6 && ((Nat.beq n 1 && (decide (M.1.cls = RX9) && Nat.beq idx 51)) || (Nat.beq n 3 && (decide (M.1.cls = RX12) && Nat.beq idx 171)))) = true := hlk
        cases ht : Nat.beq t 0 with
        | true =>
          rw [ht] at hl
          obtain rfl := bb_eq ht
          exact lv_ldc hx hb hown (hts _ (wdq_in hl)) hdg (G ρ ad ws H locs ls LV (.int (nI n) :: ST) q1 q2 q3 q4 q5 q6 q7 q8 q9 ⟨rfl, q10⟩)
        | false =>
          rw [ht] at hl
          have w := bb_and hl
          obtain rfl := bb_eq w.1
          rcases (Bool.or_eq_true _ _).mp w.2 with w2 | w2
          · have w3 := bb_and w2
            have w4 := bb_and w3.2
            obtain rfl := bb_eq w3.1
            obtain rfl := bb_eq w4.2
            have hc : M.1.cls = RX9 := of_decide_eq_true w4.1
            exact va_ldcS hx hb (by rw [← hc]; exact hown) hO.2.2.2.1 hdg (G ρ ad ws H locs ls LV (.ref (sp 1) :: ST) q1 q2 q3 q4 q5 q6 q7 q8 q9 ⟨rfl, q10⟩)
          · have w3 := bb_and w2
            have w4 := bb_and w3.2
            obtain rfl := bb_eq w3.1
            obtain rfl := bb_eq w4.2
            have hc : M.1.cls = RX12 := of_decide_eq_true w4.1
            exact va_ldcS hx hb (by rw [← hc]; exact hown) hO.2.2.2.2.1 hdg (G ρ ad ws H locs ls LV (.ref (sp 3) :: ST) q1 q2 q3 q4 q5 q6 q7 q8 q9 ⟨rfl, q10⟩)
  case ldc_w idx =>
    subst hlen
    cases lk2 with
    | nil => cases hlk
    | cons c1 lk3 =>
      cases lk3 with
      | nil => cases hlk
      | cons j1 lk4 =>
        have hl : (Nat.beq t 0 && wdq c1 j1 (.constant M.1.cls idx (nI n))) = true := hlk
        have w := bb_and hl
        obtain rfl := bb_eq w.1
        exact lv_ldcw hx hb hown (hts _ (wdq_in w.2)) hdg (G ρ ad ws H locs ls LV (.int (nI n) :: ST) q1 q2 q3 q4 q5 q6 q7 q8 q9 ⟨rfl, q10⟩)
  case ldc2_w idx =>
    subst hlen
    cases lk2 with
    | nil => cases hlk
    | cons c1 lk3 =>
      cases lk3 with
      | nil => cases hlk
      | cons j1 lk4 =>
        have hl : (Nat.beq t 1 && wdq c1 j1 (.constantLong M.1.cls idx (lN n))) = true := hlk
        have w := bb_and hl
        obtain rfl := bb_eq w.1
        exact lv_ldc2 hx hb hown (hts _ (wdq_in w.2)) hdg (G ρ ad ws H locs ls LV (.long (lN n) :: ST) q1 q2 q3 q4 q5 q6 q7 q8 q9 ⟨rfl, q10⟩)
theorem sn_load {ok : AV → Bool} (hok : (ok = ax_tI ∧ ax_op ins = 1) ∨ (ok = ax_tL ∧ ax_op ins = 2) ∨ (ok = ax_tR ∧ ax_op ins = 3)) (hI : Snd sb mt dC dI dA sp H0 l ih) (hM : Mok mt M) (htl : ∀ x ∈ tl, x ∈ M.2.2.2.2.2.2) (hX : CX sb dC dI dA sp H0 ρ0 M p R s m args meth c) (hR : ∀ o ∈ outs, RO dC dI dA sp H0 l p e R s m args below meth c Q ρ0 ad0 M o) (hdg : decode M.2.1 pc = .ok (ins, len)) (hlen : len = ax_len ins) (hlk : lok mt M pc ins lk = true)
    (hr : ax_load ok ih M cut (pc + len) tl lk σ h nc ns lv st = some outs) : GG dC dI dA sp H0 l p e R s m args below meth c Q ρ0 ad0 M.2.2.1 pc σ h nc ns lv st := by
  unfold ax_load at hr
  obtain ⟨k, lk1, rfl, hr1⟩ := lc_s hr
  obtain ⟨v, hv, hr2⟩ := ob_s hr1
  obtain ⟨g1, hr3⟩ := gd_s hr2
  have G := hI p e R s m args below meth c Q ρ0 ad0 M cut _ tl _ _ _ _ _ _ outs hM htl hX hr3 hR
  obtain ⟨hx, hb, hml, hown, hts, hK, hlocks, hrt, hin, hRoom, hO⟩ := hX
  intro ρ ad ws H locs ls LV ST q1 q2 q3 q4 q5 q6 q7 q8 q9 q10
  obtain ⟨V, hV, hRp⟩ := ax_lk_has q8 hv
  have hls : ls[k]? = some (.val V) := q9.2.2 (k, V) hV
  rcases hok with ⟨rfl, ho⟩ | ⟨rfl, ho⟩ | ⟨rfl, ho⟩
  · obtain ⟨x, rfl⟩ := hRp.tI g1
    cases ins <;> first | (exact absurd ho (Nat.ne_of_beq_eq_false rfl)) | skip
    case iload i =>
      subst hlen
      obtain rfl := bb_eq (a := i) (b := k) hlk
      exact lv_iload hx hb hdg hls (G ρ ad ws H locs ls LV (.int x :: ST) q1 q2 q3 q4 q5 q6 q7 q8 q9 ⟨hRp, q10⟩)
    case iload_n i =>
      subst hlen
      exact lv_iload_n hx hb hdg (bb_eq (a := (i : Nat)) (b := k) hlk) hls (G ρ ad ws H locs ls LV (.int x :: ST) q1 q2 q3 q4 q5 q6 q7 q8 q9 ⟨hRp, q10⟩)
  · obtain ⟨x, rfl⟩ := hRp.tL g1
    cases ins <;> first | (exact absurd ho (Nat.ne_of_beq_eq_false rfl)) | skip
    case lload i =>
      subst hlen
      obtain rfl := bb_eq (a := i) (b := k) hlk
      exact lv_lload hx hb hdg hls (G ρ ad ws H locs ls LV (.long x :: ST) q1 q2 q3 q4 q5 q6 q7 q8 q9 ⟨hRp, q10⟩)
    case lload_n i =>
      subst hlen
      exact lv_lload_n hx hb hdg (bb_eq (a := (i : Nat)) (b := k) hlk) hls (G ρ ad ws H locs ls LV (.long x :: ST) q1 q2 q3 q4 q5 q6 q7 q8 q9 ⟨hRp, q10⟩)
  · obtain ⟨x, rfl⟩ := hRp.tR g1
    cases ins <;> first | (exact absurd ho (Nat.ne_of_beq_eq_false rfl)) | skip
    case aload i =>
      subst hlen
      obtain rfl := bb_eq (a := i) (b := k) hlk
      exact lv_aload hx hb hdg hls (G ρ ad ws H locs ls LV (.ref x :: ST) q1 q2 q3 q4 q5 q6 q7 q8 q9 ⟨hRp, q10⟩)
    case aload_n i =>
      subst hlen
      exact lv_aload_n hx hb hdg (bb_eq (a := (i : Nat)) (b := k) hlk) hls (G ρ ad ws H locs ls LV (.ref x :: ST) q1 q2 q3 q4 q5 q6 q7 q8 q9 ⟨hRp, q10⟩)
theorem sn_sto {ok : AV → Bool} {kp : Nat → Nat × AV → Bool} (hok : (ok = ax_tI ∧ kp = ax_k1 ∧ ax_op ins = 4) ∨ (ok = ax_tL ∧ kp = ax_k2 ∧ ax_op ins = 5) ∨ (ok = ax_tR ∧ kp = ax_k1 ∧ ax_op ins = 6)) (hI : Snd sb mt dC dI dA sp H0 l ih) (hM : Mok mt M) (htl : ∀ x ∈ tl, x ∈ M.2.2.2.2.2.2) (hX : CX sb dC dI dA sp H0 ρ0 M p R s m args meth c) (hR : ∀ o ∈ outs, RO dC dI dA sp H0 l p e R s m args below meth c Q ρ0 ad0 M o) (hdg : decode M.2.1 pc = .ok (ins, len)) (hlen : len = ax_len ins) (hlk : lok mt M pc ins lk = true)
    (hr : ax_sto ok kp ih M cut (pc + len) tl lk σ h nc ns lv st = some outs) : GG dC dI dA sp H0 l p e R s m args below meth c Q ρ0 ad0 M.2.2.1 pc σ h nc ns lv st := by
  unfold ax_sto at hr
  obtain ⟨k, lk1, rfl, hr1⟩ := lc_s hr
  obtain ⟨v, r, rfl, hr2⟩ := lc_s hr1
  obtain ⟨g1, hr3⟩ := gd_s hr2
  rw [ax_flt_eq] at hr3
  have G := hI p e R s m args below meth c Q ρ0 ad0 M cut _ tl _ _ _ _ _ _ outs hM htl hX hr3 hR
  obtain ⟨hx, hb, hml, hown, hts, hK, hlocks, hrt, hin, hRoom, hO⟩ := hX
  intro ρ ad ws H locs ls LV ST q1 q2 q3 q4 q5 q6 q7 q8 q9 q10
  obtain ⟨V, ST', rfl, hRp, q11⟩ := q10.cons
  rcases hok with ⟨rfl, rfl, ho⟩ | ⟨rfl, rfl, ho⟩ | ⟨rfl, rfl, ho⟩
  · obtain ⟨x, rfl⟩ := hRp.tI g1
    cases ins <;> first | (exact absurd ho (Nat.ne_of_beq_eq_false rfl)) | skip
    case istore i =>
      subst hlen
      have w := bb_and (a := Nat.beq i k) hlk
      obtain rfl := bb_eq w.1
      exact lv_istore hx hb hdg q9 (bb_lt w.2) rfl (fun ls' hl' => G ρ ad ws H locs ls' _ ST' q1 q2 q3 q4 q5 q6 q7 (by exact ⟨⟨rfl, hRp⟩, q8.flt1⟩) hl' q11)
    case istore_n i =>
      subst hlen
      have w := bb_and (a := Nat.beq (i : Nat) k) hlk
      exact lv_istore_n hx hb hdg (bb_eq w.1) q9 (bb_lt w.2) rfl (fun ls' hl' => G ρ ad ws H locs ls' _ ST' q1 q2 q3 q4 q5 q6 q7 (by exact ⟨⟨rfl, hRp⟩, q8.flt1⟩) hl' q11)
  · obtain ⟨x, rfl⟩ := hRp.tL g1
    cases ins <;> first | (exact absurd ho (Nat.ne_of_beq_eq_false rfl)) | skip
    case lstore i =>
      subst hlen
      have w := bb_and (a := Nat.beq i k) hlk
      obtain rfl := bb_eq w.1
      exact lv_lstore hx hb hdg q9 (bb_lt w.2) rfl (fun ls' hl' => G ρ ad ws H locs ls' _ ST' q1 q2 q3 q4 q5 q6 q7 (by exact ⟨⟨rfl, hRp⟩, q8.flt2⟩) hl' q11)
    case lstore_n i =>
      subst hlen
      have w := bb_and (a := Nat.beq (i : Nat) k) hlk
      exact lv_lstore_n hx hb hdg (bb_eq w.1) q9 (bb_lt w.2) rfl (fun ls' hl' => G ρ ad ws H locs ls' _ ST' q1 q2 q3 q4 q5 q6 q7 (by exact ⟨⟨rfl, hRp⟩, q8.flt2⟩) hl' q11)
  · obtain ⟨x, rfl⟩ := hRp.tR g1
    cases ins <;> first | (exact absurd ho (Nat.ne_of_beq_eq_false rfl)) | skip
    case astore i =>
      subst hlen
      have w := bb_and (a := Nat.beq i k) hlk
      obtain rfl := bb_eq w.1
      exact lv_astore hx hb hdg q9 (bb_lt w.2) rfl (fun ls' hl' => G ρ ad ws H locs ls' _ ST' q1 q2 q3 q4 q5 q6 q7 (by exact ⟨⟨rfl, hRp⟩, q8.flt1⟩) hl' q11)
    case astore_n i =>
      subst hlen
      have w := bb_and (a := Nat.beq (i : Nat) k) hlk
      exact lv_astore_n hx hb hdg (bb_eq w.1) q9 (bb_lt w.2) rfl (fun ls' hl' => G ρ ad ws H locs ls' _ ST' q1 q2 q3 q4 q5 q6 q7 (by exact ⟨⟨rfl, hRp⟩, q8.flt1⟩) hl' q11)
theorem sn_iinc (hI : Snd sb mt dC dI dA sp H0 l ih) (hM : Mok mt M) (htl : ∀ x ∈ tl, x ∈ M.2.2.2.2.2.2) (hX : CX sb dC dI dA sp H0 ρ0 M p R s m args meth c) (hR : ∀ o ∈ outs, RO dC dI dA sp H0 l p e R s m args below meth c Q ρ0 ad0 M o) (hdg : decode M.2.1 pc = .ok (ins, len)) (hlen : len = ax_len ins) (hlk : lok mt M pc ins lk = true) (ho : ax_op ins = 7)
    (hr : lc lk (fun i lk => lc lk (fun n _ => ob (ax_lk lv i) (fun v => ax_ib 0 σ (ax_nv σ v) (0, n) (fun σ' w => ax_flt (ax_k1 i) lv (fun lv' => ih M cut (pc + len) tl σ' h nc ns ((i, w) :: lv') st))))) = some outs) : GG dC dI dA sp H0 l p e R s m args below meth c Q ρ0 ad0 M.2.2.1 pc σ h nc ns lv st := by
  obtain ⟨k, lk1, rfl, hr1⟩ := lc_s hr
  obtain ⟨n, lk2, rfl, hr2⟩ := lc_s hr1
  obtain ⟨v, hv, hr3⟩ := ob_s hr2
  obtain ⟨hx, hb, hml, hown, hts, hK, hlocks, hrt, hin, hRoom, hO⟩ := id hX
  intro ρ ad ws H locs ls LV ST q1 q2 q3 q4 q5 q6 q7 q8 q9 q10
  obtain ⟨V, hV, hRp⟩ := ax_lk_has q8 hv
  obtain ⟨x, y, σ', w, ρ', hxV, hyV, hr4, r1, r2, r3⟩ := ax_ib_ok q3 (ax_nv_ok q3 hRp) (B := .int (nI n)) (b := (0, n)) (sp := sp) (ad := ad) rfl hr3
  subst hxV
  cases hyV
  rw [ax_flt_eq] at hr4
  have G := hI p e R s m args below meth c Q ρ0 ad0 M cut _ tl _ _ _ _ _ _ outs hM htl hX hr4 hR
  obtain ⟨k0, hk0⟩ := List.getElem?_of_mem hV
  cases ins <;> first | (exact absurd ho (Nat.ne_of_beq_eq_false rfl)) | skip
  case iinc i n' =>
    subst hlen
    have w := bb_and (a := Nat.beq i k) hlk
    have w2 := bb_and w.2
    obtain rfl := bb_eq w.1
    have hn : Int32.ofInt n' = nI n := of_decide_eq_true w2.1
    exact lv_iinc hx hb hdg q9 hk0 (by rw [hn]) (bb_lt w2.2) rfl (fun ls' hl' => G ρ' ad ws H locs ls' _ ST (q1.tr r1) q2 r2 (q4.monoρ r1) q5 q6 q7 (by exact ⟨⟨rfl, r3⟩, (q8.mono r1 (Sb.rf ad)).flt1⟩) hl' (q10.mono r1 (Sb.rf ad)))
end OPS
end
section
/-! THE ABSTRACT MACHINE, 9: arithmetic, the stack -/
section OPS
variable {sb : Nat → List Nat} {mt : Nat → Nat → Option MR} {dC : Nat → ClassId} {dI : Nat → Nat → Nat} {dA : Nat → ClassId} {sp : Nat → Nat} {H0 : Heap} {l : Launch}
variable {ih : GO} {p : Program} {e : Env} {R : Room} {s : State} {m : MethodId} {args : Array Value} {below : List Frame} {meth : Method} {c : Code} {Q : State → Prop} {ρ0 ad0 : List Nat} {M : MR} {cut pc len : Nat} {ins : Instr} {lk : List Nat} {cd tl : List ME} {σ : AS} {h : AH} {nc ns : Nat} {lv : AL} {st : List AV} {outs : List AO}

theorem sn_ib {op : Nat} (hI : Snd sb mt dC dI dA sp H0 l ih) (hM : Mok mt M) (htl : ∀ x ∈ tl, x ∈ M.2.2.2.2.2.2) (hX : CX sb dC dI dA sp H0 ρ0 M p R s m args meth c) (hR : ∀ o ∈ outs, RO dC dI dA sp H0 l p e R s m args below meth c Q ρ0 ad0 M o) (hdg : decode M.2.1 pc = .ok (ins, len)) (hlen : len = ax_len ins) (hlk : lok mt M pc ins lk = true) (ho : ax_op ins = op + 26) (ho2 : op < 9)
    (hr : ax_bin (ax_ib op) ih M cut (pc + len) tl σ h nc ns lv st = some outs) : GG dC dI dA sp H0 l p e R s m args below meth c Q ρ0 ad0 M.2.2.1 pc σ h nc ns lv st := by
  unfold ax_bin at hr
  obtain ⟨b, st1, rfl, hr1⟩ := lc_s hr
  obtain ⟨a, r, rfl, hr2⟩ := lc_s hr1
  obtain ⟨hx, hb, hml, hown, hts, hK, hlocks, hrt, hin, hRoom, hO⟩ := id hX
  intro ρ ad ws H locs ls LV ST q1 q2 q3 q4 q5 q6 q7 q8 q9 q10
  obtain ⟨B, ST1, rfl, hB, q11⟩ := q10.cons
  obtain ⟨A, ST2, rfl, hA, q12⟩ := q11.cons
  obtain ⟨x, y, σ', v, ρ', rfl, rfl, hr3, r1, r2, r3⟩ := ax_ib_ok q3 (ax_nv_ok q3 hA) (ax_nv_ok q3 hB) hr2
  have G := hI p e R s m args below meth c Q ρ0 ad0 M cut _ tl _ _ _ _ _ _ outs hM htl hX hr3 hR
  have K := G ρ' ad ws H locs ls LV (.int (ax_fop op x y) :: ST2) (q1.tr r1) q2 r2 (q4.monoρ r1) q5 q6 q7 (q8.mono r1 (Sb.rf ad)) q9 ⟨r3, q12.mono r1 (Sb.rf ad)⟩
  match op, ho2 with

  | 0, _ =>
    cases ins <;> first | (exact absurd ho (Nat.ne_of_beq_eq_false rfl)) | skip
    case iadd => subst hlen; exact lv_iadd hx hb hdg (K)

  | 1, _ =>
    cases ins <;> first | (exact absurd ho (Nat.ne_of_beq_eq_false rfl)) | skip
    case isub => subst hlen; exact lv_isub hx hb hdg (K)

  | 2, _ =>
    cases ins <;> first | (exact absurd ho (Nat.ne_of_beq_eq_false rfl)) | skip
    case imul => subst hlen; exact lv_imul hx hb hdg (K)

  | 3, _ =>
    cases ins <;> first | (exact absurd ho (Nat.ne_of_beq_eq_false rfl)) | skip
    case iand => subst hlen; exact lv_iand hx hb hdg (K)

  | 4, _ =>
    cases ins <;> first | (exact absurd ho (Nat.ne_of_beq_eq_false rfl)) | skip
    case ior => subst hlen; exact lv_ior hx hb hdg (K)

  | 5, _ =>
    cases ins <;> first | (exact absurd ho (Nat.ne_of_beq_eq_false rfl)) | skip
    case ixor => subst hlen; exact lv_ixor hx hb hdg (K)

  | 6, _ =>
    cases ins <;> first | (exact absurd ho (Nat.ne_of_beq_eq_false rfl)) | skip
    case ishl => subst hlen; exact lv_ishl hx hb hdg (K)

  | 7, _ =>
    cases ins <;> first | (exact absurd ho (Nat.ne_of_beq_eq_false rfl)) | skip
    case ishr => subst hlen; exact lv_ishr hx hb hdg (K)

  | 8, _ =>
    cases ins <;> first | (exact absurd ho (Nat.ne_of_beq_eq_false rfl)) | skip
    case iushr => subst hlen; exact lv_iushr hx hb hdg rfl (K)

  | n + 9, hn => exact absurd hn (by omega)

theorem sn_id {op : Nat} (hI : Snd sb mt dC dI dA sp H0 l ih) (hM : Mok mt M) (htl : ∀ x ∈ tl, x ∈ M.2.2.2.2.2.2) (hX : CX sb dC dI dA sp H0 ρ0 M p R s m args meth c) (hR : ∀ o ∈ outs, RO dC dI dA sp H0 l p e R s m args below meth c Q ρ0 ad0 M o) (hdg : decode M.2.1 pc = .ok (ins, len)) (hlen : len = ax_len ins) (hlk : lok mt M pc ins lk = true) (ho : ax_op ins = op + 35) (ho2 : op < 2)
    (hr : ax_bin (ax_id op) ih M cut (pc + len) tl σ h nc ns lv st = some outs) : GG dC dI dA sp H0 l p e R s m args below meth c Q ρ0 ad0 M.2.2.1 pc σ h nc ns lv st := by
  unfold ax_bin at hr
  obtain ⟨b, st1, rfl, hr1⟩ := lc_s hr
  obtain ⟨a, r, rfl, hr2⟩ := lc_s hr1
  obtain ⟨hx, hb, hml, hown, hts, hK, hlocks, hrt, hin, hRoom, hO⟩ := id hX
  intro ρ ad ws H locs ls LV ST q1 q2 q3 q4 q5 q6 q7 q8 q9 q10
  obtain ⟨B, ST1, rfl, hB, q11⟩ := q10.cons
  obtain ⟨A, ST2, rfl, hA, q12⟩ := q11.cons
  obtain ⟨x, y, σ', v, ρ', rfl, rfl, hy0, hr3, r1, r2, r3⟩ := ax_id_ok q3 (ax_nv_ok q3 hA) (ax_nv_ok q3 hB) hr2
  have G := hI p e R s m args below meth c Q ρ0 ad0 M cut _ tl _ _ _ _ _ _ outs hM htl hX hr3 hR
  have K := G ρ' ad ws H locs ls LV (.int (if op = 0 then x / y else x - x / y * y) :: ST2) (q1.tr r1) q2 r2 (q4.monoρ r1) q5 q6 q7 (q8.mono r1 (Sb.rf ad)) q9 ⟨r3, q12.mono r1 (Sb.rf ad)⟩
  match op, ho2 with
  | 0, _ =>
    cases ins <;> first | (exact absurd ho (Nat.ne_of_beq_eq_false rfl)) | skip
    case idiv => subst hlen; exact lv_idiv hx hb hdg hy0 K
  | 1, _ =>
    cases ins <;> first | (exact absurd ho (Nat.ne_of_beq_eq_false rfl)) | skip
    case irem => subst hlen; exact lv_irem hx hb hdg hy0 K
  | n + 2, hn => exact absurd hn (by omega)

theorem sn_lb {op : Nat} (hI : Snd sb mt dC dI dA sp H0 l ih) (hM : Mok mt M) (htl : ∀ x ∈ tl, x ∈ M.2.2.2.2.2.2) (hX : CX sb dC dI dA sp H0 ρ0 M p R s m args meth c) (hR : ∀ o ∈ outs, RO dC dI dA sp H0 l p e R s m args below meth c Q ρ0 ad0 M o) (hdg : decode M.2.1 pc = .ok (ins, len)) (hlen : len = ax_len ins) (hlk : lok mt M pc ins lk = true) (ho : ax_op ins = op + 37) (ho2 : op < 5)
    (hr : ax_bin (ax_lb op) ih M cut (pc + len) tl σ h nc ns lv st = some outs) : GG dC dI dA sp H0 l p e R s m args below meth c Q ρ0 ad0 M.2.2.1 pc σ h nc ns lv st := by
  unfold ax_bin at hr
  obtain ⟨b, st1, rfl, hr1⟩ := lc_s hr
  obtain ⟨a, r, rfl, hr2⟩ := lc_s hr1
  obtain ⟨hx, hb, hml, hown, hts, hK, hlocks, hrt, hin, hRoom, hO⟩ := id hX
  intro ρ ad ws H locs ls LV ST q1 q2 q3 q4 q5 q6 q7 q8 q9 q10
  obtain ⟨B, ST1, rfl, hB, q11⟩ := q10.cons
  obtain ⟨A, ST2, rfl, hA, q12⟩ := q11.cons
  obtain ⟨x, y, σ', v, ρ', rfl, rfl, hr3, r1, r2, r3⟩ := ax_lb_ok q3 (ax_nv_ok q3 hA) (ax_nv_ok q3 hB) hr2
  have G := hI p e R s m args below meth c Q ρ0 ad0 M cut _ tl _ _ _ _ _ _ outs hM htl hX hr3 hR
  have K := G ρ' ad ws H locs ls LV (.long (ax_flo op x y) :: ST2) (q1.tr r1) q2 r2 (q4.monoρ r1) q5 q6 q7 (q8.mono r1 (Sb.rf ad)) q9 ⟨r3, q12.mono r1 (Sb.rf ad)⟩
  match op, ho2 with

  | 0, _ =>
    cases ins <;> first | (exact absurd ho (Nat.ne_of_beq_eq_false rfl)) | skip
    case ladd => subst hlen; exact lv_ladd hx hb hdg K

  | 1, _ =>
    cases ins <;> first | (exact absurd ho (Nat.ne_of_beq_eq_false rfl)) | skip
    case lsub => subst hlen; exact lv_lsub hx hb hdg K

  | 2, _ =>
    cases ins <;> first | (exact absurd ho (Nat.ne_of_beq_eq_false rfl)) | skip
    case lmul => subst hlen; exact lv_lmul hx hb hdg K

  | 3, _ =>
    cases ins <;> first | (exact absurd ho (Nat.ne_of_beq_eq_false rfl)) | skip
    case land => subst hlen; exact lv_land hx hb hdg K

  | 4, _ =>
    cases ins <;> first | (exact absurd ho (Nat.ne_of_beq_eq_false rfl)) | skip
    case lor => subst hlen; exact lv_lor hx hb hdg K

  | n + 5, hn => exact absurd hn (by omega)

theorem sn_lsh (hI : Snd sb mt dC dI dA sp H0 l ih) (hM : Mok mt M) (htl : ∀ x ∈ tl, x ∈ M.2.2.2.2.2.2) (hX : CX sb dC dI dA sp H0 ρ0 M p R s m args meth c) (hR : ∀ o ∈ outs, RO dC dI dA sp H0 l p e R s m args below meth c Q ρ0 ad0 M o) (hdg : decode M.2.1 pc = .ok (ins, len)) (hlen : len = ax_len ins) (hlk : lok mt M pc ins lk = true) (ho : ax_op ins = 42)
    (hr : ax_bin ax_lsh ih M cut (pc + len) tl σ h nc ns lv st = some outs) : GG dC dI dA sp H0 l p e R s m args below meth c Q ρ0 ad0 M.2.2.1 pc σ h nc ns lv st := by
  unfold ax_bin at hr
  obtain ⟨b, st1, rfl, hr1⟩ := lc_s hr
  obtain ⟨a, r, rfl, hr2⟩ := lc_s hr1
  unfold ax_lsh at hr2
  obtain ⟨g1, hr3⟩ := gd_s hr2
  obtain ⟨hx, hb, hml, hown, hts, hK, hlocks, hrt, hin, hRoom, hO⟩ := id hX
  intro ρ ad ws H locs ls LV ST q1 q2 q3 q4 q5 q6 q7 q8 q9 q10
  obtain ⟨B, ST1, rfl, hB, q11⟩ := q10.cons
  obtain ⟨A, ST2, rfl, hA, q12⟩ := q11.cons
  have w := bb_and g1
  obtain ⟨x, rfl⟩ := (ax_nv_ok q3 hA).tL w.1
  obtain ⟨y, rfl⟩ := (ax_nv_ok q3 hB).tI w.2
  have hn := nwL (sp := sp) (ad := ad) q3 (x <<< (y.toInt64 &&& 63))
  have G := hI p e R s m args below meth c Q ρ0 ad0 M cut _ tl _ _ _ _ _ _ outs hM htl hX hr3 hR
  have K := G _ ad ws H locs ls LV (.long (x <<< (y.toInt64 &&& 63)) :: ST2) (q1.tr hn.1) q2 hn.2.1 (q4.monoρ hn.1) q5 q6 q7 (q8.mono hn.1 (Sb.rf ad)) q9 ⟨hn.2.2, q12.mono hn.1 (Sb.rf ad)⟩
  cases ins <;> first | (exact absurd ho (Nat.ne_of_beq_eq_false rfl)) | skip
  case lshl => subst hlen; exact lv_lshl hx hb hdg rfl K

theorem sn_un {op : Nat} (hI : Snd sb mt dC dI dA sp H0 l ih) (hM : Mok mt M) (htl : ∀ x ∈ tl, x ∈ M.2.2.2.2.2.2) (hX : CX sb dC dI dA sp H0 ρ0 M p R s m args meth c) (hR : ∀ o ∈ outs, RO dC dI dA sp H0 l p e R s m args below meth c Q ρ0 ad0 M o) (hdg : decode M.2.1 pc = .ok (ins, len)) (hlen : len = ax_len ins) (hlk : lok mt M pc ins lk = true) (ho : ax_op ins = op + 44) (ho2 : op < 4)
    (hr : ax_one (ax_un op) ih M cut (pc + len) tl σ h nc ns lv st = some outs) : GG dC dI dA sp H0 l p e R s m args below meth c Q ρ0 ad0 M.2.2.1 pc σ h nc ns lv st := by
  unfold ax_one at hr
  obtain ⟨a, r, rfl, hr1⟩ := lc_s hr
  obtain ⟨hx, hb, hml, hown, hts, hK, hlocks, hrt, hin, hRoom, hO⟩ := id hX
  intro ρ ad ws H locs ls LV ST q1 q2 q3 q4 q5 q6 q7 q8 q9 q10
  obtain ⟨A, ST2, rfl, hA, q12⟩ := q10.cons
  obtain ⟨x, σ', v, ρ', rfl, hr3, r1, r2, r3⟩ := ax_un_ok q3 (ax_nv_ok q3 hA) hr1
  have G := hI p e R s m args below meth c Q ρ0 ad0 M cut _ tl _ _ _ _ _ _ outs hM htl hX hr3 hR
  have K := G ρ' ad ws H locs ls LV (.int (ax_fu op x) :: ST2) (q1.tr r1) q2 r2 (q4.monoρ r1) q5 q6 q7 (q8.mono r1 (Sb.rf ad)) q9 ⟨r3, q12.mono r1 (Sb.rf ad)⟩
  match op, ho2 with
  | 0, _ =>
    cases ins <;> first | (exact absurd ho (Nat.ne_of_beq_eq_false rfl)) | skip
    case i2b => subst hlen; exact lv_i2b hx hb hdg rfl K
  | 1, _ =>
    cases ins <;> first | (exact absurd ho (Nat.ne_of_beq_eq_false rfl)) | skip
    case i2s => subst hlen; exact lv_i2s hx hb hdg rfl K
  | 2, _ =>
    cases ins <;> first | (exact absurd ho (Nat.ne_of_beq_eq_false rfl)) | skip
    case i2c => subst hlen; exact lv_i2c hx hb hdg rfl K
  | 3, _ =>
    cases ins <;> first | (exact absurd ho (Nat.ne_of_beq_eq_false rfl)) | skip
    case ineg => subst hlen; exact lv_ineg hx hb hdg K
  | n + 4, hn => exact absurd hn (by omega)

theorem sn_i2l (hI : Snd sb mt dC dI dA sp H0 l ih) (hM : Mok mt M) (htl : ∀ x ∈ tl, x ∈ M.2.2.2.2.2.2) (hX : CX sb dC dI dA sp H0 ρ0 M p R s m args meth c) (hR : ∀ o ∈ outs, RO dC dI dA sp H0 l p e R s m args below meth c Q ρ0 ad0 M o) (hdg : decode M.2.1 pc = .ok (ins, len)) (hlen : len = ax_len ins) (hlk : lok mt M pc ins lk = true) (ho : ax_op ins = 48)
    (hr : ax_one ax_i2l ih M cut (pc + len) tl σ h nc ns lv st = some outs) : GG dC dI dA sp H0 l p e R s m args below meth c Q ρ0 ad0 M.2.2.1 pc σ h nc ns lv st := by
  unfold ax_one at hr
  obtain ⟨a, r, rfl, hr1⟩ := lc_s hr
  obtain ⟨hx, hb, hml, hown, hts, hK, hlocks, hrt, hin, hRoom, hO⟩ := id hX
  intro ρ ad ws H locs ls LV ST q1 q2 q3 q4 q5 q6 q7 q8 q9 q10
  obtain ⟨A, ST2, rfl, hA, q12⟩ := q10.cons
  obtain ⟨x, v, rfl, hr3, r3⟩ := ax_i2l_ok q3 (ax_nv_ok q3 hA) hr1
  have G := hI p e R s m args below meth c Q ρ0 ad0 M cut _ tl _ _ _ _ _ _ outs hM htl hX hr3 hR
  have K := G ρ ad ws H locs ls LV (.long x.toInt64 :: ST2) q1 q2 q3 q4 q5 q6 q7 q8 q9 ⟨r3, q12⟩
  cases ins <;> first | (exact absurd ho (Nat.ne_of_beq_eq_false rfl)) | skip
  case i2l => subst hlen; exact lv_i2l hx hb hdg rfl K

theorem sn_l2i (hI : Snd sb mt dC dI dA sp H0 l ih) (hM : Mok mt M) (htl : ∀ x ∈ tl, x ∈ M.2.2.2.2.2.2) (hX : CX sb dC dI dA sp H0 ρ0 M p R s m args meth c) (hR : ∀ o ∈ outs, RO dC dI dA sp H0 l p e R s m args below meth c Q ρ0 ad0 M o) (hdg : decode M.2.1 pc = .ok (ins, len)) (hlen : len = ax_len ins) (hlk : lok mt M pc ins lk = true) (ho : ax_op ins = 49)
    (hr : ax_one ax_l2i ih M cut (pc + len) tl σ h nc ns lv st = some outs) : GG dC dI dA sp H0 l p e R s m args below meth c Q ρ0 ad0 M.2.2.1 pc σ h nc ns lv st := by
  unfold ax_one at hr
  obtain ⟨a, r, rfl, hr1⟩ := lc_s hr
  obtain ⟨hx, hb, hml, hown, hts, hK, hlocks, hrt, hin, hRoom, hO⟩ := id hX
  intro ρ ad ws H locs ls LV ST q1 q2 q3 q4 q5 q6 q7 q8 q9 q10
  obtain ⟨A, ST2, rfl, hA, q12⟩ := q10.cons
  obtain ⟨x, σ', v, ρ', rfl, hr3, r1, r2, r3⟩ := ax_l2i_ok q3 (ax_nv_ok q3 hA) hr1
  have G := hI p e R s m args below meth c Q ρ0 ad0 M cut _ tl _ _ _ _ _ _ outs hM htl hX hr3 hR
  have K := G ρ' ad ws H locs ls LV (.int x.toInt32 :: ST2) (q1.tr r1) q2 r2 (q4.monoρ r1) q5 q6 q7 (q8.mono r1 (Sb.rf ad)) q9 ⟨r3, q12.mono r1 (Sb.rf ad)⟩
  cases ins <;> first | (exact absurd ho (Nat.ne_of_beq_eq_false rfl)) | skip
  case l2i => subst hlen; exact lv_l2i hx hb hdg rfl K

theorem sn_stk {op : Nat} (hI : Snd sb mt dC dI dA sp H0 l ih) (hM : Mok mt M) (htl : ∀ x ∈ tl, x ∈ M.2.2.2.2.2.2) (hX : CX sb dC dI dA sp H0 ρ0 M p R s m args meth c) (hR : ∀ o ∈ outs, RO dC dI dA sp H0 l p e R s m args below meth c Q ρ0 ad0 M o) (hdg : decode M.2.1 pc = .ok (ins, len)) (hlen : len = ax_len ins) (hlk : lok mt M pc ins lk = true) (ho : ax_op ins = op) (ho2 : op = 50 ∨ op = 51 ∨ op = 52)
    (hr : lc st (fun a r => bif Nat.beq op 50 then gd (!ax_c2 a) (ih M cut (pc + len) tl σ h nc ns lv (a :: a :: r))
    else bif Nat.beq op 51 then (bif ax_c2 a then ih M cut (pc + len) tl σ h nc ns lv (a :: a :: r) else lc r (fun b r' => gd (!ax_c2 b) (ih M cut (pc + len) tl σ h nc ns lv (a :: b :: a :: b :: r'))))
    else gd (!ax_c2 a) (ih M cut (pc + len) tl σ h nc ns lv r)) = some outs) : GG dC dI dA sp H0 l p e R s m args below meth c Q ρ0 ad0 M.2.2.1 pc σ h nc ns lv st := by
  obtain ⟨a, r, rfl, hr1⟩ := lc_s hr
  obtain ⟨hx, hb, hml, hown, hts, hK, hlocks, hrt, hin, hRoom, hO⟩ := id hX
  intro ρ ad ws H locs ls LV ST q1 q2 q3 q4 q5 q6 q7 q8 q9 q10
  obtain ⟨A, ST2, rfl, hA, q12⟩ := q10.cons
  rcases ho2 with rfl | rfl | rfl
  · obtain ⟨g1, hr2⟩ := gd_s (b := !ax_c2 a) hr1
    have hc : ax_c2 a = false := by cases hq : ax_c2 a with | false => rfl | true => rw [hq] at g1; cases g1
    have G := hI p e R s m args below meth c Q ρ0 ad0 M cut _ tl _ _ _ _ _ _ outs hM htl hX hr2 hR
    have K := G ρ ad ws H locs ls LV (A :: A :: ST2) q1 q2 q3 q4 q5 q6 q7 q8 q9 ⟨hA, hA, q12⟩
    cases ins <;> first | (exact absurd ho (Nat.ne_of_beq_eq_false rfl)) | skip
    case dup => subst hlen; exact lv_dup hx hb hdg (hA.cat1 hc) K
  · cases hc : ax_c2 a with
    | true =>
      have hr2 : (bif ax_c2 a then ih M cut (pc + len) tl σ h nc ns lv (a :: a :: r) else lc r (fun b r' => gd (!ax_c2 b) (ih M cut (pc + len) tl σ h nc ns lv (a :: b :: a :: b :: r')))) = some outs := hr1
      rw [hc] at hr2
      have G := hI p e R s m args below meth c Q ρ0 ad0 M cut _ tl _ _ _ _ _ _ outs hM htl hX hr2 hR
      have K := G ρ ad ws H locs ls LV (A :: A :: ST2) q1 q2 q3 q4 q5 q6 q7 q8 q9 ⟨hA, hA, q12⟩
      cases ins <;> first | (exact absurd ho (Nat.ne_of_beq_eq_false rfl)) | skip
      case dup2 => subst hlen; exact lv_dup2_2 hx hb hdg (hA.cat2 hc) K
    | false =>
      have hr2 : (bif ax_c2 a then ih M cut (pc + len) tl σ h nc ns lv (a :: a :: r) else lc r (fun b r' => gd (!ax_c2 b) (ih M cut (pc + len) tl σ h nc ns lv (a :: b :: a :: b :: r')))) = some outs := hr1
      rw [hc] at hr2
      obtain ⟨b, r', rfl, hr3⟩ := lc_s (l := r) hr2
      obtain ⟨g1, hr4⟩ := gd_s hr3
      have hcb : ax_c2 b = false := by cases hq : ax_c2 b with | false => rfl | true => rw [hq] at g1; cases g1
      obtain ⟨B, ST3, rfl, hB, q13⟩ := q12.cons
      have G := hI p e R s m args below meth c Q ρ0 ad0 M cut _ tl _ _ _ _ _ _ outs hM htl hX hr4 hR
      have K := G ρ ad ws H locs ls LV (A :: B :: A :: B :: ST3) q1 q2 q3 q4 q5 q6 q7 q8 q9 ⟨hA, hB, hA, hB, q13⟩
      cases ins <;> first | (exact absurd ho (Nat.ne_of_beq_eq_false rfl)) | skip
      case dup2 => subst hlen; exact lv_dup2_11 hx hb hdg (hA.cat1 hc) (hB.cat1 hcb) K
  · obtain ⟨g1, hr2⟩ := gd_s (b := !ax_c2 a) hr1
    have hc : ax_c2 a = false := by cases hq : ax_c2 a with | false => rfl | true => rw [hq] at g1; cases g1
    have G := hI p e R s m args below meth c Q ρ0 ad0 M cut _ tl _ _ _ _ _ _ outs hM htl hX hr2 hR
    have K := G ρ ad ws H locs ls LV ST2 q1 q2 q3 q4 q5 q6 q7 q8 q9 q12
    cases ins <;> first | (exact absurd ho (Nat.ne_of_beq_eq_false rfl)) | skip
    case pop => subst hlen; exact lv_pop hx hb hdg (hA.cat1 hc) K

end OPS
end
section
/-! THE ABSTRACT MACHINE, 10: branches -/

theorem ax_br_lt {sp : Nat → Nat} {ρ ad : List Nat} {σ : AS} (hS : St ρ σ) {a b : AV} {A B : Value} (ha : Rp sp ρ ad a A) (hb : Rp sp ρ ad b B) {gt gf : AS → RS} {outs : List AO} (h : ax_br (ax_lt σ a b) gt gf = some outs) :
    ∃ x y : Int32, A = .int x ∧ B = .int y ∧ (x < y → ∃ σ' o, gt σ' = some o ∧ St ρ σ' ∧ ∀ z ∈ o, z ∈ outs) ∧ (¬ x < y → ∃ σ' o, gf σ' = some o ∧ St ρ σ' ∧ ∀ z ∈ o, z ∈ outs) := by
  unfold ax_br at h
  obtain ⟨⟨T, F⟩, e1, h1⟩ := ob_s h
  obtain ⟨u, v, e2, e3, rfl⟩ := ax_two_s h1
  obtain ⟨x, y, hx, hy, ht, hf⟩ := ax_lt_ok hS ha hb e1
  refine ⟨x, y, hx, hy, fun q => ?_, fun q => ?_⟩
  · obtain ⟨σ', hσ, hst⟩ := ht q
    exact ⟨σ', u, ax_go_s e2 hσ, hst, fun z hz => List.mem_append_left _ hz⟩
  · obtain ⟨σ', hσ, hst⟩ := hf q
    exact ⟨σ', v, ax_go_s e3 hσ, hst, fun z hz => List.mem_append_right _ hz⟩
theorem ax_br_eq {sp : Nat → Nat} {ρ ad : List Nat} {σ : AS} (hS : St ρ σ) {a b : AV} {A B : Value} (ha : Rp sp ρ ad a A) (hb : Rp sp ρ ad b B) {gt gf : AS → RS} {outs : List AO} (h : ax_br (ax_eq σ a b) gt gf = some outs) :
    ∃ x y : Int32, A = .int x ∧ B = .int y ∧ (x = y → ∃ σ' o, gt σ' = some o ∧ St ρ σ' ∧ ∀ z ∈ o, z ∈ outs) ∧ (¬ x = y → ∃ σ' o, gf σ' = some o ∧ St ρ σ' ∧ ∀ z ∈ o, z ∈ outs) := by
  unfold ax_br at h
  obtain ⟨⟨T, F⟩, e1, h1⟩ := ob_s h
  obtain ⟨u, v, e2, e3, rfl⟩ := ax_two_s h1
  obtain ⟨x, y, hx, hy, ht, hf⟩ := ax_eq_ok hS ha hb e1
  refine ⟨x, y, hx, hy, fun q => ?_, fun q => ?_⟩
  · obtain ⟨σ', hσ, hst⟩ := ht q
    exact ⟨σ', u, ax_go_s e2 hσ, hst, fun z hz => List.mem_append_left _ hz⟩
  · obtain ⟨σ', hσ, hst⟩ := hf q
    exact ⟨σ', v, ax_go_s e3 hσ, hst, fun z hz => List.mem_append_right _ hz⟩
/-- the six conditions, as the machine has them -/
def ax_cp (k : Nat) (x y : Int32) : Prop := match k with
  | 0 => x = y
  | 1 => ¬ x = y
  | 2 => x < y
  | 3 => y ≤ x
  | 4 => y < x
  | _ => x ≤ y
theorem ax_cnd_ok {sp : Nat → Nat} {ρ ad : List Nat} {σ : AS} (hS : St ρ σ) {a b : AV} {A B : Value} (ha : Rp sp ρ ad a A) (hb : Rp sp ρ ad b B) {k : Nat} (hk : k < 6) {gt gf : AS → RS} {outs : List AO} (h : ax_cnd k σ a b gt gf = some outs) :
    ∃ x y : Int32, A = .int x ∧ B = .int y ∧ (ax_cp k x y → ∃ σ' o, gt σ' = some o ∧ St ρ σ' ∧ ∀ z ∈ o, z ∈ outs) ∧ (¬ ax_cp k x y → ∃ σ' o, gf σ' = some o ∧ St ρ σ' ∧ ∀ z ∈ o, z ∈ outs) := by
  match k, hk with
  | 0, _ =>
    obtain ⟨x, y, hx, hy, ht, hf⟩ := ax_br_eq hS ha hb (gt := gt) (gf := gf) h
    exact ⟨x, y, hx, hy, ht, hf⟩
  | 1, _ =>
    obtain ⟨x, y, hx, hy, ht, hf⟩ := ax_br_eq hS ha hb (gt := gf) (gf := gt) h
    exact ⟨x, y, hx, hy, hf, fun q => ht (Classical.not_not.mp q)⟩
  | 2, _ =>
    obtain ⟨x, y, hx, hy, ht, hf⟩ := ax_br_lt hS ha hb (gt := gt) (gf := gf) h
    exact ⟨x, y, hx, hy, ht, hf⟩
  | 3, _ =>
    obtain ⟨x, y, hx, hy, ht, hf⟩ := ax_br_lt hS ha hb (gt := gf) (gf := gt) h
    exact ⟨x, y, hx, hy, fun q => hf (Int32.not_lt.mpr q), fun q => ht (Int32.not_le.mp q)⟩
  | 4, _ =>
    obtain ⟨y, x, hy, hx, ht, hf⟩ := ax_br_lt hS hb ha (gt := gt) (gf := gf) h
    exact ⟨x, y, hx, hy, ht, hf⟩
  | 5, _ =>
    obtain ⟨y, x, hy, hx, ht, hf⟩ := ax_br_lt hS hb ha (gt := gf) (gf := gt) h
    exact ⟨x, y, hx, hy, fun q => hf (Int32.not_lt.mpr q), fun q => ht (Int32.not_le.mp q)⟩
  | n + 6, hn => exact absurd hn (by omega)

section OPS
variable {sb : Nat → List Nat} {mt : Nat → Nat → Option MR} {dC : Nat → ClassId} {dI : Nat → Nat → Nat} {dA : Nat → ClassId} {sp : Nat → Nat} {H0 : Heap} {l : Launch}
variable {ih : GO} {p : Program} {e : Env} {R : Room} {s : State} {m : MethodId} {args : Array Value} {below : List Frame} {meth : Method} {c : Code} {Q : State → Prop} {ρ0 ad0 : List Nat} {M : MR} {cut pc len : Nat} {ins : Instr} {lk : List Nat} {cd tl : List ME} {σ : AS} {h : AH} {nc ns : Nat} {lv : AL} {st : List AV} {outs : List AO}

theorem sn_icmp (hI : Snd sb mt dC dI dA sp H0 l ih) (hM : Mok mt M) (htl : ∀ x ∈ tl, x ∈ M.2.2.2.2.2.2) (hX : CX sb dC dI dA sp H0 ρ0 M p R s m args meth c) (hR : ∀ o ∈ outs, RO dC dI dA sp H0 l p e R s m args below meth c Q ρ0 ad0 M o) (hdg : decode M.2.1 pc = .ok (ins, len)) (hlen : len = ax_len ins) (hlk : lok mt M pc ins lk = true) (ho : ax_op ins = 18)
    (hr : lc lk (fun t lk => lc lk (fun k _ => lc st (fun b st => lc st (fun a r => ax_cnd k σ a b (fun σ' => ih M cut t (ax_jmp M.2.2.2.2.2.2 t) σ' h nc ns lv r) (fun σ' => ih M cut (pc + len) tl σ' h nc ns lv r))))) = some outs) : GG dC dI dA sp H0 l p e R s m args below meth c Q ρ0 ad0 M.2.2.1 pc σ h nc ns lv st := by
  obtain ⟨t, lk1, rfl, hr1⟩ := lc_s hr
  obtain ⟨k, lk2, rfl, hr2⟩ := lc_s hr1
  obtain ⟨b, st1, rfl, hr3⟩ := lc_s hr2
  obtain ⟨a, r, rfl, hr4⟩ := lc_s hr3
  obtain ⟨hx, hb, hml, hown, hts, hK, hlocks, hrt, hin, hRoom, hO⟩ := id hX
  intro ρ ad ws H locs ls LV ST q1 q2 q3 q4 q5 q6 q7 q8 q9 q10
  obtain ⟨B, ST1, rfl, hB, q11⟩ := q10.cons
  obtain ⟨A, ST2, rfl, hA, q12⟩ := q11.cons
  cases ins <;> first | (exact absurd ho (Nat.ne_of_beq_eq_false rfl)) | skip
  case if_icmp cc off =>
    subst hlen
    have w := bb_and (a := decide ((pc : Int) + off = (t : Int))) hlk
    have ht : (pc : Int) + off = (t : Int) := of_decide_eq_true w.1
    have hk : k = ax_cc cc := bb_eq w.2
    obtain ⟨x, y, rfl, rfl, kt, kf⟩ := ax_cnd_ok q3 hA hB (by rw [hk]; cases cc <;> decide) hr4
    have KT : ax_cp k x y → W p l e R s m args below meth c H locs nc ns Q (F0 m t ls ST2) := fun z => by
      obtain ⟨σ', o, e1, e2, e3⟩ := kt z
      exact (hI p e R s m args below meth c Q ρ0 ad0 M cut _ _ _ _ _ _ _ _ o hM (ax_jmp_in _ _) hX e1 (fun z hz => hR z (e3 z hz))) ρ ad ws H locs ls LV ST2 q1 q2 e2 q4 q5 q6 q7 q8 q9 q12
    have KF : ¬ ax_cp k x y → W p l e R s m args below meth c H locs nc ns Q (F0 m (pc + 3) ls ST2) := fun z => by
      obtain ⟨σ', o, e1, e2, e3⟩ := kf z
      exact (hI p e R s m args below meth c Q ρ0 ad0 M cut _ tl _ _ _ _ _ _ o hM htl hX e1 (fun z hz => hR z (e3 z hz))) ρ ad ws H locs ls LV ST2 q1 q2 e2 q4 q5 q6 q7 q8 q9 q12
    subst hk
    cases cc
    · exact lv_icmp_eq hx hb hdg ht KT KF
    · exact lv_icmp_ne hx hb hdg ht KT (fun q => KF (fun z => z q))
    · exact lv_icmp_lt hx hb hdg ht KT KF
    · exact lv_icmp_ge hx hb hdg ht KT KF
    · exact lv_icmp_gt hx hb hdg ht KT KF
    · exact lv_icmp_le hx hb hdg ht KT KF

theorem sn_ifc (hI : Snd sb mt dC dI dA sp H0 l ih) (hM : Mok mt M) (htl : ∀ x ∈ tl, x ∈ M.2.2.2.2.2.2) (hX : CX sb dC dI dA sp H0 ρ0 M p R s m args meth c) (hR : ∀ o ∈ outs, RO dC dI dA sp H0 l p e R s m args below meth c Q ρ0 ad0 M o) (hdg : decode M.2.1 pc = .ok (ins, len)) (hlen : len = ax_len ins) (hlk : lok mt M pc ins lk = true) (ho : ax_op ins = 19)
    (hr : lc lk (fun t lk => lc lk (fun k _ => lc st (fun a r => ax_cnd k σ a (0, 0) (fun σ' => ih M cut t (ax_jmp M.2.2.2.2.2.2 t) σ' h nc ns lv r) (fun σ' => ih M cut (pc + len) tl σ' h nc ns lv r)))) = some outs) : GG dC dI dA sp H0 l p e R s m args below meth c Q ρ0 ad0 M.2.2.1 pc σ h nc ns lv st := by
  obtain ⟨t, lk1, rfl, hr1⟩ := lc_s hr
  obtain ⟨k, lk2, rfl, hr2⟩ := lc_s hr1
  obtain ⟨a, r, rfl, hr4⟩ := lc_s hr2
  obtain ⟨hx, hb, hml, hown, hts, hK, hlocks, hrt, hin, hRoom, hO⟩ := id hX
  intro ρ ad ws H locs ls LV ST q1 q2 q3 q4 q5 q6 q7 q8 q9 q10
  obtain ⟨A, ST2, rfl, hA, q12⟩ := q10.cons
  cases ins <;> first | (exact absurd ho (Nat.ne_of_beq_eq_false rfl)) | skip
  case ifCond cc off =>
    subst hlen
    have w := bb_and (a := decide ((pc : Int) + off = (t : Int))) hlk
    have ht : (pc : Int) + off = (t : Int) := of_decide_eq_true w.1
    have hk : k = ax_cc cc := bb_eq w.2
    obtain ⟨x, y, rfl, hy, kt, kf⟩ := ax_cnd_ok q3 hA (B := .int (nI 0)) (b := (0, 0)) rfl (by rw [hk]; cases cc <;> decide) hr4
    have hy : nI 0 = y := by cases hy; rfl
    rw [nI_0] at hy
    subst hy
    have KT : ax_cp k x 0 → W p l e R s m args below meth c H locs nc ns Q (F0 m t ls ST2) := fun z => by
      obtain ⟨σ', o, e1, e2, e3⟩ := kt z
      exact (hI p e R s m args below meth c Q ρ0 ad0 M cut _ _ _ _ _ _ _ _ o hM (ax_jmp_in _ _) hX e1 (fun z hz => hR z (e3 z hz))) ρ ad ws H locs ls LV ST2 q1 q2 e2 q4 q5 q6 q7 q8 q9 q12
    have KF : ¬ ax_cp k x 0 → W p l e R s m args below meth c H locs nc ns Q (F0 m (pc + 3) ls ST2) := fun z => by
      obtain ⟨σ', o, e1, e2, e3⟩ := kf z
      exact (hI p e R s m args below meth c Q ρ0 ad0 M cut _ tl _ _ _ _ _ _ o hM htl hX e1 (fun z hz => hR z (e3 z hz))) ρ ad ws H locs ls LV ST2 q1 q2 e2 q4 q5 q6 q7 q8 q9 q12
    subst hk
    cases cc
    · exact lv_if_eq hx hb hdg ht KT KF
    · exact lv_if_ne hx hb hdg ht KT (fun q => KF (fun z => z q))
    · exact lv_if_lt hx hb hdg ht KT KF
    · exact lv_if_ge hx hb hdg ht KT KF
    · exact lv_if_gt hx hb hdg ht KT KF
    · exact lv_if_le hx hb hdg ht KT KF

theorem sn_goto (hI : Snd sb mt dC dI dA sp H0 l ih) (hM : Mok mt M) (htl : ∀ x ∈ tl, x ∈ M.2.2.2.2.2.2) (hX : CX sb dC dI dA sp H0 ρ0 M p R s m args meth c) (hR : ∀ o ∈ outs, RO dC dI dA sp H0 l p e R s m args below meth c Q ρ0 ad0 M o) (hdg : decode M.2.1 pc = .ok (ins, len)) (hlen : len = ax_len ins) (hlk : lok mt M pc ins lk = true) (ho : ax_op ins = 20)
    (hr : lc lk (fun t _ => ih M cut t (ax_jmp M.2.2.2.2.2.2 t) σ h nc ns lv st) = some outs) : GG dC dI dA sp H0 l p e R s m args below meth c Q ρ0 ad0 M.2.2.1 pc σ h nc ns lv st := by
  obtain ⟨t, lk1, rfl, hr1⟩ := lc_s hr
  obtain ⟨hx, hb, hml, hown, hts, hK, hlocks, hrt, hin, hRoom, hO⟩ := id hX
  intro ρ ad ws H locs ls LV ST q1 q2 q3 q4 q5 q6 q7 q8 q9 q10
  cases ins <;> first | (exact absurd ho (Nat.ne_of_beq_eq_false rfl)) | skip
  case goto off =>
    subst hlen
    have ht : (pc : Int) + off = (t : Int) := of_decide_eq_true hlk
    exact lv_goto hx hb hdg ht ((hI p e R s m args below meth c Q ρ0 ad0 M cut _ _ _ _ _ _ _ _ outs hM (ax_jmp_in _ _) hX hr1 hR) ρ ad ws H locs ls LV ST q1 q2 q3 q4 q5 q6 q7 q8 q9 q10)

theorem lcmp_z (x y : Int64) : lg_cmp x y = if zL x < zL y then nI 4294967295 else if zL y < zL x then nI 1 else nI 0 := by
  have h1 := zL_cast x
  have h2 := zL_cast y
  have e1 : nI 4294967295 = -1 := by decide +kernel
  have e2 : nI 1 = 1 := by decide +kernel
  have e3 : nI 0 = 0 := by decide +kernel
  unfold lg_cmp
  rw [e1, e2, e3]
  by_cases c1 : zL x < zL y
  · rw [if_pos c1]
    have h4 : ¬ y < x := by rw [Int64.lt_iff_toInt_lt]; omega
    have h5 : ¬ x = y := fun q => by rw [q] at c1; omega
    simp [h4, h5]
  · rw [if_neg c1]
    by_cases c2 : zL y < zL x
    · rw [if_pos c2]
      have h3 : y < x := by rw [Int64.lt_iff_toInt_lt]; omega
      have h4 : ¬ x < y := by rw [Int64.lt_iff_toInt_lt]; omega
      have h5 : ¬ x = y := fun q => by rw [q] at c2; omega
      simp [h3, h4, h5]
    · rw [if_neg c2]
      have h5 : x = y := Int64.toInt_inj.mp (by omega)
      subst h5
      simp

theorem sn_lcmp (hI : Snd sb mt dC dI dA sp H0 l ih) (hM : Mok mt M) (htl : ∀ x ∈ tl, x ∈ M.2.2.2.2.2.2) (hX : CX sb dC dI dA sp H0 ρ0 M p R s m args meth c) (hR : ∀ o ∈ outs, RO dC dI dA sp H0 l p e R s m args below meth c Q ρ0 ad0 M o) (hdg : decode M.2.1 pc = .ok (ins, len)) (hlen : len = ax_len ins) (hlk : lok mt M pc ins lk = true) (hcd : ∀ x ∈ cd, x ∈ M.2.2.2.2.2.2) (ho : ax_op ins = 43)
    (hr : lc st (fun b st' => lc st' (fun a r => ob (ax_rL σ a) (fun ra => ob (ax_rL σ b) (fun rb => ax_lcm ra rb (fun n => ih M cut (pc + len) tl σ h nc ns lv ((0, n) :: r)) (ax_spc σ a ra rb (fun σ' => ih M cut pc cd σ' h nc ns lv st)))))) = some outs) : GG dC dI dA sp H0 l p e R s m args below meth c Q ρ0 ad0 M.2.2.1 pc σ h nc ns lv st := by
  obtain ⟨b, st1, e1, hr1⟩ := lc_s hr
  obtain ⟨a, r, e2, hr2⟩ := lc_s hr1
  obtain ⟨ra, ea, hr3⟩ := ob_s hr2
  obtain ⟨rb, eb, hr4⟩ := ob_s hr3
  obtain ⟨hx, hb, hml, hown, hts, hK, hlocks, hrt, hin, hRoom, hO⟩ := id hX
  intro ρ ad ws H locs ls LV ST q1 q2 q3 q4 q5 q6 q7 q8 q9 q10
  have q10' := q10
  rw [e1, e2] at q10'
  obtain ⟨B, ST1, hST1, hB, q11⟩ := q10'.cons
  obtain ⟨A, ST2, hST2, hA, q12⟩ := q11.cons
  obtain ⟨x, rfl, x1, x2, x3⟩ := ax_rL_ok q3 hA ea
  obtain ⟨y, rfl, y1, y2, y3⟩ := ax_rL_ok q3 hB eb
  have hins : ins = .lcmp := by cases ins <;> first | (exact absurd ho (Nat.ne_of_beq_eq_false rfl)) | rfl
  subst hins
  have hlen : len = 1 := hlen
  subst hlen
  have KD : ∀ n, lg_cmp x y = nI n → ih M cut (pc + 1) tl σ h nc ns lv ((0, n) :: r) = some outs → W p l e R s m args below meth c H locs nc ns Q (F0 m pc ls ST) := fun n hn hq => by
    rw [hST1, hST2]
    refine W.lcmp hx hb hdg ?_
    exact (hI p e R s m args below meth c Q ρ0 ad0 M cut _ tl _ _ _ _ _ _ outs hM htl hX hq hR) ρ ad ws H locs ls LV (.int (lg_cmp x y) :: ST2) q1 q2 q3 q4 q5 q6 q7 q8 q9 ⟨by rw [hn]; rfl, q12⟩
  have KS : ∀ (σ' : AS) (o : List AO), ih M cut pc cd σ' h nc ns lv st = some o → St ρ σ' → (∀ z ∈ o, z ∈ outs) → W p l e R s m args below meth c H locs nc ns Q (F0 m pc ls ST) := fun σ' o hq hs hz =>
    (hI p e R s m args below meth c Q ρ0 ad0 M cut _ cd _ _ _ _ _ _ o hM hcd hX hq (fun z h => hR z (hz z h))) ρ ad ws H locs ls LV ST q1 q2 hs q4 q5 q6 q7 q8 q9 q10
  have hz := lcmp_z x y
  unfold ax_lcm at hr4
  cases c1 : Nat.blt ra.2 rb.1 with
  | true =>
    rw [c1] at hr4
    have := bb_lt c1
    exact KD _ (by rw [hz, if_pos (by omega)]) hr4
  | false =>
    rw [c1] at hr4
    cases c2 : Nat.blt rb.2 ra.1 with
    | true =>
      rw [c2] at hr4
      have := bb_lt c2
      exact KD _ (by rw [hz, if_neg (by omega), if_pos (by omega)]) hr4
    | false =>
      rw [c2] at hr4
      cases c3 : (Nat.beq ra.1 ra.2 && (Nat.beq rb.1 rb.2 && Nat.beq ra.1 rb.1)) with
      | true =>
        rw [c3] at hr4
        have w := bb_and c3
        have w2 := bb_and w.2
        have := bb_eq w.1
        have := bb_eq w2.1
        have := bb_eq w2.2
        exact KD _ (by rw [hz, if_neg (by omega), if_neg (by omega)]) hr4
      | false =>
        rw [c3] at hr4
        have hr5 : ax_spc σ a ra rb (fun σ' => ih M cut pc cd σ' h nc ns lv st) = some outs := hr4
        unfold ax_spc at hr5
        obtain ⟨g1, hr6⟩ := gd_s hr5
        obtain ⟨o1, o2, u1, u2, rfl⟩ := ax_two_s hr6
        obtain ⟨o3, o4, u3, u4, rfl⟩ := ax_two_s u2
        have w := bb_and g1
        have w1 := x3 (bb_eq w.1)
        have w2 := bb_eq w.2
        by_cases d1 : zL x < rb.1
        · rw [show Nat.blt ra.1 rb.1 = true from Nat.ble_eq_true_of_le (by omega)] at u1
          have u1 : ax_set σ a.2 (ra.1, min ra.2 (rb.1 - 1)) (fun σ' => ih M cut pc cd σ' h nc ns lv st) = some o1 := u1
          rw [ax_set_eq] at u1
          exact KS _ o1 u1 (q3.cut (fun z hz => by rw [w1] at hz; cases hz; exact ⟨by omega, by omega⟩)) (fun z hz => List.mem_append_left _ hz)
        · by_cases d2 : zL x = rb.1
          · rw [show (Nat.ble ra.1 rb.1 && Nat.ble rb.1 ra.2) = true by rw [Bool.and_eq_true]; exact ⟨Nat.ble_eq_true_of_le (by omega), Nat.ble_eq_true_of_le (by omega)⟩] at u3
            have u3 : ax_set σ a.2 (rb.1, rb.1) (fun σ' => ih M cut pc cd σ' h nc ns lv st) = some o3 := u3
            rw [ax_set_eq] at u3
            exact KS _ o3 u3 (q3.cut (fun z hz => by rw [w1] at hz; cases hz; exact ⟨by omega, by omega⟩)) (fun z hz => List.mem_append_right _ (List.mem_append_left _ hz))
          · rw [show Nat.blt rb.1 ra.2 = true from Nat.ble_eq_true_of_le (by omega)] at u4
            have u4 : ax_set σ a.2 (max ra.1 (rb.1 + 1), ra.2) (fun σ' => ih M cut pc cd σ' h nc ns lv st) = some o4 := u4
            rw [ax_set_eq] at u4
            exact KS _ o4 u4 (q3.cut (fun z hz => by rw [w1] at hz; cases hz; exact ⟨by omega, by omega⟩)) (fun z hz => List.mem_append_right _ (List.mem_append_right _ hz))

theorem sn_ret (hI : Snd sb mt dC dI dA sp H0 l ih) (hM : Mok mt M) (htl : ∀ x ∈ tl, x ∈ M.2.2.2.2.2.2) (hX : CX sb dC dI dA sp H0 ρ0 M p R s m args meth c) (hR : ∀ o ∈ outs, RO dC dI dA sp H0 l p e R s m args below meth c Q ρ0 ad0 M o) (hdg : decode M.2.1 pc = .ok (ins, len)) (hlen : len = ax_len ins) (hlk : lok mt M pc ins lk = true) {op : Nat} (ho : ax_op ins = op) (ho2 : 22 ≤ op) (ho3 : op ≤ 25)
    (hr : gd (ax_rok M.2.2.2.1 op st && (Nat.ble nc M.2.2.2.2.1.cells && Nat.ble ns M.2.2.2.2.1.slots)) (some [(σ, h, nc, ns, pc, op, lv, st)]) = some outs) : GG dC dI dA sp H0 l p e R s m args below meth c Q ρ0 ad0 M.2.2.1 pc σ h nc ns lv st := by
  obtain ⟨g1, hr1⟩ := gd_s hr
  cases hr1
  have hl1 : len = 1 := by
    rw [hlen]
    cases ins <;> first | rfl | (exfalso; have h9 : ax_op _ = op := ho; simp only [ax_op] at h9; omega)
  have g2 := bb_and g1
  have g3 := bb_and g2.2
  exact hR _ List.mem_cons_self (Or.inr ⟨ins, ho, by rw [hdg, hl1], g2.1, bb_le g3.1, bb_le g3.2⟩)

end OPS
end
section
/-! the classes of the worlds: their words, types, names -/
theorem uw_of {C : String} {T : u_T} {N : Nat} (ps : List (Nat × Nat)) (h : (List.range N).all (fun k => match ps[k]? with | some q => wdq q.1 q.2 (u_lay C T k) | none => false) = true) : ∀ w ∈ u_ws C T N, w ∈ GW := by
  intro w hw
  obtain ⟨k, hk, rfl⟩ := List.mem_map.mp hw
  have h1 := List.all_eq_true.mp h k hk
  cases hp : ps[k]? with
  | none => rw [hp] at h1; cases h1
  | some q => rw [hp] at h1; exact wdq_in h1
theorem uwX0 : ∀ w ∈ u_ws RX0 TX0 2, w ∈ GW := uw_of [(0, 184), (0, 186)] (by decide +kernel)
theorem uwX1 : ∀ w ∈ u_ws RX1 TX1 15, w ∈ GW := uw_of [(1, 6), (1, 8), (1, 10), (1, 12), (1, 14), (1, 16), (1, 18), (1, 20), (1, 22), (1, 24), (1, 26), (1, 28), (1, 30), (1, 32), (1, 34)] (by decide +kernel)
theorem uwX2 : ∀ w ∈ u_ws RX2 TX2 2, w ∈ GW := uw_of [(1, 88), (1, 90)] (by decide +kernel)
theorem uwX3 : ∀ w ∈ u_ws RX3 TX3 9, w ∈ GW := uw_of [(1, 170), (1, 172), (1, 174), (1, 176), (1, 178), (1, 180), (1, 182), (1, 184), (1, 186)] (by decide +kernel)
theorem uwX4 : ∀ w ∈ u_ws RX4 TX4 3, w ∈ GW := uw_of [(1, 141), (1, 143), (1, 145)] (by decide +kernel)
theorem uwX5 : ∀ w ∈ u_ws RX5 TX5 6, w ∈ GW := uw_of [(0, 161), (0, 163), (0, 165), (0, 167), (0, 169), (0, 171)] (by decide +kernel)
theorem uwX6 : ∀ w ∈ u_ws RX6 TX6 2, w ∈ GW := uw_of [(1, 125), (1, 127)] (by decide +kernel)
theorem uwX7 : ∀ w ∈ u_ws RX7 TX7 8, w ∈ GW := uw_of [(1, 63), (1, 65), (1, 67), (1, 69), (1, 71), (1, 73), (1, 75), (1, 77)] (by decide +kernel)
theorem uwX8 : ∀ w ∈ u_ws RX8 TX8 5, w ∈ GW := uw_of [(1, 104), (1, 106), (1, 108), (1, 110), (1, 112)] (by decide +kernel)
theorem uwX9 : ∀ w ∈ u_ws RX9 TX9 12, w ∈ GW := uw_of [(0, 107), (0, 109), (0, 111), (0, 113), (0, 115), (0, 117), (0, 119), (0, 121), (0, 123), (0, 125), (0, 127), (0, 129)] (by decide +kernel)
theorem uwX10 : ∀ w ∈ u_ws RX10 TX10 4, w ∈ GW := uw_of [(1, 203), (1, 205), (1, 207), (1, 209)] (by decide +kernel)
theorem uwX11 : ∀ w ∈ u_ws RX11 TX11 18, w ∈ GW := uw_of [(1, 230), (1, 232), (1, 234), (1, 236), (1, 238), (2, 0), (2, 2), (2, 4), (2, 6), (2, 8), (2, 10), (2, 12), (2, 14), (2, 16), (2, 18), (2, 20), (2, 22), (2, 24)] (by decide +kernel)
theorem uwX12 : ∀ w ∈ u_ws RX12 TX12 34, w ∈ GW := uw_of [(6, 45), (6, 47), (6, 49), (6, 51), (6, 53), (6, 55), (6, 57), (6, 59), (6, 61), (6, 63), (6, 65), (6, 67), (6, 69), (6, 71), (6, 73), (6, 75), (6, 77), (6, 79), (6, 81), (6, 83), (6, 85), (6, 87), (6, 89), (6, 91), (6, 93), (6, 95), (6, 97), (6, 99), (6, 101), (6, 103), (6, 105), (6, 107), (6, 109), (6, 111)] (by decide +kernel)
def VwOk : Prop := ∀ (ci : Nat) (q : vw_C), vwCl[ci]? = some q → (∀ w ∈ u_ws q.1 q.2.1 q.2.2, w ∈ GW) ∧ (∃ ty0 : Nat → FieldType, ∀ k, k < q.2.2 → parseFieldDescriptor (q.2.1 k).2.2.1 = some (ty0 k)) ∧ (∀ a, a < q.2.2 → ∀ b, b < q.2.2 → a ≠ b → (q.2.1 a).2.1 ≠ (q.2.1 b).2.1) ∧ ci < 13
theorem vw_ok : VwOk := by
  intro ci q hq
  match ci, hq with
  | 0, hq => cases hq; exact ⟨uwX0, ⟨tyX0, tyX0_ok⟩, nmX0, by decide⟩
  | 1, hq => cases hq; exact ⟨uwX1, ⟨tyX1, tyX1_ok⟩, nmX1, by decide⟩
  | 2, hq => cases hq; exact ⟨uwX2, ⟨tyX2, tyX2_ok⟩, nmX2, by decide⟩
  | 3, hq => cases hq; exact ⟨uwX3, ⟨tyX3, tyX3_ok⟩, nmX3, by decide⟩
  | 4, hq => cases hq; exact ⟨uwX4, ⟨tyX4, tyX4_ok⟩, nmX4, by decide⟩
  | 5, hq => cases hq; exact ⟨uwX5, ⟨tyX5, tyX5_ok⟩, nmX5, by decide⟩
  | 6, hq => cases hq; exact ⟨uwX6, ⟨tyX6, tyX6_ok⟩, nmX6, by decide⟩
  | 7, hq => cases hq; exact ⟨uwX7, ⟨tyX7, tyX7_ok⟩, nmX7, by decide⟩
  | 8, hq => cases hq; exact ⟨uwX8, ⟨tyX8, tyX8_ok⟩, nmX8, by decide⟩
  | 9, hq => cases hq; exact ⟨uwX9, ⟨tyX9, tyX9_ok⟩, nmX9, by decide⟩
  | 10, hq => cases hq; exact ⟨uwX10, ⟨tyX10, tyX10_ok⟩, nmX10, by decide⟩
  | 11, hq => cases hq; exact ⟨uwX11, ⟨tyX11, tyX11_ok⟩, nmX11, by decide⟩
  | 12, hq => cases hq; exact ⟨uwX12, ⟨tyX12, tyX12_ok⟩, nmX12, by decide⟩
  | n + 13, hq => simp [vwCl] at hq
end
section
/-! THE ABSTRACT MACHINE, 11: fields and arrays -/

theorem Er.obj {sp : Nat → Nat} {dA : Nat → ClassId} {ρ ad : List Nat} {c : AC} {E : va_E} (h : Er sp dA ρ ad c E) (hk : c.1 < 100) : ∃ VS : List Value, E = .inr (c.1, VS) ∧ VS.length = c.2.1 ∧ ∀ (j : Nat) (v : AV), ax_el c.2.2 j = some v → ∃ V, VS[j]? = some V ∧ Rp sp ρ ad v V := by
  rcases h with ⟨-, h⟩ | ⟨a, -⟩ | ⟨a, -⟩ | ⟨a, -⟩
  · exact h
  · omega
  · omega
  · omega
theorem Er.ints {sp : Nat → Nat} {dA : Nat → ClassId} {ρ ad : List Nat} {c : AC} {E : va_E} (h : Er sp dA ρ ad c E) (hk : c.1 = 100 ∨ c.1 = 102) : ∃ f : Nat → Int32, E = .inl (dA c.1, c.2.1, .inl f) ∧ ∀ (j : Nat) (v : AV), ax_el c.2.2 j = some v → j < c.2.1 ∧ Rp sp ρ ad v (.int (f j)) := by
  rcases h with ⟨a, -⟩ | ⟨-, h⟩ | ⟨a, -⟩ | ⟨a, -⟩
  · omega
  · exact h
  · omega
  · omega
theorem Er.longs {sp : Nat → Nat} {dA : Nat → ClassId} {ρ ad : List Nat} {c : AC} {E : va_E} (h : Er sp dA ρ ad c E) (hk : c.1 = 101) : ∃ f : Nat → Int64, E = .inl (dA c.1, c.2.1, .inr (.inl f)) ∧ ∀ (j : Nat) (v : AV), ax_el c.2.2 j = some v → j < c.2.1 ∧ Rp sp ρ ad v (.long (f j)) := by
  rcases h with ⟨a, -⟩ | ⟨a, -⟩ | ⟨-, h⟩ | ⟨a, -⟩
  · omega
  · omega
  · exact h
  · omega
theorem Er.refs {sp : Nat → Nat} {dA : Nat → ClassId} {ρ ad : List Nat} {c : AC} {E : va_E} (h : Er sp dA ρ ad c E) (hk : 103 ≤ c.1 ∧ c.1 ≤ 105) : ∃ f : Nat → Option Nat, E = .inl (dA c.1, c.2.1, .inr (.inr (.inr (.inr f)))) ∧ ∀ (j : Nat) (v : AV), ax_el c.2.2 j = some v → j < c.2.1 ∧ Rp sp ρ ad v (va_rf (f j)) := by
  rcases h with ⟨a, -⟩ | ⟨a, -⟩ | ⟨a, -⟩ | ⟨-, h⟩
  · omega
  · omega
  · omega
  · exact h
theorem bb_nb {a b : Nat} (h : a ≠ b) : Nat.beq a b = false := by
  cases hq : Nat.beq a b with
  | false => rfl
  | true => exact absurd (bb_eq hq) h
theorem tg {v : AV} {t : Nat} (h : Nat.beq v.1 t = true) : v = (t, v.2) := by
  obtain ⟨a, b⟩ := v
  have : a = t := bb_eq h
  subst this
  rfl
theorem vp_n {n N : Nat} (h : n < N) (h2 : n < 2147483648) : vp_in (nI n) N := fun q => q.elim (nI_pos (by omega)) (fun q => by rw [nI_clamp (by omega)] at q; omega)
theorem ty_fit {d : String} {v : AV} (h : ax_fit (ax_ty d) v = true) {sp : Nat → Nat} {ρ ad : List Nat} {V : Value} (hV : Rp sp ρ ad v V) : ∃ ty, parseFieldDescriptor d = some ty ∧ narrow ty V = V ∧ fits ty V = true := by
  unfold ax_ty at h
  cases hp : parseFieldDescriptor d with
  | none => rw [hp] at h; cases h
  | some ty =>
    rw [hp] at h
    refine ⟨ty, rfl, ?_⟩
    cases ty <;> first | (cases h; done) | skip
    case int => obtain ⟨x, rfl⟩ := hV.tI h; exact ⟨rfl, rfl⟩
    case long => obtain ⟨x, rfl⟩ := hV.tL h; exact ⟨rfl, rfl⟩
    case boolean =>
      have w := bb_and (a := Nat.beq v.1 0) h
      rw [tg w.1] at hV
      have w2 := bb_le w.2
      have hV : V = .int (nI v.2) := hV
      subst hV
      rcases (show v.2 = 0 ∨ v.2 = 1 by omega) with e | e <;> rw [e] <;> exact ⟨by decide +kernel, by decide +kernel⟩
    case object n => rw [tg (v := v) (t := 2) h] at hV; obtain ⟨a, -, rfl⟩ := hV; exact ⟨rfl, rfl⟩
    case array t => rw [tg (v := v) (t := 2) h] at hV; obtain ⟨a, -, rfl⟩ := hV; exact ⟨rfl, rfl⟩

section OPS
variable {sb : Nat → List Nat} {mt : Nat → Nat → Option MR} {dC : Nat → ClassId} {dI : Nat → Nat → Nat} {dA : Nat → ClassId} {sp : Nat → Nat} {H0 : Heap} {l : Launch}
variable {ih : GO} {p : Program} {e : Env} {R : Room} {s : State} {m : MethodId} {args : Array Value} {below : List Frame} {meth : Method} {c : Code} {Q : State → Prop} {ρ0 ad0 : List Nat} {M : MR} {cut pc len : Nat} {ins : Instr} {lk : List Nat} {cd tl : List ME} {σ : AS} {h : AH} {nc ns : Nat} {lv : AL} {st : List AV} {outs : List AO}

theorem sn_getf (hI : Snd sb mt dC dI dA sp H0 l ih) (hM : Mok mt M) (htl : ∀ x ∈ tl, x ∈ M.2.2.2.2.2.2) (hX : CX sb dC dI dA sp H0 ρ0 M p R s m args meth c) (hR : ∀ o ∈ outs, RO dC dI dA sp H0 l p e R s m args below meth c Q ρ0 ad0 M o) (hdg : decode M.2.1 pc = .ok (ins, len)) (hlen : len = ax_len ins) (hlk : lok mt M pc ins lk = true) (ho : ax_op ins = 8)
    (hr : ax_getf lk h st (fun s' => ih M cut (pc + len) tl σ h nc ns lv s') = some outs) : GG dC dI dA sp H0 l p e R s m args below meth c Q ρ0 ad0 M.2.2.1 pc σ h nc ns lv st := by
  unfold ax_getf at hr
  obtain ⟨ci, lk1, rfl, hr1⟩ := lc_s hr
  obtain ⟨k, lk2, rfl, hr2⟩ := lc_s hr1
  obtain ⟨a, r, rfl, hr3⟩ := lc_s hr2
  obtain ⟨hx, hb, hml, hown, hts, hK, hlocks, hrt, hin, hRoom, hO⟩ := id hX
  intro ρ ad ws H locs ls LV ST q1 q2 q3 q4 q5 q6 q7 q8 q9 q10
  obtain ⟨A, ST2, rfl, hA, q12⟩ := q10.cons
  cases ins <;> first | (exact absurd ho (Nat.ne_of_beq_eq_false rfl)) | skip
  case getfield idx =>
    subst hlen
    cases lk2 with
    | nil => cases hlk
    | cons c1 lk3 =>
    cases lk3 with
    | nil => cases hlk
    | cons j1 lk4 =>
    have hl : (bif Nat.beq ci 200 then (bif Nat.beq k 0 then wdq c1 j1 (.fieldLink M.1.cls idx sSTR "value" "[B") else wdq c1 j1 (.fieldLink M.1.cls idx sSTR "coder" "B")) else (match vwCl[ci]? with
        | some q => Nat.blt k q.2.2 && wdq c1 j1 (.fieldLink M.1.cls idx (q.2.1 k).1 (q.2.1 k).2.1 (q.2.1 k).2.2.1)
        | none => false)) = true := hlk
    cases hb2 : Nat.beq a.1 2 with
    | true =>
      rw [hb2] at hr3
      obtain ⟨cl, ec, hr4⟩ := ob_s (o := ax_hn h a.2) hr3
      obtain ⟨g1, hr5⟩ := gd_s hr4
      obtain ⟨v, ev, hr6⟩ := ob_s hr5
      have w := bb_and g1
      have w1 := bb_eq w.1
      have w2 := bb_lt w.2
      rw [tg hb2] at hA
      obtain ⟨a0, E, hw, rfl, hE⟩ := q4.get ec hA
      obtain ⟨VS, rfl, hVl, hVS⟩ := hE.obj (by omega)
      obtain ⟨V, hV, hRV⟩ := hVS k v ev
      rw [show Nat.beq ci 200 = false from bb_nb (by omega)] at hl
      cases hq : vwCl[ci]? with
      | none => rw [show (bif false then (bif Nat.beq k 0 then wdq c1 j1 (.fieldLink M.1.cls idx sSTR "value" "[B") else wdq c1 j1 (.fieldLink M.1.cls idx sSTR "coder" "B")) else (match vwCl[ci]? with | some q => Nat.blt k q.2.2 && wdq c1 j1 (.fieldLink M.1.cls idx (q.2.1 k).1 (q.2.1 k).2.1 (q.2.1 k).2.2.1) | none => false)) = (match vwCl[ci]? with | some q => Nat.blt k q.2.2 && wdq c1 j1 (.fieldLink M.1.cls idx (q.2.1 k).1 (q.2.1 k).2.1 (q.2.1 k).2.2.1) | none => false) from rfl, hq] at hl; cases hl
      | some q =>
        have hl2 : (match vwCl[ci]? with | some q => Nat.blt k q.2.2 && wdq c1 j1 (.fieldLink M.1.cls idx (q.2.1 k).1 (q.2.1 k).2.1 (q.2.1 k).2.2.1) | none => false) = true := hl
        rw [hq] at hl2
        have u := bb_and (a := Nat.blt k q.2.2) hl2
        have hvw := vw_ok ci q hq
        exact va_get (D := (dC, dI)) (ci := ci) (v := V) (C := q.1) (T := q.2.1) (N := q.2.2) hx hb hts hvw.1 hown hK q5 a.2 (by rw [← w1]; exact hw) hq k (bb_lt u.1) (hts _ (wdq_in u.2)) (fun _ h9 => h9) hV hdg ((hI p e R s m args below meth c Q ρ0 ad0 M cut _ tl _ _ _ _ _ _ outs hM htl hX hr6 hR) ρ ad ws H locs ls LV (V :: ST2) q1 q2 q3 q4 q5 q6 q7 q8 q9 ⟨hRV, q12⟩)
    | false =>
      rw [hb2] at hr3
      obtain ⟨g1, hr4⟩ := gd_s (b := Nat.beq a.1 6 && (Nat.beq ci 200 && (Nat.beq a.2 1 || Nat.beq a.2 3))) hr3
      have w := bb_and g1
      have w1 := bb_and w.2
      rw [w1.1] at hl
      rw [tg w.1] at hA
      have hA : A = .ref (sp a.2) := hA
      subst hA
      have hso : SO sp sb H0 a.2 s := by
        rcases (Bool.or_eq_true _ _).mp w1.2 with z | z
        · rw [bb_eq z]; exact hO.2.1
        · rw [bb_eq z]; exact hO.2.2.1
      have hkp : ∀ a : Nat, a < H0.size → ¬ (aA H0) a → H[a]? = H0[a]? := fun a h1 h2 => q7.2.1 a h1 h2
      cases hk : Nat.beq k 0 with
      | true =>
        rw [hk] at hr4 hl
        obtain ⟨cf, k9, fi, f, cell, z1, z2, z3, z4, z5, z6⟩ := hso.2.2.1.kept hkp
        exact W.getf hx hb hown (hts _ (wdq_in hl)) z1 z2 z3 z4 (v := .ref (sp (a.2 + 1))) z5 rfl rfl hdg ((hI p e R s m args below meth c Q ρ0 ad0 M cut _ tl _ _ _ _ _ _ outs hM htl hX hr4 hR) ρ ad ws H locs ls LV (.ref (sp (a.2 + 1)) :: ST2) q1 q2 q3 q4 q5 q6 q7 q8 q9 ⟨rfl, q12⟩)
      | false =>
        rw [hk] at hr4 hl
        obtain ⟨cf, k9, fi, f, cell, z1, z2, z3, z4, z5, z6⟩ := hso.2.1.kept hkp
        exact W.getf hx hb hown (hts _ (wdq_in hl)) z1 z2 z3 z4 (v := .int 0) z5 rfl rfl hdg ((hI p e R s m args below meth c Q ρ0 ad0 M cut _ tl _ _ _ _ _ _ outs hM htl hX hr4 hR) ρ ad ws H locs ls LV (.int 0 :: ST2) q1 q2 q3 q4 q5 q6 q7 q8 q9 ⟨by show Value.int 0 = Value.int (nI 0); rw [nI_0], q12⟩)

theorem sn_putf (hI : Snd sb mt dC dI dA sp H0 l ih) (hM : Mok mt M) (htl : ∀ x ∈ tl, x ∈ M.2.2.2.2.2.2) (hX : CX sb dC dI dA sp H0 ρ0 M p R s m args meth c) (hR : ∀ o ∈ outs, RO dC dI dA sp H0 l p e R s m args below meth c Q ρ0 ad0 M o) (hdg : decode M.2.1 pc = .ok (ins, len)) (hlen : len = ax_len ins) (hlk : lok mt M pc ins lk = true) (ho : ax_op ins = 9)
    (hr : ax_putf lk h st (fun h' r => ih M cut (pc + len) tl σ h' nc ns lv r) = some outs) : GG dC dI dA sp H0 l p e R s m args below meth c Q ρ0 ad0 M.2.2.1 pc σ h nc ns lv st := by
  unfold ax_putf at hr
  obtain ⟨ci, lk1, rfl, hr1⟩ := lc_s hr
  obtain ⟨k, lk2, rfl, hr2⟩ := lc_s hr1
  obtain ⟨tc, lk3, rfl, hr3⟩ := lc_s hr2
  obtain ⟨v, st1, rfl, hr4⟩ := lc_s hr3
  obtain ⟨a, r, rfl, hr5⟩ := lc_s hr4
  obtain ⟨g1, hr6⟩ := gd_s hr5
  obtain ⟨cl, ec, hr7⟩ := ob_s hr6
  obtain ⟨g2, hr8⟩ := gd_s hr7
  rw [ax_st_eq] at hr8
  obtain ⟨h', hr9, hh1, hh2⟩ := ax_hs_ok hr8
  obtain ⟨hx, hb, hml, hown, hts, hK, hlocks, hrt, hin, hRoom, hO⟩ := id hX
  intro ρ ad ws H locs ls LV ST q1 q2 q3 q4 q5 q6 q7 q8 q9 q10
  obtain ⟨V, ST1, rfl, hV, q11⟩ := q10.cons
  obtain ⟨A, ST2, rfl, hA, q12⟩ := q11.cons
  have w := bb_and g1
  have u := bb_and g2
  have u1 := bb_eq u.1
  have u2 := bb_and u.2
  have u3 := bb_lt u2.1
  have u4 := bb_lt u2.2
  rw [tg w.1] at hA
  obtain ⟨a0, E, hw, rfl, hE⟩ := q4.get ec hA
  obtain ⟨VS, rfl, hVl, hVS⟩ := hE.obj (by omega)
  cases ins <;> first | (exact absurd ho (Nat.ne_of_beq_eq_false rfl)) | skip
  case putfield idx =>
    subst hlen
    cases lk3 with
    | nil => cases hlk
    | cons c1 lk4 =>
    cases lk4 with
    | nil => cases hlk
    | cons j1 lk5 =>
    have hl : (match vwCl[ci]? with
        | some q => Nat.blt k q.2.2 && (wdq c1 j1 (.fieldLink M.1.cls idx (q.2.1 k).1 (q.2.1 k).2.1 (q.2.1 k).2.2.1) && (Nat.beq (ax_ty (q.2.1 k).2.2.1) tc && (!(q.2.1 k).2.2.2 || (decide (M.1.name = "<init>") && decide ((q.2.1 k).1 = M.1.cls)))))
        | none => false) = true := hlk
    cases hq : vwCl[ci]? with
    | none => rw [hq] at hl; cases hl
    | some q =>
      rw [hq] at hl
      have e1 := bb_and (a := Nat.blt k q.2.2) hl
      have e2 := bb_and e1.2
      have e3 := bb_and e2.2
      have e4 := bb_eq e3.1
      obtain ⟨hvw, ⟨ty0, hty⟩, hnm, -⟩ := vw_ok ci q hq
      obtain ⟨ty, t1, t2, t3⟩ := ty_fit (d := (q.2.1 k).2.2.1) (by rw [e4]; exact w.2) hV
      have hE' : Er sp dA ρ ad (cl.1, cl.2.1, ax_stv cl.2.2 k v) (.inr (ci, VS.set k V)) := Or.inl ⟨by show cl.1 < 100; omega, VS.set k V, by rw [u1], by show (VS.set k V).length = cl.2.1; simp [hVl], fun j y hy => by
        rcases ax_el_stv hy with ⟨rfl, rfl⟩ | ⟨hj, hy⟩
        · exact ⟨V, by rw [List.getElem?_set_self (by omega)], hV⟩
        · obtain ⟨Y, y1, y2⟩ := hVS j y hy
          exact ⟨Y, by rw [List.getElem?_set_ne (fun z => hj z.symm)]; exact y1, y2⟩⟩
      have hw' : ws[a.2]? = some (a0, .inr (ci, VS)) := by rw [← u1]; exact hw
      have KK : ∀ (H1 : Heap) (locs1 : List Loc), va_P (dC, dI) vwCl (ws.set a.2 (a0, .inr (ci, VS.set k V))) H1 → va_D (aA H0) (ws.set a.2 (a0, .inr (ci, VS.set k V))) → va_S (aA H0) H0 H1 locs1 → W p l e R s m args below meth c H1 locs1 nc ns Q (F0 m (pc + 3) ls ST2) := fun H1 locs1 z1 z2 z3 =>
        (hI p e R s m args below meth c Q ρ0 ad0 M cut _ tl _ _ _ _ _ _ outs hM htl hX hr9 hR) ρ ad _ H1 locs1 ls LV ST2 q1 q2 q3 (q4.set hw' hh1 hh2 hE') z1 z2 z3 q8 q9 q12
      cases hf : (q.2.1 k).2.2.2 with
      | false => exact va_put (D := (dC, dI)) (ci := ci) (v := V) (ty := ty) (C := q.1) (T := q.2.1) (N := q.2.2) hx hb hts hvw ty0 hty hnm hown hK q5 q6 q7 a.2 hw' hq k (bb_lt e1.1) (hts _ (wdq_in e2.1)) (fun _ h9 => h9) hf t1 t2 t3 (by omega) hdg KK
      | true =>
        rw [hf] at e3
        have e5 := bb_and (a := decide (M.1.name = "<init>")) e3.2
        exact va_putF (D := (dC, dI)) (ci := ci) (v := V) (ty := ty) (C := q.1) (T := q.2.1) (N := q.2.2) hx hb hts hvw ty0 hty hnm hown hK q5 q6 q7 a.2 hw' hq k (bb_lt e1.1) (hts _ (wdq_in e2.1)) (fun _ h9 => h9) hf (hin (of_decide_eq_true e5.1)) (of_decide_eq_true e5.2) t1 t2 t3 (by omega) hdg KK

end OPS
end
section
/-! THE ABSTRACT MACHINE, 12: arrays -/
section OPS
variable {sb : Nat → List Nat} {mt : Nat → Nat → Option MR} {dC : Nat → ClassId} {dI : Nat → Nat → Nat} {dA : Nat → ClassId} {sp : Nat → Nat} {H0 : Heap} {l : Launch}
variable {ih : GO} {p : Program} {e : Env} {R : Room} {s : State} {m : MethodId} {args : Array Value} {below : List Frame} {meth : Method} {c : Code} {Q : State → Prop} {ρ0 ad0 : List Nat} {M : MR} {cut pc len : Nat} {ins : Instr} {lk : List Nat} {cd tl : List ME} {σ : AS} {h : AH} {nc ns : Nat} {lv : AL} {st : List AV} {outs : List AO}

theorem ax_all_s {l : List RS} {outs : List AO} (h : ax_all l = some outs) : ∀ x ∈ l, ∃ o, x = some o ∧ ∀ z ∈ o, z ∈ outs := by
  induction l generalizing outs with
  | nil => intro x hx; cases hx
  | cons y t ih =>
    obtain ⟨u, v, e1, e2, rfl⟩ := ax_two_s (x := y) (y := ax_all t) h
    intro x hx
    rcases List.mem_cons.mp hx with rfl | hx
    · exact ⟨u, e1, fun z hz => List.mem_append_left _ hz⟩
    · obtain ⟨o, e3, e4⟩ := ih e2 x hx
      exact ⟨o, e3, fun z hz => List.mem_append_right _ (e4 z hz)⟩

theorem sn_spl {i : AV} {x : Int32} (hI : Snd sb mt dC dI dA sp H0 l ih) (hM : Mok mt M) (htl : ∀ x ∈ tl, x ∈ M.2.2.2.2.2.2) (hX : CX sb dC dI dA sp H0 ρ0 M p R s m args meth c) (hR : ∀ o ∈ outs, RO dC dI dA sp H0 l p e R s m args below meth c Q ρ0 ad0 M o)  (hcd : ∀ x ∈ cd, x ∈ M.2.2.2.2.2.2) (hr : ax_spl σ i (fun σ' => ih M cut pc cd σ' h nc ns lv st) = some outs) {ρ ad : List Nat} {ws : va_W} {H : Heap} {locs : List Loc} {ls : Array Slot} {LV : List (Nat × Value)} {ST : List Value} (q1 : Sb ρ0 ρ) (q2 : Sb ad0 ad) (q3 : St ρ σ) (q4 : Hr sp dA ρ ad h ws) (q5 : va_P (dC, dI) vwCl ws H) (q6 : va_D (aA H0) ws) (q7 : va_S (aA H0) H0 H locs) (q8 : Rl sp ρ ad lv LV) (q9 : lv_has ls M.2.2.1 LV) (q10 : Rs sp ρ ad st ST) (hi : Rp sp ρ ad i (.int x)) : W p l e R s m args below meth c H locs nc ns Q (F0 m pc ls ST) := by
  unfold ax_spl at hr
  obtain ⟨g1, hr1⟩ := gd_s hr
  obtain ⟨q, eq, hr2⟩ := ob_s hr1
  obtain ⟨g2, hr3⟩ := gd_s hr2
  rw [tg g1] at hi
  obtain ⟨z, hz, -⟩ := hi
  rw [ax_nth_eq] at eq
  obtain ⟨q', e1, e2, e3⟩ := q3.2 _ z hz
  cases eq.symm.trans e1
  obtain ⟨o, e4, e5⟩ := ax_all_s hr3 _ (List.mem_map.mpr ⟨z - q.1, List.mem_range.mpr (by omega), rfl⟩)
  rw [ax_set_eq] at e4
  refine (hI p e R s m args below meth c Q ρ0 ad0 M cut _ cd _ _ _ _ _ _ o hM hcd hX e4 (fun y hy => hR y (e5 y hy))) ρ ad ws H locs ls LV ST q1 q2 ?_ q4 q5 q6 q7 q8 q9 q10
  exact q3.cut (fun y hy => by rw [hz] at hy; cases hy; exact ⟨by omega, by omega⟩)

theorem sn_ald (hsb : ∀ x, (sb x).length ≤ 1000) {kd : Nat} (hI : Snd sb mt dC dI dA sp H0 l ih) (hM : Mok mt M) (htl : ∀ x ∈ tl, x ∈ M.2.2.2.2.2.2) (hX : CX sb dC dI dA sp H0 ρ0 M p R s m args meth c) (hR : ∀ o ∈ outs, RO dC dI dA sp H0 l p e R s m args below meth c Q ρ0 ad0 M o) (hdg : decode M.2.1 pc = .ok (ins, len)) (hlen : len = ax_len ins) (hlk : lok mt M pc ins lk = true) (hcd : ∀ x ∈ cd, x ∈ M.2.2.2.2.2.2) (ho : ax_op ins + 90 = kd) (ho2 : 100 ≤ kd) (ho3 : kd ≤ 103)
    (hr : ax_b1a kd sb ih M cut pc (pc + len) cd tl σ h nc ns lv st = some outs) : GG dC dI dA sp H0 l p e R s m args below meth c Q ρ0 ad0 M.2.2.1 pc σ h nc ns lv st := by
  unfold ax_b1a at hr
  obtain ⟨i, st1, e1, hr1⟩ := lc_s hr
  obtain ⟨a, r, e2, hr2⟩ := lc_s hr1
  obtain ⟨hx, hb, hml, hown, hts, hK, hlocks, hrt, hin, hRoom, hO⟩ := id hX
  intro ρ ad ws H locs ls LV ST q1 q2 q3 q4 q5 q6 q7 q8 q9 q10
  have q10' := q10
  rw [e1, e2] at q10'
  obtain ⟨I, ST1, hST1, hI1, q11⟩ := q10'.cons
  obtain ⟨A, ST2, hST2, hA, q12⟩ := q11.cons
  have hin2 : kd = 100 ∧ ins = .iaload ∨ kd = 101 ∧ ins = .laload ∨ kd = 102 ∧ ins = .baload ∨ kd = 103 ∧ ins = .aaload := by
    cases ins <;> first | (exfalso; simp only [ax_op] at ho; omega) | skip
    case iaload => exact Or.inl ⟨ho.symm, rfl⟩
    case laload => exact Or.inr (Or.inl ⟨ho.symm, rfl⟩)
    case baload => exact Or.inr (Or.inr (Or.inl ⟨ho.symm, rfl⟩))
    case aaload => exact Or.inr (Or.inr (Or.inr ⟨ho.symm, rfl⟩))
  have hlen1 : len = 1 := by rw [hlen]; rcases hin2 with ⟨-, rfl⟩ | ⟨-, rfl⟩ | ⟨-, rfl⟩ | ⟨-, rfl⟩ <;> rfl
  subst hlen1
  cases hn : Nat.beq (ax_nv σ i).1 0 with
  | false =>
    rw [hn] at hr2
    have hr3 : ax_spl σ i (fun σ' => ih M cut pc cd σ' h nc ns lv st) = some outs := hr2
    have hr4 := hr3
    unfold ax_spl at hr4
    obtain ⟨g1, -⟩ := gd_s hr4
    obtain ⟨x, rfl⟩ := hI1.tI (by unfold ax_tI; rw [g1]; exact Bool.or_true _)
    exact sn_spl hI hM htl hX hR hcd hr3 q1 q2 q3 q4 q5 q6 q7 q8 q9 q10 hI1
  | true =>
    rw [hn] at hr2
    have hnv := ax_nv_ok q3 hI1
    generalize ax_nv σ i = iv at hn hr2 hnv
    rw [tg hn] at hnv
    have hnv : I = .int (nI iv.2) := hnv
    subst hnv
    rw [hST1, hST2]
    cases ha : Nat.beq a.1 2 with
    | true =>
      rw [ha] at hr2
      have hr3 : ax_ald kd h iv a r (fun s' => ih M cut (pc + 1) tl σ h nc ns lv s') = some outs := hr2
      unfold ax_ald at hr3
      obtain ⟨cl, ec, hr4⟩ := ob_s hr3
      obtain ⟨g1, hr5⟩ := gd_s hr4
      obtain ⟨v, ev, hr6⟩ := ob_s hr5
      have w := bb_and g1
      have w2 := bb_and w.2
      have hlt := bb_lt w2.1
      have hb31 := bb_lt w2.2
      have hvp := vp_n hlt hb31
      have hcl : (nI iv.2).toNatClampNeg = iv.2 := nI_clamp (by omega)
      rw [tg ha] at hA
      obtain ⟨a0, E, hw, rfl, hE⟩ := q4.get ec hA
      have G := (hI p e R s m args below meth c Q ρ0 ad0 M cut _ tl _ _ _ _ _ _ outs hM htl hX hr6 hR)
      rcases hin2 with ⟨rfl, rfl⟩ | ⟨rfl, rfl⟩ | ⟨rfl, rfl⟩ | ⟨rfl, rfl⟩
      · have hk : cl.1 = 100 := bb_eq w.1
        obtain ⟨f, rfl, hf⟩ := hE.ints (Or.inl hk)
        rw [hk] at hw
        exact va_iald hx hb hK q5 a.2 0 hw rfl hvp hdg (G ρ ad ws H locs ls LV _ q1 q2 q3 q4 q5 q6 q7 q8 q9 ⟨by rw [hcl]; exact (hf _ _ ev).2, q12⟩)
      · have hk : cl.1 = 101 := bb_eq w.1
        obtain ⟨f, rfl, hf⟩ := hE.longs hk
        rw [hk] at hw
        exact va_lald hx hb hK q5 a.2 1 hw rfl hvp hdg (G ρ ad ws H locs ls LV _ q1 q2 q3 q4 q5 q6 q7 q8 q9 ⟨by rw [hcl]; exact (hf _ _ ev).2, q12⟩)
      · have hk : cl.1 = 102 := bb_eq w.1
        obtain ⟨f, rfl, hf⟩ := hE.ints (Or.inr hk)
        rw [hk] at hw
        exact va_bald hx hb hK q5 a.2 2 hw rfl hvp hdg (G ρ ad ws H locs ls LV _ q1 q2 q3 q4 q5 q6 q7 q8 q9 ⟨by rw [hcl]; exact (hf _ _ ev).2, q12⟩)
      · have hk := bb_and (a := Nat.ble 103 cl.1) w.1
        have k1 := bb_le hk.1
        have k2 := bb_le hk.2
        obtain ⟨f, rfl, hf⟩ := hE.refs ⟨k1, k2⟩
        have KK := G ρ ad ws H locs ls LV (va_rf (f (nI iv.2).toNatClampNeg) :: ST2) q1 q2 q3 q4 q5 q6 q7 q8 q9 ⟨by rw [hcl]; exact (hf _ _ ev).2, q12⟩
        rcases (show cl.1 = 103 ∨ cl.1 = 104 ∨ cl.1 = 105 by omega) with e | e | e
        · rw [e] at hw; exact va_aldq hx hb hK q5 a.2 3 hw rfl hvp hdg KK
        · rw [e] at hw; exact va_aldq hx hb hK q5 a.2 4 hw rfl hvp hdg KK
        · rw [e] at hw; exact va_aldq hx hb hK q5 a.2 5 hw rfl hvp hdg KK
    | false =>
      rw [ha] at hr2
      obtain ⟨g0, hr3⟩ := gd_s (b := Nat.beq a.1 6) hr2
      rw [tg g0] at hA
      have hA : A = .ref (sp a.2) := hA
      subst hA
      unfold ax_old at hr3
      have hkp : ∀ a : Nat, a < H0.size → ¬ (aA H0) a → H[a]? = H0[a]? := fun a h1 h2 => q7.2.1 a h1 h2
      cases hk : Nat.beq kd 100 with
      | true =>
        rw [hk] at hr3
        obtain ⟨g1, hr4⟩ := gd_s (b := Nat.beq a.2 0 && Nat.blt iv.2 6) hr3
        obtain ⟨q, eq, hr5⟩ := ob_s hr4
        obtain ⟨g2, hr6⟩ := gd_s hr5
        have w := bb_and g1
        have w1 := bb_eq w.1
        have w2 := bb_lt w.2
        have w3 := bb_eq g2
        rw [ax_nth_eq] at eq
        obtain ⟨⟨L, xs, x1, x2, x3, x4, x5⟩, -⟩ := hO
        have x4' := q1 _ _ x4
        obtain ⟨q', e5, e6, e7⟩ := q3.2 _ _ x4'
        cases eq.symm.trans e5
        have hL : 6 ≤ L := by omega
        rw [w1]
        have hin3 : ins = .iaload := by rcases hin2 with ⟨-, h9⟩ | ⟨h9, -⟩ | ⟨h9, -⟩ | ⟨h9, -⟩ <;> first | exact h9 | (rw [h9] at hk; cases hk)
        subst hin3
        exact va_sld hx hb x1 x2 (Nat.not_le.mpr x2) q7 (vp_n (by omega) (by omega)) hdg ((hI p e R s m args below meth c Q ρ0 ad0 M cut _ tl _ _ _ _ _ _ outs hM htl hX hr6 hR) ρ ad ws H locs ls LV _ q1 q2 q3 q4 q5 q6 q7 q8 q9 ⟨by
          rw [nI_clamp (by omega)]
          exact ⟨zI (xs iv.2), q1 _ _ (x5 iv.2 w2), by rw [zI_back]⟩, q12⟩)
      | false =>
        rw [hk] at hr3
        obtain ⟨g1, hr4⟩ := gd_s (b := Nat.beq kd 102 && (Nat.beq a.2 2 || Nat.beq a.2 4)) hr3
        obtain ⟨n, en, hr5⟩ := ob_s hr4
        have w := bb_and g1
        rw [ax_nth_eq] at en
        have hin3 : ins = .baload := by rcases hin2 with ⟨h9, -⟩ | ⟨h9, -⟩ | ⟨-, h9⟩ | ⟨h9, -⟩ <;> first | exact h9 | (rw [h9] at w; exact absurd w.1 (by decide))
        subst hin3
        have hso : ∃ y, a.2 = y + 1 ∧ SO sp sb H0 y s := by
          rcases (Bool.or_eq_true _ _).mp w.2 with z | z
          · exact ⟨1, bb_eq z, hO.2.1⟩
          · exact ⟨3, bb_eq z, hO.2.2.1⟩
        obtain ⟨y, ey, hso⟩ := hso
        have hT := hso.2.2.2.kept hkp
        rw [← ey] at hT
        obtain ⟨cell, z1, z2, z3, z4, z5, z6, z7⟩ := hT
        have hlt : iv.2 < (sb a.2).length := (List.getElem?_eq_some_iff.mp en).1
        have hb31 : iv.2 < 2147483648 := by
          rcases Nat.lt_or_ge iv.2 2147483648 with z | z
          · exact z
          · exfalso
            have h8 : (sb a.2).length ≤ 1000 := hsb a.2
            omega
        have hcl : (nI iv.2).toNatClampNeg = iv.2 := nI_clamp (by omega)
        exact W.bald (v := .int (nI n)) hx hb z1 z2 z3 (fun q => q.elim (nI_pos (by omega)) (fun q => by rw [hcl] at q; omega)) (by rw [hcl, z6 _ hlt]; show some (Value.int (nI ((sb a.2).getD iv.2 0))) = _; rw [List.getD_eq_getElem?_getD, en]; rfl) rfl rfl hdg ((hI p e R s m args below meth c Q ρ0 ad0 M cut _ tl _ _ _ _ _ _ outs hM htl hX hr5 hR) ρ ad ws H locs ls LV _ q1 q2 q3 q4 q5 q6 q7 q8 q9 ⟨rfl, q12⟩)

theorem sn_ast {kd : Nat} (hI : Snd sb mt dC dI dA sp H0 l ih) (hM : Mok mt M) (htl : ∀ x ∈ tl, x ∈ M.2.2.2.2.2.2) (hX : CX sb dC dI dA sp H0 ρ0 M p R s m args meth c) (hR : ∀ o ∈ outs, RO dC dI dA sp H0 l p e R s m args below meth c Q ρ0 ad0 M o) (hdg : decode M.2.1 pc = .ok (ins, len)) (hlen : len = ax_len ins) (hlk : lok mt M pc ins lk = true) (hcd : ∀ x ∈ cd, x ∈ M.2.2.2.2.2.2) (ho : ax_op ins + 86 = kd) (ho2 : 100 ≤ kd) (ho3 : kd ≤ 103)
    (hr : ax_b1s kd ih M cut pc (pc + len) cd tl σ h nc ns lv st = some outs) : GG dC dI dA sp H0 l p e R s m args below meth c Q ρ0 ad0 M.2.2.1 pc σ h nc ns lv st := by
  unfold ax_b1s at hr
  obtain ⟨v, st0, e0, hr0⟩ := lc_s hr
  obtain ⟨i, st1, e1, hr1⟩ := lc_s hr0
  obtain ⟨a, r, e2, hr2⟩ := lc_s hr1
  obtain ⟨hx, hb, hml, hown, hts, hK, hlocks, hrt, hin, hRoom, hO⟩ := id hX
  intro ρ ad ws H locs ls LV ST q1 q2 q3 q4 q5 q6 q7 q8 q9 q10
  have q10' := q10
  rw [e0, e1, e2] at q10'
  obtain ⟨V, ST0, hST0, hV, q100⟩ := q10'.cons
  obtain ⟨I, ST1, hST1, hI1, q11⟩ := q100.cons
  obtain ⟨A, ST2, hST2, hA, q12⟩ := q11.cons
  have hin2 : kd = 100 ∧ ins = .iastore ∨ kd = 101 ∧ ins = .lastore ∨ kd = 102 ∧ ins = .bastore ∨ kd = 103 ∧ ins = .aastore := by
    cases ins <;> first | (exfalso; simp only [ax_op] at ho; omega) | skip
    case iastore => exact Or.inl ⟨ho.symm, rfl⟩
    case lastore => exact Or.inr (Or.inl ⟨ho.symm, rfl⟩)
    case bastore => exact Or.inr (Or.inr (Or.inl ⟨ho.symm, rfl⟩))
    case aastore => exact Or.inr (Or.inr (Or.inr ⟨ho.symm, rfl⟩))
  have hlen1 : len = 1 := by rw [hlen]; rcases hin2 with ⟨-, rfl⟩ | ⟨-, rfl⟩ | ⟨-, rfl⟩ | ⟨-, rfl⟩ <;> rfl
  subst hlen1
  cases hn : Nat.beq (ax_nv σ i).1 0 with
  | false =>
    rw [hn] at hr2
    have hr3 : ax_spl σ i (fun σ' => ih M cut pc cd σ' h nc ns lv st) = some outs := hr2
    have hr4 := hr3
    unfold ax_spl at hr4
    obtain ⟨g1, -⟩ := gd_s hr4
    obtain ⟨x, rfl⟩ := hI1.tI (by unfold ax_tI; rw [g1]; exact Bool.or_true _)
    exact sn_spl hI hM htl hX hR hcd hr3 q1 q2 q3 q4 q5 q6 q7 q8 q9 q10 hI1
  | true =>
    rw [hn] at hr2
    have hr3 : ax_ast kd σ h v (ax_nv σ i) a (fun h' => ih M cut (pc + 1) tl σ h' nc ns lv r) = some outs := hr2
    have hnv := ax_nv_ok q3 hI1
    generalize ax_nv σ i = iv at hn hr3 hnv
    rw [tg hn] at hnv
    have hnv : I = .int (nI iv.2) := hnv
    subst hnv
    rw [hST0, hST1, hST2]
    unfold ax_ast at hr3
    obtain ⟨g0, hr4⟩ := gd_s hr3
    obtain ⟨cl, ec, hr5⟩ := ob_s hr4
    obtain ⟨g1, hr6⟩ := gd_s hr5
    rw [ax_st_eq] at hr6
    obtain ⟨h', hr7, hh1, hh2⟩ := ax_hs_ok hr6
    have w := bb_and g1
    have w2 := bb_and w.2
    have hlt := bb_lt w2.1
    have hb31 := bb_lt w2.2
    have hvp := vp_n hlt hb31
    have hcl : (nI iv.2).toNatClampNeg = iv.2 := nI_clamp (by omega)
    rw [tg g0] at hA
    obtain ⟨a0, E, hw, rfl, hE⟩ := q4.get ec hA
    have G := (hI p e R s m args below meth c Q ρ0 ad0 M cut _ tl _ _ _ _ _ _ outs hM htl hX hr7 hR)
    have hsok := w.1
    unfold ax_sok at hsok
    rcases hin2 with ⟨rfl, rfl⟩ | ⟨rfl, rfl⟩ | ⟨rfl, rfl⟩ | ⟨rfl, rfl⟩
    · have y := bb_and (a := Nat.beq cl.1 100) hsok
      have hk : cl.1 = 100 := bb_eq y.1
      obtain ⟨x, rfl⟩ := hV.tI y.2
      obtain ⟨f, rfl, hf⟩ := hE.ints (Or.inl hk)
      have hE' : Er sp dA ρ ad (cl.1, cl.2.1, ax_stv cl.2.2 iv.2 v) (.inl (dA 100, cl.2.1, .inl (upd f (nI iv.2).toNatClampNeg x))) := Or.inr (Or.inl ⟨Or.inl hk, _, by rw [hk], fun j z hz => by
        rw [hcl]
        rcases ax_el_stv hz with ⟨rfl, rfl⟩ | ⟨hj, hz⟩
        · exact ⟨hlt, by rw [pk_us]; exact hV⟩
        · exact ⟨(hf j z hz).1, by rw [pk_un hj]; exact (hf j z hz).2⟩⟩)
      rw [hk] at hw
      exact va_iast hx hb hK q5 q6 q7 a.2 0 hw rfl hvp hdg (fun H1 locs1 z1 z2 z3 => G ρ ad _ H1 locs1 ls LV ST2 q1 q2 q3 (q4.set hw hh1 hh2 hE') z1 z2 z3 q8 q9 q12)
    · have y := bb_and (a := Nat.beq cl.1 101) hsok
      have hk : cl.1 = 101 := bb_eq y.1
      obtain ⟨x, rfl⟩ := hV.tL y.2
      obtain ⟨f, rfl, hf⟩ := hE.longs hk
      have hE' : Er sp dA ρ ad (cl.1, cl.2.1, ax_stv cl.2.2 iv.2 v) (.inl (dA 101, cl.2.1, .inr (.inl (vp_updL f (nI iv.2).toNatClampNeg x)))) := Or.inr (Or.inr (Or.inl ⟨hk, _, by rw [hk], fun j z hz => by
        rw [hcl]
        rcases ax_el_stv hz with ⟨rfl, rfl⟩ | ⟨hj, hz⟩
        · exact ⟨hlt, by rw [pk_uLs]; exact hV⟩
        · exact ⟨(hf j z hz).1, by rw [pk_uLn hj]; exact (hf j z hz).2⟩⟩))
      rw [hk] at hw
      exact va_last hx hb hK q5 q6 q7 a.2 1 hw rfl hvp hdg (fun H1 locs1 z1 z2 z3 => G ρ ad _ H1 locs1 ls LV ST2 q1 q2 q3 (q4.set hw hh1 hh2 hE') z1 z2 z3 q8 q9 q12)
    · have y := bb_and (a := Nat.beq cl.1 102) hsok
      have hk : cl.1 = 102 := bb_eq y.1
      have y2 := y.2
      cases er : ax_rI σ v with
      | none => rw [er] at y2; cases y2
      | some q =>
        rw [er] at y2
        have y3 := bb_and (a := Nat.ble 9223372036854775680 q.1) y2
        have y4 := bb_le y3.1
        have y5 := bb_le y3.2
        obtain ⟨x, rfl, x1, x2, -⟩ := ax_rI_ok q3 hV er
        have hx8 : vp_nar .byte x = x := by
          rw [vp_nar_byte]
          apply Int32.toInt_inj.mp
          have h8 := zI_cast x
          rw [Int8.toInt_toInt32, Int32.toInt_toInt8, Int.bmod_def]
          omega
        obtain ⟨f, rfl, hf⟩ := hE.ints (Or.inr hk)
        have hE' : Er sp dA ρ ad (cl.1, cl.2.1, ax_stv cl.2.2 iv.2 v) (.inl (dA 102, cl.2.1, .inl (upd f (nI iv.2).toNatClampNeg (vp_nar .byte x)))) := Or.inr (Or.inl ⟨Or.inr hk, _, by rw [hk], fun j z hz => by
          rw [hcl, hx8]
          rcases ax_el_stv hz with ⟨rfl, rfl⟩ | ⟨hj, hz⟩
          · exact ⟨hlt, by rw [pk_us]; exact hV⟩
          · exact ⟨(hf j z hz).1, by rw [pk_un hj]; exact (hf j z hz).2⟩⟩)
        rw [hk] at hw
        exact va_bast hx hb hK q5 q6 q7 a.2 2 hw rfl hvp hdg (fun H1 locs1 z1 z2 z3 => G ρ ad _ H1 locs1 ls LV ST2 q1 q2 q3 (q4.set hw hh1 hh2 hE') z1 z2 z3 q8 q9 q12)
    · have y := bb_and (a := Nat.beq v.1 2) hsok
      have y2 := y.2
      cases ek : ax_hn h v.2 with
      | none => rw [ek] at y2; cases y2
      | some cv =>
        rw [ek] at y2
        rw [tg y.1] at hV
        obtain ⟨v0, Ev, hwv, rfl, hEv⟩ := q4.get ek hV
        have y3 : (cl.1 = 103 ∧ cv.1 = 10) ∨ (cl.1 = 104 ∧ cv.1 = 1) ∨ (cl.1 = 105 ∧ cv.1 = 7) := by
          rcases (Bool.or_eq_true _ _).mp y2 with z | z
          · exact Or.inl ⟨bb_eq (bb_and z).1, bb_eq (bb_and z).2⟩
          · rcases (Bool.or_eq_true _ _).mp z with z | z
            · exact Or.inr (Or.inl ⟨bb_eq (bb_and z).1, bb_eq (bb_and z).2⟩)
            · exact Or.inr (Or.inr ⟨bb_eq (bb_and z).1, bb_eq (bb_and z).2⟩)
        obtain ⟨f, rfl, hf⟩ := hE.refs (by omega)
        obtain ⟨VS, rfl, -, -⟩ := hEv.obj (by omega)
        have hE' : Er sp dA ρ ad (cl.1, cl.2.1, ax_stv cl.2.2 iv.2 v) (.inl (dA cl.1, cl.2.1, .inr (.inr (.inr (.inr (va_up f (nI iv.2).toNatClampNeg (some v0))))))) := Or.inr (Or.inr (Or.inr ⟨by show 103 ≤ cl.1 ∧ cl.1 ≤ 105; omega, _, rfl, fun j z hz => by
          rw [hcl]
          rcases ax_el_stv hz with ⟨rfl, rfl⟩ | ⟨hj, hz⟩
          · exact ⟨hlt, by unfold va_up; rw [if_pos rfl, tg y.1]; exact hV⟩
          · exact ⟨(hf j z hz).1, by unfold va_up; rw [if_neg hj]; exact (hf j z hz).2⟩⟩))
        have KK : ∀ (H1 : Heap) (locs1 : List Loc), va_P (dC, dI) vwCl (ws.set a.2 (a0, .inl (dA cl.1, cl.2.1, .inr (.inr (.inr (.inr (va_up f (nI iv.2).toNatClampNeg (some v0)))))))) H1 → va_D (aA H0) (ws.set a.2 (a0, .inl (dA cl.1, cl.2.1, .inr (.inr (.inr (.inr (va_up f (nI iv.2).toNatClampNeg (some v0)))))))) → va_S (aA H0) H0 H1 locs1 → W p l e R s m args below meth c H1 locs1 nc ns Q (F0 m (pc + 1) ls ST2) := fun H1 locs1 z1 z2 z3 => G ρ ad _ H1 locs1 ls LV ST2 q1 q2 q3 (q4.set hw hh1 hh2 hE') z1 z2 z3 q8 q9 q12
        rcases y3 with ⟨k1, k2⟩ | ⟨k1, k2⟩ | ⟨k1, k2⟩
        · rw [k2] at hwv
          rw [k1] at hw KK
          exact va_astq (r := (RX10, TX10, 4)) hx hb hK q5 q6 q7 a.2 3 v.2 10 hw rfl hwv rfl hvp hdg KK
        · rw [k2] at hwv
          rw [k1] at hw KK
          exact va_astq (r := (RX1, TX1, 15)) hx hb hK q5 q6 q7 a.2 4 v.2 1 hw rfl hwv rfl hvp hdg KK
        · rw [k2] at hwv
          rw [k1] at hw KK
          exact va_astq (r := (RX7, TX7, 8)) hx hb hK q5 q6 q7 a.2 5 v.2 7 hw rfl hwv rfl hvp hdg KK

end OPS
end
section
/-! THE ABSTRACT MACHINE, 13: lengths, new cells, statics, switches -/
section OPS
variable {sb : Nat → List Nat} {mt : Nat → Nat → Option MR} {dC : Nat → ClassId} {dI : Nat → Nat → Nat} {dA : Nat → ClassId} {sp : Nat → Nat} {H0 : Heap} {l : Launch}
variable {ih : GO} {p : Program} {e : Env} {R : Room} {s : State} {m : MethodId} {args : Array Value} {below : List Frame} {meth : Method} {c : Code} {Q : State → Prop} {ρ0 ad0 : List Nat} {M : MR} {cut pc len : Nat} {ins : Instr} {lk : List Nat} {cd tl : List ME} {σ : AS} {h : AH} {nc ns : Nat} {lv : AL} {st : List AV} {outs : List AO}

theorem sn_alen (hI : Snd sb mt dC dI dA sp H0 l ih) (hM : Mok mt M) (htl : ∀ x ∈ tl, x ∈ M.2.2.2.2.2.2) (hX : CX sb dC dI dA sp H0 ρ0 M p R s m args meth c) (hR : ∀ o ∈ outs, RO dC dI dA sp H0 l p e R s m args below meth c Q ρ0 ad0 M o) (hdg : decode M.2.1 pc = .ok (ins, len)) (hlen : len = ax_len ins) (hlk : lok mt M pc ins lk = true) (ho : ax_op ins = 53)
    (hr : lc st (fun a r => ax_alen sb h a (fun v => ih M cut (pc + len) tl σ h nc ns lv (v :: r))) = some outs) : GG dC dI dA sp H0 l p e R s m args below meth c Q ρ0 ad0 M.2.2.1 pc σ h nc ns lv st := by
  obtain ⟨a, r, rfl, hr1⟩ := lc_s hr
  obtain ⟨hx, hb, hml, hown, hts, hK, hlocks, hrt, hin, hRoom, hO⟩ := id hX
  intro ρ ad ws H locs ls LV ST q1 q2 q3 q4 q5 q6 q7 q8 q9 q10
  obtain ⟨A, ST2, rfl, hA, q12⟩ := q10.cons
  have hins : ins = .arraylength := by cases ins <;> first | (exact absurd ho (Nat.ne_of_beq_eq_false rfl)) | rfl
  subst hins
  have hlen : len = 1 := hlen
  subst hlen
  unfold ax_alen at hr1
  cases ha : Nat.beq a.1 2 with
  | true =>
    rw [ha] at hr1
    obtain ⟨cl, ec, hr2⟩ := ob_s (o := ax_hn h a.2) hr1
    obtain ⟨g1, hr3⟩ := gd_s hr2
    have w := bb_and g1
    have w1 := bb_le w.1
    have w2 := bb_le w.2
    rw [tg ha] at hA
    obtain ⟨a0, E, hw, rfl, hE⟩ := q4.get ec hA
    have KK := (hI p e _ s m args below meth c Q ρ0 ad0 M cut _ tl _ _ _ _ _ _ outs hM htl hX hr3 hR) ρ ad ws H locs ls LV (.int (nI cl.2.1) :: ST2) q1 q2 q3 q4 q5 q6 q7 q8 q9 ⟨rfl, q12⟩
    rcases (show cl.1 = 100 ∨ cl.1 = 101 ∨ cl.1 = 102 ∨ cl.1 = 103 ∨ cl.1 = 104 ∨ cl.1 = 105 by omega) with e | e | e | e | e | e
    · obtain ⟨f, rfl, -⟩ := hE.ints (Or.inl e); rw [e] at hw; exact va_alen hx hb hK q5 a.2 0 hw rfl rfl hdg KK
    · obtain ⟨f, rfl, -⟩ := hE.longs e; rw [e] at hw; exact va_alen hx hb hK q5 a.2 1 hw rfl rfl hdg KK
    · obtain ⟨f, rfl, -⟩ := hE.ints (Or.inr e); rw [e] at hw; exact va_alen hx hb hK q5 a.2 2 hw rfl rfl hdg KK
    · obtain ⟨f, rfl, -⟩ := hE.refs (by omega); rw [e] at hw; exact va_alen hx hb hK q5 a.2 3 hw rfl rfl hdg KK
    · obtain ⟨f, rfl, -⟩ := hE.refs (by omega); rw [e] at hw; exact va_alen hx hb hK q5 a.2 4 hw rfl rfl hdg KK
    · obtain ⟨f, rfl, -⟩ := hE.refs (by omega); rw [e] at hw; exact va_alen hx hb hK q5 a.2 5 hw rfl rfl hdg KK
  | false =>
    rw [ha] at hr1
    obtain ⟨g0, hr2⟩ := gd_s (b := Nat.beq a.1 6) hr1
    rw [tg g0] at hA
    have hA : A = .ref (sp a.2) := hA
    subst hA
    cases h0 : Nat.beq a.2 0 with
    | true =>
      rw [h0] at hr2
      rw [bb_eq h0]
      obtain ⟨⟨L, xs, x1, x2, x3, x4, x5⟩, -⟩ := hO
      refine va_slen hx hb x1 x2 (Nat.not_le.mpr x2) q7 hdg ((hI p e _ s m args below meth c Q ρ0 ad0 M cut _ tl _ _ _ _ _ _ outs hM htl hX hr2 hR) ρ ad ws H locs ls LV (.int (Int32.ofNat L) :: ST2) q1 q2 q3 q4 q5 q6 q7 q8 q9 ⟨⟨_, q1 _ _ x4, ?_⟩, q12⟩)
      refine congrArg Value.int ?_
      show nI L = _
      apply Int32.toInt_inj.mp
      rw [nI_toInt (by omega), nI_z (by omega) (by omega)]
      omega
    | false =>
      rw [h0] at hr2
      obtain ⟨g1, hr3⟩ := gd_s (b := Nat.beq a.2 2 || Nat.beq a.2 4) hr2
      have hkp : ∀ a : Nat, a < H0.size → ¬ (aA H0) a → H[a]? = H0[a]? := fun a h1 h2 => q7.2.1 a h1 h2
      have hso : ∃ y, a.2 = y + 1 ∧ SO sp sb H0 y s := by
        rcases (Bool.or_eq_true _ _).mp g1 with z | z
        · exact ⟨1, bb_eq z, hO.2.1⟩
        · exact ⟨3, bb_eq z, hO.2.2.1⟩
      obtain ⟨y, ey, hso⟩ := hso
      have hT := hso.2.2.2.kept hkp
      rw [← ey] at hT
      obtain ⟨cell, z1, z2, z3, z4, z5, z6, z7⟩ := hT
      exact W.alen (n := nI (sb a.2).length) hx hb z1 z2 z5 rfl rfl hdg ((hI p e _ s m args below meth c Q ρ0 ad0 M cut _ tl _ _ _ _ _ _ outs hM htl hX hr3 hR) ρ ad ws H locs ls LV _ q1 q2 q3 q4 q5 q6 q7 q8 q9 ⟨rfl, q12⟩)

theorem ax_el1 {l : List AV} {j : Nat} {v : AV} (h : ax_el [l] j = some v) : l[j]? = some v ∨ False := by
  unfold ax_el at h
  rw [ax_nth_eq] at h
  by_cases hj : j < 64
  · rw [show j / 64 = 0 by omega] at h
    have h : ax_nth l (j % 64) = some v := h
    rw [ax_nth_eq, show j % 64 = j by omega] at h
    exact Or.inl h
  · have : ([l] : List (List AV))[j / 64]? = none := by rw [List.getElem?_eq_none]; simp; omega
    rw [this] at h
    cases h
def ax_dv (t : Nat) : Value := match t with
  | 0 => .int 0
  | 1 => .long 0
  | _ => .null
theorem ax_dv_ok {sp : Nat → Nat} {ρ ad : List Nat} {t : Nat} (h : t = 0 ∨ t = 1 ∨ t = 3) : Rp sp ρ ad (t, 0) (ax_dv t) := by
  rcases h with rfl | rfl | rfl
  · show Value.int 0 = Value.int (nI 0); rw [nI_0]
  · show Value.long 0 = Value.long (lN 0); rfl
  · rfl

theorem sn_new (hI : Snd sb mt dC dI dA sp H0 l ih) (hM : Mok mt M) (htl : ∀ x ∈ tl, x ∈ M.2.2.2.2.2.2) (hX : CX sb dC dI dA sp H0 ρ0 M p R s m args meth c) (hR : ∀ o ∈ outs, RO dC dI dA sp H0 l p e R s m args below meth c Q ρ0 ad0 M o) (hdg : decode M.2.1 pc = .ok (ins, len)) (hlen : len = ax_len ins) (hlk : lok mt M pc ins lk = true) (ho : ax_op ins = 54)
    (hr : ax_new M.2.2.2.2.1 lk h nc ns (fun h' nc' ns' => ih M cut (pc + len) tl σ h' nc' ns' lv ((2, h.1) :: st)) = some outs) : GG dC dI dA sp H0 l p e R s m args below meth c Q ρ0 ad0 M.2.2.1 pc σ h nc ns lv st := by
  unfold ax_new at hr
  obtain ⟨ci, lk1, rfl, hr1⟩ := lc_s hr
  obtain ⟨n, lk2, rfl, hr2⟩ := lc_s hr1
  obtain ⟨g1, hr3⟩ := gd_s hr2
  obtain ⟨h', hr4, hh1, hh2⟩ := ax_ha_ok hr3
  rw [ax_fc_eq, ax_fc_eq] at hr4
  obtain ⟨hx, hb, hml, hown, hts, hK, hlocks, hrt, hin, hRoom, hO⟩ := id hX
  intro ρ ad ws H locs ls LV ST q1 q2 q3 q4 q5 q6 q7 q8 q9 q10
  have w := bb_and g1
  have w1 := bb_le w.1
  have w2 := bb_le w.2
  cases ins <;> first | (exact absurd ho (Nat.ne_of_beq_eq_false rfl)) | skip
  case new idx =>
    subst hlen
    match lk2, hlk with
    | c1 :: j1 :: c2 :: j2 :: c3 :: j3 :: ts, hlk =>
      have hl : (match vwCl[ci]? with
        | some q => Nat.beq n q.2.2 && (wdq c1 j1 (.classLink M.1.cls idx q.1) && (wdq c2 j2 (.instantiable q.1 q.2.2) && (wdq c3 j3 (.initialized q.1) && (Nat.blt ci 100 && (Nat.beq ts.length n && (List.range n).all (fun k => match ax_ty (q.2.1 k).2.2.1 with
          | 0 => decide (ts[k]? = some 0)
          | 1 => decide (ts[k]? = some 0)
          | 2 => decide (ts[k]? = some 1)
          | 3 => decide (ts[k]? = some 3)
          | _ => false))))))
        | none => false) = true := hlk
      cases hq : vwCl[ci]? with
      | none => rw [hq] at hl; cases hl
      | some q =>
        rw [hq] at hl
        have u1 := bb_and (a := Nat.beq n q.2.2) hl
        have u2 := bb_and u1.2
        have u3 := bb_and u2.2
        have u4 := bb_and u3.2
        have u5 := bb_and u4.2
        have u6 := bb_and u5.2
        have hn : n = q.2.2 := bb_eq u1.1
        have hci := bb_lt u5.1
        have htl2 := bb_eq u6.1
        obtain ⟨hvw, ⟨ty0, hty⟩, hnm, -⟩ := vw_ok ci q hq
        have key : ∀ k, k < n → ∃ t, ts[k]? = some t ∧ (t = 0 ∨ t = 1 ∨ t = 3) ∧ defaultValue (ty0 k) = ax_dv t := by
          intro k hk
          have z := List.all_eq_true.mp u6.2 k (List.mem_range.mpr hk)
          have z2 := hty k (by omega)
          unfold ax_ty at z
          rw [z2] at z
          cases hz : ty0 k <;> rw [hz] at z <;> first | (cases z; done) | skip
          · exact ⟨0, of_decide_eq_true z, Or.inl rfl, rfl⟩
          · exact ⟨1, of_decide_eq_true z, Or.inr (Or.inl rfl), rfl⟩
          · exact ⟨0, of_decide_eq_true z, Or.inl rfl, rfl⟩
          · exact ⟨3, of_decide_eq_true z, Or.inr (Or.inr rfl), rfl⟩
          · exact ⟨3, of_decide_eq_true z, Or.inr (Or.inr rfl), rfl⟩
        have hfs : ∀ j, j < q.2.2 → defaultValue (ty0 j) = vp_V (ts.map ax_dv) j := by
          intro j hj
          obtain ⟨t, t1, t2, t3⟩ := key j (by omega)
          unfold vp_V
          rw [List.getD_eq_getElem?_getD, List.getElem?_map, t1, t3]
          rfl
        subst hRoom
        refine va_new (D := (dC, dI)) (ci := ci) (fs := ts.map ax_dv) (C := q.1) (T := q.2.1) (N := q.2.2) hx hb hts hvw ty0 hty hown (hts _ (wdq_in u2.1)) (hts _ (wdq_in u3.1)) (hts _ (wdq_in u4.1)) hK q5 q6 q7 (fun _ z => z) hq hfs w1 (by rw [← hn]; exact w2) hdg (fun qa H1 z1 z2 z3 => ?_)
        have hE' : Er sp dA ρ (ad ++ [qa]) (ci, n, [((c1 :: j1 :: c2 :: j2 :: c3 :: j3 :: ts).drop 6).map (fun t => (t, 0))]) (.inr (ci, ts.map ax_dv)) := Or.inl ⟨hci, _, rfl, by show (ts.map ax_dv).length = n; rw [List.length_map]; exact htl2, fun j v hv => by
          rcases ax_el1 hv with hv | hv
          · have hv : (ts.map (fun t => ((t, 0) : AV)))[j]? = some v := hv
            rw [List.getElem?_map] at hv
            cases hj : ts[j]? with
            | none => rw [hj] at hv; cases hv
            | some t =>
              rw [hj] at hv
              cases hv
              obtain ⟨t', t1, t2, t3⟩ := key j (by rw [← htl2]; exact (List.getElem?_eq_some_iff.mp hj).1)
              cases hj.symm.trans t1
              exact ⟨ax_dv t, by rw [List.getElem?_map, hj]; rfl, ax_dv_ok t2⟩
          · exact hv.elim⟩
        have HA := q4.add hh1 hh2 hE'
        rw [hn] at hr4
        exact (hI p e _ s m args below meth c Q ρ0 ad0 M cut _ tl _ _ _ _ _ _ outs hM htl hX hr4 hR) ρ (ad ++ [qa]) _ H1 locs ls LV (.ref qa :: ST) q1 (q2.tr HA.1) q3 HA.2.1 z1 z2 z3 (q8.mono (Sb.rf ρ) HA.1) q9 ⟨HA.2.2, q10.mono (Sb.rf ρ) HA.1⟩

theorem tys_new {dA : Nat → ClassId} {s : State} {cA : ClassId} {t : FieldType} (t0 : Nat) (kd : Nat) (hK : va_K (dC, dI) vwCl (ax_tys dA) s) (h0 : (ax_tys dA)[t0]? = some (dA kd, t)) (hn : ∀ C, va_RA s C t → va_RA s cA t → C = cA) (h : va_K (dC, dI) vwCl (ax_tys dA ++ [(cA, t)]) s) : cA = dA kd := by
  have h1 := (h.2 6 (cA, t) rfl).2
  have h2 := (hK.2 t0 _ h0).2
  exact (hn _ h2 h1).symm
theorem ra_int {s : State} {C cA : ClassId} (h1 : va_RA s C .int) (h2 : va_RA s cA .int) : C = cA := Option.some.inj (Eq.trans (Eq.symm h1) h2)
theorem ra_long {s : State} {C cA : ClassId} (h1 : va_RA s C .long) (h2 : va_RA s cA .long) : C = cA := Option.some.inj (Eq.trans (Eq.symm h1) h2)
theorem ra_byte {s : State} {C cA : ClassId} (h1 : va_RA s C .byte) (h2 : va_RA s cA .byte) : C = cA := Option.some.inj (Eq.trans (Eq.symm h1) h2)
theorem ra_obj {s : State} {X : String} {C cA : ClassId} (h1 : va_RA s C (.object X)) (h2 : va_RA s cA (.object X)) : C = cA := by
  obtain ⟨k, d, -, -, -, a⟩ := h1
  obtain ⟨k', d', -, -, -, b⟩ := h2
  exact Option.some.inj (Eq.trans (Eq.symm a) b)

theorem sn_newa (hI : Snd sb mt dC dI dA sp H0 l ih) (hM : Mok mt M) (htl : ∀ x ∈ tl, x ∈ M.2.2.2.2.2.2) (hX : CX sb dC dI dA sp H0 ρ0 M p R s m args meth c) (hR : ∀ o ∈ outs, RO dC dI dA sp H0 l p e R s m args below meth c Q ρ0 ad0 M o) (hdg : decode M.2.1 pc = .ok (ins, len)) (hlen : len = ax_len ins) (hlk : lok mt M pc ins lk = true) (ho : ax_op ins = 55)
    (hr : lc st (fun a r => ax_newa M.2.2.2.2.1 lk h nc ns (ax_nv σ a) (fun h' nc' ns' => ih M cut (pc + len) tl σ h' nc' ns' lv ((2, h.1) :: r))) = some outs) : GG dC dI dA sp H0 l p e R s m args below meth c Q ρ0 ad0 M.2.2.1 pc σ h nc ns lv st := by
  obtain ⟨a, r, rfl, hr0⟩ := lc_s hr
  unfold ax_newa at hr0
  obtain ⟨kd, lk1, rfl, hr1⟩ := lc_s hr0
  obtain ⟨t, lk2, rfl, hr2⟩ := lc_s hr1
  obtain ⟨g1, hr3⟩ := gd_s hr2
  obtain ⟨h', hr4, hh1, hh2⟩ := ax_ha_ok hr3
  rw [ax_fc_eq, ax_fc_eq] at hr4
  obtain ⟨hx, hb, hml, hown, hts, hK, hlocks, hrt, hin, hRoom, hO⟩ := id hX
  intro ρ ad ws H locs ls LV ST q1 q2 q3 q4 q5 q6 q7 q8 q9 q10
  obtain ⟨A, ST2, rfl, hA, q12⟩ := q10.cons
  have hnv := ax_nv_ok q3 hA
  generalize ax_nv σ a = av at *
  have w := bb_and g1
  have w1 := bb_and w.2
  have w2 := bb_le w1.1
  have w3 := bb_and w1.2
  have w4 := bb_le w3.1
  have w5 := bb_le w3.2
  rw [tg w.1] at hnv
  have hnv : A = .int (nI av.2) := hnv
  subst hnv
  subst hRoom
  have hcl : (nI av.2).toNatClampNeg = av.2 := nI_clamp (by omega)
  have hpos : ¬ nI av.2 < 0 := nI_pos (by omega)
  have FIN : ∀ (qa : Nat) (E : va_E) (H1 : Heap), Er sp dA ρ (ad ++ [qa]) (kd, av.2, ax_rep av.2 (t, 0)) E → va_P (dC, dI) vwCl (ws ++ [(qa, E)]) H1 → va_D (aA H0) (ws ++ [(qa, E)]) → va_S (aA H0) H0 H1 locs → W p l e M.2.2.2.2.1 s m args below meth c H1 locs (nc + 1) (ns + av.2) Q (F0 m (pc + len) ls (.ref qa :: ST2)) := fun qa E H1 hE z1 z2 z3 => by
    have HA := q4.add hh1 hh2 hE
    exact (hI p e _ s m args below meth c Q ρ0 ad0 M cut _ tl _ _ _ _ _ _ outs hM htl hX hr4 hR) ρ (ad ++ [qa]) _ H1 locs ls LV (.ref qa :: ST2) q1 (q2.tr HA.1) q3 HA.2.1 z1 z2 z3 (q8.mono (Sb.rf ρ) HA.1) q9 ⟨HA.2.2, q12.mono (Sb.rf ρ) HA.1⟩
  cases ins <;> first | (exact absurd ho (Nat.ne_of_beq_eq_false rfl)) | skip
  case newarray ty =>
    subst hlen
    match lk2, hlk with
    | c1 :: j1 :: _, hlk =>
      cases ty <;> first | (cases hlk; done) | skip
      case int =>
        have u := bb_and (a := Nat.beq kd 100) hlk
        have u2 := bb_and u.2
        obtain rfl := bb_eq u.1
        obtain rfl := bb_eq u2.1
        refine va_newa (D := (dC, dI)) (a0 := (av.2, .inl (fun _ => 0))) hx hb (hts _ (wdq_in u2.2)) rfl hK q5 q6 q7 (fun _ z => z) (fun cA => rfl) hpos hcl (by show av.2 * 4 ≤ _; omega) w4 w5 hdg (fun qa cA H1 z0 z1 z2 z3 => ?_)
        have e := tys_new (dC := dC) (dI := dI) 0 100 hK rfl (fun _ => ra_int) z0
        subst e
        exact FIN qa _ H1 (Or.inr (Or.inl ⟨Or.inl rfl, _, rfl, fun j v hv => ⟨ax_el_rep_lt hv, by rw [ax_el_rep hv]; show Value.int 0 = Value.int (nI 0); rw [nI_0]⟩⟩)) z1 z2 z3
      case long =>
        have u := bb_and (a := Nat.beq kd 101) hlk
        have u2 := bb_and u.2
        obtain rfl := bb_eq u.1
        obtain rfl := bb_eq u2.1
        refine va_newa (D := (dC, dI)) (a0 := (av.2, .inr (.inl (fun _ => 0)))) hx hb (hts _ (wdq_in u2.2)) rfl hK q5 q6 q7 (fun _ z => z) (fun cA => rfl) hpos hcl (by show av.2 * 8 ≤ _; omega) w4 w5 hdg (fun qa cA H1 z0 z1 z2 z3 => ?_)
        have e := tys_new (dC := dC) (dI := dI) 1 101 hK rfl (fun _ => ra_long) z0
        subst e
        exact FIN qa _ H1 (Or.inr (Or.inr (Or.inl ⟨rfl, _, rfl, fun j v hv => ⟨ax_el_rep_lt hv, by rw [ax_el_rep hv]; rfl⟩⟩))) z1 z2 z3
      case byte =>
        have u := bb_and (a := Nat.beq kd 102) hlk
        have u2 := bb_and u.2
        obtain rfl := bb_eq u.1
        obtain rfl := bb_eq u2.1
        refine va_newa (D := (dC, dI)) (a0 := (av.2, .inl (fun _ => 0))) hx hb (hts _ (wdq_in u2.2)) rfl hK q5 q6 q7 (fun _ z => z) (fun cA => rfl) hpos hcl (by show av.2 * 1 ≤ _; omega) w4 w5 hdg (fun qa cA H1 z0 z1 z2 z3 => ?_)
        have e := tys_new (dC := dC) (dI := dI) 2 102 hK rfl (fun _ => ra_byte) z0
        subst e
        exact FIN qa _ H1 (Or.inr (Or.inl ⟨Or.inr rfl, _, rfl, fun j v hv => ⟨ax_el_rep_lt hv, by rw [ax_el_rep hv]; show Value.int 0 = Value.int (nI 0); rw [nI_0]⟩⟩)) z1 z2 z3
  case anewarray idx =>
    subst hlen
    match lk2, hlk with
    | c1 :: j1 :: _, hlk =>
      have u := bb_and (a := Nat.beq t 3) hlk
      obtain rfl := bb_eq u.1
      rcases (Bool.or_eq_true _ _).mp u.2 with z | z
      · have y := bb_and z
        obtain rfl := bb_eq y.1
        refine va_newq (D := (dC, dI)) hx hb hown (hts _ (wdq_in y.2)) hO.2.2.2.2.2.2.2.1 hK q5 q6 q7 (fun _ z => z) hpos hcl (by omega) w4 w5 hdg (fun qa cA H1 z0 z1 z2 z3 => ?_)
        have e := tys_new (dC := dC) (dI := dI) 3 103 hK rfl (fun _ => ra_obj) z0
        subst e
        exact FIN qa _ H1 (Or.inr (Or.inr (Or.inr ⟨⟨Nat.le_of_ble_eq_true rfl, Nat.le_of_ble_eq_true rfl⟩, _, rfl, fun j v hv => ⟨ax_el_rep_lt hv, by rw [ax_el_rep hv]; rfl⟩⟩))) z1 z2 z3
      · rcases (Bool.or_eq_true _ _).mp z with z | z
        · have y := bb_and z
          obtain rfl := bb_eq y.1
          refine va_newq (D := (dC, dI)) hx hb hown (hts _ (wdq_in y.2)) hO.2.2.2.2.2.2.2.2.1 hK q5 q6 q7 (fun _ z => z) hpos hcl (by omega) w4 w5 hdg (fun qa cA H1 z0 z1 z2 z3 => ?_)
          have e := tys_new (dC := dC) (dI := dI) 4 104 hK rfl (fun _ => ra_obj) z0
          subst e
          exact FIN qa _ H1 (Or.inr (Or.inr (Or.inr ⟨⟨Nat.le_of_ble_eq_true rfl, Nat.le_of_ble_eq_true rfl⟩, _, rfl, fun j v hv => ⟨ax_el_rep_lt hv, by rw [ax_el_rep hv]; rfl⟩⟩))) z1 z2 z3
        · have y := bb_and z
          obtain rfl := bb_eq y.1
          refine va_newq (D := (dC, dI)) hx hb hown (hts _ (wdq_in y.2)) hO.2.2.2.2.2.2.2.2.2.1 hK q5 q6 q7 (fun _ z => z) hpos hcl (by omega) w4 w5 hdg (fun qa cA H1 z0 z1 z2 z3 => ?_)
          have e := tys_new (dC := dC) (dI := dI) 5 105 hK rfl (fun _ => ra_obj) z0
          subst e
          exact FIN qa _ H1 (Or.inr (Or.inr (Or.inr ⟨⟨Nat.le_of_ble_eq_true rfl, Nat.le_of_ble_eq_true rfl⟩, _, rfl, fun j v hv => ⟨ax_el_rep_lt hv, by rw [ax_el_rep hv]; rfl⟩⟩))) z1 z2 z3

theorem sn_gets (hI : Snd sb mt dC dI dA sp H0 l ih) (hM : Mok mt M) (htl : ∀ x ∈ tl, x ∈ M.2.2.2.2.2.2) (hX : CX sb dC dI dA sp H0 ρ0 M p R s m args meth c) (hR : ∀ o ∈ outs, RO dC dI dA sp H0 l p e R s m args below meth c Q ρ0 ad0 M o) (hdg : decode M.2.1 pc = .ok (ins, len)) (hlen : len = ax_len ins) (hlk : lok mt M pc ins lk = true) (ho : ax_op ins = 56)
    (hr : lc lk (fun x _ => bif Nat.beq x 0 then ih M cut (pc + len) tl σ h nc ns lv ((0, 1) :: st) else ih M cut (pc + len) tl σ h nc ns lv ((7, 0) :: st)) = some outs) : GG dC dI dA sp H0 l p e R s m args below meth c Q ρ0 ad0 M.2.2.1 pc σ h nc ns lv st := by
  obtain ⟨x, lk1, rfl, hr1⟩ := lc_s hr
  obtain ⟨hx, hb, hml, hown, hts, hK, hlocks, hrt, hin, hRoom, hO⟩ := id hX
  intro ρ ad ws H locs ls LV ST q1 q2 q3 q4 q5 q6 q7 q8 q9 q10
  cases ins <;> first | (exact absurd ho (Nat.ne_of_beq_eq_false rfl)) | skip
  case getstatic idx =>
    subst hlen
    match lk1, hlk with
    | c1 :: j1 :: _, hlk =>
      have hl : (bif Nat.beq x 0 then wdq c1 j1 (.fieldLink M.1.cls idx sSTR "COMPACT_STRINGS" "Z") else wdq c1 j1 (.fieldLink M.1.cls idx sPRE "SIOOBE_FORMATTER" "Ljava/util/function/BiFunction;")) = true := hlk
      have hkp : ∀ a : Nat, a < H0.size → ¬ (aA H0) a → H[a]? = H0[a]? := fun a h1 h2 => q7.2.1 a h1 h2
      have GS : ∀ (C n d : String) (v : Value), va_Z C n d v (aA H0) s H0 → (Cond.fieldLink M.1.cls idx C n d).before args s = true → W p l e R s m args below meth c H locs nc ns Q (F0 m (pc + 3) ls (v :: ST)) → W p l e R s m args below meth c H locs nc ns Q (F0 m pc ls ST) := fun C n d v hZ hli KK => by
        obtain ⟨cf, kf, fi, f, a, cell, h1, h2, h3, h4, h5, h6, h7, h8⟩ := hZ.kept hkp
        exact W.gets hx hb hown hli h1 h2 h3 h4 h5 (fun e => by rw [e] at h6; cases h6) h7 rfl hdg KK
      cases hx0 : Nat.beq x 0 with
      | true =>
        rw [hx0] at hr1 hl
        exact GS _ _ _ _ hO.2.2.2.2.2.1 (hts _ (wdq_in hl)) ((hI p e _ s m args below meth c Q ρ0 ad0 M cut _ tl _ _ _ _ _ _ outs hM htl hX hr1 hR) ρ ad ws H locs ls LV (.int 1 :: ST) q1 q2 q3 q4 q5 q6 q7 q8 q9 ⟨by show Value.int 1 = Value.int (nI 1); rfl, q10⟩)
      | false =>
        rw [hx0] at hr1 hl
        rcases hO.2.2.2.2.2.2.1 with hz | ⟨tt, hz⟩
        · exact GS _ _ _ _ hz (hts _ (wdq_in hl)) ((hI p e _ s m args below meth c Q ρ0 ad0 M cut _ tl _ _ _ _ _ _ outs hM htl hX hr1 hR) ρ ad ws H locs ls LV (.null :: ST) q1 q2 q3 q4 q5 q6 q7 q8 q9 ⟨rfl, q10⟩)
        · exact GS _ _ _ _ hz (hts _ (wdq_in hl)) ((hI p e _ s m args below meth c Q ρ0 ad0 M cut _ tl _ _ _ _ _ _ outs hM htl hX hr1 hR) ρ ad ws H locs ls LV (.ref tt :: ST) q1 q2 q3 q4 q5 q6 q7 q8 q9 ⟨rfl, q10⟩)

end OPS
end
section
/-! THE ABSTRACT MACHINE, 14: switches -/

def ax_pr (k t : Nat) : List Nat → Prop
  | a :: b :: r => (a = k ∧ b = t) ∨ ax_pr k t r
  | _ => False
theorem ax_sk_pr {f : Nat → Nat → Bool} {k t : Nat} : ∀ (ks : List Nat), ax_sk f ks = true → ax_pr k t ks → f k t = true
  | [], _, h => h.elim
  | [_], _, h => h.elim
  | a :: b :: r, hs, h => by
    have w := bb_and (a := f a b) hs
    rcases h with ⟨rfl, rfl⟩ | h
    · exact w.1
    · exact ax_sk_pr r w.2 h
theorem ax_key_pr {k : Nat} : ∀ (ks : List Nat), ax_key k ks = true → ∃ t, ax_pr k t ks
  | [], h => by cases h
  | [_], h => by cases h
  | a :: b :: r, h => by
    rcases (Bool.or_eq_true _ _).mp h with z | z
    · exact ⟨b, Or.inl ⟨bb_eq z, rfl⟩⟩
    · obtain ⟨t, ht⟩ := ax_key_pr r z
      exact ⟨t, Or.inr ht⟩
theorem ax_sw_ok {sp : Nat → Nat} {ρ ad : List Nat} {v : AV} {x : Int32} (hv : Rp sp ρ ad v (.int x)) {go : Nat → AS → RS} {d : Nat} : ∀ (ks : List Nat) {σ : AS} {outs : List AO}, St ρ σ → ax_sw go v d ks σ = some outs →
    (∃ k t σ' o, ax_pr k t ks ∧ x = nI k ∧ go t σ' = some o ∧ St ρ σ' ∧ ∀ z ∈ o, z ∈ outs) ∨ ((∀ k t, ax_pr k t ks → ¬ x = nI k) ∧ ∃ σ' o, go d σ' = some o ∧ St ρ σ' ∧ ∀ z ∈ o, z ∈ outs)
  | [], σ, outs, hS, h => Or.inr ⟨fun _ _ h => h.elim, σ, outs, h, hS, fun _ h => h⟩
  | [_], σ, outs, hS, h => Or.inr ⟨fun _ _ h => h.elim, σ, outs, h, hS, fun _ h => h⟩
  | k :: t :: r, σ, outs, hS, h => by
    have h1 : ax_br (ax_eq σ v (0, k)) (go t) (ax_sw go v d r) = some outs := h
    obtain ⟨x', y, hx, hy, ht, hf⟩ := ax_br_eq hS hv (B := .int (nI k)) (b := (0, k)) (sp := sp) (ad := ad) rfl h1
    cases hx
    cases hy
    by_cases c1 : x = nI k
    · obtain ⟨σ', o, e1, e2, e3⟩ := ht c1
      exact Or.inl ⟨k, t, σ', o, Or.inl ⟨rfl, rfl⟩, c1, e1, e2, e3⟩
    · obtain ⟨σ', o, e1, e2, e3⟩ := hf c1
      rcases ax_sw_ok hv r e2 e1 with ⟨k', t', σ'', o', a1, a2, a3, a4, a5⟩ | ⟨a1, σ'', o', a3, a4, a5⟩
      · exact Or.inl ⟨k', t', σ'', o', Or.inr a1, a2, a3, a4, fun z hz => e3 z (a5 z hz)⟩
      · refine Or.inr ⟨fun k' t' hp => ?_, σ'', o', a3, a4, fun z hz => e3 z (a5 z hz)⟩
        rcases hp with ⟨rfl, rfl⟩ | hp
        · exact c1
        · exact a1 k' t' hp
theorem off_none {x : Int} {d : Int} : ∀ (l : List (Int × Int)), (∀ p ∈ l, ¬ p.1 = x) → Op.lookupswitch.offset l d x = d
  | [], _ => rfl
  | (a, o) :: r, h => by
    rw [Op.lookupswitch.offset_cons, if_neg (h (a, o) List.mem_cons_self)]
    exact off_none r (fun p hp => h p (List.mem_cons_of_mem _ hp))

section OPS
variable {sb : Nat → List Nat} {mt : Nat → Nat → Option MR} {dC : Nat → ClassId} {dI : Nat → Nat → Nat} {dA : Nat → ClassId} {sp : Nat → Nat} {H0 : Heap} {l : Launch}
variable {ih : GO} {p : Program} {e : Env} {R : Room} {s : State} {m : MethodId} {args : Array Value} {below : List Frame} {meth : Method} {c : Code} {Q : State → Prop} {ρ0 ad0 : List Nat} {M : MR} {cut pc len : Nat} {ins : Instr} {lk : List Nat} {cd tl : List ME} {σ : AS} {h : AH} {nc ns : Nat} {lv : AL} {st : List AV} {outs : List AO}

theorem sn_table (hI : Snd sb mt dC dI dA sp H0 l ih) (hM : Mok mt M) (htl : ∀ x ∈ tl, x ∈ M.2.2.2.2.2.2) (hX : CX sb dC dI dA sp H0 ρ0 M p R s m args meth c) (hR : ∀ o ∈ outs, RO dC dI dA sp H0 l p e R s m args below meth c Q ρ0 ad0 M o) (hdg : decode M.2.1 pc = .ok (ins, len)) (hlk : lok mt M pc ins lk = true) (ho : ax_op ins = 57)
    (hr : lc st (fun v r => lc lk (fun d lk => lc lk (fun lo lk => lc lk (fun hi ks =>
      ax_br (ax_lt σ v (0, lo)) (fun σ' => ih M cut d (ax_jmp M.2.2.2.2.2.2 d) σ' h nc ns lv r) (fun σ1 => ax_br (ax_lt σ1 (0, hi) v) (fun σ' => ih M cut d (ax_jmp M.2.2.2.2.2.2 d) σ' h nc ns lv r) (ax_sw (fun t σ' => ih M cut t (ax_jmp M.2.2.2.2.2.2 t) σ' h nc ns lv r) v d ks)))))) = some outs) : GG dC dI dA sp H0 l p e R s m args below meth c Q ρ0 ad0 M.2.2.1 pc σ h nc ns lv st := by
  obtain ⟨v, r, rfl, hr1⟩ := lc_s hr
  obtain ⟨d, lk1, rfl, hr2⟩ := lc_s hr1
  obtain ⟨lo, lk2, rfl, hr3⟩ := lc_s hr2
  obtain ⟨hi, ks, rfl, hr4⟩ := lc_s hr3
  obtain ⟨hx, hb, hml, hown, hts, hK, hlocks, hrt, hin, hRoom, hO⟩ := id hX
  intro ρ ad ws H locs ls LV ST q1 q2 q3 q4 q5 q6 q7 q8 q9 q10
  obtain ⟨A, ST2, rfl, hA, q12⟩ := q10.cons
  cases ins <;> first | (exact absurd ho (Nat.ne_of_beq_eq_false rfl)) | skip
  case tableswitch d0 lo0 hi0 offs =>
    have hl : (decide ((pc : Int) + d0 = (d : Int)) && (decide ((nI lo).toInt = lo0) && (decide ((nI hi).toInt = hi0) && (Nat.blt lo 4294967296 && (Nat.blt hi 4294967296 && (ax_sk (fun k t => Nat.blt k 4294967296 && match offs[((nI k).toInt - lo0).toNat]? with
        | some o => decide ((pc : Int) + o = (t : Int)) && (decide (lo0 ≤ (nI k).toInt) && decide ((nI k).toInt ≤ hi0))
        | none => false) ks && (List.range (hi0 - lo0 + 1).toNat).all (fun i => ax_key ((lo0 + i).toNat) ks && decide (0 ≤ lo0)))))))) = true := hlk
    have u1 := bb_and hl
    have u2 := bb_and u1.2
    have u3 := bb_and u2.2
    have u4 := bb_and u3.2
    have u5 := bb_and u4.2
    have u6 := bb_and u5.2
    have hd : (pc : Int) + d0 = (d : Int) := of_decide_eq_true u1.1
    have hlo : (nI lo).toInt = lo0 := of_decide_eq_true u2.1
    have hhi : (nI hi).toInt = hi0 := of_decide_eq_true u3.1
    have GOK : ∀ (t : Nat) (σ' : AS) (o : List AO), ih M cut t (ax_jmp M.2.2.2.2.2.2 t) σ' h nc ns lv r = some o → St ρ σ' → (∀ z ∈ o, z ∈ outs) → W p l e R s m args below meth c H locs nc ns Q (F0 m t ls ST2) := fun t σ' o e1 e2 e3 =>
      (hI p e R s m args below meth c Q ρ0 ad0 M cut _ _ _ _ _ _ _ _ o hM (ax_jmp_in _ _) hX e1 (fun z hz => hR z (e3 z hz))) ρ ad ws H locs ls LV ST2 q1 q2 e2 q4 q5 q6 q7 q8 q9 q12
    obtain ⟨x, y, rfl, hy, ht, hf⟩ := ax_br_lt q3 hA (B := .int (nI lo)) (b := (0, lo)) rfl hr4
    cases hy
    by_cases c1 : x < nI lo
    · obtain ⟨σ', o, e1, e2, e3⟩ := ht c1
      rw [Int32.lt_iff_toInt_lt] at c1
      exact lv_tableOut hx hb hdg (Or.inl (by omega)) hd (GOK _ _ _ e1 e2 e3)
    · obtain ⟨σ1, o1, e1, e2, e3⟩ := hf c1
      obtain ⟨y, x', hy, hx', ht2, hf2⟩ := ax_br_lt e2 (A := .int (nI hi)) (a := (0, hi)) rfl hA e1
      cases hy
      cases hx'
      by_cases c2 : nI hi < x
      · obtain ⟨σ', o, e4, e5, e6⟩ := ht2 c2
        rw [Int32.lt_iff_toInt_lt] at c2
        exact lv_tableOut hx hb hdg (Or.inr (by omega)) hd (GOK _ _ _ e4 e5 (fun z hz => e3 z (e6 z hz)))
      · obtain ⟨σ', o, e4, e5, e6⟩ := hf2 c2
        rw [Int32.lt_iff_toInt_lt] at c1 c2
        rcases ax_sw_ok hA ks e5 e4 with ⟨k, t, σ'', o', a1, a2, a3, a4, a5⟩ | ⟨a1, -⟩
        · have z := ax_sk_pr ks u6.1 a1
          have z2 := (bb_and (a := Nat.blt k 4294967296) z).2
          rw [← a2] at z2
          cases ho2 : offs[(x.toInt - lo0).toNat]? with
          | none => rw [ho2] at z2; cases z2
          | some off =>
            rw [ho2] at z2
            have z3 := bb_and (a := decide ((pc : Int) + off = (t : Int))) z2
            exact lv_tableIn hx hb hdg (by omega) (by omega) ho2 (of_decide_eq_true z3.1) (GOK _ _ _ a3 a4 (fun z hz => e3 z (e6 z (a5 z hz))))
        · exfalso
          have z := List.all_eq_true.mp u6.2 (x.toInt - lo0).toNat (List.mem_range.mpr (by omega))
          have z2 := bb_and (a := ax_key ((lo0 + ((x.toInt - lo0).toNat : Nat)).toNat) ks) z
          have z3 : 0 ≤ lo0 := of_decide_eq_true z2.2
          obtain ⟨t, hp⟩ := ax_key_pr ks z2.1
          refine a1 _ t hp ?_
          apply Int32.toInt_inj.mp
          have hr := i32_rng x
          rw [nI_toInt (by omega)]
          omega

theorem sn_look (hI : Snd sb mt dC dI dA sp H0 l ih) (hM : Mok mt M) (htl : ∀ x ∈ tl, x ∈ M.2.2.2.2.2.2) (hX : CX sb dC dI dA sp H0 ρ0 M p R s m args meth c) (hR : ∀ o ∈ outs, RO dC dI dA sp H0 l p e R s m args below meth c Q ρ0 ad0 M o) (hdg : decode M.2.1 pc = .ok (ins, len)) (hlk : lok mt M pc ins lk = true) (ho : ax_op ins = 58)
    (hkn : ∀ d ks, lk = d :: ks → ks ≠ [])
    (hr : lc st (fun v r => lc lk (fun d lk => ax_sw (fun t σ' => ih M cut t (ax_jmp M.2.2.2.2.2.2 t) σ' h nc ns lv r) v d lk σ)) = some outs) : GG dC dI dA sp H0 l p e R s m args below meth c Q ρ0 ad0 M.2.2.1 pc σ h nc ns lv st := by
  obtain ⟨v, r, rfl, hr1⟩ := lc_s hr
  obtain ⟨d, ks, rfl, hr2⟩ := lc_s hr1
  obtain ⟨hx, hb, hml, hown, hts, hK, hlocks, hrt, hin, hRoom, hO⟩ := id hX
  intro ρ ad ws H locs ls LV ST q1 q2 q3 q4 q5 q6 q7 q8 q9 q10
  obtain ⟨A, ST2, rfl, hA, q12⟩ := q10.cons
  cases ins <;> first | (exact absurd ho (Nat.ne_of_beq_eq_false rfl)) | skip
  case lookupswitch d0 ps =>
    have hl : (decide ((pc : Int) + d0 = (d : Int)) && ((ps.toList.zip (ps.toList.drop 1)).all (fun (a, next) => a.1 < next.1) && (ax_sk (fun k t => Nat.blt k 4294967296 && decide ((pc : Int) + Op.lookupswitch.offset ps.toList d0 (nI k).toInt = (t : Int))) ks && ps.toList.all (fun p => decide (0 ≤ p.1 ∧ p.1 < 2147483648) && ax_key p.1.toNat ks)))) = true := hlk
    have u1 := bb_and hl
    have u2 := bb_and u1.2
    have u3 := bb_and u2.2
    have hd : (pc : Int) + d0 = (d : Int) := of_decide_eq_true u1.1
    have hne : ks = [] → False := hkn d ks rfl
    have GOK : ∀ (t : Nat) (σ' : AS) (o : List AO), ih M cut t (ax_jmp M.2.2.2.2.2.2 t) σ' h nc ns lv r = some o → St ρ σ' → (∀ z ∈ o, z ∈ outs) → W p l e R s m args below meth c H locs nc ns Q (F0 m t ls ST2) := fun t σ' o e1 e2 e3 =>
      (hI p e R s m args below meth c Q ρ0 ad0 M cut _ _ _ _ _ _ _ _ o hM (ax_jmp_in _ _) hX e1 (fun z hz => hR z (e3 z hz))) ρ ad ws H locs ls LV ST2 q1 q2 e2 q4 q5 q6 q7 q8 q9 q12
    have hint : ∃ x : Int32, A = .int x := by
      cases ks with
      | nil => exact (hne rfl).elim
      | cons k ks1 =>
        cases ks1 with
        | nil => cases u3.1
        | cons t ks2 =>
          have h1 : ax_br (ax_eq σ v (0, k)) (fun σ' => ih M cut t (ax_jmp M.2.2.2.2.2.2 t) σ' h nc ns lv r) (ax_sw (fun t σ' => ih M cut t (ax_jmp M.2.2.2.2.2.2 t) σ' h nc ns lv r) v d ks2) = some outs := hr2
          obtain ⟨x, y, hx, -⟩ := ax_br_eq q3 hA (B := .int (nI k)) (b := (0, k)) rfl h1
          exact ⟨x, hx⟩
    obtain ⟨x, rfl⟩ := hint
    rcases ax_sw_ok hA ks q3 hr2 with ⟨k, t, σ'', o', a1, a2, a3, a4, a5⟩ | ⟨a1, σ'', o', a3, a4, a5⟩
    · have z := (bb_and (a := Nat.blt k 4294967296) (ax_sk_pr ks u3.1 a1)).2
      rw [← a2] at z
      exact lv_lookup hx hb hdg u2.1 rfl (of_decide_eq_true z) (GOK _ _ _ a3 a4 a5)
    · refine lv_lookup hx hb hdg u2.1 (off_none _ (fun p hp hpx => ?_)) hd (GOK _ _ _ a3 a4 a5)
      have z := bb_and (a := decide (0 ≤ p.1 ∧ p.1 < 2147483648)) (List.all_eq_true.mp u3.2 p hp)
      have z1 : 0 ≤ p.1 ∧ p.1 < 2147483648 := of_decide_eq_true z.1
      obtain ⟨t, hp2⟩ := ax_key_pr ks z.2
      refine a1 _ t hp2 ?_
      apply Int32.toInt_inj.mp
      rw [nI_toInt (by omega)]
      omega

end OPS
end
section
/-! THE ABSTRACT MACHINE, 15: calls -/

theorem ax_args_ok : ∀ (n : Nat) {st acc as rest : List AV}, ax_args n st acc = some (as, rest) → ∃ u, as = u ++ acc ∧ st = u.reverse ++ rest ∧ u.length = n
  | 0, st, acc, as, rest, h => by
    have h : some (acc, st) = some (as, rest) := h
    cases h
    exact ⟨[], rfl, rfl, rfl⟩
  | n + 1, st, acc, as, rest, h => by
    cases st with
    | nil => cases h
    | cons v r =>
      have h : ax_args n r (v :: acc) = some (as, rest) := h
      obtain ⟨u, e1, e2, e3⟩ := ax_args_ok n h
      exact ⟨u ++ [v], by rw [e1]; simp, by rw [e2]; simp, by simp [e3]⟩
theorem Rs.split {sp : Nat → Nat} {ρ ad : List Nat} : ∀ {a b : List AV} {S : List Value}, Rs sp ρ ad (a ++ b) S → ∃ A B, S = A ++ B ∧ Rs sp ρ ad a A ∧ Rs sp ρ ad b B
  | [], b, S, h => ⟨[], S, rfl, trivial, h⟩
  | v :: r, b, S, h => by
    obtain ⟨V, R, rfl, h1, h2⟩ := Rs.cons (v := v) (r := r ++ b) h
    obtain ⟨A, B, rfl, h3, h4⟩ := Rs.split h2
    exact ⟨V :: A, B, rfl, ⟨h1, h3⟩, h4⟩
theorem Rs.rev {sp : Nat → Nat} {ρ ad : List Nat} : ∀ {a : List AV} {S : List Value}, Rs sp ρ ad a S → Rs sp ρ ad a.reverse S.reverse
  | [], [], _ => trivial
  | v :: r, V :: R, h => by
    rw [List.reverse_cons, List.reverse_cons]
    exact (Rs.rev h.2).app ⟨h.1, trivial⟩
theorem Rs.len {sp : Nat → Nat} {ρ ad : List Nat} : ∀ {a : List AV} {S : List Value}, Rs sp ρ ad a S → S.length = a.length
  | [], [], _ => rfl
  | _ :: _, _ :: _, h => by rw [List.length_cons, List.length_cons, Rs.len h.2]

section OPS
variable {sb : Nat → List Nat} {mt : Nat → Nat → Option MR} {dC : Nat → ClassId} {dI : Nat → Nat → Nat} {dA : Nat → ClassId} {sp : Nat → Nat} {H0 : Heap} {l : Launch}
variable {ih : GO} {p : Program} {e : Env} {R : Room} {s : State} {m : MethodId} {args : Array Value} {below : List Frame} {meth : Method} {c : Code} {Q : State → Prop} {ρ0 ad0 : List Nat} {M : MR} {cut pc len : Nat} {ins : Instr} {lk : List Nat} {cd tl : List ME} {σ : AS} {h : AH} {nc ns : Nat} {lv : AL} {st : List AV} {outs : List AO}

/-- what is asked of a callee's start, what its end gives -/
def cP (sb : Nat → List Nat) (dC : Nat → ClassId) (dI : Nat → Nat → Nat) (dA : Nat → ClassId) (sp : Nat → Nat) (H0 : Heap) (ρ ad : List Nat) (h : AH) (U : State) : Prop := ∃ ws, Hr sp dA ρ ad h ws ∧ va_P (dC, dI) vwCl ws U.heap ∧ va_D (aA H0) ws ∧ va_S (aA H0) H0 U.heap [] ∧ va_K (dC, dI) vwCl (ax_tys dA) U ∧ OX sp sb H0 ρ U
def cQ (dC : Nat → ClassId) (dI : Nat → Nat → Nat) (dA : Nat → ClassId) (sp : Nat → Nat) (H0 : Heap) (ρ ad : List Nat) (outs : List AO) : Array Value → State → Outcome → State → Prop := fun _ _ oc t => ∃ o ∈ outs, ∃ (ρ' ad' : List Nat) (ws : va_W) (RV : List Value), Sb ρ ρ' ∧ Sb ad ad' ∧ St ρ' o.1 ∧ Hr sp dA ρ' ad' o.2.1 ws ∧ va_P (dC, dI) vwCl ws t.heap ∧ va_D (aA H0) ws ∧ va_S (aA H0) H0 t.heap [] ∧ Rs sp ρ' ad' o.2.2.2.2.2.2.2 RV ∧ oc = .returned RV.head? ∧ RV.length ≤ 1
theorem cP.blind {ρ ad : List Nat} {av : List Value} : FrameBlind (va_Pc av (cP sb dC dI dA sp H0 ρ ad h)) := fun a U g mk q => by
  obtain ⟨q0, ws, q1, q2, q3, q4, q5, q6⟩ := q
  exact ⟨q0, ws, q1, q2, q3, q4, va_K.moved (u := U) (U := U.calling g mk a) (Vm.Alike.refl U.vm) q5, OX.warm (U := U.calling g mk a) (State.WarmedH.refl U) (Sb.rf ρ) q6⟩
set_option maxHeartbeats 1000000 in
theorem met_call (hI : Snd sb mt dC dI dA sp H0 l ih) {C : MR} (hM : Mok mt C) (hC : Mcw C) {ρ ad : List Nat} (hS : St ρ σ) {as : List AV} {av : List Value} (has : Rs sp ρ ad as av) (hwt : ax_wt as ≤ C.2.2.1) (hr : ih C 999999 0 C.2.2.2.2.2.2 σ h 0 0 (ax_locs 0 as) [] = some outs) (hop : outs.all (fun o => Nat.ble o.2.2.2.2.2.1 25) = true) :
    Met l C.1 (Cond.code C.1 C.2.1 C.2.2.1 C.2.2.2.1 :: GW) C.2.2.2.2.1 (va_Pc av (cP sb dC dI dA sp H0 ρ ad h)) (cQ dC dI dA sp H0 ρ ad outs) C.2.2.2.2.1.cells C.2.2.2.2.1.slots (aA H0) := by
  refine Met.ofW (cc := C.2.1) (maxL := C.2.2.1) (ret := C.2.2.2.1) hC.2 rfl ?_
  intro p e s m args below meth c s₁ B hml hv
  obtain ⟨rfl, ws, q1, q2, q3, q4, q5, q6⟩ := hv
  have hx := B.exec
  have hb := B.bytes
  have hrt := B.returns
  have hts := atoms_spec (ws := Cond.code C.1 C.2.1 C.2.2.1 C.2.2.2.1 :: GW) B.pre
  have hown : s.vm.findClass C.1.cls = some m.cls := findClass_of_methodNamed B.named
  have hlocks := B.notSynchronized
  have hin : meth.name = C.1.name := (name_of_methodNamed B.named B.method).1
  have hX : CX sb dC dI dA sp H0 ρ C p C.2.2.2.2.1 s m av.toArray meth c := ⟨hx, hb, hml, hown, fun w hw => hts w (List.mem_cons_of_mem _ hw), q5, hlocks, hrt, fun z => hin.trans z, rfl, q6⟩
  have hle : (lg_sl av).length ≤ C.2.2.1 := by rw [lg_len, has.wt]; exact hwt
  have hl := lv_entry av hle
  rw [lg_entry_eq]
  generalize (lg_sl av ++ List.replicate (C.2.2.1 - (lg_sl av).length) Slot.unset).toArray = ls at hl ⊢
  refine hI p e C.2.2.2.2.1 s m av.toArray below meth c _ ρ ad C 999999 0 _ _ _ _ _ _ _ outs hM (fun x hx => hx) hX hr (fun o ho hcond => ?_) ρ ad ws s.heap [] ls (lv_args 0 av) [] (Sb.rf ρ) (Sb.rf ad) hS q1 q2 q3 q4 (Rl.locs 0 has) hl trivial
  have hop1 := bb_le (List.all_eq_true.mp hop o ho)
  rcases hcond with h99 | ⟨ins, ho1, hdg, hrok, hc1, hc2⟩
  · omega
  · intro ρ' ad' ws' H locs ls' LV ST z1 z2 z3 z4 z5 z6 z7 z8 z9 z10
    have QOK : ∀ (RV : List Value), Rs sp ρ' ad' o.2.2.2.2.2.2.2 RV → RV.length ≤ 1 → ∀ t : State, t.heap = H → s.WarmedH t.vm → cQ dC dI dA sp H0 ρ ad outs av.toArray s (.returned RV.head?) t := fun RV hRV hl1 t ht hW =>
      ⟨o, ho, ρ', ad', ws', RV, z1, z2, z3, z4, by rw [ht]; exact z5, z6, by rw [ht]; exact ⟨z7.1, z7.2.1, fun _ h => by cases h⟩, hRV, rfl, hl1⟩
    refine W.widen (k := C.2.2.2.2.1.cells) (n := C.2.2.2.2.1.slots) hc1 hc2 ?_
    unfold ax_rok at hrok
    have hins : ins = .ireturn ∨ ins = .lreturn ∨ ins = .areturn ∨ ins = .return_ := by
      cases ins <;> first | exact Or.inl rfl | exact Or.inr (Or.inl rfl) | exact Or.inr (Or.inr (Or.inl rfl)) | exact Or.inr (Or.inr (Or.inr rfl)) | (rw [← ho1] at hrok; cases hrok; done)
    rcases hins with rfl | rfl | rfl | rfl
    · rw [← ho1] at hrok
      generalize hst : o.2.2.2.2.2.2.2 = sto at hrok z10 QOK
      match sto, hrok with
      | [v], hrok =>
        obtain ⟨V, ST1, rfl, hV, q11⟩ := Rs.cons z10
        obtain rfl := Rs.nil q11
        have hrok : (match C.2.2.2.1 with | some .int => ax_tI v | some .boolean => Nat.beq v.1 0 && Nat.ble v.2 1 | some .byte => Nat.beq v.1 0 && Nat.ble v.2 1 | some .char => Nat.beq v.1 0 && Nat.ble v.2 65535 | _ => false) = true := hrok
        cases hty : C.2.2.2.1 with
        | none => rw [hty] at hrok; cases hrok
        | some ty =>
          rw [hty] at hrok hrt
          cases ty <;> first | (cases hrok; done) | skip
          case int =>
            obtain ⟨x, rfl⟩ := hV.tI hrok
            exact W.iret hx hb hrt (fun t ht hW => QOK [.int x] ⟨hV, trivial⟩ (Nat.le_refl 1) t ht hW) z7.2.2 hdg hlocks
          case boolean =>
            have w := bb_and (a := Nat.beq v.1 0) hrok
            have w2 := bb_le w.2
            rw [tg w.1] at hV
            have hV' : V = .int (nI v.2) := hV
            subst hV'
            have hn : narrow .boolean (.int (nI v.2)) = .int (nI v.2) := by
              rcases (show v.2 = 0 ∨ v.2 = 1 by omega) with e | e <;> rw [e] <;> decide +kernel
            exact W.zret hx hb hrt hn (fun t ht hW => QOK [.int (nI v.2)] ⟨by rw [tg w.1]; exact rfl, trivial⟩ (Nat.le_refl 1) t ht hW) z7.2.2 hdg hlocks
          case byte =>
            have w := bb_and (a := Nat.beq v.1 0) hrok
            have w2 := bb_le w.2
            rw [tg w.1] at hV
            have hV' : V = .int (nI v.2) := hV
            subst hV'
            have hn : narrow .byte (.int (nI v.2)) = .int (nI v.2) := by
              rcases (show v.2 = 0 ∨ v.2 = 1 by omega) with e | e <;> rw [e] <;> decide +kernel
            exact W.zret hx hb hrt hn (fun t ht hW => QOK [.int (nI v.2)] ⟨by rw [tg w.1]; exact rfl, trivial⟩ (Nat.le_refl 1) t ht hW) z7.2.2 hdg hlocks
          case char =>
            have w := bb_and (a := Nat.beq v.1 0) hrok
            have w2 := bb_le w.2
            rw [tg w.1] at hV
            have hV' : V = .int (nI v.2) := hV
            subst hV'
            exact W.zret hx hb hrt (pk_charN (by omega)).1 (fun t ht hW => QOK [.int (nI v.2)] ⟨by rw [tg w.1]; exact rfl, trivial⟩ (Nat.le_refl 1) t ht hW) z7.2.2 hdg hlocks
    · rw [← ho1] at hrok
      generalize hst : o.2.2.2.2.2.2.2 = sto at hrok z10 QOK
      match sto, hrok with
      | [v], hrok =>
        obtain ⟨V, ST1, rfl, hV, q11⟩ := Rs.cons z10
        obtain rfl := Rs.nil q11
        have hrok : (match C.2.2.2.1 with | some .long => ax_tL v | _ => false) = true := hrok
        cases hty : C.2.2.2.1 with
        | none => rw [hty] at hrok; cases hrok
        | some ty =>
          rw [hty] at hrok hrt
          cases ty <;> first | (cases hrok; done) | skip
          case long =>
            obtain ⟨x, rfl⟩ := hV.tL hrok
            exact W.lret hx hb hrt (fun t ht hW => QOK [.long x] ⟨hV, trivial⟩ (Nat.le_refl 1) t ht hW) z7.2.2 hdg hlocks
    · rw [← ho1] at hrok
      generalize hst : o.2.2.2.2.2.2.2 = sto at hrok z10 QOK
      match sto, hrok with
      | [v], hrok =>
        obtain ⟨V, ST1, rfl, hV, q11⟩ := Rs.cons z10
        obtain rfl := Rs.nil q11
        have hrok : (match C.2.2.2.1 with | some (.object _) => Nat.beq v.1 2 | _ => false) = true := hrok
        cases hty : C.2.2.2.1 with
        | none => rw [hty] at hrok; cases hrok
        | some ty =>
          rw [hty] at hrok hrt
          cases ty <;> first | (cases hrok; done) | skip
          case object nm =>
            have hV2 := hV
            rw [tg (v := v) (t := 2) hrok] at hV2
            obtain ⟨a, -, rfl⟩ := hV2
            exact W.aret hx hb hrt (Or.inl ⟨nm, rfl⟩) (Or.inr ⟨a, rfl⟩) (fun t ht hW => QOK [.ref a] ⟨hV, trivial⟩ (Nat.le_refl 1) t ht hW) z7.2.2 hdg hlocks
    · rw [← ho1] at hrok
      generalize hst : o.2.2.2.2.2.2.2 = sto at hrok z10 QOK
      match sto, hrok with
      | [], hrok =>
        obtain rfl := Rs.nil z10
        have hrok : (match C.2.2.2.1 with | none => true | _ => false) = true := hrok
        cases hty : C.2.2.2.1 with
        | some ty => rw [hty] at hrok; cases hrok
        | none =>
          rw [hty] at hrt
          exact W.vret hx hb hrt (fun t ht hW => QOK [] trivial (Nat.zero_le 1) t ht hW) z7.2.2 hdg hlocks
/-- behind a call -/
theorem run_go {ρ ad : List Nat} {outs0 : List AO} {H : Heap} {locs : List Loc} {ls : Array Slot} {ST RS : List Value} {mc ms : Nat} {a : Array Value} (hr : va_Run p l e R s m args below meth c H locs nc ns mc ms (F0 m pc ls ST) RS (cQ dC dI dA sp H0 ρ ad outs0 a) (aA H0)) (hS : va_S (aA H0) H0 H locs)
    (kk : ∀ o ∈ outs0, ∀ (ρ' ad' : List Nat) (ws : va_W) (RV : List Value) (H1 : Heap) (locs1 : List Loc), Sb ρ ρ' → Sb ad ad' → St ρ' o.1 → Hr sp dA ρ' ad' o.2.1 ws → va_P (dC, dI) vwCl ws H1 → va_D (aA H0) ws → va_S (aA H0) H0 H1 locs1 → Rs sp ρ' ad' o.2.2.2.2.2.2.2 RV → W p l e R s m args below meth c H1 locs1 (nc + mc) (ns + ms) Q (F0 m (pc + 3) ls (RV ++ RS))) : W p l e R s m args below meth c H locs nc ns Q (F0 m pc ls ST) := by
  intro T hT X
  obtain ⟨v, st₀, t, T', L, h0, X', hL, e1, e2, ⟨o, ho, ρ', ad', ws, RV, k1, k2, k3, k4, k5, k6, k7, k8, k9, k10⟩, st⟩ := hr T hT X
  have hv : v.toList = RV := by
    have : v = RV.head? := by cases k9; rfl
    rw [this]
    match RV, k10 with
    | [], _ => rfl
    | [_], _ => rfl
  obtain ⟨t2, a1, b1⟩ := kk o ho ρ' ad' ws RV T'.heap (locs ++ L) k1 k2 k3 k4 (by rw [e1]; exact k5) k6 ⟨by rw [e1]; exact k7.1, by rw [e1]; exact k7.2.1, fun q hq => by
    rcases List.mem_append.mp hq with h | h
    · exact hS.2.2 q h
    · exact hL q h⟩ k8 T' rfl X'
  exact ⟨t2, st t2 (by rw [hv]; exact a1), b1⟩

theorem ax_mn_ok {ρ ad : List Nat} (hS : St ρ σ) {a b : AV} {A B : Value} (ha : Rp sp ρ ad a A) (hb : Rp sp ρ ad b B) {β : Type} {k : AS → AV → Option β} {r : β} (h : ax_mn σ a b k = some r) :
    ∃ (x y : Int32) (σ' : AS) (v : AV) (ρ' : List Nat), A = .int x ∧ B = .int y ∧ k σ' v = some r ∧ Sb ρ ρ' ∧ St ρ' σ' ∧ Rp sp ρ' ad v (.int (if y < x then y else x)) := by
  unfold ax_mn at h
  obtain ⟨ra, ea, h1⟩ := ob_s h
  obtain ⟨rb, eb, h2⟩ := ob_s h1
  obtain ⟨x, hx, x1, x2, x3⟩ := ax_rI_ok hS ha ea
  obtain ⟨y, hy, y1, y2, y3⟩ := ax_rI_ok hS hb eb
  subst hx
  subst hy
  cases hc : (Nat.beq ra.1 ra.2 && Nat.beq rb.1 rb.2) with
  | true =>
    rw [hc] at h2
    have w := bb_and hc
    have w1 := bb_eq w.1
    have w2 := bb_eq w.2
    cases hd : Nat.blt rb.1 ra.1 with
    | true =>
      have h2 : (bif Nat.blt rb.1 ra.1 then k σ b else k σ a) = some r := h2
      rw [hd] at h2
      have := bb_lt hd
      exact ⟨x, y, σ, b, ρ, rfl, rfl, h2, Sb.rf ρ, hS, by rw [if_pos (by rw [lt_zI]; omega)]; exact hb⟩
    | false =>
      have h2 : (bif Nat.blt rb.1 ra.1 then k σ b else k σ a) = some r := h2
      rw [hd] at h2
      have := bb_nlt hd
      exact ⟨x, y, σ, a, ρ, rfl, rfl, h2, Sb.rf ρ, hS, by rw [if_neg (by rw [lt_zI]; omega)]; exact ha⟩
  | false =>
    rw [hc] at h2
    have hm : (min ra.1 rb.1 : Nat) ≤ zI (if y < x then y else x) ∧ zI (if y < x then y else x) ≤ min ra.2 rb.2 := by
      by_cases c1 : y < x
      · rw [if_pos c1]; rw [lt_zI] at c1; omega
      · rw [if_neg c1]; rw [lt_zI] at c1; omega
    have hn := nwI (sp := sp) (ad := ad) hS (if y < x then y else x) (q := (min ra.1 rb.1, min ra.2 rb.2)) hm.1 hm.2
    exact ⟨x, y, _, _, _, rfl, rfl, h2, hn.1, hn.2.1, hn.2.2⟩

end OPS
end
section
/-! THE ABSTRACT MACHINE, 16: calls, each kind -/
section OPS
variable {sb : Nat → List Nat} {mt : Nat → Nat → Option MR} {dC : Nat → ClassId} {dI : Nat → Nat → Nat} {dA : Nat → ClassId} {sp : Nat → Nat} {H0 : Heap} {l : Launch}
variable {ih : GO} {p : Program} {e : Env} {R : Room} {s : State} {m : MethodId} {args : Array Value} {below : List Frame} {meth : Method} {c : Code} {Q : State → Prop} {ρ0 ad0 : List Nat} {M : MR} {cut pc len : Nat} {ins : Instr} {lk : List Nat} {cd tl : List ME} {σ : AS} {h : AH} {nc ns : Nat} {lv : AL} {st : List AV} {outs : List AO}

theorem sn_obj (hI : Snd sb mt dC dI dA sp H0 l ih) (hM : Mok mt M) (htl : ∀ x ∈ tl, x ∈ M.2.2.2.2.2.2) (hX : CX sb dC dI dA sp H0 ρ0 M p R s m args meth c) (hR : ∀ o ∈ outs, RO dC dI dA sp H0 l p e R s m args below meth c Q ρ0 ad0 M o) (hdg : decode M.2.1 pc = .ok (ins, len)) (hlen : len = ax_len ins) (hlk : lok mt M pc ins (900 :: lk) = true) (ho : ax_op ins = 21)
    (hr : lc st (fun a r => gd (Nat.beq a.1 2 && (Nat.ble 1 M.2.2.2.2.1.frames && Nat.ble (ax_wt r + 12) M.2.2.2.2.1.locals)) (ih M cut (pc + len) tl σ h nc ns lv r)) = some outs) : GG dC dI dA sp H0 l p e R s m args below meth c Q ρ0 ad0 M.2.2.1 pc σ h nc ns lv st := by
  obtain ⟨a, r, rfl, hr1⟩ := lc_s hr
  obtain ⟨g1, hr2⟩ := gd_s hr1
  obtain ⟨hx, hb, hml, hown, hts, hK, hlocks, hrt, hin, hRoom, hO⟩ := id hX
  intro ρ ad ws H locs ls LV ST q1 q2 q3 q4 q5 q6 q7 q8 q9 q10
  obtain ⟨A, ST2, rfl, hA, q12⟩ := q10.cons
  have w := bb_and g1
  have w2 := bb_and w.2
  rw [tg w.1] at hA
  obtain ⟨a0, -, rfl⟩ := hA
  subst hRoom
  cases ins <;> first | (exact absurd ho (Nat.ne_of_beq_eq_false rfl)) | skip
  case invokevirtual idx =>
    match lk, hlk with
    | b :: kc :: ci :: m1 :: m2 :: i1 :: i2 :: s1 :: s2 :: n1 :: n2 :: _, hlk =>
      exfalso
      have hl := hlk
      unfold lok at hl
      cases hC : mt 900 b with
      | none => simp [hC] at hl
      | some C => simp [hC] at hl
  case invokestatic idx =>
    match lk, hlk with
    | b :: kc :: ci :: m1 :: m2 :: i1 :: i2 :: n1 :: n2 :: ne :: _, hlk =>
      exfalso
      have hl := hlk
      unfold lok at hl
      cases hC : mt 900 b with
      | none => simp [hC] at hl
      | some C => simp [hC] at hl
  case invokespecial idx =>
    match lk, hlk with
    | m1 :: m2 :: i1 :: i2 :: c1 :: c2 :: _, hlk =>
      have hl : (wdq m1 m2 (.methodLink M.1.cls idx objectInit) && (wdq i1 i2 (.instanceMethod objectInit) && wdq c1 c2 (.code objectInit ⟨#[0xb1]⟩ 1 none))) = true := hlk
      have u := bb_and hl
      have u2 := bb_and u.2
      subst hlen
      exact W.objInit hx hb hown (hts _ (wdq_in u.1)) (hts _ (wdq_in u2.1)) (hts _ (wdq_in u2.2)) rfl (by rw [hml]; exact q9.1) rfl hdg (bb_le w2.1) (by show 2 * 0 + _ + 12 ≤ _; rw [q12.wt]; have := bb_le w2.2; omega) ((hI p e _ s m args below meth c Q ρ0 ad0 M cut _ tl _ _ _ _ _ _ outs hM htl hX hr2 hR) ρ ad ws H locs ls LV ST2 q1 q2 q3 q4 q5 q6 q7 q8 q9 q12)

theorem sn_copy (hI : Snd sb mt dC dI dA sp H0 l ih) (hM : Mok mt M) (htl : ∀ x ∈ tl, x ∈ M.2.2.2.2.2.2) (hX : CX sb dC dI dA sp H0 ρ0 M p R s m args meth c) (hR : ∀ o ∈ outs, RO dC dI dA sp H0 l p e R s m args below meth c Q ρ0 ad0 M o) (hdg : decode M.2.1 pc = .ok (ins, len)) (hlen : len = ax_len ins) (hlk : lok mt M pc ins (901 :: lk) = true) (ho : ax_op ins = 21)
    (hr : gd (Nat.ble 1 M.2.2.2.2.1.frames && (Nat.ble 60 M.2.2.2.2.1.locals && Nat.ble (ax_wt st) 20)) (ax_copy σ h st (fun h' r => ih M cut (pc + len) tl σ h' nc ns lv r)) = some outs) : GG dC dI dA sp H0 l p e R s m args below meth c Q ρ0 ad0 M.2.2.1 pc σ h nc ns lv st := by
  obtain ⟨g1, hr1⟩ := gd_s hr
  unfold ax_copy at hr1
  obtain ⟨n, st1, rfl, hr2⟩ := lc_s hr1
  obtain ⟨dp, st2, rfl, hr3⟩ := lc_s hr2
  obtain ⟨d, st3, rfl, hr4⟩ := lc_s hr3
  obtain ⟨sq, st4, rfl, hr5⟩ := lc_s hr4
  obtain ⟨sr, r, rfl, hr6⟩ := lc_s hr5
  obtain ⟨g2, hr7⟩ := gd_s hr6
  obtain ⟨cd', ed, hr8⟩ := ob_s hr7
  obtain ⟨cs, es, hr9⟩ := ob_s hr8
  obtain ⟨g3, hr10⟩ := gd_s hr9
  obtain ⟨h', hr11, hh1, hh2⟩ := ax_hs_ok hr10
  obtain ⟨hx, hb, hml, hown, hts, hK, hlocks, hrt, hin, hRoom, hO⟩ := id hX
  intro ρ ad ws H locs ls LV ST q1 q2 q3 q4 q5 q6 q7 q8 q9 q10
  obtain ⟨N, ST1, rfl, hN, q11⟩ := q10.cons
  obtain ⟨DP, ST2, rfl, hDP, q12⟩ := q11.cons
  obtain ⟨D, ST3, rfl, hD, q13⟩ := q12.cons
  obtain ⟨SQ, ST4, rfl, hSQ, q14⟩ := q13.cons
  obtain ⟨SR, ST5, rfl, hSR, q15⟩ := q14.cons
  have w1 := bb_and g2
  have w2 := bb_and w1.2
  have w3 := bb_and w2.2
  have w4 := bb_and w3.2
  have w5 := bb_and w4.2
  have w6 := bb_and w5.2
  have hN := ax_nv_ok q3 hN
  have hDP := ax_nv_ok q3 hDP
  have hSQ := ax_nv_ok q3 hSQ
  rw [tg w3.1] at hN
  rw [tg w4.1, bb_eq w6.1] at hDP
  rw [tg w5.1, bb_eq w6.2] at hSQ
  have hN : N = .int (nI (ax_nv σ n).2) := hN
  have hDP : DP = .int (nI 0) := hDP
  have hSQ : SQ = .int (nI 0) := hSQ
  subst hN
  subst hDP
  subst hSQ
  rw [tg w1.1] at hD
  rw [tg w2.1] at hSR
  obtain ⟨aD, ED, hwD, rfl, hED⟩ := q4.get ed hD
  obtain ⟨aS, ES, hwS, rfl, hES⟩ := q4.get es hSR
  have v1 := bb_and g3
  have v2 := bb_and v1.2
  have v3 := bb_and v2.2
  have v4 := bb_and v3.2
  have k1 := bb_eq v1.1
  have k2 := bb_eq v3.1
  have k3 := bb_eq v4.1
  have k4 := bb_le v4.2
  have y := bb_and g1
  have y2 := bb_and y.2
  have y3 := bb_le y2.1
  have y4 := bb_le y2.2
  have hwt := q10.wt
  have hwt5 := q15.wt
  simp only [List.map_cons, List.sum_cons] at hwt
  have c0 : (nI 0).toNatClampNeg = 0 := nI_clamp (by omega)
  have cN : (nI (ax_nv σ n).2).toNatClampNeg = (ax_nv σ n).2 := nI_clamp (by omega)
  have hloc : (ST5.map fun v => v.category).sum + (nativeFrameWords "java/lang/System" "arraycopy" 5 + 11) ≤ M.2.2.2.2.1.locals := by
    have e18 : nativeFrameWords "java/lang/System" "arraycopy" 5 = 7 := by decide +kernel
    rw [e18]
    omega
  subst hRoom
  have WORDS : ∃ idx m1 m2 i1 i2 s1 s2 n1 n2, ins = .invokestatic idx ∧ wdq m1 m2 (.methodLink M.1.cls idx arraycopyName) = true ∧ wdq i1 i2 (.native arraycopyName) = true ∧ wdq s1 s2 (.static arraycopyName) = true ∧ wdq n1 n2 (.initialized "java/lang/System") = true := by
    cases ins <;> first | (exact absurd ho (Nat.ne_of_beq_eq_false rfl)) | skip
    case invokevirtual idx =>
      match lk, hlk with
      | b :: kc :: ci :: m1 :: m2 :: i1 :: i2 :: s1 :: s2 :: n1 :: n2 :: _, hlk =>
        exfalso
        have hl := hlk
        unfold lok at hl
        cases hC : mt 901 b with
        | none => simp [hC] at hl
        | some C => simp [hC] at hl
    case invokespecial idx =>
      match lk, hlk with
      | b :: kc :: ci :: m1 :: m2 :: i1 :: i2 :: n1 :: n2 :: ne :: _, hlk =>
        exfalso
        have hl := hlk
        unfold lok at hl
        cases hC : mt 901 b with
        | none => simp [hC] at hl
        | some C => simp [hC] at hl
    case invokestatic idx =>
      match lk, hlk with
      | m1 :: m2 :: i1 :: i2 :: s1 :: s2 :: n1 :: n2 :: _, hlk =>
        have hl : (wdq m1 m2 (.methodLink M.1.cls idx arraycopyName) && (wdq i1 i2 (.native arraycopyName) && (wdq s1 s2 (.static arraycopyName) && wdq n1 n2 (.initialized "java/lang/System")))) = true := hlk
        have u := bb_and hl
        have u2 := bb_and u.2
        have u3 := bb_and u2.2
        exact ⟨idx, m1, m2, i1, i2, s1, s2, n1, n2, rfl, u.1, u2.1, u3.1, u3.2⟩
  obtain ⟨idx, m1, m2, i1, i2, s1, s2, n1, n2, rfl, u1, u2, u3, u4⟩ := WORDS
  have hlen : len = 3 := hlen
  subst hlen
  have G := (hI p e _ s m args below meth c Q ρ0 ad0 M cut _ tl _ _ _ _ _ _ outs hM htl hX hr11 hR)
  rcases (Bool.or_eq_true _ _).mp v2.1 with z | z
  · have kk : cs.1 = 100 := bb_eq z
    obtain ⟨g, rfl, hg⟩ := hED.ints (Or.inl (by omega))
    obtain ⟨f, rfl, hf⟩ := hES.ints (Or.inl kk)
    have hE' : Er sp dA ρ ad (cd'.1, cd'.2.1, cs.2.2) (.inl (dA 100, cd'.2.1, .inl (va_cpy f g (nI 0).toNatClampNeg (nI 0).toNatClampNeg (nI (ax_nv σ n).2).toNatClampNeg))) := Or.inr (Or.inl ⟨Or.inl (by show cd'.1 = 100; omega), _, by rw [show cd'.1 = 100 by omega], fun j v hv => by
      have hj := hf j v hv
      refine ⟨by show j < cd'.2.1; omega, ?_⟩
      rw [c0, cN, pk_cpy_in (Nat.zero_le j) (by omega), Nat.zero_add, Nat.sub_zero]
      exact hj.2⟩)
    rw [show cd'.1 = 100 by omega] at hwD
    rw [kk] at hwS
    exact va_copyi hx hb (by rw [hml]; exact q9.1.symm) hown (hts _ (wdq_in u1)) (hts _ (wdq_in u2)) (hts _ (wdq_in u3)) (hts _ (wdq_in u4)) hK q5 q6 q7 sr.2 d.2 0 0 hwS hwD rfl rfl rfl (nI_pos (by omega)) (nI_pos (by omega)) (nI_pos (by omega)) (by rw [c0, cN]; omega) (by rw [c0, cN]; omega) (fun _ _ => rfl) (bb_le y.1) hloc hdg (fun H1 locs1 z1 z2 z3 => G ρ ad _ H1 locs1 ls LV ST5 q1 q2 q3 (q4.set hwD hh1 hh2 hE') z1 z2 z3 q8 q9 q15)
  · have kk : cs.1 = 101 := bb_eq z
    obtain ⟨g, rfl, hg⟩ := hED.longs (by omega)
    obtain ⟨f, rfl, hf⟩ := hES.longs kk
    have hE' : Er sp dA ρ ad (cd'.1, cd'.2.1, cs.2.2) (.inl (dA 101, cd'.2.1, .inr (.inl (va_cpy f g (nI 0).toNatClampNeg (nI 0).toNatClampNeg (nI (ax_nv σ n).2).toNatClampNeg)))) := Or.inr (Or.inr (Or.inl ⟨by show cd'.1 = 101; omega, _, by rw [show cd'.1 = 101 by omega], fun j v hv => by
      have hj := hf j v hv
      refine ⟨by show j < cd'.2.1; omega, ?_⟩
      rw [c0, cN, pk_cpy_in (Nat.zero_le j) (by omega), Nat.zero_add, Nat.sub_zero]
      exact hj.2⟩))
    rw [show cd'.1 = 101 by omega] at hwD
    rw [kk] at hwS
    exact va_copyl hx hb (by rw [hml]; exact q9.1.symm) hown (hts _ (wdq_in u1)) (hts _ (wdq_in u2)) (hts _ (wdq_in u3)) (hts _ (wdq_in u4)) hK q5 q6 q7 sr.2 d.2 1 1 hwS hwD rfl rfl rfl (nI_pos (by omega)) (nI_pos (by omega)) (nI_pos (by omega)) (by rw [c0, cN]; omega) (by rw [c0, cN]; omega) (fun _ _ => rfl) (bb_le y.1) hloc hdg (fun H1 locs1 z1 z2 z3 => G ρ ad _ H1 locs1 ls LV ST5 q1 q2 q3 (q4.set hwD hh1 hh2 hE') z1 z2 z3 q8 q9 q15)

theorem sn_min (hI : Snd sb mt dC dI dA sp H0 l ih) (hM : Mok mt M) (htl : ∀ x ∈ tl, x ∈ M.2.2.2.2.2.2) (hX : CX sb dC dI dA sp H0 ρ0 M p R s m args meth c) (hR : ∀ o ∈ outs, RO dC dI dA sp H0 l p e R s m args below meth c Q ρ0 ad0 M o) (hdg : decode M.2.1 pc = .ok (ins, len)) (hlen : len = ax_len ins) (hlk : lok mt M pc ins (902 :: lk) = true) (ho : ax_op ins = 21)
    (hr : lc st (fun b st => lc st (fun a r => gd (Nat.ble 1 M.2.2.2.2.1.frames && (Nat.ble (ax_wt r + 13) M.2.2.2.2.1.locals && (Nat.ble nc M.2.2.2.2.1.cells && Nat.ble ns M.2.2.2.2.1.slots))) (ax_mn σ (ax_nv σ a) (ax_nv σ b) (fun σ' v => ih M cut (pc + len) tl σ' h nc ns lv (v :: r))))) = some outs) : GG dC dI dA sp H0 l p e R s m args below meth c Q ρ0 ad0 M.2.2.1 pc σ h nc ns lv st := by
  obtain ⟨b, st1, rfl, hr1⟩ := lc_s hr
  obtain ⟨a, r, rfl, hr2⟩ := lc_s hr1
  obtain ⟨g1, hr3⟩ := gd_s hr2
  obtain ⟨hx, hb, hml, hown, hts, hK, hlocks, hrt, hin, hRoom, hO⟩ := id hX
  intro ρ ad ws H locs ls LV ST q1 q2 q3 q4 q5 q6 q7 q8 q9 q10
  obtain ⟨B, ST1, rfl, hB, q11⟩ := q10.cons
  obtain ⟨A, ST2, rfl, hA, q12⟩ := q11.cons
  obtain ⟨x, y, σ', v, ρ', rfl, rfl, hr4, r1, r2, r3⟩ := ax_mn_ok q3 (ax_nv_ok q3 hA) (ax_nv_ok q3 hB) hr3
  have w := bb_and g1
  have w2 := bb_and w.2
  have w3 := bb_and w2.2
  subst hRoom
  have K := (hI p e _ s m args below meth c Q ρ0 ad0 M cut _ tl _ _ _ _ _ _ outs hM htl hX hr4 hR) ρ' ad ws H locs ls LV (.int (if y < x then y else x) :: ST2) (q1.tr r1) q2 r2 (q4.monoρ r1) q5 q6 q7 (q8.mono r1 (Sb.rf ad)) q9 ⟨r3, q12.mono r1 (Sb.rf ad)⟩
  cases ins <;> first | (exact absurd ho (Nat.ne_of_beq_eq_false rfl)) | skip
  case invokevirtual idx =>
    match lk, hlk with
    | b :: kc :: ci :: m1 :: m2 :: i1 :: i2 :: s1 :: s2 :: n1 :: n2 :: _, hlk =>
      exfalso
      have hl := hlk
      unfold lok at hl
      cases hC : mt 902 b with
      | none => simp [hC] at hl
      | some C => simp [hC] at hl
  case invokespecial idx =>
    match lk, hlk with
    | b :: kc :: ci :: m1 :: m2 :: i1 :: i2 :: n1 :: n2 :: ne :: _, hlk =>
      exfalso
      have hl := hlk
      unfold lok at hl
      cases hC : mt 902 b with
      | none => simp [hC] at hl
      | some C => simp [hC] at hl
  case invokestatic idx =>
    match lk, hlk with
    | m1 :: m2 :: s1 :: s2 :: n1 :: n2 :: c1 :: c2 :: _, hlk =>
      have hl : (wdq m1 m2 (.methodLink M.1.cls idx Lib.Math.min.name) && (wdq s1 s2 (.static Lib.Math.min.name) && (wdq n1 n2 (.initialized "java/lang/Math") && wdq c1 c2 (.code Lib.Math.min.name Lib.Math.min.code 2 (some .int))))) = true := hlk
      have u := bb_and hl
      have u2 := bb_and u.2
      have u3 := bb_and u2.2
      subst hlen
      exact va_mmin hx hb (by rw [hml]; exact q9.1.symm) hown (hts _ (wdq_in u.1)) (hts _ (wdq_in u2.1)) (hts _ (wdq_in u3.1)) (hts _ (wdq_in u3.2)) (bb_le w.1) (by rw [q12.wt]; have := bb_le w2.1; omega) (bb_le w3.1) (bb_le w3.2) hdg K

end OPS
end
section
/-! THE ABSTRACT MACHINE, 17: calls of methods that have a table -/
section OPS
variable {sb : Nat → List Nat} {mt : Nat → Nat → Option MR} {dC : Nat → ClassId} {dI : Nat → Nat → Nat} {dA : Nat → ClassId} {sp : Nat → Nat} {H0 : Heap} {l : Launch}
variable {ih : GO} {p : Program} {e : Env} {R : Room} {s : State} {m : MethodId} {args : Array Value} {below : List Frame} {meth : Method} {c : Code} {Q : State → Prop} {ρ0 ad0 : List Nat} {M : MR} {cut pc len : Nat} {ins : Instr} {lk : List Nat} {cd tl : List ME} {σ : AS} {h : AH} {nc ns : Nat} {lv : AL} {st : List AV} {outs : List AO}

theorem lok_sp {idx a b kc ci : Nat} {lk4 : List Nat} (h9 : Nat.beq a 900 = false) (hk : lok mt M pc (.invokespecial idx) (a :: b :: kc :: ci :: lk4) = true) : ∃ m1 m2 i1 i2 n1 n2 ne : Nat, (match mt a b with
          | some C => Nat.beq kc 1 && ((bif Nat.beq ne 0 then wdq m1 m2 (.methodLink M.1.cls idx C.1) else wdn m1 m2 (.methodLinkNest M.1.cls idx C.1 RX11)) && (wdq i1 i2 (.instanceMethod C.1) && (wdq n1 n2 (.initialized C.1.cls) && (decide (C.1.cls ≠ "java/lang/invoke/MethodHandle" ∧ C.1.cls ≠ "java/lang/invoke/VarHandle" ∧ (parseMethodDescriptor C.1.desc).map (fun d => d.parameters.length) = some (C.2.2.2.2.2.1 - 1)) && (Nat.ble 1 C.2.2.2.2.2.1 && (decide (C.1.name = "<init>") && (decide (C.2.2.2.1 = none) && (!(Nat.beq a 901) && !(Nat.beq a 902)))))))))
          | none => false) = true := by
  have h1 := hk
  unfold lok at h1
  dsimp only at h1
  rw [h9] at h1
  match lk4, h1 with
  | m1 :: m2 :: i1 :: i2 :: n1 :: n2 :: ne :: _, h1 => exact ⟨m1, m2, i1, i2, n1, n2, ne, h1⟩
theorem lok_st {idx a b kc ci : Nat} {lk4 : List Nat} (h9 : Nat.beq a 901 = false) (h9c : Nat.beq a 902 = false) (hk : lok mt M pc (.invokestatic idx) (a :: b :: kc :: ci :: lk4) = true) : ∃ m1 m2 i1 i2 n1 n2 ne : Nat, (match mt a b with
          | some C => Nat.beq kc 2 && ((bif Nat.beq ne 0 then wdq m1 m2 (.methodLink M.1.cls idx C.1) else wdn m1 m2 (.methodLinkNest M.1.cls idx C.1 RX11)) && (wdq i1 i2 (.static C.1) && (wdq n1 n2 (.initialized C.1.cls) && (decide (C.1.cls ≠ "java/lang/invoke/MethodHandle" ∧ C.1.cls ≠ "java/lang/invoke/VarHandle" ∧ (parseMethodDescriptor C.1.desc).map (fun d => d.parameters.length) = some C.2.2.2.2.2.1) && !(Nat.beq a 900)))))
          | none => false) = true := by
  have h1 := hk
  unfold lok at h1
  dsimp only at h1
  rw [h9, h9c] at h1
  match lk4, h1 with
  | m1 :: m2 :: i1 :: i2 :: n1 :: n2 :: ne :: _, h1 => exact ⟨m1, m2, i1, i2, n1, n2, ne, h1⟩

set_option maxHeartbeats 2000000 in
theorem sn_call (hMT : ∀ a b C, mt a b = some C → Mok mt C ∧ Mcw C) (hI : Snd sb mt dC dI dA sp H0 l ih) (hM : Mok mt M) (htl : ∀ x ∈ tl, x ∈ M.2.2.2.2.2.2) (hX : CX sb dC dI dA sp H0 ρ0 M p R s m args meth c) (hR : ∀ o ∈ outs, RO dC dI dA sp H0 l p e R s m args below meth c Q ρ0 ad0 M o) (hdg : decode M.2.1 pc = .ok (ins, len)) (hlen : len = ax_len ins) (hlk : lok mt M pc ins lk = true) (ho : ax_op ins = 21) (h900 : ∀ x lk', lk = x :: lk' → Nat.beq x 900 = false ∧ Nat.beq x 901 = false ∧ Nat.beq x 902 = false)
    (hr : ax_call mt ih M lk σ h nc ns st (fun o rest nc' ns' => ih M cut (pc + len) tl o.1 o.2.1 nc' ns' lv (o.2.2.2.2.2.2.2 ++ rest)) = some outs) : GG dC dI dA sp H0 l p e R s m args below meth c Q ρ0 ad0 M.2.2.1 pc σ h nc ns lv st := by
  unfold ax_call at hr
  obtain ⟨a, lk1, rfl, hr1⟩ := lc_s hr
  obtain ⟨b, lk2, rfl, hr2⟩ := lc_s hr1
  obtain ⟨kc, lk3, rfl, hr3⟩ := lc_s hr2
  obtain ⟨ci, lk4, rfl, hr4⟩ := lc_s hr3
  obtain ⟨C, hC, hr5⟩ := ob_s hr4
  obtain ⟨⟨as, rest⟩, ha, hr6⟩ := ob_s hr5
  obtain ⟨g1, hr7⟩ := gd_s hr6
  obtain ⟨outs0, h0, hr8⟩ := ob_s hr7
  obtain ⟨hop, hr9⟩ := gd_s hr8
  obtain ⟨hMC, hCC⟩ := hMT a b C hC
  obtain ⟨u, rfl, rfl, hu⟩ := ax_args_ok _ ha
  rw [List.append_nil] at h0 g1
  have w1 := bb_and g1
  have w2 := bb_and w1.2
  have w3 := bb_and w2.2
  have w4 := bb_and w3.2
  have w5 := bb_and w4.2
  have w6 := bb_and w5.2
  have f1 := bb_lt w1.1
  have f2 := bb_le w2.1
  have f3 := bb_le w3.1
  have f4 := bb_le w4.1
  have f5 := bb_le w5.1
  have f6 := bb_le w6.1
  dsimp only at f3
  obtain ⟨hx, hb, hml, hown, hts, hK, hlocks, hrt, hin, hRoom, hO⟩ := id hX
  intro ρ ad ws H locs ls LV ST q1 q2 q3 q4 q5 q6 q7 q8 q9 q10
  obtain ⟨UA, RV0, rfl, hUA, hRest⟩ := Rs.split q10
  have hAS := hUA.rev
  rw [List.reverse_reverse] at hAS
  have hMet := met_call hI hMC hCC q3 hAS f6 h0 hop
  subst hRoom
  have hcw : ∀ w ∈ (Cond.code C.1 C.2.1 C.2.2.1 C.2.2.2.1 :: GW), w ∈ GW := fun w hw => by
    rcases List.mem_cons.mp hw with rfl | hw
    · exact hCC.1
    · exact hw
  have hGd : GoodIn GW (Cond.code C.1 C.2.1 C.2.2.1 C.2.2.2.1 :: GW) := GW_good hcw
  have hwt : (RV0.map fun v => v.category).sum ≤ 8 := by rw [hRest.wt]; exact f3
  have hPc : ∀ U : State, U.heap = H → s.WarmedH U.vm → cP sb dC dI dA sp H0 ρ ad h U := fun U hU hW => ⟨ws, q4, by rw [hU]; exact q5, q6, by rw [hU]; exact ⟨q7.1, q7.2.1, fun _ h => by cases h⟩, va_K.moved hW.alike hK, OX.warm hW q1 hO⟩
  have hlen3 : len = 3 := by
    rw [hlen]
    cases ins <;> first | (exact absurd ho (Nat.ne_of_beq_eq_false rfl)) | rfl
  subst hlen3
  have FIN : va_Run p l e M.2.2.2.2.1 s m args below meth c H locs nc ns C.2.2.2.2.1.cells C.2.2.2.2.1.slots (F0 m pc ls (UA ++ RV0)) RV0 (cQ dC dI dA sp H0 ρ ad outs0 UA.reverse.toArray) (aA H0) → W p l e M.2.2.2.2.1 s m args below meth c H locs nc ns Q (F0 m pc ls (UA ++ RV0)) := fun hrun => by
    refine run_go hrun q7 (fun o hoo ρ' ad' ws' RV H1 locs1 k1 k2 k3 k4 k5 k6 k7 k8 => ?_)
    obtain ⟨o', e1, e2⟩ := ax_all_s hr9 _ (List.mem_map.mpr ⟨o, hoo, rfl⟩)
    exact (hI p e _ s m args below meth c Q ρ0 ad0 M cut _ tl _ _ _ _ _ _ o' hM htl hX e1 (fun z hz => hR z (e2 z hz))) ρ' ad' ws' H1 locs1 ls LV (RV ++ RV0) (q1.tr k1) (q2.tr k2) k3 k4 k5 k6 k7 (q8.mono k1 k2) q9 (k8.app (hRest.mono k1 k2))
  have hRm : C.2.2.2.2.1.frames + 1 ≤ M.2.2.2.2.1.frames ∧ 8 + (C.2.2.1 + 11) + C.2.2.2.2.1.locals ≤ M.2.2.2.2.1.locals := ⟨f1, f2⟩
  have hlenU : UA.length = u.length := by rw [hUA.len, List.length_reverse]
  obtain ⟨h9a, h9b, h9c⟩ := h900 a _ rfl
  have SPLIT : 1 ≤ u.length → ∃ A0 AR VA, u = A0 :: AR ∧ UA.reverse = VA :: UA.reverse.tail ∧ Rp sp ρ ad A0 VA ∧ UA ++ RV0 = UA.reverse.tail.reverse ++ VA :: RV0 := fun hp => by
    cases u with
    | nil => cases hp
    | cons A0 AR =>
      obtain ⟨VA, VR, e1, e2, -⟩ := Rs.cons hAS
      refine ⟨A0, AR, VA, rfl, by rw [e1]; rfl, e2, ?_⟩
      have e3 := congrArg List.reverse e1
      rw [List.reverse_reverse, List.reverse_cons] at e3
      rw [e1]
      show UA ++ RV0 = VR.reverse ++ VA :: RV0
      rw [e3]
      simp
  cases ins <;> first | (exact absurd ho (Nat.ne_of_beq_eq_false rfl)) | skip
  case invokevirtual idx =>
    match lk4, hlk with
    | m1 :: m2 :: i1 :: i2 :: s1 :: s2 :: n1 :: n2 :: _, hlk =>
      have hl : (match mt a b with
        | some C => Nat.beq kc 0 && (wdq m1 m2 (.methodLink M.1.cls idx C.1) && (wdq i1 i2 (.instanceMethod C.1) && (wdq s1 s2 (.selects C.1.cls C.1 C.1) && (wdq n1 n2 (.initialized C.1.cls) && ((bif Nat.beq ci 200 then decide (C.1.cls = sSTR) else decide (vwCl[ci]?.map (fun q => q.1) = some C.1.cls)) && (decide (C.1.cls ≠ "java/lang/invoke/MethodHandle" ∧ C.1.cls ≠ "java/lang/invoke/VarHandle" ∧ (parseMethodDescriptor C.1.desc).map (fun d => d.parameters.length) = some (C.2.2.2.2.2.1 - 1)) && (Nat.ble 1 C.2.2.2.2.2.1 && (!(Nat.beq a 900) && (!(Nat.beq a 901) && !(Nat.beq a 902))))))))))
        | none => false) = true := hlk
      rw [hC] at hl
      have v1 := bb_and (a := Nat.beq kc 0) hl
      have v2 := bb_and v1.2
      have v3 := bb_and v2.2
      have v4 := bb_and v3.2
      have v5 := bb_and v4.2
      have v6 := bb_and v5.2
      have v7 := bb_and v6.2
      have v8 := bb_and v7.2
      have hkc := bb_eq v1.1
      have hn1 := bb_le v8.1
      have hds := of_decide_eq_true v7.1
      obtain ⟨A0, AR, VA, e1, e2, e3, e4⟩ := SPLIT (by omega)
      have hrc : ax_rcv h ci u = true := by
        rcases (Bool.or_eq_true _ _).mp w6.2 with z | z
        · rw [hkc] at z; cases z
        · exact (bb_and z).2
      have RECV : ∃ b0, VA = .ref b0 ∧ ∃ cellB : Cell, H[b0]? = some cellB ∧ cellB.vm.isStatics = false ∧ s.vm.findClass C.1.cls = some cellB.cls := by
        rw [e1] at hrc
        have hrc : (bif Nat.beq A0.1 2 then (match ax_hn h A0.2 with | some c => Nat.beq c.1 ci && Nat.blt ci 100 | none => false) else Nat.beq A0.1 6 && (Nat.beq ci 200 && (Nat.beq A0.2 1 || Nat.beq A0.2 3))) = true := hrc
        cases ht : Nat.beq A0.1 2 with
        | true =>
          rw [ht] at hrc
          have hrc : (match ax_hn h A0.2 with | some c => Nat.beq c.1 ci && Nat.blt ci 100 | none => false) = true := hrc
          cases hcc : ax_hn h A0.2 with
          | none => rw [hcc] at hrc; cases hrc
          | some cl =>
            rw [hcc] at hrc
            have y := bb_and (a := Nat.beq cl.1 ci) hrc
            have y1 := bb_eq y.1
            have y2 := bb_lt y.2
            rw [tg ht] at e3
            obtain ⟨a0, E, hw, rfl, hE⟩ := q4.get hcc e3
            obtain ⟨VS, rfl, -, -⟩ := hE.obj (by omega)
            have z := v6.1
            rw [bb_nb (show ci ≠ 200 by omega)] at z
            have z : decide (vwCl[ci]?.map (fun q => q.1) = some C.1.cls) = true := z
            have z := of_decide_eq_true z
            cases hq : vwCl[ci]? with
            | none => rw [hq] at z; cases z
            | some q =>
              rw [hq] at z
              have z : some q.1 = some C.1.cls := z
              have rv := va_recv hK q5 (ci := ci) (q0 := A0.2) hq (by rw [← y1]; exact hw)
              rw [Option.some.inj z] at rv
              exact ⟨a0, rfl, rv⟩
        | false =>
          rw [ht] at hrc
          have y := bb_and (a := Nat.beq A0.1 6) hrc
          have y1 := bb_and y.2
          rw [tg y.1] at e3
          have e3 : VA = .ref (sp A0.2) := e3
          have hso : SO sp sb H0 A0.2 s := by
            rcases (Bool.or_eq_true _ _).mp y1.2 with z | z
            · rw [bb_eq z]; exact hO.2.1
            · rw [bb_eq z]; exact hO.2.2.1
          have z := v6.1
          rw [y1.1] at z
          have z : decide (C.1.cls = sSTR) = true := z
          obtain ⟨cell, z1, z2, z3, -⟩ := hso.1.kept (fun a h1 h2 => q7.2.1 a h1 h2)
          exact ⟨sp A0.2, e3, cell, z1, z2, by rw [of_decide_eq_true z]; exact z3⟩
      obtain ⟨b0, rfl, hrecv⟩ := RECV
      have cb := callB_of (own := M.1.cls) (index := idx) (R := M.2.2.2.2.1) (C.2.2.2.2.2.1 - 1) hts hGd rfl rfl rfl (hts _ (wdq_in v5.1)) (hts _ (wdq_in v2.1)) ⟨hds.1, hds.2.1, hds.2.2⟩ hRm
      refine FIN ?_
      rw [e2]
      exact va_runV (g := F0 m pc ls (UA ++ RV0)) (b := b0) (As := UA.reverse.tail) (rest := RV0) ⟨hx, hb, hml, hown, hts⟩ hMet ⟨cb, hts _ (wdq_in v3.1), hts _ (wdq_in v4.1)⟩ ⟨cP.blind, hrecv, fun U hU hW => ⟨by rw [← e2], hPc U hU hW⟩⟩ rfl (by rw [List.length_tail, List.length_reverse, hlenU, hu]) q9.1 e4 (lv_room hwt) hdg ⟨f4, f5⟩
  case invokespecial idx =>
      obtain ⟨m1, m2, i1, i2, n1, n2, ne, hl⟩ := lok_sp h9a hlk
      rw [hC] at hl
      have v1 := bb_and (a := Nat.beq kc 1) hl
      have v2 := bb_and v1.2
      have v3 := bb_and v2.2
      have v4 := bb_and v3.2
      have v5 := bb_and v4.2
      have v6 := bb_and v5.2
      have v7 := bb_and v6.2
      have v8 := bb_and v7.2
      have hn1 := bb_le v6.1
      have hds := of_decide_eq_true v5.1
      have hnm : C.1.name = "<init>" := of_decide_eq_true v7.1
      have hrn : C.2.2.2.1 = none := of_decide_eq_true v8.1
      obtain ⟨A0, AR, VA, e1, e2, e3, e4⟩ := SPLIT (by omega)
      have RECV : ∃ b0, VA = .ref b0 := by
        have hkc := bb_eq v1.1
        have hsp1 : ax_hd u = true := by
          rcases (Bool.or_eq_true _ _).mp w6.2 with z | z
          · rcases (Bool.or_eq_true _ _).mp z with z | z
            · rw [hkc] at z; cases z
            · exact (bb_and z).2
          · rw [hkc] at z; cases z
        rw [e1] at hsp1
        exact e3.tR hsp1
      obtain ⟨b0, rfl⟩ := RECV
      refine FIN ?_
      rw [hrn] at hMet hGd
      cases hne : Nat.beq ne 0 with
      | true =>
        rw [hne] at v2
        have cb := callB_of (own := M.1.cls) (index := idx) (R := M.2.2.2.2.1) (C.2.2.2.2.2.1 - 1) hts hGd rfl rfl rfl (hts _ (wdq_in v4.1)) (hts _ (wdq_in v2.1)) ⟨hds.1, hds.2.1, hds.2.2⟩ hRm
        rw [e2]
        exact va_runI (g := F0 m pc ls (UA ++ RV0)) (b := b0) (As := UA.reverse.tail) (rest := RV0) ⟨hx, hb, hml, hown, hts⟩ hMet ⟨cb, hnm, hts _ (wdq_in v3.1)⟩ ⟨cP.blind, fun U hU hW => ⟨by rw [← e2], hPc U hU hW⟩⟩ rfl (by rw [List.length_tail, List.length_reverse, hlenU, hu]) q9.1 e4 (lv_room hwt) hdg ⟨f4, f5⟩
      | false =>
        rw [hne] at v2
        have hnest : (Cond.methodLinkNest M.1.cls idx C.1 RX11) ∈ nestW := List.mem_filter.mpr ⟨wdn_in v2.1, rfl⟩
        have cb := va_cnB (own := M.1.cls) (index := idx) (R := M.2.2.2.2.1) (C.2.2.2.2.2.1 - 1) hts hGd rfl rfl rfl (hO.2.2.2.2.2.2.2.2.2.2 _ hnest) (hts _ (wdq_in v4.1)) ⟨hds.1, hds.2.1, hds.2.2⟩ hRm
        rw [e2]
        exact va_runIN (g := F0 m pc ls (UA ++ RV0)) (b := b0) (As := UA.reverse.tail) (rest := RV0) ⟨hx, hb, hml, hown, hts⟩ hMet ⟨cb, hnm, hts _ (wdq_in v3.1)⟩ ⟨cP.blind, fun U hU hW => ⟨by rw [← e2], hPc U hU hW⟩⟩ rfl (by rw [List.length_tail, List.length_reverse, hlenU, hu]) q9.1 e4 (lv_room hwt) hdg ⟨f4, f5⟩
  case invokestatic idx =>
      obtain ⟨m1, m2, i1, i2, n1, n2, ne, hl⟩ := lok_st h9b h9c hlk
      rw [hC] at hl
      have v1 := bb_and (a := Nat.beq kc 2) hl
      have v2 := bb_and v1.2
      have v3 := bb_and v2.2
      have v4 := bb_and v3.2
      have v5 := bb_and v4.2
      have hds := of_decide_eq_true v5.1
      refine FIN ?_
      cases hne : Nat.beq ne 0 with
      | true =>
        rw [hne] at v2
        have cb := callB_of (own := M.1.cls) (index := idx) (R := M.2.2.2.2.1) C.2.2.2.2.2.1 hts hGd rfl rfl rfl (hts _ (wdq_in v4.1)) (hts _ (wdq_in v2.1)) ⟨hds.1, hds.2.1, hds.2.2⟩ hRm
        exact va_runS (g := F0 m pc ls (UA ++ RV0)) (As := UA.reverse) (rest := RV0) ⟨hx, hb, hml, hown, hts⟩ hMet ⟨cb, hts _ (wdq_in v3.1)⟩ ⟨cP.blind, fun U hU hW => ⟨rfl, hPc U hU hW⟩⟩ rfl (by rw [List.length_reverse, hlenU, hu]) q9.1 (by rw [List.reverse_reverse]) (lv_room hwt) hdg ⟨f4, f5⟩
      | false =>
        rw [hne] at v2
        have hnest : (Cond.methodLinkNest M.1.cls idx C.1 RX11) ∈ nestW := List.mem_filter.mpr ⟨wdn_in v2.1, rfl⟩
        have cb := va_cnB (own := M.1.cls) (index := idx) (R := M.2.2.2.2.1) C.2.2.2.2.2.1 hts hGd rfl rfl rfl (hO.2.2.2.2.2.2.2.2.2.2 _ hnest) (hts _ (wdq_in v4.1)) ⟨hds.1, hds.2.1, hds.2.2⟩ hRm
        exact va_runSN (g := F0 m pc ls (UA ++ RV0)) (As := UA.reverse) (rest := RV0) ⟨hx, hb, hml, hown, hts⟩ hMet ⟨cb, hts _ (wdq_in v3.1), trivial⟩ ⟨cP.blind, fun U hU hW => ⟨rfl, hPc U hU hW⟩⟩ rfl (by rw [List.length_reverse, hlenU, hu]) q9.1 (by rw [List.reverse_reverse]) (lv_room hwt) hdg ⟨f4, f5⟩

end OPS
end
section
/-! THE ABSTRACT MACHINE, 18: it is sound -/
section ALL
variable {sb : Nat → List Nat} {mt : Nat → Nat → Option MR} {dC : Nat → ClassId} {dI : Nat → Nat → Nat} {dA : Nat → ClassId} {sp : Nat → Nat} {H0 : Heap} {l : Launch}
set_option maxHeartbeats 2000000 in
theorem sn_bd (hsb : ∀ x, (sb x).length ≤ 1000) (hMT : ∀ a b C, mt a b = some C → Mok mt C ∧ Mcw C) {ih : GO} (hI : Snd sb mt dC dI dA sp H0 l ih) : Snd sb mt dC dI dA sp H0 l (ax_bd sb mt ih) := by
  intro p e R s m args below meth c Q ρ0 ad0 M cut pc cd σ h nc ns lv st outs hM hcd hX hr hR
  unfold ax_bd at hr
  cases hc : Nat.ble cut pc with
  | true =>
    rw [hc] at hr
    cases hr
    exact hR _ List.mem_cons_self (Or.inl rfl)
  | false =>
    rw [hc] at hr
    obtain ⟨⟨pc0, op, len, lk, ins⟩, tl, hcd1, hr1⟩ := lc_s (l := cd) hr
    obtain ⟨g1, hr2⟩ := gd_s hr1
    have hpc : pc0 = pc := bb_eq g1
    subst hpc
    have hmem : ((pc0, op, len, lk, ins) : ME) ∈ cd := by rw [hcd1]; exact List.mem_cons_self
    have htl : ∀ x ∈ tl, x ∈ M.2.2.2.2.2.2 := fun x hx => hcd x (by rw [hcd1]; exact List.mem_cons_of_mem _ hx)
    have hok := hM _ (hcd _ hmem)
    unfold eok at hok
    have k1 := bb_and hok
    have k2 := bb_and k1.2
    have k3 := bb_and k2.2
    have hdg : decode M.2.1 pc0 = .ok (ins, len) := of_decide_eq_true k1.1
    have hop : op = ax_op ins := bb_eq k2.1
    have hlk : lok mt M pc0 ins lk = true := k3.2
    have hle : op < 57 → len = ax_len ins := fun q => by
      rcases (Bool.or_eq_true _ _).mp k3.1 with z | z
      · have := bb_le z; dsimp only at this; omega
      · exact bb_eq z
    dsimp only at hr2
    cases b1 : Nat.ble op 17 with
    | true =>
      rw [b1] at hr2
      have b1' := bb_le b1
      cases b2 : Nat.ble op 7 with
      | true =>
        rw [b2] at hr2
        have b2' := bb_le b2
        have hr2 : ax_b0 op ih M cut (pc0 + len) tl lk σ h nc ns lv st = some outs := hr2
        unfold ax_b0 at hr2
        have hlen := hle (by omega)
        rcases (show op = 0 ∨ op = 1 ∨ op = 2 ∨ op = 3 ∨ op = 4 ∨ op = 5 ∨ op = 6 ∨ op = 7 by omega) with e9 | e9 | e9 | e9 | e9 | e9 | e9 | e9 <;> rw [e9] at hr2 <;> rw [e9] at hop
        · exact sn_push hI hM htl hX hR hdg hlen hlk hop.symm hr2
        · exact sn_load (Or.inl ⟨rfl, hop.symm⟩) hI hM htl hX hR hdg hlen hlk hr2
        · exact sn_load (Or.inr (Or.inl ⟨rfl, hop.symm⟩)) hI hM htl hX hR hdg hlen hlk hr2
        · exact sn_load (Or.inr (Or.inr ⟨rfl, hop.symm⟩)) hI hM htl hX hR hdg hlen hlk hr2
        · exact sn_sto (Or.inl ⟨rfl, rfl, hop.symm⟩) hI hM htl hX hR hdg hlen hlk hr2
        · exact sn_sto (Or.inr (Or.inl ⟨rfl, rfl, hop.symm⟩)) hI hM htl hX hR hdg hlen hlk hr2
        · exact sn_sto (Or.inr (Or.inr ⟨rfl, rfl, hop.symm⟩)) hI hM htl hX hR hdg hlen hlk hr2
        · exact sn_iinc hI hM htl hX hR hdg hlen hlk hop.symm hr2
      | false =>
        rw [b2] at hr2
        have b2' := bb_nle b2
        have hr2 : ax_b1 op sb ih M cut pc0 (pc0 + len) cd tl lk σ h nc ns lv st = some outs := hr2
        unfold ax_b1 at hr2
        have hlen := hle (by omega)
        cases b3 : Nat.ble op 9 with
        | true =>
          have b3' := bb_le b3
          rcases (show op = 8 ∨ op = 9 by omega) with e9 | e9 <;> rw [e9] at hr2 <;> rw [e9] at hop
          · exact sn_getf hI hM htl hX hR hdg hlen hlk hop.symm hr2
          · exact sn_putf hI hM htl hX hR hdg hlen hlk hop.symm hr2
        | false =>
          rw [b3] at hr2
          have b3' := bb_nle b3
          cases b4 : Nat.ble op 13 with
          | true =>
            have b4' := bb_le b4
            have hr2 : (bif Nat.ble op 13 then ax_b1a (op + 90) sb ih M cut pc0 (pc0 + len) cd tl σ h nc ns lv st else ax_b1s (op + 86) ih M cut pc0 (pc0 + len) cd tl σ h nc ns lv st) = some outs := hr2
            rw [b4] at hr2
            exact sn_ald hsb hI hM htl hX hR hdg hlen hlk hcd (by rw [← hop]) (by omega) (by omega) hr2
          | false =>
            have b4' := bb_nle b4
            have hr2 : (bif Nat.ble op 13 then ax_b1a (op + 90) sb ih M cut pc0 (pc0 + len) cd tl σ h nc ns lv st else ax_b1s (op + 86) ih M cut pc0 (pc0 + len) cd tl σ h nc ns lv st) = some outs := hr2
            rw [b4] at hr2
            exact sn_ast hI hM htl hX hR hdg hlen hlk hcd (by rw [← hop]) (by omega) (by omega) hr2
    | false =>
      rw [b1] at hr2
      have b1' := bb_nle b1
      cases b2 : Nat.ble op 25 with
      | true =>
        have b2' := bb_le b2
        have hlen := hle (by omega)
        have hr2 : (bif Nat.ble op 25 then ax_b2 op mt ih M cut pc0 (pc0 + len) tl lk σ h nc ns lv st
           else bif Nat.ble op 43 then ax_b3 op ih M cut pc0 (pc0 + len) cd tl σ h nc ns lv st
           else bif Nat.ble op 52 then ax_b4 op ih M cut (pc0 + len) tl σ h nc ns lv st
           else gd (Nat.ble op 58) (ax_b5 op sb ih M cut (pc0 + len) tl lk σ h nc ns lv st)) = some outs := hr2
        rw [b2] at hr2
        have hr2 : ax_b2 op mt ih M cut pc0 (pc0 + len) tl lk σ h nc ns lv st = some outs := hr2
        unfold ax_b2 at hr2
        rcases (show op = 18 ∨ op = 19 ∨ op = 20 ∨ op = 21 ∨ 22 ≤ op by omega) with e9 | e9 | e9 | e9 | e9
        · rw [e9] at hr2 hop; exact sn_icmp hI hM htl hX hR hdg hlen hlk hop.symm hr2
        · rw [e9] at hr2 hop; exact sn_ifc hI hM htl hX hR hdg hlen hlk hop.symm hr2
        · rw [e9] at hr2 hop; exact sn_goto hI hM htl hX hR hdg hlen hlk hop.symm hr2
        · rw [e9] at hr2 hop
          have hr2 : ax_inv mt ih M cut (pc0 + len) tl lk σ h nc ns lv st = some outs := hr2
          unfold ax_inv at hr2
          obtain ⟨x, lk', hlk1, hr3⟩ := lc_s hr2
          cases c1 : Nat.beq x 900 with
          | true =>
            rw [c1] at hr3
            rw [hlk1, bb_eq c1] at hlk
            exact sn_obj hI hM htl hX hR hdg hlen hlk hop.symm hr3
          | false =>
            rw [c1] at hr3
            cases c2 : Nat.beq x 901 with
            | true =>
              have hr3 : (bif Nat.beq x 901 then gd (Nat.ble 1 M.2.2.2.2.1.frames && (Nat.ble 60 M.2.2.2.2.1.locals && Nat.ble (ax_wt st) 20)) (ax_copy σ h st (fun h' r => ih M cut (pc0 + len) tl σ h' nc ns lv r))
                else bif Nat.beq x 902 then lc st (fun b st => lc st (fun a r => gd (Nat.ble 1 M.2.2.2.2.1.frames && (Nat.ble (ax_wt r + 13) M.2.2.2.2.1.locals && (Nat.ble nc M.2.2.2.2.1.cells && Nat.ble ns M.2.2.2.2.1.slots))) (ax_mn σ (ax_nv σ a) (ax_nv σ b) (fun σ' v => ih M cut (pc0 + len) tl σ' h nc ns lv (v :: r)))))
                else ax_call mt ih M lk σ h nc ns st (fun o rest nc' ns' => ih M cut (pc0 + len) tl o.1 o.2.1 nc' ns' lv (o.2.2.2.2.2.2.2 ++ rest))) = some outs := hr3
              rw [c2] at hr3
              rw [hlk1, bb_eq c2] at hlk
              exact sn_copy hI hM htl hX hR hdg hlen hlk hop.symm hr3
            | false =>
              have hr3 : (bif Nat.beq x 901 then gd (Nat.ble 1 M.2.2.2.2.1.frames && (Nat.ble 60 M.2.2.2.2.1.locals && Nat.ble (ax_wt st) 20)) (ax_copy σ h st (fun h' r => ih M cut (pc0 + len) tl σ h' nc ns lv r))
                else bif Nat.beq x 902 then lc st (fun b st => lc st (fun a r => gd (Nat.ble 1 M.2.2.2.2.1.frames && (Nat.ble (ax_wt r + 13) M.2.2.2.2.1.locals && (Nat.ble nc M.2.2.2.2.1.cells && Nat.ble ns M.2.2.2.2.1.slots))) (ax_mn σ (ax_nv σ a) (ax_nv σ b) (fun σ' v => ih M cut (pc0 + len) tl σ' h nc ns lv (v :: r)))))
                else ax_call mt ih M lk σ h nc ns st (fun o rest nc' ns' => ih M cut (pc0 + len) tl o.1 o.2.1 nc' ns' lv (o.2.2.2.2.2.2.2 ++ rest))) = some outs := hr3
              rw [c2] at hr3
              cases c3 : Nat.beq x 902 with
              | true =>
                rw [c3] at hr3
                rw [hlk1, bb_eq c3] at hlk
                exact sn_min hI hM htl hX hR hdg hlen hlk hop.symm hr3
              | false =>
                rw [c3] at hr3
                exact sn_call hMT hI hM htl hX hR hdg hlen hlk hop.symm (fun y lk2 hy => by rw [hlk1] at hy; cases hy; exact ⟨c1, c2, c3⟩) hr3
        · rw [show Nat.ble op 19 = false by cases hq : Nat.ble op 19 with | false => rfl | true => have := bb_le hq; omega] at hr2
          have hr2 : (bif Nat.ble op 21 then (bif Nat.beq op 20 then lc lk (fun t _ => ih M cut t (ax_jmp M.2.2.2.2.2.2 t) σ h nc ns lv st) else ax_inv mt ih M cut (pc0 + len) tl lk σ h nc ns lv st)
            else gd (ax_rok M.2.2.2.1 op st && (Nat.ble nc M.2.2.2.2.1.cells && Nat.ble ns M.2.2.2.2.1.slots)) (some [(σ, h, nc, ns, pc0, op, lv, st)])) = some outs := hr2
          rw [show Nat.ble op 21 = false by cases hq : Nat.ble op 21 with | false => rfl | true => have := bb_le hq; omega] at hr2
          exact sn_ret hI hM htl hX hR hdg hlen hlk hop.symm e9 b2' hr2
      | false =>
        have b2' := bb_nle b2
        have hr2 : (bif Nat.ble op 25 then ax_b2 op mt ih M cut pc0 (pc0 + len) tl lk σ h nc ns lv st
           else bif Nat.ble op 43 then ax_b3 op ih M cut pc0 (pc0 + len) cd tl σ h nc ns lv st
           else bif Nat.ble op 52 then ax_b4 op ih M cut (pc0 + len) tl σ h nc ns lv st
           else gd (Nat.ble op 58) (ax_b5 op sb ih M cut (pc0 + len) tl lk σ h nc ns lv st)) = some outs := hr2
        rw [b2] at hr2
        have hr2 : (bif Nat.ble op 43 then ax_b3 op ih M cut pc0 (pc0 + len) cd tl σ h nc ns lv st
           else bif Nat.ble op 52 then ax_b4 op ih M cut (pc0 + len) tl σ h nc ns lv st
           else gd (Nat.ble op 58) (ax_b5 op sb ih M cut (pc0 + len) tl lk σ h nc ns lv st)) = some outs := hr2
        cases b3 : Nat.ble op 43 with
        | true =>
          rw [b3] at hr2
          have b3' := bb_le b3
          have hlen := hle (by omega)
          have hr2 : ax_b3 op ih M cut pc0 (pc0 + len) cd tl σ h nc ns lv st = some outs := hr2
          unfold ax_b3 at hr2
          rcases (show op ≤ 34 ∨ op = 35 ∨ op = 36 ∨ (37 ≤ op ∧ op ≤ 41) ∨ op = 42 ∨ op = 43 by omega) with e9 | e9 | e9 | e9 | e9 | e9
          · rw [Nat.ble_eq_true_of_le e9] at hr2
            exact sn_ib hI hM htl hX hR hdg hlen hlk (op := op - 26) (by omega) (by omega) hr2
          · rw [e9] at hr2 hop; exact sn_id hI hM htl hX hR hdg hlen hlk (op := 0) (by omega) (by omega) hr2
          · rw [e9] at hr2 hop; exact sn_id hI hM htl hX hR hdg hlen hlk (op := 1) (by omega) (by omega) hr2
          · rw [show Nat.ble op 34 = false by cases hq : Nat.ble op 34 with | false => rfl | true => have := bb_le hq; omega] at hr2
            have hr2 : (bif Nat.ble op 36 then ax_bin (ax_id (op - 35)) ih M cut (pc0 + len) tl σ h nc ns lv st
              else bif Nat.ble op 41 then ax_bin (ax_lb (op - 37)) ih M cut (pc0 + len) tl σ h nc ns lv st
              else bif Nat.beq op 42 then ax_bin ax_lsh ih M cut (pc0 + len) tl σ h nc ns lv st
              else lc st (fun b st' => lc st' (fun a r => ob (ax_rL σ a) (fun ra => ob (ax_rL σ b) (fun rb => ax_lcm ra rb (fun n => ih M cut (pc0 + len) tl σ h nc ns lv ((0, n) :: r)) (ax_spc σ a ra rb (fun σ' => ih M cut pc0 cd σ' h nc ns lv st))))))) = some outs := hr2
            rw [show Nat.ble op 36 = false by cases hq : Nat.ble op 36 with | false => rfl | true => have := bb_le hq; omega] at hr2
            have hr2 : (bif Nat.ble op 41 then ax_bin (ax_lb (op - 37)) ih M cut (pc0 + len) tl σ h nc ns lv st
              else bif Nat.beq op 42 then ax_bin ax_lsh ih M cut (pc0 + len) tl σ h nc ns lv st
              else lc st (fun b st' => lc st' (fun a r => ob (ax_rL σ a) (fun ra => ob (ax_rL σ b) (fun rb => ax_lcm ra rb (fun n => ih M cut (pc0 + len) tl σ h nc ns lv ((0, n) :: r)) (ax_spc σ a ra rb (fun σ' => ih M cut pc0 cd σ' h nc ns lv st))))))) = some outs := hr2
            rw [Nat.ble_eq_true_of_le e9.2] at hr2
            exact sn_lb hI hM htl hX hR hdg hlen hlk (op := op - 37) (by omega) (by omega) hr2
          · rw [e9] at hr2 hop; exact sn_lsh hI hM htl hX hR hdg hlen hlk hop.symm hr2
          · rw [e9] at hr2 hop; exact sn_lcmp hI hM htl hX hR hdg hlen hlk hcd hop.symm hr2
        | false =>
          rw [b3] at hr2
          have b3' := bb_nle b3
          have hr2 : (bif Nat.ble op 52 then ax_b4 op ih M cut (pc0 + len) tl σ h nc ns lv st
           else gd (Nat.ble op 58) (ax_b5 op sb ih M cut (pc0 + len) tl lk σ h nc ns lv st)) = some outs := hr2
          cases b4 : Nat.ble op 52 with
          | true =>
            rw [b4] at hr2
            have b4' := bb_le b4
            have hlen := hle (by omega)
            have hr2 : ax_b4 op ih M cut (pc0 + len) tl σ h nc ns lv st = some outs := hr2
            unfold ax_b4 at hr2
            rcases (show op ≤ 47 ∨ op = 48 ∨ op = 49 ∨ op = 50 ∨ op = 51 ∨ op = 52 by omega) with e9 | e9 | e9 | e9 | e9 | e9
            · rw [Nat.ble_eq_true_of_le e9] at hr2
              exact sn_un hI hM htl hX hR hdg hlen hlk (op := op - 44) (by omega) (by omega) hr2
            · rw [e9] at hr2 hop; exact sn_i2l hI hM htl hX hR hdg hlen hlk hop.symm hr2
            · rw [e9] at hr2 hop; exact sn_l2i hI hM htl hX hR hdg hlen hlk hop.symm hr2
            · rw [e9] at hr2 hop; exact sn_stk hI hM htl hX hR hdg hlen hlk (op := 50) hop.symm (Or.inl rfl) hr2
            · rw [e9] at hr2 hop; exact sn_stk hI hM htl hX hR hdg hlen hlk (op := 51) hop.symm (Or.inr (Or.inl rfl)) hr2
            · rw [e9] at hr2 hop; exact sn_stk hI hM htl hX hR hdg hlen hlk (op := 52) hop.symm (Or.inr (Or.inr rfl)) hr2
          | false =>
            rw [b4] at hr2
            have b4' := bb_nle b4
            obtain ⟨g58, hr2⟩ := gd_s (b := Nat.ble op 58) hr2
            have hop58 := bb_le g58
            unfold ax_b5 at hr2
            rcases (show op = 53 ∨ op = 54 ∨ op = 55 ∨ op = 56 ∨ op = 57 ∨ op = 58 by omega) with e9 | e9 | e9 | e9 | e9 | e9
            · have hlen := hle (by omega)
              rw [e9] at hr2 hop; exact sn_alen hI hM htl hX hR hdg hlen hlk hop.symm hr2
            · have hlen := hle (by omega)
              rw [e9] at hr2 hop; exact sn_new hI hM htl hX hR hdg hlen hlk hop.symm hr2
            · have hlen := hle (by omega)
              rw [e9] at hr2 hop; exact sn_newa hI hM htl hX hR hdg hlen hlk hop.symm hr2
            · have hlen := hle (by omega)
              rw [e9] at hr2 hop; exact sn_gets hI hM htl hX hR hdg hlen hlk hop.symm hr2
            · rw [e9] at hr2 hop; exact sn_table hI hM htl hX hR hdg hlk hop.symm hr2
            · rw [e9] at hr2 hop
              have hr2 : lc st (fun v r => lc lk (fun d lk => lc lk (fun _ _ => ax_sw (fun t σ' => ih M cut t (ax_jmp M.2.2.2.2.2.2 t) σ' h nc ns lv r) v d lk σ))) = some outs := hr2
              obtain ⟨v, r, e10, hr3⟩ := lc_s hr2
              obtain ⟨d, ks, e11, hr4⟩ := lc_s hr3
              obtain ⟨k, ks', e12, hr5⟩ := lc_s hr4
              exact sn_look hI hM htl hX hR hdg hlk hop.symm (fun d2 ks2 hy => by rw [e11] at hy; cases hy; rw [e12]; exact List.cons_ne_nil _ _) (by rw [e10, e11]; exact hr5)
theorem sn_run (hsb : ∀ x, (sb x).length ≤ 1000) (hMT : ∀ a b C, mt a b = some C → Mok mt C ∧ Mcw C) : ∀ n, Snd sb mt dC dI dA sp H0 l (ax_run sb mt n)
  | 0 => fun p e R s m args below meth c Q ρ0 ad0 M cut pc cd σ h nc ns lv st outs hM hcd hX hr hR => by cases hr
  | n + 1 => sn_bd hsb hMT (sn_run hsb hMT n)
end ALL
end
section
set_option maxRecDepth 100000 in
noncomputable def tX0_init : List ME := [(0, 3, 1, [0], .aload_n 0), (1, 21, 3, [900, 0, 179, 0, 28, 0, 29], .invokespecial 3), (4, 3, 1, [0], .aload_n 0), (5, 0, 2, [0, 64], .bipush 64), (7, 55, 2, [100, 0, 0, 132], .newarray .int), (9, 9, 3, [0, 0, 3, 0, 180], .putfield 9), (12, 3, 1, [0], .aload_n 0), (13, 0, 2, [0, 8], .bipush 8), (15, 55, 2, [100, 0, 0, 132], .newarray .int), (17, 9, 3, [0, 1, 3, 0, 181], .putfield 15), (20, 25, 1, [], .return_)]
noncomputable def mX0_init : MR := (yX0_init, cX0_init, 1, none, { frames := 1, cells := 2, slots := 72, locals := 30 }, 1, tX0_init)
set_option maxRecDepth 100000 in
noncomputable def tX0_clear : List ME := [(0, 3, 1, [0], .aload_n 0), (1, 8, 3, [0, 0, 0, 180], .getfield 9), (4, 0, 1, [0, 0], .iconst 0), (5, 21, 3, [11, 9, 2, 300, 2, 123, 2, 117, 0, 18, 0], .invokestatic 18), (8, 3, 1, [0], .aload_n 0), (9, 8, 3, [0, 1, 0, 181], .getfield 15), (12, 0, 1, [0, 0], .iconst 0), (13, 21, 3, [11, 9, 2, 300, 2, 123, 2, 117, 0, 18, 0], .invokestatic 18), (16, 25, 1, [], .return_)]
noncomputable def mX0_clear : MR := (yX0_clear, cX0_clear, 1, none, { frames := 1, cells := 0, slots := 0, locals := 23 }, 1, tX0_clear)
set_option maxRecDepth 100000 in
noncomputable def tX0_copyFrom : List ME := [(0, 3, 1, [1], .aload_n 1), (1, 8, 3, [0, 0, 0, 180], .getfield 9), (4, 0, 1, [0, 0], .iconst 0), (5, 3, 1, [0], .aload_n 0), (6, 8, 3, [0, 0, 0, 180], .getfield 9), (9, 0, 1, [0, 0], .iconst 0), (10, 3, 1, [0], .aload_n 0), (11, 8, 3, [0, 0, 0, 180], .getfield 9), (14, 53, 1, [], .arraylength), (15, 21, 3, [901, 3, 56, 2, 91, 2, 90, 0, 19], .invokestatic 24), (18, 3, 1, [1], .aload_n 1), (19, 8, 3, [0, 1, 0, 181], .getfield 15), (22, 0, 1, [0, 0], .iconst 0), (23, 3, 1, [0], .aload_n 0), (24, 8, 3, [0, 1, 0, 181], .getfield 15), (27, 0, 1, [0, 0], .iconst 0), (28, 3, 1, [0], .aload_n 0), (29, 8, 3, [0, 1, 0, 181], .getfield 15), (32, 53, 1, [], .arraylength), (33, 21, 3, [901, 3, 56, 2, 91, 2, 90, 0, 19], .invokestatic 24), (36, 25, 1, [], .return_)]
noncomputable def mX0_copyFrom : MR := (yX0_copyFrom, cX0_copyFrom, 2, none, { frames := 1, cells := 0, slots := 0, locals := 60 }, 2, tX0_copyFrom)
set_option maxRecDepth 100000 in
noncomputable def tX0_of : List ME := [(0, 3, 1, [0], .aload_n 0), (1, 8, 3, [0, 0, 0, 180], .getfield 9), (4, 1, 1, [1], .iload_n 1), (5, 0, 2, [0, 8], .bipush 8), (7, 28, 1, [], .imul), (8, 1, 1, [2], .iload_n 2), (9, 26, 1, [], .iadd), (10, 10, 1, [], .iaload), (11, 22, 1, [], .ireturn)]
noncomputable def mX0_of : MR := (yX0_of, cX0_of, 3, (some (.int)), { frames := 0, cells := 0, slots := 0, locals := 0 }, 3, tX0_of)
set_option maxRecDepth 100000 in
noncomputable def tX0_sorrow : List ME := [(0, 0, 1, [0, 0], .iconst 0), (1, 4, 1, [1], .istore_n 1), (2, 0, 1, [0, 0], .iconst 0), (3, 4, 1, [2], .istore_n 2), (4, 1, 1, [2], .iload_n 2), (5, 0, 2, [0, 8], .bipush 8), (7, 18, 3, [25, 3], .if_icmp .ge 18), (10, 1, 1, [1], .iload_n 1), (11, 3, 1, [0], .aload_n 0), (12, 8, 3, [0, 1, 0, 181], .getfield 15), (15, 1, 1, [2], .iload_n 2), (16, 10, 1, [], .iaload), (17, 26, 1, [], .iadd), (18, 4, 1, [1], .istore_n 1), (19, 7, 3, [2, 1], .iinc 2 1), (22, 20, 3, [4], .goto (-18)), (25, 1, 1, [1], .iload_n 1), (26, 22, 1, [], .ireturn)]
noncomputable def mX0_sorrow : MR := (yX0_sorrow, cX0_sorrow, 3, (some (.int)), { frames := 0, cells := 0, slots := 0, locals := 0 }, 1, tX0_sorrow)
set_option maxRecDepth 100000 in
noncomputable def tX0_debtorsOf : List ME := [(0, 0, 1, [0, 0], .iconst 0), (1, 4, 1, [2], .istore_n 2), (2, 0, 1, [0, 0], .iconst 0), (3, 4, 1, [3], .istore_n 3), (4, 1, 1, [3], .iload_n 3), (5, 0, 2, [0, 8], .bipush 8), (7, 18, 3, [31, 3], .if_icmp .ge 24), (10, 3, 1, [0], .aload_n 0), (11, 1, 1, [3], .iload_n 3), (12, 1, 1, [1], .iload_n 1), (13, 21, 3, [0, 3, 0, 0, 3, 191, 3, 192, 3, 193, 0, 9, 0], .invokevirtual 30), (16, 19, 3, [25, 5], .ifCond .le 9), (25, 7, 3, [3, 1], .iinc 3 1), (28, 20, 3, [4], .goto (-24)), (31, 1, 1, [2], .iload_n 2), (32, 22, 1, [], .ireturn)]
noncomputable def mX0_debtorsOf : MR := (yX0_debtorsOf, cX0_debtorsOf, 4, (some (.int)), { frames := 1, cells := 0, slots := 0, locals := 22 }, 2, tX0_debtorsOf)
set_option maxRecDepth 100000 in
noncomputable def tX1_init : List ME := [(0, 3, 1, [0], .aload_n 0), (1, 21, 3, [900, 0, 140, 0, 28, 0, 29], .invokespecial 3), (4, 3, 1, [0], .aload_n 0), (5, 54, 3, [5, 6, 0, 141, 0, 142, 0, 8, 0, 0, 3, 3, 3, 3], .new 9), (8, 50, 1, [], .dup), (9, 21, 3, [1, 1, 1, 5, 0, 143, 0, 144, 0, 8, 1], .invokespecial 11), (12, 9, 3, [1, 0, 3, 0, 189], .putfield 12), (15, 3, 1, [0], .aload_n 0), (16, 54, 3, [0, 2, 0, 174, 0, 175, 0, 9, 3, 3], .new 18), (19, 50, 1, [], .dup), (20, 21, 3, [0, 0, 1, 0, 0, 176, 0, 177, 0, 9, 1], .invokespecial 20), (23, 9, 3, [1, 1, 3, 0, 194], .putfield 21), (26, 3, 1, [0], .aload_n 0), (27, 0, 2, [0, 7], .bipush 7), (29, 55, 2, [101, 1, 0, 133], .newarray .long), (31, 9, 3, [1, 2, 3, 0, 198], .putfield 25), (34, 3, 1, [0], .aload_n 0), (35, 0, 2, [0, 8], .bipush 8), (37, 55, 2, [101, 1, 0, 133], .newarray .long), (39, 9, 3, [1, 3, 3, 0, 200], .putfield 29), (42, 3, 1, [0], .aload_n 0), (43, 0, 1, [0, 0], .iconst 0), (44, 9, 3, [1, 4, 0, 0, 202], .putfield 32), (47, 3, 1, [0], .aload_n 0), (48, 0, 2, [0, 8], .bipush 8), (50, 55, 2, [100, 0, 0, 132], .newarray .int), (52, 9, 3, [1, 5, 3, 0, 208], .putfield 36), (55, 3, 1, [0], .aload_n 0), (56, 0, 2, [0, 8], .bipush 8), (58, 55, 2, [100, 0, 0, 132], .newarray .int), (60, 9, 3, [1, 6, 3, 0, 214], .putfield 40), (63, 3, 1, [0], .aload_n 0), (64, 0, 1, [0, 0], .iconst 0), (65, 9, 3, [1, 7, 0, 0, 217], .putfield 43), (68, 3, 1, [0], .aload_n 0), (69, 0, 1, [0, 0], .iconst 0), (70, 9, 3, [1, 8, 0, 0, 222], .putfield 46), (73, 3, 1, [0], .aload_n 0), (74, 0, 1, [0, 0], .iconst 0), (75, 9, 3, [1, 9, 0, 0, 225], .putfield 49), (78, 3, 1, [0], .aload_n 0), (79, 0, 2, [0, 24], .bipush 24), (81, 55, 2, [100, 0, 0, 132], .newarray .int), (83, 9, 3, [1, 10, 3, 0, 229], .putfield 52), (86, 3, 1, [0], .aload_n 0), (87, 0, 2, [0, 8], .bipush 8), (89, 55, 2, [100, 0, 0, 132], .newarray .int), (91, 9, 3, [1, 11, 3, 0, 232], .putfield 55), (94, 3, 1, [0], .aload_n 0), (95, 0, 1, [0, 0], .iconst 0), (96, 9, 3, [1, 12, 0, 0, 235], .putfield 58), (99, 3, 1, [0], .aload_n 0), (100, 0, 1, [0, 0], .iconst 0), (101, 9, 3, [1, 13, 0, 0, 238], .putfield 61), (104, 3, 1, [0], .aload_n 0), (105, 0, 2, [0, 7], .bipush 7), (107, 55, 2, [100, 0, 0, 132], .newarray .int), (109, 9, 3, [1, 14, 3, 1, 1], .putfield 64), (112, 25, 1, [], .return_)]
noncomputable def mX1_init : MR := (yX1_init, cX1_init, 1, none, { frames := 2, cells := 15, slots := 262, locals := 50 }, 1, tX1_init)
set_option maxRecDepth 100000 in
noncomputable def tX1_clear : List ME := [(0, 3, 1, [0], .aload_n 0), (1, 8, 3, [1, 0, 0, 189], .getfield 12), (4, 21, 3, [1, 2, 0, 5, 2, 112, 2, 113, 2, 114, 0, 8, 0], .invokevirtual 67), (7, 3, 1, [0], .aload_n 0), (8, 8, 3, [1, 1, 0, 194], .getfield 21), (11, 21, 3, [0, 1, 0, 0, 2, 119, 2, 120, 2, 121, 0, 9, 0], .invokevirtual 70), (14, 3, 1, [0], .aload_n 0), (15, 0, 1, [0, 0], .iconst 0), (16, 9, 3, [1, 4, 0, 0, 202], .putfield 32), (19, 3, 1, [0], .aload_n 0), (20, 0, 1, [0, 0], .iconst 0), (21, 9, 3, [1, 7, 0, 0, 217], .putfield 43), (24, 3, 1, [0], .aload_n 0), (25, 0, 1, [0, 0], .iconst 0), (26, 9, 3, [1, 8, 0, 0, 222], .putfield 46), (29, 3, 1, [0], .aload_n 0), (30, 0, 1, [0, 0], .iconst 0), (31, 9, 3, [1, 9, 0, 0, 225], .putfield 49), (34, 3, 1, [0], .aload_n 0), (35, 0, 1, [0, 0], .iconst 0), (36, 9, 3, [1, 12, 0, 0, 235], .putfield 58), (39, 3, 1, [0], .aload_n 0), (40, 0, 1, [0, 0], .iconst 0), (41, 9, 3, [1, 13, 0, 0, 238], .putfield 61), (44, 3, 1, [0], .aload_n 0), (45, 8, 3, [1, 11, 0, 232], .getfield 55), (48, 0, 1, [0, 0], .iconst 0), (49, 21, 3, [11, 9, 2, 300, 2, 124, 2, 117, 0, 18, 0], .invokestatic 71), (52, 3, 1, [0], .aload_n 0), (53, 8, 3, [1, 14, 1, 1], .getfield 64), (56, 0, 1, [0, 0], .iconst 0), (57, 21, 3, [11, 9, 2, 300, 2, 124, 2, 117, 0, 18, 0], .invokestatic 71), (60, 25, 1, [], .return_)]
noncomputable def mX1_clear : MR := (yX1_clear, cX1_clear, 1, none, { frames := 2, cells := 0, slots := 0, locals := 43 }, 1, tX1_clear)
set_option maxRecDepth 100000 in
noncomputable def tX1_copyFrom : List ME := [(0, 3, 1, [0], .aload_n 0), (1, 8, 3, [1, 0, 0, 189], .getfield 12), (4, 3, 1, [1], .aload_n 1), (5, 8, 3, [1, 0, 0, 189], .getfield 12), (8, 21, 3, [1, 3, 0, 5, 3, 47, 3, 48, 3, 49, 0, 8, 0], .invokevirtual 77), (11, 3, 1, [0], .aload_n 0), (12, 8, 3, [1, 1, 0, 194], .getfield 21), (15, 3, 1, [1], .aload_n 1), (16, 8, 3, [1, 1, 0, 194], .getfield 21), (19, 21, 3, [0, 2, 0, 0, 3, 52, 3, 53, 3, 54, 0, 9, 0], .invokevirtual 81), (22, 3, 1, [0], .aload_n 0), (23, 3, 1, [1], .aload_n 1), (24, 8, 3, [1, 4, 0, 202], .getfield 32), (27, 9, 3, [1, 4, 0, 0, 202], .putfield 32), (30, 3, 1, [0], .aload_n 0), (31, 3, 1, [1], .aload_n 1), (32, 8, 3, [1, 7, 0, 217], .getfield 43), (35, 9, 3, [1, 7, 0, 0, 217], .putfield 43), (38, 3, 1, [0], .aload_n 0), (39, 3, 1, [1], .aload_n 1), (40, 8, 3, [1, 8, 0, 222], .getfield 46), (43, 9, 3, [1, 8, 0, 0, 222], .putfield 46), (46, 3, 1, [0], .aload_n 0), (47, 3, 1, [1], .aload_n 1), (48, 8, 3, [1, 9, 0, 225], .getfield 49), (51, 9, 3, [1, 9, 0, 0, 225], .putfield 49), (54, 3, 1, [0], .aload_n 0), (55, 3, 1, [1], .aload_n 1), (56, 8, 3, [1, 12, 0, 235], .getfield 58), (59, 9, 3, [1, 12, 0, 0, 235], .putfield 58), (62, 3, 1, [0], .aload_n 0), (63, 3, 1, [1], .aload_n 1), (64, 8, 3, [1, 13, 0, 238], .getfield 61), (67, 9, 3, [1, 13, 0, 0, 238], .putfield 61), (70, 3, 1, [1], .aload_n 1), (71, 8, 3, [1, 2, 0, 198], .getfield 25), (74, 0, 1, [0, 0], .iconst 0), (75, 3, 1, [0], .aload_n 0), (76, 8, 3, [1, 2, 0, 198], .getfield 25), (79, 0, 1, [0, 0], .iconst 0), (80, 3, 1, [0], .aload_n 0), (81, 8, 3, [1, 2, 0, 198], .getfield 25), (84, 53, 1, [], .arraylength), (85, 21, 3, [901, 3, 57, 2, 91, 2, 90, 0, 19], .invokestatic 84), (88, 3, 1, [1], .aload_n 1), (89, 8, 3, [1, 3, 0, 200], .getfield 29), (92, 0, 1, [0, 0], .iconst 0), (93, 3, 1, [0], .aload_n 0), (94, 8, 3, [1, 3, 0, 200], .getfield 29), (97, 0, 1, [0, 0], .iconst 0), (98, 3, 1, [0], .aload_n 0), (99, 8, 3, [1, 3, 0, 200], .getfield 29), (102, 53, 1, [], .arraylength), (103, 21, 3, [901, 3, 57, 2, 91, 2, 90, 0, 19], .invokestatic 84), (106, 3, 1, [1], .aload_n 1), (107, 8, 3, [1, 5, 0, 208], .getfield 36), (110, 0, 1, [0, 0], .iconst 0), (111, 3, 1, [0], .aload_n 0), (112, 8, 3, [1, 5, 0, 208], .getfield 36), (115, 0, 1, [0, 0], .iconst 0), (116, 3, 1, [0], .aload_n 0), (117, 8, 3, [1, 5, 0, 208], .getfield 36), (120, 53, 1, [], .arraylength), (121, 21, 3, [901, 3, 57, 2, 91, 2, 90, 0, 19], .invokestatic 84), (124, 3, 1, [1], .aload_n 1), (125, 8, 3, [1, 6, 0, 214], .getfield 40), (128, 0, 1, [0, 0], .iconst 0), (129, 3, 1, [0], .aload_n 0), (130, 8, 3, [1, 6, 0, 214], .getfield 40), (133, 0, 1, [0, 0], .iconst 0), (134, 3, 1, [0], .aload_n 0), (135, 8, 3, [1, 6, 0, 214], .getfield 40), (138, 53, 1, [], .arraylength), (139, 21, 3, [901, 3, 57, 2, 91, 2, 90, 0, 19], .invokestatic 84), (142, 3, 1, [1], .aload_n 1), (143, 8, 3, [1, 10, 0, 229], .getfield 52), (146, 0, 1, [0, 0], .iconst 0), (147, 3, 1, [0], .aload_n 0), (148, 8, 3, [1, 10, 0, 229], .getfield 52), (151, 0, 1, [0, 0], .iconst 0), (152, 3, 1, [0], .aload_n 0), (153, 8, 3, [1, 10, 0, 229], .getfield 52), (156, 53, 1, [], .arraylength), (157, 21, 3, [901, 3, 57, 2, 91, 2, 90, 0, 19], .invokestatic 84), (160, 3, 1, [1], .aload_n 1), (161, 8, 3, [1, 11, 0, 232], .getfield 55), (164, 0, 1, [0, 0], .iconst 0), (165, 3, 1, [0], .aload_n 0), (166, 8, 3, [1, 11, 0, 232], .getfield 55), (169, 0, 1, [0, 0], .iconst 0), (170, 3, 1, [0], .aload_n 0), (171, 8, 3, [1, 11, 0, 232], .getfield 55), (174, 53, 1, [], .arraylength), (175, 21, 3, [901, 3, 57, 2, 91, 2, 90, 0, 19], .invokestatic 84), (178, 3, 1, [1], .aload_n 1), (179, 8, 3, [1, 14, 1, 1], .getfield 64), (182, 0, 1, [0, 0], .iconst 0), (183, 3, 1, [0], .aload_n 0), (184, 8, 3, [1, 14, 1, 1], .getfield 64), (187, 0, 1, [0, 0], .iconst 0), (188, 3, 1, [0], .aload_n 0), (189, 8, 3, [1, 14, 1, 1], .getfield 64), (192, 53, 1, [], .arraylength), (193, 21, 3, [901, 3, 57, 2, 91, 2, 90, 0, 19], .invokestatic 84), (196, 25, 1, [], .return_)]
noncomputable def mX1_copyFrom : MR := (yX1_copyFrom, cX1_copyFrom, 2, none, { frames := 2, cells := 0, slots := 0, locals := 81 }, 2, tX1_copyFrom)
set_option maxRecDepth 100000 in
noncomputable def tX1_ghosts : List ME := [(0, 0, 1, [0, 0], .iconst 0), (1, 4, 1, [1], .istore_n 1), (2, 0, 1, [0, 0], .iconst 0), (3, 4, 1, [2], .istore_n 2), (4, 1, 1, [2], .iload_n 2), (5, 3, 1, [0], .aload_n 0), (6, 8, 3, [1, 4, 0, 202], .getfield 32), (9, 18, 3, [32, 3], .if_icmp .ge 23), (32, 1, 1, [1], .iload_n 1), (33, 22, 1, [], .ireturn)]
noncomputable def mX1_ghosts : MR := (yX1_ghosts, cX1_ghosts, 3, (some (.int)), { frames := 0, cells := 0, slots := 0, locals := 0 }, 1, tX1_ghosts)
set_option maxRecDepth 100000 in
noncomputable def tX1_ghostHouses : List ME := [(0, 0, 1, [0, 0], .iconst 0), (1, 4, 1, [1], .istore_n 1), (2, 0, 1, [0, 0], .iconst 0), (3, 4, 1, [2], .istore_n 2), (4, 1, 1, [2], .iload_n 2), (5, 3, 1, [0], .aload_n 0), (6, 8, 3, [1, 4, 0, 202], .getfield 32), (9, 18, 3, [37, 3], .if_icmp .ge 28), (37, 1, 1, [1], .iload_n 1), (38, 22, 1, [], .ireturn)]
noncomputable def mX1_ghostHouses : MR := (yX1_ghostHouses, cX1_ghostHouses, 3, (some (.int)), { frames := 0, cells := 0, slots := 0, locals := 0 }, 1, tX1_ghostHouses)
set_option maxRecDepth 100000 in
noncomputable def tX1_passNights : List ME := [(0, 0, 1, [0, 0], .iconst 0), (1, 4, 1, [2], .istore_n 2), (2, 1, 1, [2], .iload_n 2), (3, 1, 1, [1], .iload_n 1), (4, 18, 3, [52, 3], .if_icmp .ge 48), (7, 3, 1, [0], .aload_n 0), (8, 50, 1, [], .dup), (9, 8, 3, [1, 12, 0, 235], .getfield 58), (12, 0, 1, [0, 1], .iconst 1), (13, 26, 1, [], .iadd), (14, 9, 3, [1, 12, 0, 0, 235], .putfield 58), (17, 0, 1, [0, 0], .iconst 0), (18, 4, 1, [3], .istore_n 3), (19, 1, 1, [3], .iload_n 3), (20, 3, 1, [0], .aload_n 0), (21, 8, 3, [1, 4, 0, 202], .getfield 32), (24, 18, 3, [46, 3], .if_icmp .ge 22), (46, 7, 3, [2, 1], .iinc 2 1), (49, 20, 3, [2], .goto (-47)), (52, 25, 1, [], .return_)]
noncomputable def mX1_passNights : MR := (yX1_passNights, cX1_passNights, 4, none, { frames := 0, cells := 0, slots := 0, locals := 0 }, 2, tX1_passNights)
set_option maxRecDepth 100000 in
noncomputable def tX2_init : List ME := [(0, 3, 1, [0], .aload_n 0), (1, 21, 3, [900, 1, 85, 0, 28, 0, 29], .invokespecial 3), (4, 3, 1, [0], .aload_n 0), (5, 3, 1, [1], .aload_n 1), (6, 9, 3, [2, 0, 3, 1, 86], .putfield 9), (9, 3, 1, [0], .aload_n 0), (10, 3, 1, [2], .aload_n 2), (11, 9, 3, [2, 1, 3, 1, 87], .putfield 15), (14, 25, 1, [], .return_)]
noncomputable def mX2_init : MR := (yX2_init, cX2_init, 3, none, { frames := 1, cells := 0, slots := 0, locals := 30 }, 3, tX2_init)
set_option maxRecDepth 100000 in
noncomputable def tX2_readAll : List ME := [(0, 3, 1, [0], .aload_n 0), (1, 8, 3, [2, 1, 1, 87], .getfield 15), (4, 21, 3, [0, 7, 0, 1, 2, 108, 2, 109, 2, 110, 0, 7, 0], .invokevirtual 19), (7, 3, 1, [0], .aload_n 0), (8, 8, 3, [2, 0, 1, 86], .getfield 9), (11, 1, 1, [1], .iload_n 1), (12, 21, 3, [1, 18, 0, 9, 2, 125, 2, 126, 2, 127, 0, 2, 0], .invokevirtual 24), (15, 0, 1, [0, 0], .iconst 0), (16, 4, 1, [2], .istore_n 2), (17, 1, 1, [2], .iload_n 2), (18, 0, 3, [0, 900], .sipush 900), (21, 18, 3, [45, 3], .if_icmp .ge 24), (24, 3, 1, [0], .aload_n 0), (25, 8, 3, [2, 0, 1, 86], .getfield 9), (28, 21, 3, [2, 0, 0, 9, 2, 156, 2, 157, 2, 158, 0, 2, 0], .invokevirtual 30), (31, 19, 3, [45, 0], .ifCond .eq 14), (45, 3, 1, [0], .aload_n 0), (46, 8, 3, [2, 1, 1, 87], .getfield 15), (49, 8, 3, [1, 0, 0, 190], .getfield 37), (52, 21, 3, [1, 7, 0, 5, 3, 20, 3, 21, 3, 22, 0, 8, 0], .invokevirtual 41), (55, 25, 1, [], .return_)]
noncomputable def mX2_readAll : MR := (yX2_readAll, cX2_readAll, 3, none, { frames := 3, cells := 0, slots := 0, locals := 63 }, 2, tX2_readAll)
set_option maxRecDepth 100000 in
noncomputable def tX3_init : List ME := [(0, 3, 1, [0], .aload_n 0), (1, 21, 3, [900, 1, 153, 0, 28, 0, 29], .invokespecial 3), (4, 3, 1, [0], .aload_n 0), (5, 0, 1, [0, 0], .iconst 0), (6, 9, 3, [3, 0, 1, 1, 154], .putfield 9), (9, 3, 1, [0], .aload_n 0), (10, 0, 1, [0, 0], .iconst 0), (11, 9, 3, [3, 1, 0, 1, 156], .putfield 15), (14, 3, 1, [0], .aload_n 0), (15, 0, 1, [0, 0], .iconst 0), (16, 9, 3, [3, 2, 0, 1, 158], .putfield 19), (19, 3, 1, [0], .aload_n 0), (20, 0, 1, [0, 0], .iconst 0), (21, 9, 3, [3, 3, 0, 1, 160], .putfield 22), (24, 3, 1, [0], .aload_n 0), (25, 0, 1, [0, 0], .iconst 0), (26, 9, 3, [3, 4, 0, 1, 162], .putfield 25), (29, 3, 1, [0], .aload_n 0), (30, 0, 1, [0, 0], .iconst 0), (31, 9, 3, [3, 5, 0, 1, 164], .putfield 28), (34, 3, 1, [0], .aload_n 0), (35, 0, 1, [0, 0], .iconst 0), (36, 9, 3, [3, 6, 0, 1, 166], .putfield 31), (39, 3, 1, [0], .aload_n 0), (40, 0, 1, [0, 0], .iconst 0), (41, 9, 3, [3, 7, 0, 1, 168], .putfield 34), (44, 3, 1, [0], .aload_n 0), (45, 0, 2, [0, 60], .bipush 60), (47, 55, 2, [100, 0, 0, 132], .newarray .int), (49, 9, 3, [3, 8, 3, 1, 169], .putfield 37), (52, 25, 1, [], .return_)]
noncomputable def mX3_init : MR := (yX3_init, cX3_init, 1, none, { frames := 1, cells := 1, slots := 60, locals := 30 }, 1, tX3_init)
set_option maxRecDepth 100000 in
noncomputable def tX4_init : List ME := [(0, 3, 1, [0], .aload_n 0), (1, 21, 3, [900, 1, 135, 0, 28, 0, 29], .invokespecial 3), (4, 3, 1, [0], .aload_n 0), (5, 54, 3, [1, 15, 1, 136, 0, 136, 0, 7, 3, 3, 3, 3, 0, 3, 3, 0, 0, 0, 3, 3, 0, 0, 3], .new 9), (8, 50, 1, [], .dup), (9, 21, 3, [0, 6, 1, 1, 1, 137, 0, 138, 0, 7, 1], .invokespecial 11), (12, 9, 3, [4, 0, 3, 1, 138], .putfield 12), (15, 3, 1, [0], .aload_n 0), (16, 0, 3, [0, 256], .sipush 256), (19, 55, 2, [100, 0, 0, 132], .newarray .int), (21, 9, 3, [4, 1, 3, 1, 139], .putfield 18), (24, 3, 1, [0], .aload_n 0), (25, 0, 2, [0, 8], .bipush 8), (27, 55, 2, [100, 0, 0, 132], .newarray .int), (29, 9, 3, [4, 2, 3, 1, 140], .putfield 22), (32, 25, 1, [], .return_)]
noncomputable def mX4_init : MR := (yX4_init, cX4_init, 1, none, { frames := 3, cells := 18, slots := 541, locals := 70 }, 1, tX4_init)
set_option maxRecDepth 100000 in
noncomputable def tX4_bestDeath : List ME := [(0, 0, 1, [0, 4294967295], .iconst (-1)), (1, 4, 1, [2], .istore_n 2), (2, 0, 1, [0, 0], .iconst 0), (3, 4, 1, [3], .istore_n 3), (4, 0, 1, [0, 0], .iconst 0), (5, 4, 2, [4], .istore 4), (7, 1, 2, [4], .iload 4), (9, 3, 1, [1], .aload_n 1), (10, 8, 3, [1, 4, 0, 203], .getfield 43), (13, 18, 3, [57, 3], .if_icmp .ge 44), (57, 1, 1, [2], .iload_n 2), (58, 22, 1, [], .ireturn)]
noncomputable def mX4_bestDeath : MR := (yX4_bestDeath, cX4_bestDeath, 6, (some (.int)), { frames := 0, cells := 0, slots := 0, locals := 0 }, 2, tX4_bestDeath)
set_option maxRecDepth 100000 in
noncomputable def tX4_bestKeeper : List ME := [(0, 0, 1, [0, 4294967295], .iconst (-1)), (1, 4, 1, [2], .istore_n 2), (2, 0, 1, [0, 0], .iconst 0), (3, 4, 1, [3], .istore_n 3), (4, 0, 1, [0, 0], .iconst 0), (5, 4, 2, [4], .istore 4), (7, 1, 2, [4], .iload 4), (9, 3, 1, [1], .aload_n 1), (10, 8, 3, [1, 4, 0, 203], .getfield 43), (13, 18, 3, [65, 3], .if_icmp .ge 52), (65, 1, 1, [2], .iload_n 2), (66, 22, 1, [], .ireturn)]
noncomputable def mX4_bestKeeper : MR := (yX4_bestKeeper, cX4_bestKeeper, 6, (some (.int)), { frames := 0, cells := 0, slots := 0, locals := 0 }, 2, tX4_bestKeeper)
set_option maxRecDepth 100000 in
noncomputable def tX4_deadCouple : List ME := [(0, 0, 1, [0, 4294967295], .iconst (-1)), (1, 4, 1, [2], .istore_n 2), (2, 0, 1, [0, 0], .iconst 0), (3, 4, 1, [3], .istore_n 3), (4, 0, 1, [0, 0], .iconst 0), (5, 4, 2, [4], .istore 4), (7, 1, 2, [4], .iload 4), (9, 3, 1, [1], .aload_n 1), (10, 8, 3, [1, 4, 0, 203], .getfield 43), (13, 18, 3, [130, 3], .if_icmp .ge 117), (130, 1, 1, [2], .iload_n 2), (131, 22, 1, [], .ireturn)]
noncomputable def mX4_deadCouple : MR := (yX4_deadCouple, cX4_deadCouple, 8, (some (.int)), { frames := 1, cells := 0, slots := 0, locals := 22 }, 2, tX4_deadCouple)
set_option maxRecDepth 100000 in
noncomputable def tX4_longestRow : List ME := [(0, 0, 1, [0, 0], .iconst 0), (1, 4, 1, [2], .istore_n 2), (2, 1, 1, [2], .iload_n 2), (3, 0, 2, [0, 8], .bipush 8), (5, 18, 3, [28, 3], .if_icmp .ge 23), (8, 3, 1, [0], .aload_n 0), (9, 8, 3, [4, 2, 1, 140], .getfield 22), (12, 1, 1, [2], .iload_n 2), (13, 3, 1, [1], .aload_n 1), (14, 8, 3, [1, 1, 0, 195], .getfield 33), (17, 1, 1, [2], .iload_n 2), (18, 21, 3, [0, 5, 0, 0, 5, 149, 5, 150, 5, 151, 0, 9, 0], .invokevirtual 115), (21, 14, 1, [], .iastore), (22, 7, 3, [2, 1], .iinc 2 1), (25, 20, 3, [2], .goto (-23)), (28, 0, 1, [0, 0], .iconst 0), (29, 4, 1, [2], .istore_n 2), (30, 0, 1, [0, 1], .iconst 1), (31, 4, 1, [3], .istore_n 3), (32, 1, 1, [3], .iload_n 3), (33, 0, 1, [0, 1], .iconst 1), (34, 3, 1, [1], .aload_n 1), (35, 8, 3, [1, 4, 0, 203], .getfield 43), (38, 32, 1, [], .ishl), (39, 18, 3, [93, 3], .if_icmp .ge 54), (93, 1, 1, [2], .iload_n 2), (94, 22, 1, [], .ireturn)]
noncomputable def mX4_longestRow : MR := (yX4_longestRow, cX4_longestRow, 5, (some (.int)), { frames := 2, cells := 0, slots := 0, locals := 45 }, 2, tX4_longestRow)
set_option maxRecDepth 100000 in
noncomputable def tX4_bestThreshold : List ME := [(0, 0, 1, [0, 4294967295], .iconst (-1)), (1, 4, 1, [2], .istore_n 2), (2, 0, 1, [0, 0], .iconst 0), (3, 4, 1, [3], .istore_n 3), (4, 0, 1, [0, 0], .iconst 0), (5, 4, 2, [4], .istore 4), (7, 1, 2, [4], .iload 4), (9, 3, 1, [1], .aload_n 1), (10, 8, 3, [1, 0, 0, 191], .getfield 71), (13, 8, 3, [5, 0, 0, 149], .getfield 75), (16, 18, 3, [76, 3], .if_icmp .ge 60), (76, 1, 1, [2], .iload_n 2), (77, 22, 1, [], .ireturn)]
noncomputable def mX4_bestThreshold : MR := (yX4_bestThreshold, cX4_bestThreshold, 6, (some (.int)), { frames := 0, cells := 0, slots := 0, locals := 0 }, 2, tX4_bestThreshold)
set_option maxRecDepth 100000 in
noncomputable def tX5_init : List ME := [(0, 3, 1, [0], .aload_n 0), (1, 21, 3, [900, 0, 146, 0, 28, 0, 29], .invokespecial 3), (4, 3, 1, [0], .aload_n 0), (5, 0, 1, [0, 0], .iconst 0), (6, 9, 3, [5, 0, 0, 0, 147], .putfield 9), (9, 3, 1, [0], .aload_n 0), (10, 0, 1, [0, 0], .iconst 0), (11, 9, 3, [5, 1, 0, 0, 152], .putfield 15), (14, 3, 1, [0], .aload_n 0), (15, 0, 2, [0, 7], .bipush 7), (17, 55, 2, [100, 0, 0, 132], .newarray .int), (19, 9, 3, [5, 2, 3, 0, 156], .putfield 18), (22, 3, 1, [0], .aload_n 0), (23, 0, 2, [0, 49], .bipush 49), (25, 55, 2, [100, 0, 0, 132], .newarray .int), (27, 9, 3, [5, 3, 3, 0, 158], .putfield 22), (30, 3, 1, [0], .aload_n 0), (31, 0, 2, [0, 49], .bipush 49), (33, 55, 2, [100, 0, 0, 132], .newarray .int), (35, 9, 3, [5, 4, 3, 0, 159], .putfield 25), (38, 3, 1, [0], .aload_n 0), (39, 0, 2, [0, 7], .bipush 7), (41, 55, 2, [100, 0, 0, 132], .newarray .int), (43, 9, 3, [5, 5, 3, 0, 160], .putfield 28), (46, 25, 1, [], .return_)]
noncomputable def mX5_init : MR := (yX5_init, cX5_init, 1, none, { frames := 1, cells := 4, slots := 112, locals := 30 }, 1, tX5_init)
set_option maxRecDepth 100000 in
noncomputable def tX5_clear : List ME := [(0, 3, 1, [0], .aload_n 0), (1, 0, 1, [0, 0], .iconst 0), (2, 9, 3, [5, 0, 0, 0, 147], .putfield 9), (5, 3, 1, [0], .aload_n 0), (6, 0, 1, [0, 0], .iconst 0), (7, 9, 3, [5, 1, 0, 0, 152], .putfield 15), (10, 3, 1, [0], .aload_n 0), (11, 8, 3, [5, 2, 0, 156], .getfield 18), (14, 0, 1, [0, 0], .iconst 0), (15, 21, 3, [11, 9, 2, 300, 2, 116, 2, 117, 0, 18, 0], .invokestatic 31), (18, 25, 1, [], .return_)]
noncomputable def mX5_clear : MR := (yX5_clear, cX5_clear, 1, none, { frames := 1, cells := 0, slots := 0, locals := 23 }, 1, tX5_clear)
set_option maxRecDepth 100000 in
noncomputable def tX5_copyFrom : List ME := [(0, 3, 1, [0], .aload_n 0), (1, 3, 1, [1], .aload_n 1), (2, 8, 3, [5, 0, 0, 147], .getfield 9), (5, 9, 3, [5, 0, 0, 0, 147], .putfield 9), (8, 3, 1, [0], .aload_n 0), (9, 3, 1, [1], .aload_n 1), (10, 8, 3, [5, 1, 0, 152], .getfield 15), (13, 9, 3, [5, 1, 0, 0, 152], .putfield 15), (16, 3, 1, [1], .aload_n 1), (17, 8, 3, [5, 2, 0, 156], .getfield 18), (20, 0, 1, [0, 0], .iconst 0), (21, 3, 1, [0], .aload_n 0), (22, 8, 3, [5, 2, 0, 156], .getfield 18), (25, 0, 1, [0, 0], .iconst 0), (26, 3, 1, [0], .aload_n 0), (27, 8, 3, [5, 2, 0, 156], .getfield 18), (30, 53, 1, [], .arraylength), (31, 21, 3, [901, 3, 51, 2, 91, 2, 90, 0, 19], .invokestatic 37), (34, 3, 1, [1], .aload_n 1), (35, 8, 3, [5, 3, 0, 158], .getfield 22), (38, 0, 1, [0, 0], .iconst 0), (39, 3, 1, [0], .aload_n 0), (40, 8, 3, [5, 3, 0, 158], .getfield 22), (43, 0, 1, [0, 0], .iconst 0), (44, 3, 1, [0], .aload_n 0), (45, 8, 3, [5, 3, 0, 158], .getfield 22), (48, 53, 1, [], .arraylength), (49, 21, 3, [901, 3, 51, 2, 91, 2, 90, 0, 19], .invokestatic 37), (52, 3, 1, [1], .aload_n 1), (53, 8, 3, [5, 4, 0, 159], .getfield 25), (56, 0, 1, [0, 0], .iconst 0), (57, 3, 1, [0], .aload_n 0), (58, 8, 3, [5, 4, 0, 159], .getfield 25), (61, 0, 1, [0, 0], .iconst 0), (62, 3, 1, [0], .aload_n 0), (63, 8, 3, [5, 4, 0, 159], .getfield 25), (66, 53, 1, [], .arraylength), (67, 21, 3, [901, 3, 51, 2, 91, 2, 90, 0, 19], .invokestatic 37), (70, 25, 1, [], .return_)]
noncomputable def mX5_copyFrom : MR := (yX5_copyFrom, cX5_copyFrom, 2, none, { frames := 1, cells := 0, slots := 0, locals := 60 }, 2, tX5_copyFrom)
set_option maxRecDepth 100000 in
noncomputable def tX5_couples : List ME := [(0, 0, 1, [0, 0], .iconst 0), (1, 4, 1, [1], .istore_n 1), (2, 0, 1, [0, 0], .iconst 0), (3, 4, 1, [2], .istore_n 2), (4, 1, 1, [2], .iload_n 2), (5, 3, 1, [0], .aload_n 0), (6, 8, 3, [5, 0, 0, 147], .getfield 9), (9, 18, 3, [30, 3], .if_icmp .ge 21), (30, 1, 1, [1], .iload_n 1), (31, 0, 1, [0, 2], .iconst 2), (32, 35, 1, [], .idiv), (33, 22, 1, [], .ireturn)]
noncomputable def mX5_couples : MR := (yX5_couples, cX5_couples, 3, (some (.int)), { frames := 0, cells := 0, slots := 0, locals := 0 }, 1, tX5_couples)
set_option maxRecDepth 100000 in
noncomputable def tX5_around : List ME := [(0, 0, 1, [0, 0], .iconst 0), (1, 4, 1, [2], .istore_n 2), (2, 0, 1, [0, 0], .iconst 0), (3, 4, 1, [3], .istore_n 3), (4, 1, 1, [3], .iload_n 3), (5, 3, 1, [0], .aload_n 0), (6, 8, 3, [5, 0, 0, 147], .getfield 9), (9, 18, 3, [36, 3], .if_icmp .ge 27), (36, 1, 1, [2], .iload_n 2), (37, 22, 1, [], .ireturn)]
noncomputable def mX5_around : MR := (yX5_around, cX5_around, 4, (some (.int)), { frames := 0, cells := 0, slots := 0, locals := 0 }, 2, tX5_around)
set_option maxRecDepth 100000 in
noncomputable def tX5_spread : List ME := [(0, 1, 1, [1], .iload_n 1), (1, 4, 1, [3], .istore_n 3), (2, 0, 1, [0, 0], .iconst 0), (3, 4, 2, [4], .istore 4), (5, 1, 2, [4], .iload 4), (7, 0, 2, [0, 7], .bipush 7), (9, 18, 3, [30, 3], .if_icmp .ge 21), (12, 1, 1, [3], .iload_n 3), (13, 3, 1, [0], .aload_n 0), (14, 1, 1, [3], .iload_n 3), (15, 21, 3, [1, 5, 0, 5, 3, 31, 3, 32, 3, 33, 0, 8, 0], .invokevirtual 56), (18, 1, 1, [2], .iload_n 2), (19, 0, 1, [0, 4294967295], .iconst (-1)), (20, 31, 1, [], .ixor), (21, 29, 1, [], .iand), (22, 30, 1, [], .ior), (23, 4, 1, [3], .istore_n 3), (24, 7, 3, [4, 1], .iinc 4 1), (27, 20, 3, [5], .goto (-22)), (30, 1, 1, [3], .iload_n 3), (31, 22, 1, [], .ireturn)]
noncomputable def mX5_spread : MR := (yX5_spread, cX5_spread, 5, (some (.int)), { frames := 1, cells := 0, slots := 0, locals := 23 }, 3, tX5_spread)
set_option maxRecDepth 100000 in
noncomputable def tX5_survey : List ME := [(0, 0, 1, [0, 0], .iconst 0), (1, 4, 1, [1], .istore_n 1), (2, 1, 1, [1], .iload_n 1), (3, 3, 1, [0], .aload_n 0), (4, 8, 3, [5, 0, 0, 147], .getfield 9), (7, 18, 3, [21, 3], .if_icmp .ge 14), (21, 0, 1, [0, 0], .iconst 0), (22, 4, 1, [1], .istore_n 1), (23, 1, 1, [1], .iload_n 1), (24, 3, 1, [0], .aload_n 0), (25, 8, 3, [5, 0, 0, 147], .getfield 9), (28, 18, 3, [70, 3], .if_icmp .ge 42), (70, 25, 1, [], .return_)]
noncomputable def mX5_survey : MR := (yX5_survey, cX5_survey, 3, none, { frames := 0, cells := 0, slots := 0, locals := 0 }, 1, tX5_survey)
set_option maxRecDepth 100000 in
noncomputable def tX6_init : List ME := [(0, 3, 1, [0], .aload_n 0), (1, 21, 3, [900, 1, 120, 0, 28, 0, 29], .invokespecial 3), (4, 3, 1, [0], .aload_n 0), (5, 54, 3, [1, 15, 1, 121, 0, 136, 0, 7, 3, 3, 3, 3, 0, 3, 3, 0, 0, 0, 3, 3, 0, 0, 3], .new 9), (8, 50, 1, [], .dup), (9, 21, 3, [0, 6, 1, 1, 1, 122, 0, 138, 0, 7, 1], .invokespecial 11), (12, 9, 3, [6, 0, 3, 1, 123], .putfield 12), (15, 3, 1, [0], .aload_n 0), (16, 0, 2, [0, 7], .bipush 7), (18, 55, 2, [100, 0, 0, 132], .newarray .int), (20, 9, 3, [6, 1, 3, 1, 124], .putfield 18), (23, 25, 1, [], .return_)]
noncomputable def mX6_init : MR := (yX6_init, cX6_init, 1, none, { frames := 3, cells := 17, slots := 284, locals := 70 }, 1, tX6_init)
set_option maxRecDepth 100000 in
noncomputable def tX6_fullestHouse : List ME := [(0, 3, 1, [0], .aload_n 0), (1, 8, 3, [6, 0, 1, 123], .getfield 12), (4, 3, 1, [1], .aload_n 1), (5, 21, 3, [0, 8, 0, 1, 4, 121, 3, 44, 3, 45, 0, 7, 0], .invokevirtual 22), (8, 3, 1, [0], .aload_n 0), (9, 8, 3, [6, 1, 1, 124], .getfield 18), (12, 0, 1, [0, 0], .iconst 0), (13, 21, 3, [11, 9, 2, 300, 4, 217, 2, 117, 0, 18, 0], .invokestatic 55), (16, 1, 1, [2], .iload_n 2), (17, 19, 3, [24, 1], .ifCond .ne 7), (20, 3, 1, [0], .aload_n 0), (21, 21, 3, [1, 10, 0, 6, 4, 218, 4, 220, 10, 37, 0, 13, 0], .invokevirtual 61), (24, 0, 1, [0, 0], .iconst 0), (25, 4, 1, [3], .istore_n 3), (26, 1, 1, [3], .iload_n 3), (27, 1, 1, [2], .iload_n 2), (28, 18, 3, [49, 3], .if_icmp .ge 21), (31, 3, 1, [0], .aload_n 0), (32, 8, 3, [6, 0, 1, 123], .getfield 12), (35, 0, 1, [0, 1], .iconst 1), (36, 21, 3, [0, 11, 0, 1, 4, 122, 3, 237, 3, 238, 0, 7, 0], .invokevirtual 26), (39, 3, 1, [0], .aload_n 0), (40, 21, 3, [1, 10, 0, 6, 4, 218, 4, 220, 10, 37, 0, 13, 0], .invokevirtual 61), (43, 7, 3, [3, 1], .iinc 3 1), (46, 20, 3, [26], .goto (-20)), (49, 0, 1, [0, 4294967295], .iconst (-1)), (50, 4, 1, [3], .istore_n 3), (51, 0, 1, [0, 0], .iconst 0), (52, 4, 2, [4], .istore 4), (54, 0, 1, [0, 0], .iconst 0), (55, 4, 2, [5], .istore 5), (57, 1, 2, [5], .iload 5), (59, 0, 2, [0, 7], .bipush 7), (61, 18, 3, [94, 3], .if_icmp .ge 33), (64, 3, 1, [0], .aload_n 0), (65, 8, 3, [6, 1, 1, 124], .getfield 18), (68, 1, 2, [5], .iload 5), (70, 10, 1, [], .iaload), (71, 1, 2, [4], .iload 4), (73, 18, 3, [88, 5], .if_icmp .le 15), (88, 7, 3, [5, 1], .iinc 5 1), (91, 20, 3, [57], .goto (-34)), (94, 1, 1, [3], .iload_n 3), (95, 22, 1, [], .ireturn)]
noncomputable def mX6_fullestHouse : MR := (yX6_fullestHouse, cX6_fullestHouse, 6, (some (.int)), { frames := 3, cells := 0, slots := 0, locals := 102 }, 3, tX6_fullestHouse)
set_option maxRecDepth 100000 in
noncomputable def tX6_countVisits : List ME := [(0, 0, 1, [0, 0], .iconst 0), (1, 4, 1, [1], .istore_n 1), (2, 1, 1, [1], .iload_n 1), (3, 3, 1, [0], .aload_n 0), (4, 8, 3, [6, 0, 1, 123], .getfield 12), (7, 8, 3, [1, 4, 0, 207], .getfield 64), (10, 18, 3, [48, 3], .if_icmp .ge 38), (48, 25, 1, [], .return_)]
noncomputable def mX6_countVisits : MR := (yX6_countVisits, cX6_countVisits, 2, none, { frames := 0, cells := 0, slots := 0, locals := 0 }, 1, tX6_countVisits)
set_option maxRecDepth 100000 in
noncomputable def tX7_init : List ME := [(0, 3, 1, [0], .aload_n 0), (1, 21, 3, [900, 1, 42, 0, 28, 0, 29], .invokespecial 3), (4, 3, 1, [0], .aload_n 0), (5, 0, 1, [0, 0], .iconst 0), (6, 9, 3, [7, 0, 1, 1, 43], .putfield 9), (9, 3, 1, [0], .aload_n 0), (10, 0, 1, [0, 0], .iconst 0), (11, 9, 3, [7, 1, 0, 1, 46], .putfield 15), (14, 3, 1, [0], .aload_n 0), (15, 0, 1, [0, 0], .iconst 0), (16, 9, 3, [7, 2, 0, 1, 49], .putfield 19), (19, 3, 1, [0], .aload_n 0), (20, 0, 2, [0, 60], .bipush 60), (22, 55, 2, [100, 0, 0, 132], .newarray .int), (24, 9, 3, [7, 3, 3, 1, 52], .putfield 22), (27, 3, 1, [0], .aload_n 0), (28, 0, 2, [0, 60], .bipush 60), (30, 55, 2, [100, 0, 0, 132], .newarray .int), (32, 9, 3, [7, 4, 3, 1, 54], .putfield 26), (35, 3, 1, [0], .aload_n 0), (36, 0, 2, [0, 60], .bipush 60), (38, 55, 2, [100, 0, 0, 132], .newarray .int), (40, 9, 3, [7, 5, 3, 1, 56], .putfield 29), (43, 3, 1, [0], .aload_n 0), (44, 0, 2, [0, 60], .bipush 60), (46, 55, 2, [100, 0, 0, 132], .newarray .int), (48, 9, 3, [7, 6, 3, 1, 58], .putfield 32), (51, 3, 1, [0], .aload_n 0), (52, 0, 2, [0, 60], .bipush 60), (54, 55, 2, [100, 0, 0, 132], .newarray .int), (56, 9, 3, [7, 7, 3, 1, 60], .putfield 35), (59, 25, 1, [], .return_)]
noncomputable def mX7_init : MR := (yX7_init, cX7_init, 1, none, { frames := 1, cells := 5, slots := 300, locals := 30 }, 1, tX7_init)
set_option maxRecDepth 100000 in
noncomputable def tX7_clear : List ME := [(0, 3, 1, [0], .aload_n 0), (1, 0, 1, [0, 0], .iconst 0), (2, 9, 3, [7, 0, 1, 1, 43], .putfield 9), (5, 3, 1, [0], .aload_n 0), (6, 0, 1, [0, 0], .iconst 0), (7, 9, 3, [7, 1, 0, 1, 46], .putfield 15), (10, 3, 1, [0], .aload_n 0), (11, 0, 1, [0, 0], .iconst 0), (12, 9, 3, [7, 2, 0, 1, 49], .putfield 19), (15, 25, 1, [], .return_)]
noncomputable def mX7_clear : MR := (yX7_clear, cX7_clear, 1, none, { frames := 0, cells := 0, slots := 0, locals := 0 }, 1, tX7_clear)
set_option maxRecDepth 100000 in
noncomputable def tX7_copyFrom : List ME := [(0, 3, 1, [0], .aload_n 0), (1, 3, 1, [1], .aload_n 1), (2, 8, 3, [7, 0, 1, 43], .getfield 9), (5, 9, 3, [7, 0, 1, 1, 43], .putfield 9), (8, 3, 1, [0], .aload_n 0), (9, 3, 1, [1], .aload_n 1), (10, 8, 3, [7, 1, 1, 46], .getfield 15), (13, 9, 3, [7, 1, 0, 1, 46], .putfield 15), (16, 3, 1, [0], .aload_n 0), (17, 3, 1, [1], .aload_n 1), (18, 8, 3, [7, 2, 1, 49], .getfield 19), (21, 9, 3, [7, 2, 0, 1, 49], .putfield 19), (24, 3, 1, [1], .aload_n 1), (25, 8, 3, [7, 3, 1, 52], .getfield 22), (28, 0, 1, [0, 0], .iconst 0), (29, 3, 1, [0], .aload_n 0), (30, 8, 3, [7, 3, 1, 52], .getfield 22), (33, 0, 1, [0, 0], .iconst 0), (34, 3, 1, [0], .aload_n 0), (35, 8, 3, [7, 3, 1, 52], .getfield 22), (38, 53, 1, [], .arraylength), (39, 21, 3, [901, 3, 144, 2, 91, 2, 90, 0, 19], .invokestatic 38), (42, 3, 1, [1], .aload_n 1), (43, 8, 3, [7, 4, 1, 54], .getfield 26), (46, 0, 1, [0, 0], .iconst 0), (47, 3, 1, [0], .aload_n 0), (48, 8, 3, [7, 4, 1, 54], .getfield 26), (51, 0, 1, [0, 0], .iconst 0), (52, 3, 1, [0], .aload_n 0), (53, 8, 3, [7, 4, 1, 54], .getfield 26), (56, 53, 1, [], .arraylength), (57, 21, 3, [901, 3, 144, 2, 91, 2, 90, 0, 19], .invokestatic 38), (60, 3, 1, [1], .aload_n 1), (61, 8, 3, [7, 5, 1, 56], .getfield 29), (64, 0, 1, [0, 0], .iconst 0), (65, 3, 1, [0], .aload_n 0), (66, 8, 3, [7, 5, 1, 56], .getfield 29), (69, 0, 1, [0, 0], .iconst 0), (70, 3, 1, [0], .aload_n 0), (71, 8, 3, [7, 5, 1, 56], .getfield 29), (74, 53, 1, [], .arraylength), (75, 21, 3, [901, 3, 144, 2, 91, 2, 90, 0, 19], .invokestatic 38), (78, 3, 1, [1], .aload_n 1), (79, 8, 3, [7, 6, 1, 58], .getfield 32), (82, 0, 1, [0, 0], .iconst 0), (83, 3, 1, [0], .aload_n 0), (84, 8, 3, [7, 6, 1, 58], .getfield 32), (87, 0, 1, [0, 0], .iconst 0), (88, 3, 1, [0], .aload_n 0), (89, 8, 3, [7, 6, 1, 58], .getfield 32), (92, 53, 1, [], .arraylength), (93, 21, 3, [901, 3, 144, 2, 91, 2, 90, 0, 19], .invokestatic 38), (96, 3, 1, [1], .aload_n 1), (97, 8, 3, [7, 7, 1, 60], .getfield 35), (100, 0, 1, [0, 0], .iconst 0), (101, 3, 1, [0], .aload_n 0), (102, 8, 3, [7, 7, 1, 60], .getfield 35), (105, 0, 1, [0, 0], .iconst 0), (106, 3, 1, [0], .aload_n 0), (107, 8, 3, [7, 7, 1, 60], .getfield 35), (110, 53, 1, [], .arraylength), (111, 21, 3, [901, 3, 144, 2, 91, 2, 90, 0, 19], .invokestatic 38), (114, 25, 1, [], .return_)]
noncomputable def mX7_copyFrom : MR := (yX7_copyFrom, cX7_copyFrom, 2, none, { frames := 1, cells := 0, slots := 0, locals := 60 }, 2, tX7_copyFrom)
set_option maxRecDepth 100000 in
noncomputable def tX8_init : List ME := [(0, 3, 1, [0], .aload_n 0), (1, 21, 3, [900, 1, 98, 0, 28, 0, 29], .invokespecial 3), (4, 3, 1, [0], .aload_n 0), (5, 0, 1, [0, 3], .iconst 3), (6, 55, 2, [100, 0, 0, 132], .newarray .int), (8, 9, 3, [8, 3, 3, 1, 102], .putfield 9), (11, 3, 1, [0], .aload_n 0), (12, 0, 1, [0, 0], .iconst 0), (13, 9, 3, [8, 4, 0, 1, 103], .putfield 15), (16, 3, 1, [0], .aload_n 0), (17, 3, 1, [1], .aload_n 1), (18, 9, 3, [8, 0, 3, 1, 99], .putfield 19), (21, 3, 1, [0], .aload_n 0), (22, 3, 1, [2], .aload_n 2), (23, 9, 3, [8, 1, 3, 1, 100], .putfield 23), (26, 3, 1, [0], .aload_n 0), (27, 3, 1, [3], .aload_n 3), (28, 9, 3, [8, 2, 3, 1, 101], .putfield 27), (31, 25, 1, [], .return_)]
noncomputable def mX8_init : MR := (yX8_init, cX8_init, 4, none, { frames := 1, cells := 1, slots := 3, locals := 30 }, 4, tX8_init)
set_option maxRecDepth 100000 in
noncomputable def tX8_readAll : List ME := [(0, 3, 1, [0], .aload_n 0), (1, 8, 3, [8, 2, 1, 101], .getfield 27), (4, 21, 3, [1, 12, 0, 7, 3, 74, 3, 59, 3, 60, 0, 10, 0], .invokevirtual 31), (7, 3, 1, [0], .aload_n 0), (8, 0, 1, [0, 0], .iconst 0), (9, 9, 3, [8, 4, 0, 1, 103], .putfield 15), (12, 3, 1, [0], .aload_n 0), (13, 8, 3, [8, 0, 1, 99], .getfield 19), (16, 1, 1, [1], .iload_n 1), (17, 21, 3, [1, 18, 0, 9, 3, 75, 2, 126, 2, 127, 0, 2, 0], .invokevirtual 36), (20, 0, 1, [0, 0], .iconst 0), (21, 4, 1, [2], .istore_n 2), (22, 1, 1, [2], .iload_n 2), (23, 0, 3, [0, 300], .sipush 300), (26, 18, 3, [70, 3], .if_icmp .ge 44), (29, 3, 1, [0], .aload_n 0), (30, 8, 3, [8, 0, 1, 99], .getfield 19), (33, 21, 3, [2, 0, 0, 9, 3, 76, 2, 157, 2, 158, 0, 2, 0], .invokevirtual 42), (36, 19, 3, [70, 0], .ifCond .eq 34), (70, 3, 1, [0], .aload_n 0), (71, 8, 3, [8, 4, 1, 103], .getfield 15), (74, 19, 3, [86, 5], .ifCond .le 12), (86, 3, 1, [0], .aload_n 0), (87, 8, 3, [8, 2, 1, 101], .getfield 27), (90, 0, 1, [0, 1], .iconst 1), (91, 9, 3, [7, 0, 1, 1, 44], .putfield 59), (94, 25, 1, [], .return_)]
noncomputable def mX8_readAll : MR := (yX8_readAll, cX8_readAll, 3, none, { frames := 2, cells := 0, slots := 0, locals := 51 }, 2, tX8_readAll)
set_option maxRecDepth 100000 in
noncomputable def tX9_init : List ME := [(0, 3, 1, [0], .aload_n 0), (1, 21, 3, [900, 0, 37, 0, 28, 0, 29], .invokespecial 3), (4, 3, 1, [0], .aload_n 0), (5, 0, 3, [0, 900], .sipush 900), (8, 55, 2, [100, 0, 0, 132], .newarray .int), (10, 9, 3, [9, 0, 3, 0, 89], .putfield 9), (13, 3, 1, [0], .aload_n 0), (14, 0, 1, [0, 0], .iconst 0), (15, 9, 3, [9, 1, 0, 0, 90], .putfield 15), (18, 3, 1, [0], .aload_n 0), (19, 0, 2, [0, 24], .bipush 24), (21, 55, 2, [101, 1, 0, 133], .newarray .long), (23, 9, 3, [9, 2, 3, 0, 92], .putfield 19), (26, 3, 1, [0], .aload_n 0), (27, 0, 1, [0, 0], .iconst 0), (28, 9, 3, [9, 3, 0, 0, 93], .putfield 23), (31, 3, 1, [0], .aload_n 0), (32, 0, 1, [0, 0], .iconst 0), (33, 9, 3, [9, 4, 0, 0, 94], .putfield 26), (36, 3, 1, [0], .aload_n 0), (37, 0, 1, [0, 0], .iconst 0), (38, 9, 3, [9, 5, 0, 0, 95], .putfield 29), (41, 3, 1, [0], .aload_n 0), (42, 0, 1, [0, 0], .iconst 0), (43, 9, 3, [9, 6, 0, 0, 97], .putfield 32), (46, 3, 1, [0], .aload_n 0), (47, 0, 1, [1, 0], .lconst 0), (48, 9, 3, [9, 7, 2, 0, 98], .putfield 35), (51, 3, 1, [0], .aload_n 0), (52, 0, 1, [0, 4294967295], .iconst (-1)), (53, 9, 3, [9, 8, 0, 0, 100], .putfield 39), (56, 3, 1, [0], .aload_n 0), (57, 0, 1, [0, 0], .iconst 0), (58, 9, 3, [9, 9, 0, 0, 102], .putfield 42), (61, 3, 1, [0], .aload_n 0), (62, 0, 1, [0, 4294967295], .iconst (-1)), (63, 9, 3, [9, 10, 0, 0, 103], .putfield 45), (66, 3, 1, [0], .aload_n 0), (67, 0, 1, [0, 4294967295], .iconst (-1)), (68, 9, 3, [9, 11, 0, 0, 105], .putfield 48), (71, 0, 1, [1, 0], .lconst 0), (72, 5, 1, [1], .lstore_n 1), (73, 0, 1, [0, 0], .iconst 0), (74, 4, 1, [3], .istore_n 3), (75, 0, 1, [0, 0], .iconst 0), (76, 4, 2, [4], .istore 4), (78, 1, 2, [4], .iload 4), (80, 0, 2, [6, 1, 0, 38], .ldc 51), (82, 21, 3, [11, 2, 0, 200, 0, 39, 0, 40, 0, 41, 0, 3, 0], .invokevirtual 53), (85, 18, 3, [147, 3], .if_icmp .ge 62), (88, 1, 1, [3], .iload_n 3), (89, 0, 2, [0, 24], .bipush 24), (91, 18, 3, [147, 3], .if_icmp .ge 56), (94, 0, 2, [6, 1, 0, 38], .ldc 51), (96, 1, 2, [4], .iload 4), (98, 21, 3, [11, 3, 0, 200, 0, 49, 0, 50, 0, 51, 0, 3, 0], .invokevirtual 58), (101, 4, 2, [5], .istore 5), (103, 1, 2, [5], .iload 5), (105, 0, 2, [0, 32], .bipush 32), (107, 18, 3, [125, 1], .if_icmp .ne 18), (110, 3, 1, [0], .aload_n 0), (111, 8, 3, [9, 2, 0, 92], .getfield 19), (114, 1, 1, [3], .iload_n 3), (115, 2, 1, [1], .lload_n 1), (116, 15, 1, [], .lastore), (117, 0, 1, [1, 0], .lconst 0), (118, 5, 1, [1], .lstore_n 1), (119, 7, 3, [3, 1], .iinc 3 1), (122, 20, 3, [141], .goto 19), (125, 2, 1, [1], .lload_n 1), (126, 0, 3, [1, 32, 0, 87], .ldc2_w 62), (129, 39, 1, [], .lmul), (130, 1, 2, [5], .iload 5), (132, 48, 1, [], .i2l), (133, 37, 1, [], .ladd), (134, 0, 3, [1, 97, 0, 88], .ldc2_w 64), (137, 38, 1, [], .lsub), (138, 0, 1, [1, 1], .lconst 1), (139, 37, 1, [], .ladd), (140, 5, 1, [1], .lstore_n 1), (141, 7, 3, [4, 1], .iinc 4 1), (144, 20, 3, [78], .goto (-66)), (147, 25, 1, [], .return_)]
noncomputable def mX9_init : MR := (yX9_init, cX9_init, 6, none, { frames := 4, cells := 2, slots := 924, locals := 85 }, 1, tX9_init)
set_option maxRecDepth 100000 in
noncomputable def tX9_put : List ME := [(0, 0, 2, [0, 24], .bipush 24), (2, 4, 1, [2], .istore_n 2), (3, 1, 1, [2], .iload_n 2), (4, 19, 3, [49, 2], .ifCond .lt 45), (7, 3, 1, [0], .aload_n 0), (8, 8, 3, [9, 1, 0, 90], .getfield 15), (11, 0, 3, [0, 900], .sipush 900), (14, 18, 3, [49, 3], .if_icmp .ge 35), (17, 3, 1, [0], .aload_n 0), (18, 8, 3, [9, 0, 0, 89], .getfield 9), (21, 3, 1, [0], .aload_n 0), (22, 8, 3, [9, 1, 0, 90], .getfield 15), (25, 1, 1, [1], .iload_n 1), (26, 1, 1, [2], .iload_n 2), (27, 33, 1, [], .ishr), (28, 0, 3, [0, 255], .sipush 255), (31, 29, 1, [], .iand), (32, 14, 1, [], .iastore), (33, 3, 1, [0], .aload_n 0), (34, 50, 1, [], .dup), (35, 8, 3, [9, 1, 0, 90], .getfield 15), (38, 0, 1, [0, 1], .iconst 1), (39, 26, 1, [], .iadd), (40, 9, 3, [9, 1, 0, 0, 90], .putfield 15), (43, 7, 3, [2, 4294967288], .iinc 2 (-8)), (46, 20, 3, [3], .goto (-43)), (49, 25, 1, [], .return_)]
noncomputable def mX9_put : MR := (yX9_put, cX9_put, 3, none, { frames := 0, cells := 0, slots := 0, locals := 0 }, 2, tX9_put)
set_option maxRecDepth 100000 in
noncomputable def tX9_begin : List ME := [(0, 3, 1, [0], .aload_n 0), (1, 1, 1, [1], .iload_n 1), (2, 0, 3, [0, 900], .sipush 900), (5, 21, 3, [902, 2, 129, 2, 130, 0, 20, 2, 131], .invokestatic 66), (8, 9, 3, [9, 3, 0, 0, 93], .putfield 23), (11, 3, 1, [0], .aload_n 0), (12, 0, 1, [0, 0], .iconst 0), (13, 9, 3, [9, 4, 0, 0, 94], .putfield 26), (16, 3, 1, [0], .aload_n 0), (17, 0, 1, [0, 0], .iconst 0), (18, 9, 3, [9, 10, 0, 0, 103], .putfield 45), (21, 3, 1, [0], .aload_n 0), (22, 0, 1, [0, 4294967295], .iconst (-1)), (23, 9, 3, [9, 11, 0, 0, 105], .putfield 48), (26, 3, 1, [0], .aload_n 0), (27, 21, 3, [1, 19, 0, 9, 2, 132, 2, 133, 2, 134, 0, 2, 0], .invokevirtual 72), (30, 25, 1, [], .return_)]
noncomputable def mX9_begin : MR := (yX9_begin, cX9_begin, 2, none, { frames := 1, cells := 0, slots := 0, locals := 30 }, 2, tX9_begin)
set_option maxRecDepth 100000 in
noncomputable def tX9_advance : List ME := [(0, 0, 1, [0, 0], .iconst 0), (1, 4, 1, [1], .istore_n 1), (2, 1, 1, [1], .iload_n 1), (3, 0, 3, [0, 900], .sipush 900), (6, 18, 3, [51, 3], .if_icmp .ge 45), (9, 3, 1, [0], .aload_n 0), (10, 8, 3, [9, 4, 0, 94], .getfield 26), (13, 3, 1, [0], .aload_n 0), (14, 8, 3, [9, 3, 0, 93], .getfield 23), (17, 18, 3, [51, 3], .if_icmp .ge 34), (51, 3, 1, [0], .aload_n 0), (52, 3, 1, [0], .aload_n 0), (53, 8, 3, [9, 4, 0, 94], .getfield 26), (56, 9, 3, [9, 6, 0, 0, 97], .putfield 32), (59, 3, 1, [0], .aload_n 0), (60, 8, 3, [9, 4, 0, 94], .getfield 26), (63, 3, 1, [0], .aload_n 0), (64, 8, 3, [9, 3, 0, 93], .getfield 23), (67, 18, 3, [78, 2], .if_icmp .lt 11), (70, 3, 1, [0], .aload_n 0), (71, 0, 1, [0, 0], .iconst 0), (72, 9, 3, [9, 5, 0, 0, 95], .putfield 29), (75, 20, 3, [164], .goto 89), (164, 25, 1, [], .return_)]
noncomputable def mX9_advance : MR := (yX9_advance, cX9_advance, 2, none, { frames := 0, cells := 0, slots := 0, locals := 0 }, 1, tX9_advance)
set_option maxRecDepth 100000 in
noncomputable def tX9_goesOn : List ME := [(0, 3, 1, [0], .aload_n 0), (1, 8, 3, [9, 10, 0, 103], .getfield 45), (4, 19, 3, [18, 1], .ifCond .ne 14), (7, 3, 1, [0], .aload_n 0), (8, 8, 3, [9, 5, 0, 95], .getfield 29), (11, 19, 3, [18, 0], .ifCond .eq 7), (18, 0, 1, [0, 0], .iconst 0), (19, 22, 1, [], .ireturn)]
noncomputable def mX9_goesOn : MR := (yX9_goesOn, cX9_goesOn, 1, (some (.boolean)), { frames := 0, cells := 0, slots := 0, locals := 0 }, 1, tX9_goesOn)
set_option maxRecDepth 100000 in
noncomputable def tX10_init : List ME := [(0, 3, 1, [0], .aload_n 0), (1, 21, 3, [900, 1, 195, 0, 28, 0, 29], .invokespecial 3), (4, 3, 1, [0], .aload_n 0), (5, 0, 1, [0, 0], .iconst 0), (6, 9, 3, [10, 0, 1, 1, 196], .putfield 9), (9, 3, 1, [0], .aload_n 0), (10, 0, 1, [0, 0], .iconst 0), (11, 9, 3, [10, 1, 0, 1, 198], .putfield 15), (14, 3, 1, [0], .aload_n 0), (15, 0, 1, [0, 0], .iconst 0), (16, 9, 3, [10, 2, 0, 1, 200], .putfield 19), (19, 3, 1, [0], .aload_n 0), (20, 0, 2, [0, 60], .bipush 60), (22, 55, 2, [101, 1, 0, 133], .newarray .long), (24, 9, 3, [10, 3, 3, 1, 201], .putfield 22), (27, 25, 1, [], .return_)]
noncomputable def mX10_init : MR := (yX10_init, cX10_init, 1, none, { frames := 1, cells := 1, slots := 60, locals := 30 }, 1, tX10_init)
set_option maxRecDepth 100000 in
noncomputable def tX10_lay : List ME := [(0, 3, 1, [0], .aload_n 0), (1, 0, 1, [0, 1], .iconst 1), (2, 9, 3, [10, 0, 1, 1, 196], .putfield 9), (5, 3, 1, [0], .aload_n 0), (6, 1, 1, [1], .iload_n 1), (7, 9, 3, [10, 1, 0, 1, 198], .putfield 15), (10, 3, 1, [0], .aload_n 0), (11, 1, 1, [2], .iload_n 2), (12, 9, 3, [10, 2, 0, 1, 200], .putfield 19), (15, 3, 1, [0], .aload_n 0), (16, 8, 3, [10, 3, 1, 201], .getfield 22), (19, 0, 1, [1, 0], .lconst 0), (20, 21, 3, [11, 8, 2, 300, 2, 54, 2, 55, 0, 18, 0], .invokestatic 26), (23, 25, 1, [], .return_)]
noncomputable def mX10_lay : MR := (yX10_lay, cX10_lay, 3, none, { frames := 1, cells := 0, slots := 0, locals := 24 }, 3, tX10_lay)
set_option maxRecDepth 100000 in
noncomputable def tX11_init : List ME := [(0, 3, 1, [0], .aload_n 0), (1, 21, 3, [900, 0, 27, 0, 28, 0, 29], .invokespecial 1), (4, 3, 1, [0], .aload_n 0), (5, 0, 1, [0, 0], .iconst 0), (6, 9, 3, [11, 0, 0, 1, 212], .putfield 9), (9, 3, 1, [0], .aload_n 0), (10, 0, 1, [1, 0], .lconst 0), (11, 9, 3, [11, 1, 2, 1, 213], .putfield 13), (14, 3, 1, [0], .aload_n 0), (15, 0, 1, [1, 1], .lconst 1), (16, 9, 3, [11, 2, 2, 1, 214], .putfield 17), (19, 3, 1, [0], .aload_n 0), (20, 0, 1, [0, 4], .iconst 4), (21, 55, 3, [103, 3, 0, 30], .anewarray 20), (24, 9, 3, [11, 3, 3, 1, 215], .putfield 22), (27, 3, 1, [0], .aload_n 0), (28, 54, 3, [9, 12, 0, 32, 0, 33, 0, 2, 3, 0, 3, 0, 0, 0, 0, 1, 0, 0, 0, 0], .new 26), (31, 50, 1, [], .dup), (32, 21, 3, [1, 16, 1, 9, 0, 34, 0, 35, 0, 2, 0], .invokespecial 28), (35, 9, 3, [11, 4, 3, 1, 216], .putfield 29), (38, 3, 1, [0], .aload_n 0), (39, 54, 3, [1, 15, 0, 135, 0, 136, 0, 7, 3, 3, 3, 3, 0, 3, 3, 0, 0, 0, 3, 3, 0, 0, 3], .new 33), (42, 50, 1, [], .dup), (43, 21, 3, [0, 6, 1, 1, 0, 137, 0, 138, 0, 7, 1], .invokespecial 35), (46, 9, 3, [11, 5, 3, 1, 217], .putfield 36), (49, 3, 1, [0], .aload_n 0), (50, 54, 3, [7, 8, 1, 37, 1, 38, 0, 10, 0, 0, 0, 3, 3, 3, 3, 3], .new 40), (53, 50, 1, [], .dup), (54, 21, 3, [1, 11, 1, 7, 1, 39, 1, 40, 0, 10, 1], .invokespecial 42), (57, 9, 3, [11, 6, 3, 1, 218], .putfield 43), (60, 3, 1, [0], .aload_n 0), (61, 54, 3, [1, 15, 0, 135, 0, 136, 0, 7, 3, 3, 3, 3, 0, 3, 3, 0, 0, 0, 3, 3, 0, 0, 3], .new 33), (64, 50, 1, [], .dup), (65, 21, 3, [0, 6, 1, 1, 0, 137, 0, 138, 0, 7, 1], .invokespecial 35), (68, 9, 3, [11, 7, 3, 1, 219], .putfield 47), (71, 3, 1, [0], .aload_n 0), (72, 54, 3, [7, 8, 1, 37, 1, 38, 0, 10, 0, 0, 0, 3, 3, 3, 3, 3], .new 40), (75, 50, 1, [], .dup), (76, 21, 3, [1, 11, 1, 7, 1, 39, 1, 40, 0, 10, 1], .invokespecial 42), (79, 9, 3, [11, 8, 3, 1, 220], .putfield 50), (82, 3, 1, [0], .aload_n 0), (83, 54, 3, [2, 2, 1, 80, 1, 81, 0, 11, 3, 3], .new 53), (86, 50, 1, [], .dup), (87, 3, 1, [0], .aload_n 0), (88, 8, 3, [11, 4, 1, 216], .getfield 29), (91, 3, 1, [0], .aload_n 0), (92, 8, 3, [11, 7, 1, 219], .getfield 47), (95, 21, 3, [0, 12, 1, 2, 1, 82, 1, 83, 0, 11, 0], .invokespecial 55), (98, 9, 3, [11, 9, 3, 1, 221], .putfield 58), (101, 3, 1, [0], .aload_n 0), (102, 54, 3, [8, 5, 1, 93, 1, 94, 0, 12, 3, 3, 3, 3, 0], .new 62), (105, 50, 1, [], .dup), (106, 3, 1, [0], .aload_n 0), (107, 8, 3, [11, 4, 1, 216], .getfield 29), (110, 3, 1, [0], .aload_n 0), (111, 8, 3, [11, 5, 1, 217], .getfield 36), (114, 3, 1, [0], .aload_n 0), (115, 8, 3, [11, 8, 1, 220], .getfield 50), (118, 21, 3, [1, 14, 1, 8, 1, 95, 1, 96, 0, 12, 0], .invokespecial 64), (121, 9, 3, [11, 10, 3, 1, 222], .putfield 67), (124, 3, 1, [0], .aload_n 0), (125, 54, 3, [6, 2, 1, 115, 1, 116, 0, 13, 3, 3], .new 71), (128, 50, 1, [], .dup), (129, 21, 3, [1, 8, 1, 6, 1, 117, 1, 118, 0, 13, 1], .invokespecial 73), (132, 9, 3, [11, 11, 3, 1, 223], .putfield 74), (135, 3, 1, [0], .aload_n 0), (136, 54, 3, [4, 3, 1, 130, 1, 131, 0, 14, 3, 3, 3], .new 78), (139, 50, 1, [], .dup), (140, 21, 3, [0, 15, 1, 4, 1, 132, 1, 133, 0, 14, 1], .invokespecial 80), (143, 9, 3, [11, 12, 3, 1, 224], .putfield 81), (146, 3, 1, [0], .aload_n 0), (147, 54, 3, [3, 9, 1, 148, 1, 149, 0, 15, 0, 0, 0, 0, 0, 0, 0, 0, 3], .new 85), (150, 50, 1, [], .dup), (151, 21, 3, [0, 14, 1, 3, 1, 150, 1, 151, 0, 15, 1], .invokespecial 87), (154, 9, 3, [11, 13, 3, 1, 225], .putfield 88), (157, 3, 1, [0], .aload_n 0), (158, 54, 3, [3, 9, 1, 148, 1, 149, 0, 15, 0, 0, 0, 0, 0, 0, 0, 0, 3], .new 85), (161, 50, 1, [], .dup), (162, 21, 3, [0, 14, 1, 3, 1, 150, 1, 151, 0, 15, 1], .invokespecial 87), (165, 9, 3, [11, 14, 3, 1, 226], .putfield 92), (168, 3, 1, [0], .aload_n 0), (169, 0, 1, [0, 3], .iconst 3), (170, 55, 3, [104, 3, 0, 135], .anewarray 33), (173, 9, 3, [11, 15, 3, 1, 227], .putfield 95), (176, 3, 1, [0], .aload_n 0), (177, 0, 1, [0, 3], .iconst 3), (178, 55, 3, [105, 3, 1, 37], .anewarray 40), (181, 9, 3, [11, 16, 3, 1, 228], .putfield 99), (184, 3, 1, [0], .aload_n 0), (185, 0, 1, [0, 0], .iconst 0), (186, 9, 3, [11, 17, 0, 1, 229], .putfield 103), (189, 0, 1, [0, 0], .iconst 0), (190, 4, 1, [1], .istore_n 1), (191, 1, 1, [1], .iload_n 1), (192, 0, 1, [0, 4], .iconst 4), (193, 18, 3, [215, 3], .if_icmp .ge 22), (196, 3, 1, [0], .aload_n 0), (197, 8, 3, [11, 3, 1, 215], .getfield 22), (200, 1, 1, [1], .iload_n 1), (201, 54, 3, [10, 4, 0, 30, 1, 191, 0, 16, 0, 0, 0, 3], .new 20), (204, 50, 1, [], .dup), (205, 21, 3, [2, 1, 1, 10, 1, 192, 1, 193, 0, 16, 1], .invokespecial 106), (208, 17, 1, [], .aastore), (209, 7, 3, [1, 1], .iinc 1 1), (212, 20, 3, [191], .goto (-21)), (215, 0, 1, [0, 0], .iconst 0), (216, 4, 1, [1], .istore_n 1), (217, 1, 1, [1], .iload_n 1), (218, 0, 1, [0, 3], .iconst 3), (219, 18, 3, [254, 3], .if_icmp .ge 35), (222, 3, 1, [0], .aload_n 0), (223, 8, 3, [11, 15, 1, 227], .getfield 95), (226, 1, 1, [1], .iload_n 1), (227, 54, 3, [1, 15, 0, 135, 0, 136, 0, 7, 3, 3, 3, 3, 0, 3, 3, 0, 0, 0, 3, 3, 0, 0, 3], .new 33), (230, 50, 1, [], .dup), (231, 21, 3, [0, 6, 1, 1, 0, 137, 0, 138, 0, 7, 1], .invokespecial 35), (234, 17, 1, [], .aastore), (235, 3, 1, [0], .aload_n 0), (236, 8, 3, [11, 16, 1, 228], .getfield 99), (239, 1, 1, [1], .iload_n 1), (240, 54, 3, [7, 8, 1, 37, 1, 38, 0, 10, 0, 0, 0, 3, 3, 3, 3, 3], .new 40), (243, 50, 1, [], .dup), (244, 21, 3, [1, 11, 1, 7, 1, 39, 1, 40, 0, 10, 1], .invokespecial 42), (247, 17, 1, [], .aastore), (248, 7, 3, [1, 1], .iinc 1 1), (251, 20, 3, [217], .goto (-34)), (254, 25, 1, [], .return_)]
noncomputable def mX11_init : MR := (yX11_init, cX11_init, 2, none, { frames := 5, cells := 168, slots := 5105, locals := 110 }, 1, tX11_init)
set_option maxRecDepth 100000 in
noncomputable def tX11_status : List ME := [(0, 3, 1, [0], .aload_n 0), (1, 8, 3, [11, 0, 1, 212], .getfield 9), (4, 22, 1, [], .ireturn)]
noncomputable def mX11_status : MR := (yX11_status, cX11_status, 1, (some (.int)), { frames := 0, cells := 0, slots := 0, locals := 0 }, 1, tX11_status)
set_option maxRecDepth 100000 in
noncomputable def tX11_top : List ME := [(0, 3, 1, [0], .aload_n 0), (1, 8, 3, [11, 1, 1, 213], .getfield 13), (4, 23, 1, [], .lreturn)]
noncomputable def mX11_top : MR := (yX11_top, cX11_top, 1, (some (.long)), { frames := 0, cells := 0, slots := 0, locals := 0 }, 1, tX11_top)
set_option maxRecDepth 100000 in
noncomputable def tX11_bottom : List ME := [(0, 3, 1, [0], .aload_n 0), (1, 8, 3, [11, 2, 1, 214], .getfield 17), (4, 23, 1, [], .lreturn)]
noncomputable def mX11_bottom : MR := (yX11_bottom, cX11_bottom, 1, (some (.long)), { frames := 0, cells := 0, slots := 0, locals := 0 }, 1, tX11_bottom)
set_option maxRecDepth 100000 in
noncomputable def tX11_tray : List ME := [(0, 1, 1, [1], .iload_n 1), (1, 0, 1, [0, 3], .iconst 3), (2, 21, 3, [6, 3, 2, 11, 2, 43, 2, 44, 0, 1, 0], .invokestatic 107), (5, 19, 3, [25, 0], .ifCond .eq 20), (8, 1, 1, [2], .iload_n 2), (9, 0, 1, [0, 3], .iconst 3), (10, 21, 3, [6, 3, 2, 11, 2, 43, 2, 44, 0, 1, 0], .invokestatic 107), (13, 19, 3, [25, 0], .ifCond .eq 12), (16, 1, 1, [3], .iload_n 3), (17, 0, 2, [0, 60], .bipush 60), (19, 21, 3, [6, 3, 2, 11, 2, 43, 2, 44, 0, 1, 0], .invokestatic 107), (22, 19, 3, [31, 1], .ifCond .ne 9), (25, 3, 1, [0], .aload_n 0), (26, 0, 1, [0, 1], .iconst 1), (27, 21, 3, [5, 18, 0, 11, 2, 46, 2, 48, 10, 0, 0, 1, 0], .invokevirtual 111), (30, 22, 1, [], .ireturn), (31, 3, 1, [0], .aload_n 0), (32, 8, 3, [11, 3, 1, 215], .getfield 22), (35, 1, 1, [1], .iload_n 1), (36, 13, 1, [], .aaload), (37, 1, 1, [2], .iload_n 2), (38, 1, 1, [3], .iload_n 3), (39, 21, 3, [2, 2, 0, 10, 2, 50, 2, 51, 2, 52, 0, 16, 0], .invokevirtual 115), (42, 3, 1, [0], .aload_n 0), (43, 21, 3, [5, 17, 0, 11, 2, 57, 2, 59, 10, 1, 0, 1, 0], .invokevirtual 119), (46, 22, 1, [], .ireturn)]
noncomputable def mX11_tray : MR := (yX11_tray, cX11_tray, 4, (some (.boolean)), { frames := 2, cells := 0, slots := 0, locals := 46 }, 4, tX11_tray)
set_option maxRecDepth 100000 in
noncomputable def tX11_write : List ME := [(0, 3, 1, [0], .aload_n 0), (1, 1, 1, [1], .iload_n 1), (2, 1, 1, [2], .iload_n 2), (3, 21, 3, [6, 4, 0, 11, 2, 65, 2, 67, 10, 2, 0, 1, 0], .invokevirtual 123), (6, 4, 2, [5], .istore 5), (8, 1, 2, [5], .iload 5), (10, 19, 3, [20, 0], .ifCond .eq 10), (13, 3, 1, [0], .aload_n 0), (14, 1, 2, [5], .iload 5), (16, 21, 3, [5, 18, 0, 11, 2, 46, 2, 48, 10, 0, 0, 1, 0], .invokevirtual 111), (19, 22, 1, [], .ireturn)]
noncomputable def mX11_write : MR := (yX11_write, cX11_write, 6, (some (.boolean)), { frames := 2, cells := 0, slots := 0, locals := 43 }, 4, tX11_write)
set_option maxRecDepth 100000 in
noncomputable def tX11_read : List ME := [(0, 3, 1, [0], .aload_n 0), (1, 1, 1, [1], .iload_n 1), (2, 1, 1, [2], .iload_n 2), (3, 21, 3, [6, 4, 0, 11, 2, 65, 2, 67, 10, 2, 0, 1, 0], .invokevirtual 123), (6, 4, 1, [3], .istore_n 3), (7, 1, 1, [3], .iload_n 3), (8, 19, 3, [18, 0], .ifCond .eq 10), (11, 3, 1, [0], .aload_n 0), (12, 1, 1, [3], .iload_n 3), (13, 21, 3, [5, 16, 0, 11, 2, 81, 2, 83, 10, 3, 0, 1, 0], .invokevirtual 131), (16, 48, 1, [], .i2l), (17, 23, 1, [], .lreturn)]
noncomputable def mX11_read : MR := (yX11_read, cX11_read, 4, (some (.long)), { frames := 2, cells := 0, slots := 0, locals := 43 }, 3, tX11_read)
set_option maxRecDepth 100000 in
noncomputable def tX11_pour : List ME := [(0, 1, 1, [1], .iload_n 1), (1, 0, 1, [0, 3], .iconst 3), (2, 21, 3, [6, 3, 2, 11, 2, 43, 2, 44, 0, 1, 0], .invokestatic 107), (5, 19, 3, [20, 0], .ifCond .eq 15), (8, 1, 1, [3], .iload_n 3), (9, 0, 1, [0, 3], .iconst 3), (10, 21, 3, [6, 3, 2, 11, 2, 43, 2, 44, 0, 1, 0], .invokestatic 107), (13, 19, 3, [20, 0], .ifCond .eq 7), (16, 0, 1, [0, 1], .iconst 1), (17, 20, 3, [21], .goto 4), (20, 0, 1, [0, 0], .iconst 0), (21, 4, 2, [6], .istore 6), (23, 1, 2, [6], .iload 6), (25, 19, 3, [42, 0], .ifCond .eq 17), (28, 1, 1, [2], .iload_n 2), (29, 19, 3, [42, 2], .ifCond .lt 13), (32, 1, 2, [4], .iload 4), (34, 19, 3, [42, 2], .ifCond .lt 8), (37, 1, 2, [5], .iload 5), (39, 19, 3, [48, 3], .ifCond .ge 9), (42, 3, 1, [0], .aload_n 0), (43, 0, 1, [0, 1], .iconst 1), (44, 21, 3, [5, 18, 0, 11, 2, 46, 2, 48, 10, 0, 0, 1, 0], .invokevirtual 111), (47, 22, 1, [], .ireturn), (48, 3, 1, [0], .aload_n 0), (49, 8, 3, [11, 3, 1, 215], .getfield 22), (52, 1, 1, [1], .iload_n 1), (53, 13, 1, [], .aaload), (54, 6, 2, [7], .astore 7), (56, 3, 1, [0], .aload_n 0), (57, 8, 3, [11, 3, 1, 215], .getfield 22), (60, 1, 1, [3], .iload_n 3), (61, 13, 1, [], .aaload), (62, 6, 2, [8], .astore 8), (64, 3, 2, [7], .aload 7), (66, 8, 3, [10, 0, 1, 197], .getfield 139), (69, 19, 3, [80, 0], .ifCond .eq 11), (80, 3, 1, [0], .aload_n 0), (81, 0, 1, [0, 2], .iconst 2), (82, 21, 3, [5, 18, 0, 11, 2, 46, 2, 48, 10, 0, 0, 1, 0], .invokevirtual 111), (85, 22, 1, [], .ireturn)]
noncomputable def mX11_pour : MR := (yX11_pour, cX11_pour, 9, (some (.boolean)), { frames := 1, cells := 0, slots := 0, locals := 21 }, 6, tX11_pour)
set_option maxRecDepth 100000 in
noncomputable def tX11_feed : List ME := [(0, 3, 1, [0], .aload_n 0), (1, 8, 3, [11, 4, 1, 216], .getfield 29), (4, 8, 3, [9, 1, 0, 91], .getfield 155), (7, 0, 2, [0, 20], .bipush 20), (9, 26, 1, [], .iadd), (10, 0, 3, [0, 900], .sipush 900), (13, 18, 3, [18, 5], .if_icmp .le 5), (18, 3, 1, [0], .aload_n 0), (19, 8, 3, [11, 4, 1, 216], .getfield 29), (22, 1, 1, [1], .iload_n 1), (23, 21, 3, [1, 17, 0, 9, 2, 96, 2, 97, 2, 98, 0, 2, 0], .invokevirtual 158), (26, 3, 1, [0], .aload_n 0), (27, 8, 3, [11, 4, 1, 216], .getfield 29), (30, 1, 1, [2], .iload_n 2), (31, 21, 3, [1, 17, 0, 9, 2, 96, 2, 97, 2, 98, 0, 2, 0], .invokevirtual 158), (34, 3, 1, [0], .aload_n 0), (35, 8, 3, [11, 4, 1, 216], .getfield 29), (38, 1, 1, [3], .iload_n 3), (39, 21, 3, [1, 17, 0, 9, 2, 96, 2, 97, 2, 98, 0, 2, 0], .invokevirtual 158), (42, 3, 1, [0], .aload_n 0), (43, 8, 3, [11, 4, 1, 216], .getfield 29), (46, 1, 2, [4], .iload 4), (48, 21, 3, [1, 17, 0, 9, 2, 96, 2, 97, 2, 98, 0, 2, 0], .invokevirtual 158), (51, 3, 1, [0], .aload_n 0), (52, 8, 3, [11, 4, 1, 216], .getfield 29), (55, 1, 2, [5], .iload 5), (57, 21, 3, [1, 17, 0, 9, 2, 96, 2, 97, 2, 98, 0, 2, 0], .invokevirtual 158), (60, 3, 1, [0], .aload_n 0), (61, 8, 3, [11, 4, 1, 216], .getfield 29), (64, 8, 3, [9, 1, 0, 91], .getfield 155), (67, 22, 1, [], .ireturn)]
noncomputable def mX11_feed : MR := (yX11_feed, cX11_feed, 6, (some (.int)), { frames := 1, cells := 0, slots := 0, locals := 22 }, 6, tX11_feed)
set_option maxRecDepth 100000 in
noncomputable def tX11_land : List ME := [(0, 1, 1, [1], .iload_n 1), (1, 3, 1, [0], .aload_n 0), (2, 8, 3, [11, 4, 1, 216], .getfield 29), (5, 8, 3, [9, 1, 0, 91], .getfield 155), (8, 21, 3, [6, 3, 2, 11, 2, 43, 2, 44, 0, 1, 0], .invokestatic 107), (11, 19, 3, [20, 1], .ifCond .ne 9), (14, 3, 1, [0], .aload_n 0), (15, 0, 1, [0, 1], .iconst 1), (16, 21, 3, [5, 16, 0, 11, 2, 81, 2, 83, 10, 3, 0, 1, 0], .invokevirtual 131), (19, 22, 1, [], .ireturn), (20, 3, 1, [0], .aload_n 0), (21, 8, 3, [11, 9, 1, 221], .getfield 58), (24, 1, 1, [1], .iload_n 1), (25, 21, 3, [0, 13, 0, 2, 2, 104, 2, 105, 2, 106, 0, 11, 0], .invokevirtual 161), (28, 3, 1, [0], .aload_n 0), (29, 8, 3, [11, 4, 1, 216], .getfield 29), (32, 0, 1, [0, 0], .iconst 0), (33, 9, 3, [9, 1, 0, 0, 91], .putfield 155), (36, 3, 1, [0], .aload_n 0), (37, 8, 3, [11, 4, 1, 216], .getfield 29), (40, 8, 3, [9, 10, 0, 104], .getfield 164), (43, 19, 3, [53, 0], .ifCond .eq 10), (53, 3, 1, [0], .aload_n 0), (54, 8, 3, [11, 5, 1, 217], .getfield 36), (57, 3, 1, [0], .aload_n 0), (58, 8, 3, [11, 7, 1, 219], .getfield 47), (61, 21, 3, [0, 8, 0, 1, 3, 43, 3, 44, 3, 45, 0, 7, 0], .invokevirtual 167), (64, 3, 1, [0], .aload_n 0), (65, 8, 3, [11, 6, 1, 218], .getfield 43), (68, 21, 3, [1, 12, 0, 7, 3, 58, 3, 59, 3, 60, 0, 10, 0], .invokevirtual 171), (71, 3, 1, [0], .aload_n 0), (72, 3, 1, [0], .aload_n 0), (73, 8, 3, [11, 5, 1, 217], .getfield 36), (76, 8, 3, [1, 4, 0, 206], .getfield 174), (79, 21, 3, [5, 14, 0, 11, 3, 62, 3, 64, 10, 17, 0, 1, 0], .invokevirtual 177), (82, 22, 1, [], .ireturn)]
noncomputable def mX11_land : MR := (yX11_land, cX11_land, 2, (some (.int)), { frames := 4, cells := 0, slots := 0, locals := 102 }, 2, tX11_land)
set_option maxRecDepth 100000 in
noncomputable def tX11_tales : List ME := [(0, 1, 1, [1], .iload_n 1), (1, 3, 1, [0], .aload_n 0), (2, 8, 3, [11, 4, 1, 216], .getfield 29), (5, 8, 3, [9, 1, 0, 91], .getfield 155), (8, 21, 3, [6, 3, 2, 11, 2, 43, 2, 44, 0, 1, 0], .invokestatic 107), (11, 19, 3, [21, 0], .ifCond .eq 10), (14, 1, 1, [1], .iload_n 1), (15, 0, 3, [0, 300], .sipush 300), (18, 18, 3, [27, 5], .if_icmp .le 9), (21, 3, 1, [0], .aload_n 0), (22, 0, 1, [0, 1], .iconst 1), (23, 21, 3, [5, 16, 0, 11, 2, 81, 2, 83, 10, 3, 0, 1, 0], .invokevirtual 131), (26, 22, 1, [], .ireturn), (27, 3, 1, [0], .aload_n 0), (28, 8, 3, [11, 10, 1, 222], .getfield 67), (31, 1, 1, [1], .iload_n 1), (32, 21, 3, [1, 15, 0, 8, 3, 70, 3, 71, 3, 72, 0, 12, 0], .invokevirtual 180), (35, 3, 1, [0], .aload_n 0), (36, 8, 3, [11, 4, 1, 216], .getfield 29), (39, 0, 1, [0, 0], .iconst 0), (40, 9, 3, [9, 1, 0, 0, 91], .putfield 155), (43, 3, 1, [0], .aload_n 0), (44, 8, 3, [11, 4, 1, 216], .getfield 29), (47, 8, 3, [9, 10, 0, 104], .getfield 164), (50, 19, 3, [60, 0], .ifCond .eq 10), (60, 3, 1, [0], .aload_n 0), (61, 8, 3, [11, 6, 1, 218], .getfield 43), (64, 3, 1, [0], .aload_n 0), (65, 8, 3, [11, 8, 1, 220], .getfield 50), (68, 21, 3, [1, 13, 0, 7, 3, 140, 3, 141, 3, 142, 0, 10, 0], .invokevirtual 181), (71, 3, 1, [0], .aload_n 0), (72, 3, 1, [0], .aload_n 0), (73, 8, 3, [11, 6, 1, 218], .getfield 43), (76, 8, 3, [7, 1, 1, 48], .getfield 184), (79, 21, 3, [5, 14, 0, 11, 3, 62, 3, 64, 10, 17, 0, 1, 0], .invokevirtual 177), (82, 22, 1, [], .ireturn)]
noncomputable def mX11_tales : MR := (yX11_tales, cX11_tales, 2, (some (.int)), { frames := 3, cells := 0, slots := 0, locals := 81 }, 2, tX11_tales)
set_option maxRecDepth 100000 in
noncomputable def tX11_fault : List ME := [(0, 1, 1, [1], .iload_n 1), (1, 58, 27, [44, 0, 28, 1, 36], .lookupswitch 43 #[(0, 27), (1, 35)]), (28, 3, 1, [0], .aload_n 0), (29, 8, 3, [11, 4, 1, 216], .getfield 29), (32, 8, 3, [9, 10, 0, 104], .getfield 164), (35, 22, 1, [], .ireturn), (36, 3, 1, [0], .aload_n 0), (37, 8, 3, [11, 4, 1, 216], .getfield 29), (40, 8, 3, [9, 11, 0, 106], .getfield 187), (43, 22, 1, [], .ireturn), (44, 0, 1, [0, 4294967295], .iconst (-1)), (45, 22, 1, [], .ireturn)]
noncomputable def mX11_fault : MR := (yX11_fault, cX11_fault, 2, (some (.int)), { frames := 0, cells := 0, slots := 0, locals := 0 }, 2, tX11_fault)
set_option maxRecDepth 100000 in
noncomputable def tX11_told : List ME := [(0, 1, 1, [1], .iload_n 1), (1, 57, 55, [188, 0, 9, 0, 56, 1, 71, 2, 83, 3, 98, 4, 110, 5, 122, 6, 137, 7, 152, 8, 164, 9, 176], .tableswitch 187 0 9 #[55, 70, 82, 97, 109, 121, 136, 151, 163, 175]), (56, 3, 1, [0], .aload_n 0), (57, 3, 1, [0], .aload_n 0), (58, 8, 3, [11, 5, 1, 217], .getfield 36), (61, 8, 3, [1, 0, 0, 193], .getfield 190), (64, 8, 3, [5, 0, 0, 151], .getfield 194), (67, 21, 3, [5, 14, 0, 11, 3, 62, 3, 64, 10, 17, 0, 1, 0], .invokevirtual 177), (70, 22, 1, [], .ireturn), (71, 3, 1, [0], .aload_n 0), (72, 3, 1, [0], .aload_n 0), (73, 8, 3, [11, 5, 1, 217], .getfield 36), (76, 8, 3, [1, 4, 0, 206], .getfield 174), (79, 21, 3, [5, 14, 0, 11, 3, 62, 3, 64, 10, 17, 0, 1, 0], .invokevirtual 177), (82, 22, 1, [], .ireturn), (83, 3, 1, [0], .aload_n 0), (84, 3, 1, [0], .aload_n 0), (85, 8, 3, [11, 5, 1, 217], .getfield 36), (88, 8, 3, [1, 0, 0, 193], .getfield 190), (91, 21, 3, [1, 4, 0, 5, 3, 153, 3, 154, 3, 155, 0, 8, 0], .invokevirtual 199), (94, 21, 3, [5, 14, 0, 11, 3, 62, 3, 64, 10, 17, 0, 1, 0], .invokevirtual 177), (97, 22, 1, [], .ireturn), (98, 3, 1, [0], .aload_n 0), (99, 3, 1, [0], .aload_n 0), (100, 8, 3, [11, 5, 1, 217], .getfield 36), (103, 8, 3, [1, 12, 0, 237], .getfield 203), (106, 21, 3, [5, 14, 0, 11, 3, 62, 3, 64, 10, 17, 0, 1, 0], .invokevirtual 177), (109, 22, 1, [], .ireturn), (110, 3, 1, [0], .aload_n 0), (111, 3, 1, [0], .aload_n 0), (112, 8, 3, [11, 5, 1, 217], .getfield 36), (115, 8, 3, [1, 13, 1, 0], .getfield 206), (118, 21, 3, [5, 14, 0, 11, 3, 62, 3, 64, 10, 17, 0, 1, 0], .invokevirtual 177), (121, 22, 1, [], .ireturn), (122, 3, 1, [0], .aload_n 0), (123, 3, 1, [0], .aload_n 0), (124, 8, 3, [11, 5, 1, 217], .getfield 36), (127, 8, 3, [1, 1, 0, 197], .getfield 209), (130, 21, 3, [0, 4, 0, 0, 3, 163, 3, 164, 3, 165, 0, 9, 0], .invokevirtual 213), (133, 21, 3, [5, 14, 0, 11, 3, 62, 3, 64, 10, 17, 0, 1, 0], .invokevirtual 177), (136, 22, 1, [], .ireturn), (137, 3, 1, [0], .aload_n 0), (138, 3, 1, [0], .aload_n 0), (139, 8, 3, [11, 5, 1, 217], .getfield 36), (142, 8, 3, [1, 0, 0, 193], .getfield 190), (145, 8, 3, [5, 1, 0, 155], .getfield 218), (148, 21, 3, [5, 14, 0, 11, 3, 62, 3, 64, 10, 17, 0, 1, 0], .invokevirtual 177), (151, 22, 1, [], .ireturn), (152, 3, 1, [0], .aload_n 0), (153, 3, 1, [0], .aload_n 0), (154, 8, 3, [11, 5, 1, 217], .getfield 36), (157, 8, 3, [1, 7, 0, 221], .getfield 221), (160, 21, 3, [5, 14, 0, 11, 3, 62, 3, 64, 10, 17, 0, 1, 0], .invokevirtual 177), (163, 22, 1, [], .ireturn), (164, 3, 1, [0], .aload_n 0), (165, 3, 1, [0], .aload_n 0), (166, 8, 3, [11, 5, 1, 217], .getfield 36), (169, 21, 3, [0, 9, 0, 1, 3, 167, 3, 168, 3, 169, 0, 7, 0], .invokevirtual 224), (172, 21, 3, [5, 14, 0, 11, 3, 62, 3, 64, 10, 17, 0, 1, 0], .invokevirtual 177), (175, 22, 1, [], .ireturn), (176, 3, 1, [0], .aload_n 0), (177, 3, 1, [0], .aload_n 0), (178, 8, 3, [11, 5, 1, 217], .getfield 36), (181, 8, 3, [1, 9, 0, 228], .getfield 227), (184, 21, 3, [5, 14, 0, 11, 3, 62, 3, 64, 10, 17, 0, 1, 0], .invokevirtual 177), (187, 22, 1, [], .ireturn), (188, 3, 1, [0], .aload_n 0), (189, 0, 1, [0, 1], .iconst 1), (190, 21, 3, [5, 16, 0, 11, 2, 81, 2, 83, 10, 3, 0, 1, 0], .invokevirtual 131), (193, 22, 1, [], .ireturn)]
noncomputable def mX11_told : MR := (yX11_told, cX11_told, 2, (some (.int)), { frames := 1, cells := 0, slots := 0, locals := 22 }, 2, tX11_told)
set_option maxRecDepth 100000 in
noncomputable def tX11_person : List ME := [(0, 3, 1, [0], .aload_n 0), (1, 1, 1, [1], .iload_n 1), (2, 21, 3, [6, 0, 0, 11, 3, 180, 3, 182, 10, 29, 0, 1, 0], .invokevirtual 230), (5, 19, 3, [14, 1], .ifCond .ne 9), (8, 3, 1, [0], .aload_n 0), (9, 0, 1, [0, 1], .iconst 1), (10, 21, 3, [5, 16, 0, 11, 2, 81, 2, 83, 10, 3, 0, 1, 0], .invokevirtual 131), (13, 22, 1, [], .ireturn)]
noncomputable def mX11_person : MR := (yX11_person, cX11_person, 3, (some (.int)), { frames := 1, cells := 0, slots := 0, locals := 21 }, 3, tX11_person)
set_option maxRecDepth 100000 in
noncomputable def tX11_owed : List ME := [(0, 3, 1, [0], .aload_n 0), (1, 1, 1, [1], .iload_n 1), (2, 1, 1, [2], .iload_n 2), (3, 21, 3, [6, 2, 0, 11, 3, 199, 3, 201, 10, 30, 0, 1, 0], .invokevirtual 252), (6, 19, 3, [15, 1], .ifCond .ne 9), (9, 3, 1, [0], .aload_n 0), (10, 0, 1, [0, 1], .iconst 1), (11, 21, 3, [5, 16, 0, 11, 2, 81, 2, 83, 10, 3, 0, 1, 0], .invokevirtual 131), (14, 22, 1, [], .ireturn)]
noncomputable def mX11_owed : MR := (yX11_owed, cX11_owed, 3, (some (.int)), { frames := 2, cells := 0, slots := 0, locals := 43 }, 3, tX11_owed)
set_option maxRecDepth 100000 in
noncomputable def tX11_heir : List ME := [(0, 3, 1, [0], .aload_n 0), (1, 1, 1, [1], .iload_n 1), (2, 21, 3, [6, 0, 0, 11, 3, 180, 3, 182, 10, 29, 0, 1, 0], .invokevirtual 230), (5, 19, 3, [12, 0], .ifCond .eq 7), (12, 3, 1, [0], .aload_n 0), (13, 0, 1, [0, 1], .iconst 1), (14, 21, 3, [5, 16, 0, 11, 2, 81, 2, 83, 10, 3, 0, 1, 0], .invokevirtual 131), (17, 22, 1, [], .ireturn)]
noncomputable def mX11_heir : MR := (yX11_heir, cX11_heir, 3, (some (.int)), { frames := 1, cells := 0, slots := 0, locals := 21 }, 3, tX11_heir)
set_option maxRecDepth 100000 in
noncomputable def tX11_door : List ME := [(0, 3, 1, [0], .aload_n 0), (1, 1, 1, [1], .iload_n 1), (2, 1, 1, [2], .iload_n 2), (3, 21, 3, [6, 1, 0, 11, 3, 212, 3, 214, 10, 31, 0, 1, 0], .invokevirtual 264), (6, 19, 3, [15, 1], .ifCond .ne 9), (9, 3, 1, [0], .aload_n 0), (10, 0, 1, [0, 1], .iconst 1), (11, 21, 3, [5, 16, 0, 11, 2, 81, 2, 83, 10, 3, 0, 1, 0], .invokevirtual 131), (14, 22, 1, [], .ireturn)]
noncomputable def mX11_door : MR := (yX11_door, cX11_door, 3, (some (.int)), { frames := 2, cells := 0, slots := 0, locals := 43 }, 3, tX11_door)
set_option maxRecDepth 100000 in
noncomputable def tX11_labour : List ME := [(0, 3, 1, [0], .aload_n 0), (1, 1, 1, [1], .iload_n 1), (2, 21, 3, [5, 19, 0, 11, 3, 216, 3, 218, 10, 32, 0, 1, 0], .invokevirtual 270), (5, 19, 3, [14, 1], .ifCond .ne 9), (8, 3, 1, [0], .aload_n 0), (9, 0, 1, [0, 1], .iconst 1), (10, 21, 3, [5, 16, 0, 11, 2, 81, 2, 83, 10, 3, 0, 1, 0], .invokevirtual 131), (13, 22, 1, [], .ireturn)]
noncomputable def mX11_labour : MR := (yX11_labour, cX11_labour, 2, (some (.int)), { frames := 1, cells := 0, slots := 0, locals := 21 }, 2, tX11_labour)
set_option maxRecDepth 100000 in
noncomputable def tX11_within : List ME := [(0, 3, 1, [0], .aload_n 0), (1, 1, 1, [1], .iload_n 1), (2, 21, 3, [5, 19, 0, 11, 3, 216, 3, 218, 10, 32, 0, 1, 0], .invokevirtual 270), (5, 19, 3, [14, 1], .ifCond .ne 9), (8, 3, 1, [0], .aload_n 0), (9, 0, 1, [0, 1], .iconst 1), (10, 21, 3, [5, 16, 0, 11, 2, 81, 2, 83, 10, 3, 0, 1, 0], .invokevirtual 131), (13, 22, 1, [], .ireturn)]
noncomputable def mX11_within : MR := (yX11_within, cX11_within, 4, (some (.int)), { frames := 1, cells := 0, slots := 0, locals := 22 }, 3, tX11_within)
set_option maxRecDepth 100000 in
noncomputable def tX11_night : List ME := [(0, 1, 1, [1], .iload_n 1), (1, 0, 1, [0, 1], .iconst 1), (2, 18, 3, [11, 2], .if_icmp .lt 9), (5, 1, 1, [1], .iload_n 1), (6, 0, 2, [0, 99], .bipush 99), (8, 18, 3, [17, 5], .if_icmp .le 9), (11, 3, 1, [0], .aload_n 0), (12, 0, 1, [0, 1], .iconst 1), (13, 21, 3, [5, 16, 0, 11, 2, 81, 2, 83, 10, 3, 0, 1, 0], .invokevirtual 131), (16, 22, 1, [], .ireturn), (17, 3, 1, [0], .aload_n 0), (18, 8, 3, [11, 5, 1, 217], .getfield 36), (21, 8, 3, [1, 12, 0, 237], .getfield 203), (24, 1, 1, [1], .iload_n 1), (25, 26, 1, [], .iadd), (26, 0, 3, [0, 9999], .sipush 9999), (29, 18, 3, [38, 5], .if_icmp .le 9), (38, 3, 1, [0], .aload_n 0), (39, 8, 3, [11, 5, 1, 217], .getfield 36), (42, 1, 1, [1], .iload_n 1), (43, 21, 3, [0, 11, 0, 1, 3, 236, 3, 237, 3, 238, 0, 7, 0], .invokevirtual 279), (46, 3, 1, [0], .aload_n 0), (47, 3, 1, [0], .aload_n 0), (48, 8, 3, [11, 5, 1, 217], .getfield 36), (51, 8, 3, [1, 12, 0, 237], .getfield 203), (54, 21, 3, [5, 14, 0, 11, 3, 62, 3, 64, 10, 17, 0, 1, 0], .invokevirtual 177), (57, 22, 1, [], .ireturn)]
noncomputable def mX11_night : MR := (yX11_night, cX11_night, 2, (some (.int)), { frames := 1, cells := 0, slots := 0, locals := 23 }, 2, tX11_night)
set_option maxRecDepth 100000 in
noncomputable def tX11_die : List ME := [(0, 3, 1, [0], .aload_n 0), (1, 1, 1, [1], .iload_n 1), (2, 21, 3, [6, 0, 0, 11, 3, 180, 3, 182, 10, 29, 0, 1, 0], .invokevirtual 230), (5, 19, 3, [14, 1], .ifCond .ne 9), (8, 3, 1, [0], .aload_n 0), (9, 0, 1, [0, 1], .iconst 1), (10, 21, 3, [5, 16, 0, 11, 2, 81, 2, 83, 10, 3, 0, 1, 0], .invokevirtual 131), (13, 22, 1, [], .ireturn)]
noncomputable def mX11_die : MR := (yX11_die, cX11_die, 2, (some (.int)), { frames := 1, cells := 0, slots := 0, locals := 22 }, 2, tX11_die)
set_option maxRecDepth 100000 in
noncomputable def tX11_forgive : List ME := [(0, 3, 1, [0], .aload_n 0), (1, 1, 1, [1], .iload_n 1), (2, 1, 1, [2], .iload_n 2), (3, 21, 3, [6, 2, 0, 11, 3, 199, 3, 201, 10, 30, 0, 1, 0], .invokevirtual 252), (6, 19, 3, [15, 1], .ifCond .ne 9), (9, 3, 1, [0], .aload_n 0), (10, 0, 1, [0, 1], .iconst 1), (11, 21, 3, [5, 16, 0, 11, 2, 81, 2, 83, 10, 3, 0, 1, 0], .invokevirtual 131), (14, 22, 1, [], .ireturn)]
noncomputable def mX11_forgive : MR := (yX11_forgive, cX11_forgive, 4, (some (.int)), { frames := 2, cells := 0, slots := 0, locals := 43 }, 3, tX11_forgive)
set_option maxRecDepth 100000 in
noncomputable def tX11_forge : List ME := [(0, 3, 1, [0], .aload_n 0), (1, 1, 1, [1], .iload_n 1), (2, 1, 1, [2], .iload_n 2), (3, 21, 3, [6, 2, 0, 11, 3, 199, 3, 201, 10, 30, 0, 1, 0], .invokevirtual 252), (6, 19, 3, [20, 0], .ifCond .eq 14), (20, 3, 1, [0], .aload_n 0), (21, 0, 1, [0, 1], .iconst 1), (22, 21, 3, [5, 16, 0, 11, 2, 81, 2, 83, 10, 3, 0, 1, 0], .invokevirtual 131), (25, 22, 1, [], .ireturn)]
noncomputable def mX11_forge : MR := (yX11_forge, cX11_forge, 4, (some (.int)), { frames := 2, cells := 0, slots := 0, locals := 43 }, 4, tX11_forge)
set_option maxRecDepth 100000 in
noncomputable def tX11_salt : List ME := [(0, 3, 1, [0], .aload_n 0), (1, 1, 1, [1], .iload_n 1), (2, 21, 3, [5, 19, 0, 11, 3, 216, 3, 218, 10, 32, 0, 1, 0], .invokevirtual 270), (5, 19, 3, [14, 1], .ifCond .ne 9), (8, 3, 1, [0], .aload_n 0), (9, 0, 1, [0, 1], .iconst 1), (10, 21, 3, [5, 18, 0, 11, 2, 46, 2, 48, 10, 0, 0, 1, 0], .invokevirtual 111), (13, 22, 1, [], .ireturn)]
noncomputable def mX11_salt : MR := (yX11_salt, cX11_salt, 3, (some (.boolean)), { frames := 1, cells := 0, slots := 0, locals := 21 }, 3, tX11_salt)
set_option maxRecDepth 100000 in
noncomputable def tX11_keep : List ME := [(0, 3, 1, [0], .aload_n 0), (1, 1, 1, [1], .iload_n 1), (2, 21, 3, [6, 0, 0, 11, 3, 180, 3, 182, 10, 29, 0, 1, 0], .invokevirtual 230), (5, 19, 3, [14, 1], .ifCond .ne 9), (8, 3, 1, [0], .aload_n 0), (9, 0, 1, [0, 1], .iconst 1), (10, 21, 3, [5, 18, 0, 11, 2, 46, 2, 48, 10, 0, 0, 1, 0], .invokevirtual 111), (13, 22, 1, [], .ireturn)]
noncomputable def mX11_keep : MR := (yX11_keep, cX11_keep, 3, (some (.boolean)), { frames := 1, cells := 0, slots := 0, locals := 21 }, 3, tX11_keep)
set_option maxRecDepth 100000 in
noncomputable def tX11_wall : List ME := [(0, 3, 1, [0], .aload_n 0), (1, 1, 1, [1], .iload_n 1), (2, 1, 1, [2], .iload_n 2), (3, 21, 3, [6, 1, 0, 11, 3, 212, 3, 214, 10, 31, 0, 1, 0], .invokevirtual 264), (6, 19, 3, [15, 1], .ifCond .ne 9), (9, 3, 1, [0], .aload_n 0), (10, 0, 1, [0, 1], .iconst 1), (11, 21, 3, [5, 18, 0, 11, 2, 46, 2, 48, 10, 0, 0, 1, 0], .invokevirtual 111), (14, 22, 1, [], .ireturn)]
noncomputable def mX11_wall : MR := (yX11_wall, cX11_wall, 4, (some (.boolean)), { frames := 2, cells := 0, slots := 0, locals := 43 }, 4, tX11_wall)
set_option maxRecDepth 100000 in
noncomputable def tX11_move : List ME := [(0, 3, 1, [0], .aload_n 0), (1, 1, 1, [1], .iload_n 1), (2, 21, 3, [6, 0, 0, 11, 3, 180, 3, 182, 10, 29, 0, 1, 0], .invokevirtual 230), (5, 19, 3, [16, 0], .ifCond .eq 11), (16, 3, 1, [0], .aload_n 0), (17, 0, 1, [0, 1], .iconst 1), (18, 21, 3, [5, 18, 0, 11, 2, 46, 2, 48, 10, 0, 0, 1, 0], .invokevirtual 111), (21, 22, 1, [], .ireturn)]
noncomputable def mX11_move : MR := (yX11_move, cX11_move, 3, (some (.boolean)), { frames := 1, cells := 0, slots := 0, locals := 21 }, 3, tX11_move)
set_option maxRecDepth 100000 in
noncomputable def tX11_way : List ME := [(0, 3, 1, [0], .aload_n 0), (1, 1, 1, [1], .iload_n 1), (2, 21, 3, [6, 0, 0, 11, 3, 180, 3, 182, 10, 29, 0, 1, 0], .invokevirtual 230), (5, 19, 3, [16, 0], .ifCond .eq 11), (16, 3, 1, [0], .aload_n 0), (17, 0, 1, [0, 1], .iconst 1), (18, 21, 3, [5, 16, 0, 11, 2, 81, 2, 83, 10, 3, 0, 1, 0], .invokevirtual 131), (21, 22, 1, [], .ireturn)]
noncomputable def mX11_way : MR := (yX11_way, cX11_way, 3, (some (.int)), { frames := 2, cells := 0, slots := 0, locals := 42 }, 3, tX11_way)
set_option maxRecDepth 100000 in
noncomputable def tX11_aim : List ME := [(0, 3, 1, [0], .aload_n 0), (1, 1, 1, [1], .iload_n 1), (2, 21, 3, [6, 0, 0, 11, 3, 180, 3, 182, 10, 29, 0, 1, 0], .invokevirtual 230), (5, 19, 3, [14, 1], .ifCond .ne 9), (8, 3, 1, [0], .aload_n 0), (9, 0, 1, [0, 1], .iconst 1), (10, 21, 3, [5, 16, 0, 11, 2, 81, 2, 83, 10, 3, 0, 1, 0], .invokevirtual 131), (13, 22, 1, [], .ireturn)]
noncomputable def mX11_aim : MR := (yX11_aim, cX11_aim, 2, (some (.int)), { frames := 2, cells := 0, slots := 0, locals := 42 }, 2, tX11_aim)
set_option maxRecDepth 100000 in
noncomputable def tX11_step : List ME := [(0, 3, 1, [0], .aload_n 0), (1, 1, 1, [1], .iload_n 1), (2, 21, 3, [6, 0, 0, 11, 3, 180, 3, 182, 10, 29, 0, 1, 0], .invokevirtual 230), (5, 19, 3, [14, 1], .ifCond .ne 9), (8, 3, 1, [0], .aload_n 0), (9, 0, 1, [0, 1], .iconst 1), (10, 21, 3, [5, 16, 0, 11, 2, 81, 2, 83, 10, 3, 0, 1, 0], .invokevirtual 131), (13, 22, 1, [], .ireturn)]
noncomputable def mX11_step : MR := (yX11_step, cX11_step, 2, (some (.int)), { frames := 1, cells := 0, slots := 0, locals := 21 }, 2, tX11_step)
set_option maxRecDepth 100000 in
noncomputable def tX11_walks : List ME := [(0, 3, 1, [0], .aload_n 0), (1, 1, 1, [1], .iload_n 1), (2, 21, 3, [6, 0, 0, 11, 3, 180, 3, 182, 10, 29, 0, 1, 0], .invokevirtual 230), (5, 19, 3, [18, 0], .ifCond .eq 13), (18, 3, 1, [0], .aload_n 0), (19, 0, 1, [0, 1], .iconst 1), (20, 21, 3, [5, 16, 0, 11, 2, 81, 2, 83, 10, 3, 0, 1, 0], .invokevirtual 131), (23, 22, 1, [], .ireturn)]
noncomputable def mX11_walks : MR := (yX11_walks, cX11_walks, 3, (some (.int)), { frames := 1, cells := 0, slots := 0, locals := 21 }, 3, tX11_walks)
set_option maxRecDepth 100000 in
noncomputable def tX11_later : List ME := [(0, 3, 1, [0], .aload_n 0), (1, 1, 1, [1], .iload_n 1), (2, 21, 3, [6, 0, 0, 11, 3, 180, 3, 182, 10, 29, 0, 1, 0], .invokevirtual 230), (5, 19, 3, [18, 0], .ifCond .eq 13), (18, 3, 1, [0], .aload_n 0), (19, 0, 1, [0, 1], .iconst 1), (20, 21, 3, [5, 16, 0, 11, 2, 81, 2, 83, 10, 3, 0, 1, 0], .invokevirtual 131), (23, 22, 1, [], .ireturn)]
noncomputable def mX11_later : MR := (yX11_later, cX11_later, 3, (some (.int)), { frames := 1, cells := 0, slots := 0, locals := 21 }, 3, tX11_later)
set_option maxRecDepth 100000 in
noncomputable def tX11_rest : List ME := [(0, 3, 1, [0], .aload_n 0), (1, 1, 1, [1], .iload_n 1), (2, 21, 3, [6, 0, 0, 11, 3, 180, 3, 182, 10, 29, 0, 1, 0], .invokevirtual 230), (5, 19, 3, [14, 1], .ifCond .ne 9), (8, 3, 1, [0], .aload_n 0), (9, 0, 1, [0, 1], .iconst 1), (10, 21, 3, [5, 16, 0, 11, 2, 81, 2, 83, 10, 3, 0, 1, 0], .invokevirtual 131), (13, 22, 1, [], .ireturn)]
noncomputable def mX11_rest : MR := (yX11_rest, cX11_rest, 2, (some (.int)), { frames := 2, cells := 0, slots := 0, locals := 42 }, 2, tX11_rest)
set_option maxRecDepth 100000 in
noncomputable def tX11_quiet : List ME := [(0, 3, 1, [0], .aload_n 0), (1, 1, 1, [1], .iload_n 1), (2, 21, 3, [5, 19, 0, 11, 3, 216, 3, 218, 10, 32, 0, 1, 0], .invokevirtual 270), (5, 19, 3, [14, 1], .ifCond .ne 9), (8, 3, 1, [0], .aload_n 0), (9, 0, 1, [0, 1], .iconst 1), (10, 21, 3, [5, 16, 0, 11, 2, 81, 2, 83, 10, 3, 0, 1, 0], .invokevirtual 131), (13, 22, 1, [], .ireturn)]
noncomputable def mX11_quiet : MR := (yX11_quiet, cX11_quiet, 2, (some (.int)), { frames := 2, cells := 0, slots := 0, locals := 42 }, 2, tX11_quiet)
set_option maxRecDepth 100000 in
noncomputable def tX11_harvest : List ME := [(0, 3, 1, [0], .aload_n 0), (1, 1, 1, [1], .iload_n 1), (2, 21, 3, [5, 19, 0, 11, 3, 216, 3, 218, 10, 32, 0, 1, 0], .invokevirtual 270), (5, 19, 3, [18, 0], .ifCond .eq 13), (18, 3, 1, [0], .aload_n 0), (19, 0, 1, [0, 1], .iconst 1), (20, 21, 3, [5, 16, 0, 11, 2, 81, 2, 83, 10, 3, 0, 1, 0], .invokevirtual 131), (23, 22, 1, [], .ireturn)]
noncomputable def mX11_harvest : MR := (yX11_harvest, cX11_harvest, 3, (some (.int)), { frames := 2, cells := 0, slots := 0, locals := 42 }, 3, tX11_harvest)
set_option maxRecDepth 100000 in
noncomputable def tX11_visitors : List ME := [(0, 3, 1, [0], .aload_n 0), (1, 1, 1, [1], .iload_n 1), (2, 21, 3, [5, 19, 0, 11, 3, 216, 3, 218, 10, 32, 0, 1, 0], .invokevirtual 270), (5, 19, 3, [17, 0], .ifCond .eq 12), (17, 3, 1, [0], .aload_n 0), (18, 0, 1, [0, 1], .iconst 1), (19, 21, 3, [5, 16, 0, 11, 2, 81, 2, 83, 10, 3, 0, 1, 0], .invokevirtual 131), (22, 22, 1, [], .ireturn)]
noncomputable def mX11_visitors : MR := (yX11_visitors, cX11_visitors, 3, (some (.int)), { frames := 1, cells := 0, slots := 0, locals := 21 }, 3, tX11_visitors)
set_option maxRecDepth 100000 in
noncomputable def tX11_stays : List ME := [(0, 3, 1, [0], .aload_n 0), (1, 1, 1, [1], .iload_n 1), (2, 21, 3, [6, 0, 0, 11, 3, 180, 3, 182, 10, 29, 0, 1, 0], .invokevirtual 230), (5, 19, 3, [25, 0], .ifCond .eq 20), (25, 3, 1, [0], .aload_n 0), (26, 0, 1, [0, 1], .iconst 1), (27, 21, 3, [5, 16, 0, 11, 2, 81, 2, 83, 10, 3, 0, 1, 0], .invokevirtual 131), (30, 22, 1, [], .ireturn)]
noncomputable def mX11_stays : MR := (yX11_stays, cX11_stays, 4, (some (.int)), { frames := 1, cells := 0, slots := 0, locals := 21 }, 4, tX11_stays)
set_option maxRecDepth 100000 in
noncomputable def tX11_must : List ME := [(0, 3, 1, [0], .aload_n 0), (1, 1, 1, [1], .iload_n 1), (2, 21, 3, [6, 0, 0, 11, 3, 180, 3, 182, 10, 29, 0, 1, 0], .invokevirtual 230), (5, 19, 3, [16, 0], .ifCond .eq 11), (16, 3, 1, [0], .aload_n 0), (17, 0, 1, [0, 1], .iconst 1), (18, 21, 3, [5, 16, 0, 11, 2, 81, 2, 83, 10, 3, 0, 1, 0], .invokevirtual 131), (21, 22, 1, [], .ireturn)]
noncomputable def mX11_must : MR := (yX11_must, cX11_must, 3, (some (.int)), { frames := 2, cells := 0, slots := 0, locals := 42 }, 3, tX11_must)
set_option maxRecDepth 100000 in
noncomputable def tX11_reach : List ME := [(0, 3, 1, [0], .aload_n 0), (1, 1, 1, [1], .iload_n 1), (2, 21, 3, [6, 0, 0, 11, 3, 180, 3, 182, 10, 29, 0, 1, 0], .invokevirtual 230), (5, 19, 3, [14, 1], .ifCond .ne 9), (8, 3, 1, [0], .aload_n 0), (9, 0, 1, [0, 1], .iconst 1), (10, 21, 3, [5, 16, 0, 11, 2, 81, 2, 83, 10, 3, 0, 1, 0], .invokevirtual 131), (13, 22, 1, [], .ireturn)]
noncomputable def mX11_reach : MR := (yX11_reach, cX11_reach, 2, (some (.int)), { frames := 2, cells := 0, slots := 0, locals := 47 }, 2, tX11_reach)
set_option maxRecDepth 100000 in
noncomputable def tX11_tours : List ME := [(0, 3, 1, [0], .aload_n 0), (1, 1, 1, [1], .iload_n 1), (2, 21, 3, [6, 0, 0, 11, 3, 180, 3, 182, 10, 29, 0, 1, 0], .invokevirtual 230), (5, 19, 3, [17, 0], .ifCond .eq 12), (17, 3, 1, [0], .aload_n 0), (18, 0, 1, [0, 1], .iconst 1), (19, 21, 3, [5, 16, 0, 11, 2, 81, 2, 83, 10, 3, 0, 1, 0], .invokevirtual 131), (22, 22, 1, [], .ireturn)]
noncomputable def mX11_tours : MR := (yX11_tours, cX11_tours, 3, (some (.int)), { frames := 1, cells := 0, slots := 0, locals := 21 }, 3, tX11_tours)
set_option maxRecDepth 100000 in
noncomputable def tX11_meets : List ME := [(0, 3, 1, [0], .aload_n 0), (1, 1, 1, [1], .iload_n 1), (2, 1, 1, [2], .iload_n 2), (3, 21, 3, [6, 2, 0, 11, 3, 199, 3, 201, 10, 30, 0, 1, 0], .invokevirtual 252), (6, 19, 3, [15, 1], .ifCond .ne 9), (9, 3, 1, [0], .aload_n 0), (10, 0, 1, [0, 1], .iconst 1), (11, 21, 3, [5, 16, 0, 11, 2, 81, 2, 83, 10, 3, 0, 1, 0], .invokevirtual 131), (14, 22, 1, [], .ireturn)]
noncomputable def mX11_meets : MR := (yX11_meets, cX11_meets, 3, (some (.int)), { frames := 2, cells := 0, slots := 0, locals := 43 }, 3, tX11_meets)
set_option maxRecDepth 100000 in
noncomputable def tX11_crowd : List ME := [(0, 3, 1, [0], .aload_n 0), (1, 3, 1, [0], .aload_n 0), (2, 8, 3, [11, 11, 1, 223], .getfield 74), (5, 3, 1, [0], .aload_n 0), (6, 8, 3, [11, 5, 1, 217], .getfield 36), (9, 0, 1, [0, 0], .iconst 0), (10, 21, 3, [1, 9, 0, 6, 4, 213, 4, 214, 4, 215, 0, 13, 0], .invokevirtual 363), (13, 21, 3, [5, 15, 0, 11, 4, 95, 4, 97, 10, 36, 0, 1, 0], .invokevirtual 312), (16, 22, 1, [], .ireturn)]
noncomputable def mX11_crowd : MR := (yX11_crowd, cX11_crowd, 1, (some (.int)), { frames := 4, cells := 0, slots := 0, locals := 127 }, 1, tX11_crowd)
set_option maxRecDepth 100000 in
noncomputable def tX11_busiest : List ME := [(0, 1, 1, [1], .iload_n 1), (1, 0, 1, [0, 1], .iconst 1), (2, 18, 3, [11, 2], .if_icmp .lt 9), (5, 1, 1, [1], .iload_n 1), (6, 0, 2, [0, 99], .bipush 99), (8, 18, 3, [17, 5], .if_icmp .le 9), (11, 3, 1, [0], .aload_n 0), (12, 0, 1, [0, 1], .iconst 1), (13, 21, 3, [5, 16, 0, 11, 2, 81, 2, 83, 10, 3, 0, 1, 0], .invokevirtual 131), (16, 22, 1, [], .ireturn), (17, 3, 1, [0], .aload_n 0), (18, 3, 1, [0], .aload_n 0), (19, 8, 3, [11, 11, 1, 223], .getfield 74), (22, 3, 1, [0], .aload_n 0), (23, 8, 3, [11, 5, 1, 217], .getfield 36), (26, 1, 1, [1], .iload_n 1), (27, 21, 3, [1, 9, 0, 6, 4, 213, 4, 214, 4, 215, 0, 13, 0], .invokevirtual 363), (30, 21, 3, [5, 15, 0, 11, 4, 95, 4, 97, 10, 36, 0, 1, 0], .invokevirtual 312), (33, 22, 1, [], .ireturn)]
noncomputable def mX11_busiest : MR := (yX11_busiest, cX11_busiest, 2, (some (.int)), { frames := 4, cells := 0, slots := 0, locals := 127 }, 2, tX11_busiest)
set_option maxRecDepth 100000 in
noncomputable def tX11_exposed : List ME := [(0, 3, 1, [0], .aload_n 0), (1, 3, 1, [0], .aload_n 0), (2, 8, 3, [11, 5, 1, 217], .getfield 36), (5, 8, 3, [1, 0, 0, 193], .getfield 190), (8, 3, 1, [0], .aload_n 0), (9, 8, 3, [11, 5, 1, 217], .getfield 36), (12, 21, 3, [0, 10, 0, 1, 4, 230, 4, 145, 4, 146, 0, 7, 0], .invokevirtual 366), (15, 3, 1, [0], .aload_n 0), (16, 8, 3, [11, 5, 1, 217], .getfield 36), (19, 8, 3, [1, 0, 0, 193], .getfield 190), (22, 8, 3, [5, 1, 0, 155], .getfield 218), (25, 21, 3, [1, 6, 0, 5, 4, 191, 4, 184, 4, 185, 0, 8, 0], .invokevirtual 349), (28, 21, 3, [5, 14, 0, 11, 3, 62, 3, 64, 10, 17, 0, 1, 0], .invokevirtual 177), (31, 22, 1, [], .ireturn)]
noncomputable def mX11_exposed : MR := (yX11_exposed, cX11_exposed, 1, (some (.int)), { frames := 2, cells := 0, slots := 0, locals := 47 }, 1, tX11_exposed)
set_option maxRecDepth 100000 in
noncomputable def tX11_wells : List ME := [(0, 3, 1, [0], .aload_n 0), (1, 1, 1, [1], .iload_n 1), (2, 21, 3, [5, 19, 0, 11, 3, 216, 3, 218, 10, 32, 0, 1, 0], .invokevirtual 270), (5, 19, 3, [18, 0], .ifCond .eq 13), (18, 3, 1, [0], .aload_n 0), (19, 0, 1, [0, 1], .iconst 1), (20, 21, 3, [5, 16, 0, 11, 2, 81, 2, 83, 10, 3, 0, 1, 0], .invokevirtual 131), (23, 22, 1, [], .ireturn)]
noncomputable def mX11_wells : MR := (yX11_wells, cX11_wells, 3, (some (.int)), { frames := 1, cells := 0, slots := 0, locals := 21 }, 3, tX11_wells)
set_option maxRecDepth 100000 in
noncomputable def tX11_ways : List ME := [(0, 3, 1, [0], .aload_n 0), (1, 1, 1, [1], .iload_n 1), (2, 21, 3, [6, 0, 0, 11, 3, 180, 3, 182, 10, 29, 0, 1, 0], .invokevirtual 230), (5, 19, 3, [16, 0], .ifCond .eq 11), (16, 3, 1, [0], .aload_n 0), (17, 0, 1, [0, 1], .iconst 1), (18, 21, 3, [5, 16, 0, 11, 2, 81, 2, 83, 10, 3, 0, 1, 0], .invokevirtual 131), (21, 22, 1, [], .ireturn)]
noncomputable def mX11_ways : MR := (yX11_ways, cX11_ways, 4, (some (.int)), { frames := 1, cells := 0, slots := 0, locals := 21 }, 3, tX11_ways)
set_option maxRecDepth 100000 in
noncomputable def tX11_heirs : List ME := [(0, 3, 1, [0], .aload_n 0), (1, 1, 1, [1], .iload_n 1), (2, 1, 1, [2], .iload_n 2), (3, 21, 3, [6, 2, 0, 11, 3, 199, 3, 201, 10, 30, 0, 1, 0], .invokevirtual 252), (6, 19, 3, [15, 1], .ifCond .ne 9), (9, 3, 1, [0], .aload_n 0), (10, 0, 1, [0, 1], .iconst 1), (11, 21, 3, [5, 16, 0, 11, 2, 81, 2, 83, 10, 3, 0, 1, 0], .invokevirtual 131), (14, 22, 1, [], .ireturn)]
noncomputable def mX11_heirs : MR := (yX11_heirs, cX11_heirs, 3, (some (.int)), { frames := 2, cells := 0, slots := 0, locals := 43 }, 3, tX11_heirs)
set_option maxRecDepth 100000 in
noncomputable def tX11_loss : List ME := [(0, 3, 1, [0], .aload_n 0), (1, 1, 1, [1], .iload_n 1), (2, 21, 3, [6, 0, 0, 11, 3, 180, 3, 182, 10, 29, 0, 1, 0], .invokevirtual 230), (5, 19, 3, [14, 1], .ifCond .ne 9), (8, 3, 1, [0], .aload_n 0), (9, 0, 1, [0, 1], .iconst 1), (10, 21, 3, [5, 16, 0, 11, 2, 81, 2, 83, 10, 3, 0, 1, 0], .invokevirtual 131), (13, 22, 1, [], .ireturn)]
noncomputable def mX11_loss : MR := (yX11_loss, cX11_loss, 2, (some (.int)), { frames := 1, cells := 0, slots := 0, locals := 22 }, 2, tX11_loss)
set_option maxRecDepth 100000 in
noncomputable def tX11_saint : List ME := [(0, 3, 1, [0], .aload_n 0), (1, 3, 1, [0], .aload_n 0), (2, 8, 3, [11, 12, 1, 224], .getfield 81), (5, 3, 1, [0], .aload_n 0), (6, 8, 3, [11, 5, 1, 217], .getfield 36), (9, 21, 3, [0, 16, 0, 4, 5, 27, 5, 28, 5, 29, 0, 14, 0], .invokevirtual 378), (12, 21, 3, [5, 15, 0, 11, 4, 95, 4, 97, 10, 36, 0, 1, 0], .invokevirtual 312), (15, 22, 1, [], .ireturn)]
noncomputable def mX11_saint : MR := (yX11_saint, cX11_saint, 1, (some (.int)), { frames := 2, cells := 0, slots := 0, locals := 42 }, 1, tX11_saint)
set_option maxRecDepth 100000 in
noncomputable def tX11_keeper : List ME := [(0, 3, 1, [0], .aload_n 0), (1, 3, 1, [0], .aload_n 0), (2, 8, 3, [11, 12, 1, 224], .getfield 81), (5, 3, 1, [0], .aload_n 0), (6, 8, 3, [11, 5, 1, 217], .getfield 36), (9, 21, 3, [0, 17, 0, 4, 5, 37, 5, 38, 5, 39, 0, 14, 0], .invokevirtual 382), (12, 21, 3, [5, 15, 0, 11, 4, 95, 4, 97, 10, 36, 0, 1, 0], .invokevirtual 312), (15, 22, 1, [], .ireturn)]
noncomputable def mX11_keeper : MR := (yX11_keeper, cX11_keeper, 1, (some (.int)), { frames := 2, cells := 0, slots := 0, locals := 42 }, 1, tX11_keeper)
set_option maxRecDepth 100000 in
noncomputable def tX11_lonely : List ME := [(0, 0, 1, [0, 0], .iconst 0), (1, 4, 1, [1], .istore_n 1), (2, 0, 1, [0, 0], .iconst 0), (3, 4, 1, [2], .istore_n 2), (4, 1, 1, [2], .iload_n 2), (5, 3, 1, [0], .aload_n 0), (6, 8, 3, [11, 5, 1, 217], .getfield 36), (9, 8, 3, [1, 4, 0, 206], .getfield 174), (12, 18, 3, [56, 3], .if_icmp .ge 44), (56, 3, 1, [0], .aload_n 0), (57, 1, 1, [1], .iload_n 1), (58, 21, 3, [5, 14, 0, 11, 3, 62, 3, 64, 10, 17, 0, 1, 0], .invokevirtual 177), (61, 22, 1, [], .ireturn)]
noncomputable def mX11_lonely : MR := (yX11_lonely, cX11_lonely, 3, (some (.int)), { frames := 1, cells := 0, slots := 0, locals := 21 }, 1, tX11_lonely)
set_option maxRecDepth 100000 in
noncomputable def tX11_due : List ME := [(0, 3, 1, [0], .aload_n 0), (1, 1, 1, [1], .iload_n 1), (2, 21, 3, [5, 19, 0, 11, 3, 216, 3, 218, 10, 32, 0, 1, 0], .invokevirtual 270), (5, 19, 3, [14, 1], .ifCond .ne 9), (8, 3, 1, [0], .aload_n 0), (9, 0, 1, [0, 1], .iconst 1), (10, 21, 3, [5, 16, 0, 11, 2, 81, 2, 83, 10, 3, 0, 1, 0], .invokevirtual 131), (13, 22, 1, [], .ireturn)]
noncomputable def mX11_due : MR := (yX11_due, cX11_due, 4, (some (.int)), { frames := 1, cells := 0, slots := 0, locals := 21 }, 2, tX11_due)
set_option maxRecDepth 100000 in
noncomputable def tX11_net : List ME := [(0, 3, 1, [0], .aload_n 0), (1, 1, 1, [1], .iload_n 1), (2, 21, 3, [6, 0, 0, 11, 3, 180, 3, 182, 10, 29, 0, 1, 0], .invokevirtual 230), (5, 19, 3, [14, 1], .ifCond .ne 9), (8, 3, 1, [0], .aload_n 0), (9, 0, 1, [0, 1], .iconst 1), (10, 21, 3, [5, 16, 0, 11, 2, 81, 2, 83, 10, 3, 0, 1, 0], .invokevirtual 131), (13, 22, 1, [], .ireturn)]
noncomputable def mX11_net : MR := (yX11_net, cX11_net, 2, (some (.int)), { frames := 1, cells := 0, slots := 0, locals := 21 }, 2, tX11_net)
set_option maxRecDepth 100000 in
noncomputable def tX11_wedding : List ME := [(0, 3, 1, [0], .aload_n 0), (1, 1, 1, [1], .iload_n 1), (2, 21, 3, [5, 19, 0, 11, 3, 216, 3, 218, 10, 32, 0, 1, 0], .invokevirtual 270), (5, 19, 3, [14, 1], .ifCond .ne 9), (8, 3, 1, [0], .aload_n 0), (9, 0, 1, [0, 1], .iconst 1), (10, 21, 3, [5, 16, 0, 11, 2, 81, 2, 83, 10, 3, 0, 1, 0], .invokevirtual 131), (13, 22, 1, [], .ireturn)]
noncomputable def mX11_wedding : MR := (yX11_wedding, cX11_wedding, 2, (some (.int)), { frames := 1, cells := 0, slots := 0, locals := 21 }, 2, tX11_wedding)
set_option maxRecDepth 100000 in
noncomputable def tX11_weddingSet : List ME := [(0, 3, 1, [0], .aload_n 0), (1, 1, 1, [1], .iload_n 1), (2, 21, 3, [5, 19, 0, 11, 3, 216, 3, 218, 10, 32, 0, 1, 0], .invokevirtual 270), (5, 19, 3, [14, 1], .ifCond .ne 9), (8, 3, 1, [0], .aload_n 0), (9, 0, 1, [0, 1], .iconst 1), (10, 21, 3, [5, 16, 0, 11, 2, 81, 2, 83, 10, 3, 0, 1, 0], .invokevirtual 131), (13, 22, 1, [], .ireturn)]
noncomputable def mX11_weddingSet : MR := (yX11_weddingSet, cX11_weddingSet, 2, (some (.int)), { frames := 2, cells := 0, slots := 0, locals := 42 }, 2, tX11_weddingSet)
set_option maxRecDepth 100000 in
noncomputable def tX11_pardon : List ME := [(0, 3, 1, [0], .aload_n 0), (1, 1, 1, [1], .iload_n 1), (2, 21, 3, [5, 19, 0, 11, 3, 216, 3, 218, 10, 32, 0, 1, 0], .invokevirtual 270), (5, 19, 3, [19, 0], .ifCond .eq 14), (19, 3, 1, [0], .aload_n 0), (20, 0, 1, [0, 1], .iconst 1), (21, 21, 3, [5, 16, 0, 11, 2, 81, 2, 83, 10, 3, 0, 1, 0], .invokevirtual 131), (24, 22, 1, [], .ireturn)]
noncomputable def mX11_pardon : MR := (yX11_pardon, cX11_pardon, 3, (some (.int)), { frames := 1, cells := 0, slots := 0, locals := 21 }, 3, tX11_pardon)
set_option maxRecDepth 100000 in
noncomputable def tX11_pardonSet : List ME := [(0, 3, 1, [0], .aload_n 0), (1, 1, 1, [1], .iload_n 1), (2, 21, 3, [5, 19, 0, 11, 3, 216, 3, 218, 10, 32, 0, 1, 0], .invokevirtual 270), (5, 19, 3, [19, 0], .ifCond .eq 14), (19, 3, 1, [0], .aload_n 0), (20, 0, 1, [0, 1], .iconst 1), (21, 21, 3, [5, 16, 0, 11, 2, 81, 2, 83, 10, 3, 0, 1, 0], .invokevirtual 131), (24, 22, 1, [], .ireturn)]
noncomputable def mX11_pardonSet : MR := (yX11_pardonSet, cX11_pardonSet, 3, (some (.int)), { frames := 2, cells := 0, slots := 0, locals := 42 }, 3, tX11_pardonSet)
set_option maxRecDepth 100000 in
noncomputable def tX11_pair : List ME := [(0, 1, 1, [1], .iload_n 1), (1, 0, 1, [0, 2], .iconst 2), (2, 21, 3, [6, 3, 2, 11, 2, 43, 2, 44, 0, 1, 0], .invokestatic 107), (5, 19, 3, [14, 1], .ifCond .ne 9), (8, 3, 1, [0], .aload_n 0), (9, 0, 1, [0, 1], .iconst 1), (10, 21, 3, [5, 16, 0, 11, 2, 81, 2, 83, 10, 3, 0, 1, 0], .invokevirtual 131), (13, 22, 1, [], .ireturn), (14, 3, 1, [0], .aload_n 0), (15, 8, 3, [11, 12, 1, 224], .getfield 81), (18, 3, 1, [0], .aload_n 0), (19, 8, 3, [11, 5, 1, 217], .getfield 36), (22, 21, 3, [0, 18, 0, 4, 5, 106, 5, 107, 5, 108, 0, 14, 0], .invokevirtual 394), (25, 4, 1, [2], .istore_n 2), (26, 1, 1, [2], .iload_n 2), (27, 0, 1, [0, 4294967295], .iconst (-1)), (28, 18, 3, [38, 1], .if_icmp .ne 10), (31, 3, 1, [0], .aload_n 0), (32, 0, 2, [0, 6], .bipush 6), (34, 21, 3, [5, 16, 0, 11, 2, 81, 2, 83, 10, 3, 0, 1, 0], .invokevirtual 131), (37, 22, 1, [], .ireturn)]
noncomputable def mX11_pair : MR := (yX11_pair, cX11_pair, 5, (some (.int)), { frames := 2, cells := 0, slots := 0, locals := 49 }, 2, tX11_pair)
set_option maxRecDepth 100000 in
noncomputable def tX11_share : List ME := [(0, 3, 1, [0], .aload_n 0), (1, 1, 1, [1], .iload_n 1), (2, 1, 1, [2], .iload_n 2), (3, 21, 3, [6, 2, 0, 11, 3, 199, 3, 201, 10, 30, 0, 1, 0], .invokevirtual 252), (6, 19, 3, [17, 0], .ifCond .eq 11), (17, 3, 1, [0], .aload_n 0), (18, 0, 1, [0, 1], .iconst 1), (19, 21, 3, [5, 16, 0, 11, 2, 81, 2, 83, 10, 3, 0, 1, 0], .invokevirtual 131), (22, 22, 1, [], .ireturn)]
noncomputable def mX11_share : MR := (yX11_share, cX11_share, 5, (some (.int)), { frames := 2, cells := 0, slots := 0, locals := 43 }, 4, tX11_share)
set_option maxRecDepth 100000 in
noncomputable def tX11_gracious : List ME := [(0, 0, 1, [0, 4294967295], .iconst (-1)), (1, 4, 1, [1], .istore_n 1), (2, 0, 1, [0, 0], .iconst 0), (3, 4, 1, [2], .istore_n 2), (4, 0, 1, [0, 0], .iconst 0), (5, 4, 1, [3], .istore_n 3), (6, 1, 1, [3], .iload_n 3), (7, 3, 1, [0], .aload_n 0), (8, 8, 3, [11, 5, 1, 217], .getfield 36), (11, 8, 3, [1, 4, 0, 206], .getfield 174), (14, 18, 3, [62, 3], .if_icmp .ge 48), (62, 3, 1, [0], .aload_n 0), (63, 1, 1, [1], .iload_n 1), (64, 21, 3, [5, 15, 0, 11, 4, 95, 4, 97, 10, 36, 0, 1, 0], .invokevirtual 312), (67, 22, 1, [], .ireturn)]
noncomputable def mX11_gracious : MR := (yX11_gracious, cX11_gracious, 5, (some (.int)), { frames := 2, cells := 0, slots := 0, locals := 42 }, 1, tX11_gracious)
set_option maxRecDepth 100000 in
noncomputable def tX11_deepest : List ME := [(0, 0, 1, [0, 4294967295], .iconst (-1)), (1, 4, 1, [1], .istore_n 1), (2, 0, 1, [0, 0], .iconst 0), (3, 4, 1, [2], .istore_n 2), (4, 0, 1, [0, 0], .iconst 0), (5, 4, 1, [3], .istore_n 3), (6, 1, 1, [3], .iload_n 3), (7, 3, 1, [0], .aload_n 0), (8, 8, 3, [11, 5, 1, 217], .getfield 36), (11, 8, 3, [1, 4, 0, 206], .getfield 174), (14, 18, 3, [54, 3], .if_icmp .ge 40), (54, 3, 1, [0], .aload_n 0), (55, 1, 1, [1], .iload_n 1), (56, 21, 3, [5, 15, 0, 11, 4, 95, 4, 97, 10, 36, 0, 1, 0], .invokevirtual 312), (59, 22, 1, [], .ireturn)]
noncomputable def mX11_deepest : MR := (yX11_deepest, cX11_deepest, 4, (some (.int)), { frames := 2, cells := 0, slots := 0, locals := 42 }, 1, tX11_deepest)
set_option maxRecDepth 100000 in
noncomputable def tX11_weight : List ME := [(0, 3, 1, [0], .aload_n 0), (1, 8, 3, [11, 5, 1, 217], .getfield 36), (4, 8, 3, [1, 1, 0, 197], .getfield 209), (7, 21, 3, [0, 4, 0, 0, 3, 163, 3, 164, 3, 165, 0, 9, 0], .invokevirtual 213), (10, 4, 1, [1], .istore_n 1), (11, 1, 1, [1], .iload_n 1), (12, 19, 3, [22, 1], .ifCond .ne 10), (15, 3, 1, [0], .aload_n 0), (16, 0, 2, [0, 6], .bipush 6), (18, 21, 3, [5, 18, 0, 11, 2, 46, 2, 48, 10, 0, 0, 1, 0], .invokevirtual 111), (21, 22, 1, [], .ireturn)]
noncomputable def mX11_weight : MR := (yX11_weight, cX11_weight, 4, (some (.boolean)), { frames := 1, cells := 0, slots := 0, locals := 22 }, 1, tX11_weight)
set_option maxRecDepth 100000 in
noncomputable def tX11_mutual : List ME := [(0, 0, 1, [0, 0], .iconst 0), (1, 4, 1, [1], .istore_n 1), (2, 0, 1, [0, 0], .iconst 0), (3, 4, 1, [2], .istore_n 2), (4, 1, 1, [2], .iload_n 2), (5, 3, 1, [0], .aload_n 0), (6, 8, 3, [11, 5, 1, 217], .getfield 36), (9, 8, 3, [1, 4, 0, 206], .getfield 174), (12, 18, 3, [60, 3], .if_icmp .ge 48), (60, 3, 1, [0], .aload_n 0), (61, 1, 1, [1], .iload_n 1), (62, 21, 3, [5, 14, 0, 11, 3, 62, 3, 64, 10, 17, 0, 1, 0], .invokevirtual 177), (65, 22, 1, [], .ireturn)]
noncomputable def mX11_mutual : MR := (yX11_mutual, cX11_mutual, 4, (some (.int)), { frames := 1, cells := 0, slots := 0, locals := 21 }, 1, tX11_mutual)
set_option maxRecDepth 100000 in
noncomputable def tX11_chain : List ME := [(0, 3, 1, [0], .aload_n 0), (1, 3, 1, [0], .aload_n 0), (2, 8, 3, [11, 12, 1, 224], .getfield 81), (5, 3, 1, [0], .aload_n 0), (6, 8, 3, [11, 5, 1, 217], .getfield 36), (9, 21, 3, [0, 19, 0, 4, 5, 145, 5, 146, 5, 147, 0, 14, 0], .invokevirtual 407), (12, 21, 3, [5, 14, 0, 11, 3, 62, 3, 64, 10, 17, 0, 1, 0], .invokevirtual 177), (15, 22, 1, [], .ireturn)]
noncomputable def mX11_chain : MR := (yX11_chain, cX11_chain, 1, (some (.int)), { frames := 3, cells := 0, slots := 0, locals := 69 }, 1, tX11_chain)
set_option maxRecDepth 100000 in
noncomputable def tX11_circle : List ME := [(0, 3, 1, [0], .aload_n 0), (1, 1, 1, [1], .iload_n 1), (2, 21, 3, [6, 0, 0, 11, 3, 180, 3, 182, 10, 29, 0, 1, 0], .invokevirtual 230), (5, 19, 3, [14, 1], .ifCond .ne 9), (8, 3, 1, [0], .aload_n 0), (9, 0, 1, [0, 1], .iconst 1), (10, 21, 3, [5, 16, 0, 11, 2, 81, 2, 83, 10, 3, 0, 1, 0], .invokevirtual 131), (13, 22, 1, [], .ireturn)]
noncomputable def mX11_circle : MR := (yX11_circle, cX11_circle, 4, (some (.int)), { frames := 1, cells := 0, slots := 0, locals := 21 }, 2, tX11_circle)
set_option maxRecDepth 100000 in
noncomputable def tX11_bestSalt : List ME := [(0, 3, 1, [0], .aload_n 0), (1, 3, 1, [0], .aload_n 0), (2, 8, 3, [11, 12, 1, 224], .getfield 81), (5, 3, 1, [0], .aload_n 0), (6, 8, 3, [11, 5, 1, 217], .getfield 36), (9, 21, 3, [1, 0, 0, 4, 5, 172, 5, 173, 5, 174, 0, 14, 0], .invokevirtual 416), (12, 21, 3, [5, 15, 0, 11, 4, 95, 4, 97, 10, 36, 0, 1, 0], .invokevirtual 312), (15, 22, 1, [], .ireturn)]
noncomputable def mX11_bestSalt : MR := (yX11_bestSalt, cX11_bestSalt, 1, (some (.int)), { frames := 2, cells := 0, slots := 0, locals := 42 }, 1, tX11_bestSalt)
set_option maxRecDepth 100000 in
noncomputable def tX11_live : List ME := [(0, 1, 1, [1], .iload_n 1), (1, 0, 3, [0, 9999], .sipush 9999), (4, 21, 3, [6, 3, 2, 11, 2, 43, 2, 44, 0, 1, 0], .invokestatic 107), (7, 19, 3, [16, 1], .ifCond .ne 9), (10, 3, 1, [0], .aload_n 0), (11, 0, 1, [0, 1], .iconst 1), (12, 21, 3, [5, 16, 0, 11, 2, 81, 2, 83, 10, 3, 0, 1, 0], .invokevirtual 131), (15, 22, 1, [], .ireturn), (16, 3, 1, [0], .aload_n 0), (17, 8, 3, [11, 6, 1, 218], .getfield 43), (20, 8, 3, [7, 0, 1, 45], .getfield 419), (23, 19, 3, [33, 1], .ifCond .ne 10), (26, 3, 1, [0], .aload_n 0), (27, 0, 2, [0, 6], .bipush 6), (29, 21, 3, [5, 16, 0, 11, 2, 81, 2, 83, 10, 3, 0, 1, 0], .invokevirtual 131), (32, 22, 1, [], .ireturn)]
noncomputable def mX11_live : MR := (yX11_live, cX11_live, 2, (some (.int)), { frames := 1, cells := 0, slots := 0, locals := 21 }, 2, tX11_live)
set_option maxRecDepth 100000 in
noncomputable def tX11_lived : List ME := [(0, 1, 1, [1], .iload_n 1), (1, 0, 1, [0, 4], .iconst 4), (2, 21, 3, [6, 3, 2, 11, 2, 43, 2, 44, 0, 1, 0], .invokestatic 107), (5, 19, 3, [14, 1], .ifCond .ne 9), (8, 3, 1, [0], .aload_n 0), (9, 0, 1, [0, 1], .iconst 1), (10, 21, 3, [5, 16, 0, 11, 2, 81, 2, 83, 10, 3, 0, 1, 0], .invokevirtual 131), (13, 22, 1, [], .ireturn), (14, 3, 1, [0], .aload_n 0), (15, 8, 3, [11, 13, 1, 225], .getfield 88), (18, 8, 3, [3, 0, 1, 155], .getfield 427), (21, 19, 3, [31, 1], .ifCond .ne 10), (24, 3, 1, [0], .aload_n 0), (25, 0, 2, [0, 6], .bipush 6), (27, 21, 3, [5, 16, 0, 11, 2, 81, 2, 83, 10, 3, 0, 1, 0], .invokevirtual 131), (30, 22, 1, [], .ireturn)]
noncomputable def mX11_lived : MR := (yX11_lived, cX11_lived, 2, (some (.int)), { frames := 1, cells := 0, slots := 0, locals := 21 }, 2, tX11_lived)
set_option maxRecDepth 100000 in
noncomputable def tX11_mean : List ME := [(0, 1, 1, [1], .iload_n 1), (1, 0, 3, [0, 9999], .sipush 9999), (4, 21, 3, [6, 3, 2, 11, 2, 43, 2, 44, 0, 1, 0], .invokestatic 107), (7, 19, 3, [32, 0], .ifCond .eq 25), (10, 1, 1, [2], .iload_n 2), (11, 0, 1, [0, 1], .iconst 1), (12, 18, 3, [32, 2], .if_icmp .lt 20), (15, 1, 1, [2], .iload_n 2), (16, 0, 2, [0, 20], .bipush 20), (18, 18, 3, [32, 4], .if_icmp .gt 14), (21, 1, 1, [1], .iload_n 1), (22, 1, 1, [2], .iload_n 2), (23, 26, 1, [], .iadd), (24, 0, 1, [0, 1], .iconst 1), (25, 27, 1, [], .isub), (26, 0, 3, [0, 9999], .sipush 9999), (29, 18, 3, [38, 5], .if_icmp .le 9), (32, 3, 1, [0], .aload_n 0), (33, 0, 1, [0, 1], .iconst 1), (34, 21, 3, [5, 18, 0, 11, 2, 46, 2, 48, 10, 0, 0, 1, 0], .invokevirtual 111), (37, 22, 1, [], .ireturn), (38, 3, 1, [0], .aload_n 0), (39, 8, 3, [11, 6, 1, 218], .getfield 43), (42, 8, 3, [7, 0, 1, 45], .getfield 419), (45, 19, 3, [55, 1], .ifCond .ne 10), (48, 3, 1, [0], .aload_n 0), (49, 0, 2, [0, 6], .bipush 6), (51, 21, 3, [5, 18, 0, 11, 2, 46, 2, 48, 10, 0, 0, 1, 0], .invokevirtual 111), (54, 22, 1, [], .ireturn)]
noncomputable def mX11_mean : MR := (yX11_mean, cX11_mean, 6, (some (.boolean)), { frames := 1, cells := 0, slots := 0, locals := 22 }, 3, tX11_mean)
set_option maxRecDepth 100000 in
noncomputable def tX11_mark : List ME := [(0, 3, 1, [0], .aload_n 0), (1, 8, 3, [11, 17, 1, 229], .getfield 103), (4, 0, 1, [0, 3], .iconst 3), (5, 18, 3, [14, 2], .if_icmp .lt 9), (14, 3, 1, [0], .aload_n 0), (15, 8, 3, [11, 15, 1, 227], .getfield 95), (18, 3, 1, [0], .aload_n 0), (19, 8, 3, [11, 17, 1, 229], .getfield 103), (22, 13, 1, [], .aaload), (23, 3, 1, [0], .aload_n 0), (24, 8, 3, [11, 5, 1, 217], .getfield 36), (27, 21, 3, [0, 8, 0, 1, 3, 43, 3, 44, 3, 45, 0, 7, 0], .invokevirtual 167), (30, 3, 1, [0], .aload_n 0), (31, 8, 3, [11, 16, 1, 228], .getfield 99), (34, 3, 1, [0], .aload_n 0), (35, 8, 3, [11, 17, 1, 229], .getfield 103), (38, 13, 1, [], .aaload), (39, 3, 1, [0], .aload_n 0), (40, 8, 3, [11, 6, 1, 218], .getfield 43), (43, 21, 3, [1, 13, 0, 7, 3, 140, 3, 141, 3, 142, 0, 10, 0], .invokevirtual 181), (46, 3, 1, [0], .aload_n 0), (47, 50, 1, [], .dup), (48, 8, 3, [11, 17, 1, 229], .getfield 103), (51, 0, 1, [0, 1], .iconst 1), (52, 26, 1, [], .iadd), (53, 9, 3, [11, 17, 0, 1, 229], .putfield 103), (56, 3, 1, [0], .aload_n 0), (57, 3, 1, [0], .aload_n 0), (58, 8, 3, [11, 17, 1, 229], .getfield 103), (61, 21, 3, [5, 14, 0, 11, 3, 62, 3, 64, 10, 17, 0, 1, 0], .invokevirtual 177), (64, 22, 1, [], .ireturn)]
noncomputable def mX11_mark : MR := (yX11_mark, cX11_mark, 1, (some (.int)), { frames := 3, cells := 0, slots := 0, locals := 102 }, 1, tX11_mark)
set_option maxRecDepth 100000 in
noncomputable def tX11_undo : List ME := [(0, 3, 1, [0], .aload_n 0), (1, 8, 3, [11, 17, 1, 229], .getfield 103), (4, 0, 1, [0, 1], .iconst 1), (5, 18, 3, [15, 3], .if_icmp .ge 10), (8, 3, 1, [0], .aload_n 0), (9, 0, 2, [0, 6], .bipush 6), (11, 21, 3, [5, 16, 0, 11, 2, 81, 2, 83, 10, 3, 0, 1, 0], .invokevirtual 131), (14, 22, 1, [], .ireturn)]
noncomputable def mX11_undo : MR := (yX11_undo, cX11_undo, 1, (some (.int)), { frames := 3, cells := 0, slots := 0, locals := 102 }, 1, tX11_undo)
set_option maxRecDepth 100000 in
noncomputable def tX11_answer : List ME := [(0, 3, 1, [0], .aload_n 0), (1, 0, 1, [0, 0], .iconst 0), (2, 9, 3, [11, 0, 0, 1, 212], .putfield 9), (5, 1, 1, [1], .iload_n 1), (6, 22, 1, [], .ireturn)]
noncomputable def mX11_answer : MR := (yX11_answer, cX11_answer, 2, (some (.int)), { frames := 0, cells := 0, slots := 0, locals := 0 }, 2, tX11_answer)
set_option maxRecDepth 100000 in
noncomputable def tX11_answerOrNone : List ME := [(0, 1, 1, [1], .iload_n 1), (1, 0, 1, [0, 4294967295], .iconst (-1)), (2, 18, 3, [14, 1], .if_icmp .ne 12), (5, 3, 1, [0], .aload_n 0), (6, 0, 2, [0, 6], .bipush 6), (8, 21, 3, [5, 16, 0, 11, 2, 81, 2, 83, 10, 3, 0, 1, 0], .invokevirtual 131), (11, 20, 3, [19], .goto 8), (19, 22, 1, [], .ireturn)]
noncomputable def mX11_answerOrNone : MR := (yX11_answerOrNone, cX11_answerOrNone, 2, (some (.int)), { frames := 1, cells := 0, slots := 0, locals := 21 }, 2, tX11_answerOrNone)
set_option maxRecDepth 100000 in
noncomputable def tX11_refuse : List ME := [(0, 3, 1, [0], .aload_n 0), (1, 1, 1, [1], .iload_n 1), (2, 9, 3, [11, 0, 0, 1, 212], .putfield 9), (5, 0, 1, [0, 4294967295], .iconst (-1)), (6, 22, 1, [], .ireturn)]
noncomputable def mX11_refuse : MR := (yX11_refuse, cX11_refuse, 2, (some (.int)), { frames := 0, cells := 0, slots := 0, locals := 0 }, 2, tX11_refuse)
set_option maxRecDepth 100000 in
noncomputable def tX11_grant : List ME := [(0, 3, 1, [0], .aload_n 0), (1, 0, 1, [0, 0], .iconst 0), (2, 9, 3, [11, 0, 0, 1, 212], .putfield 9), (5, 0, 1, [0, 1], .iconst 1), (6, 22, 1, [], .ireturn)]
noncomputable def mX11_grant : MR := (yX11_grant, cX11_grant, 1, (some (.boolean)), { frames := 0, cells := 0, slots := 0, locals := 0 }, 1, tX11_grant)
set_option maxRecDepth 100000 in
noncomputable def tX11_deny : List ME := [(0, 3, 1, [0], .aload_n 0), (1, 1, 1, [1], .iload_n 1), (2, 9, 3, [11, 0, 0, 1, 212], .putfield 9), (5, 0, 1, [0, 0], .iconst 0), (6, 22, 1, [], .ireturn)]
noncomputable def mX11_deny : MR := (yX11_deny, cX11_deny, 2, (some (.boolean)), { frames := 0, cells := 0, slots := 0, locals := 0 }, 2, tX11_deny)
set_option maxRecDepth 100000 in
noncomputable def tX11_isHouse : List ME := [(0, 1, 1, [1], .iload_n 1), (1, 19, 3, [22, 2], .ifCond .lt 21), (4, 1, 1, [1], .iload_n 1), (5, 3, 1, [0], .aload_n 0), (6, 8, 3, [11, 5, 1, 217], .getfield 36), (9, 8, 3, [1, 0, 0, 193], .getfield 190), (12, 8, 3, [5, 0, 0, 151], .getfield 194), (15, 18, 3, [22, 3], .if_icmp .ge 7), (22, 0, 1, [0, 0], .iconst 0), (23, 22, 1, [], .ireturn)]
noncomputable def mX11_isHouse : MR := (yX11_isHouse, cX11_isHouse, 2, (some (.boolean)), { frames := 0, cells := 0, slots := 0, locals := 0 }, 2, tX11_isHouse)
set_option maxRecDepth 100000 in
noncomputable def tX11_isPerson : List ME := [(0, 1, 1, [1], .iload_n 1), (1, 19, 3, [19, 2], .ifCond .lt 18), (4, 1, 1, [1], .iload_n 1), (5, 3, 1, [0], .aload_n 0), (6, 8, 3, [11, 5, 1, 217], .getfield 36), (9, 8, 3, [1, 4, 0, 206], .getfield 174), (12, 18, 3, [19, 3], .if_icmp .ge 7), (19, 0, 1, [0, 0], .iconst 0), (20, 22, 1, [], .ireturn)]
noncomputable def mX11_isPerson : MR := (yX11_isPerson, cX11_isPerson, 2, (some (.boolean)), { frames := 0, cells := 0, slots := 0, locals := 0 }, 2, tX11_isPerson)
set_option maxRecDepth 100000 in
noncomputable def tX11_areTwoHouses : List ME := [(0, 3, 1, [0], .aload_n 0), (1, 1, 1, [1], .iload_n 1), (2, 21, 3, [5, 19, 0, 11, 3, 216, 3, 218, 10, 32, 0, 1, 0], .invokevirtual 270), (5, 19, 3, [25, 0], .ifCond .eq 20), (25, 0, 1, [0, 0], .iconst 0), (26, 22, 1, [], .ireturn)]
noncomputable def mX11_areTwoHouses : MR := (yX11_areTwoHouses, cX11_areTwoHouses, 3, (some (.boolean)), { frames := 1, cells := 0, slots := 0, locals := 21 }, 3, tX11_areTwoHouses)
set_option maxRecDepth 100000 in
noncomputable def tX11_areTwoPersons : List ME := [(0, 3, 1, [0], .aload_n 0), (1, 1, 1, [1], .iload_n 1), (2, 21, 3, [6, 0, 0, 11, 3, 180, 3, 182, 10, 29, 0, 1, 0], .invokevirtual 230), (5, 19, 3, [25, 0], .ifCond .eq 20), (25, 0, 1, [0, 0], .iconst 0), (26, 22, 1, [], .ireturn)]
noncomputable def mX11_areTwoPersons : MR := (yX11_areTwoPersons, cX11_areTwoPersons, 3, (some (.boolean)), { frames := 1, cells := 0, slots := 0, locals := 21 }, 3, tX11_areTwoPersons)
set_option maxRecDepth 100000 in
noncomputable def tX11_isWithin : List ME := [(0, 1, 1, [0], .iload_n 0), (1, 19, 3, [13, 2], .ifCond .lt 12), (4, 1, 1, [0], .iload_n 0), (5, 1, 1, [1], .iload_n 1), (6, 18, 3, [13, 4], .if_icmp .gt 7), (9, 0, 1, [0, 1], .iconst 1), (10, 20, 3, [14], .goto 4), (13, 0, 1, [0, 0], .iconst 0), (14, 22, 1, [], .ireturn)]
noncomputable def mX11_isWithin : MR := (yX11_isWithin, cX11_isWithin, 2, (some (.boolean)), { frames := 0, cells := 0, slots := 0, locals := 0 }, 2, tX11_isWithin)
set_option maxRecDepth 100000 in
noncomputable def tX11_troubleAt : List ME := [(0, 1, 1, [1], .iload_n 1), (1, 0, 1, [0, 3], .iconst 3), (2, 21, 3, [6, 3, 2, 11, 2, 43, 2, 44, 0, 1, 0], .invokestatic 107), (5, 19, 3, [10, 1], .ifCond .ne 5), (8, 0, 1, [0, 1], .iconst 1), (9, 22, 1, [], .ireturn), (10, 3, 1, [0], .aload_n 0), (11, 8, 3, [11, 3, 1, 215], .getfield 22), (14, 1, 1, [1], .iload_n 1), (15, 13, 1, [], .aaload), (16, 8, 3, [10, 0, 1, 197], .getfield 139), (19, 19, 3, [24, 1], .ifCond .ne 5), (22, 0, 1, [0, 2], .iconst 2), (23, 22, 1, [], .ireturn)]
noncomputable def mX11_troubleAt : MR := (yX11_troubleAt, cX11_troubleAt, 3, (some (.int)), { frames := 1, cells := 0, slots := 0, locals := 21 }, 3, tX11_troubleAt)
set_option maxRecDepth 100000 in
noncomputable def tX12_init : List ME := [(0, 3, 1, [0], .aload_n 0), (1, 21, 3, [900, 6, 6, 0, 28, 0, 29], .invokespecial 1), (4, 3, 1, [0], .aload_n 0), (5, 0, 3, [0, 3696], .sipush 3696), (8, 55, 2, [100, 0, 0, 132], .newarray .int), (10, 9, 3, [12, 0, 3, 6, 11], .putfield 7), (13, 3, 1, [0], .aload_n 0), (14, 0, 2, [0, 90], .bipush 90), (16, 55, 2, [101, 1, 0, 133], .newarray .long), (18, 9, 3, [12, 1, 3, 6, 12], .putfield 13), (21, 3, 1, [0], .aload_n 0), (22, 0, 1, [1, 1], .lconst 1), (23, 9, 3, [12, 4, 2, 6, 15], .putfield 17), (26, 3, 1, [0], .aload_n 0), (27, 0, 1, [0, 4], .iconst 4), (28, 55, 2, [100, 0, 0, 132], .newarray .int), (30, 9, 3, [12, 5, 3, 6, 16], .putfield 21), (33, 3, 1, [0], .aload_n 0), (34, 0, 1, [0, 4], .iconst 4), (35, 55, 2, [100, 0, 0, 132], .newarray .int), (37, 50, 1, [], .dup), (38, 0, 1, [0, 0], .iconst 0), (39, 0, 1, [0, 4294967295], .iconst (-1)), (40, 14, 1, [], .iastore), (41, 50, 1, [], .dup), (42, 0, 1, [0, 1], .iconst 1), (43, 0, 1, [0, 4294967295], .iconst (-1)), (44, 14, 1, [], .iastore), (45, 50, 1, [], .dup), (46, 0, 1, [0, 2], .iconst 2), (47, 0, 1, [0, 4294967295], .iconst (-1)), (48, 14, 1, [], .iastore), (49, 50, 1, [], .dup), (50, 0, 1, [0, 3], .iconst 3), (51, 0, 1, [0, 4294967295], .iconst (-1)), (52, 14, 1, [], .iastore), (53, 9, 3, [12, 6, 3, 6, 17], .putfield 24), (56, 3, 1, [0], .aload_n 0), (57, 0, 3, [0, 240], .sipush 240), (60, 55, 2, [101, 1, 0, 133], .newarray .long), (62, 9, 3, [12, 7, 3, 6, 18], .putfield 27), (65, 3, 1, [0], .aload_n 0), (66, 0, 3, [0, 900], .sipush 900), (69, 55, 2, [102, 0, 0, 134], .newarray .byte), (71, 9, 3, [12, 8, 3, 6, 19], .putfield 30), (74, 3, 1, [0], .aload_n 0), (75, 0, 3, [0, 900], .sipush 900), (78, 55, 2, [102, 0, 0, 134], .newarray .byte), (80, 9, 3, [12, 9, 3, 6, 20], .putfield 34), (83, 3, 1, [0], .aload_n 0), (84, 0, 1, [0, 4294967295], .iconst (-1)), (85, 9, 3, [12, 16, 0, 6, 27], .putfield 37), (88, 3, 1, [0], .aload_n 0), (89, 0, 1, [0, 4294967295], .iconst (-1)), (90, 9, 3, [12, 17, 0, 6, 28], .putfield 41), (93, 3, 1, [0], .aload_n 0), (94, 0, 1, [0, 3], .iconst 3), (95, 55, 2, [100, 0, 0, 132], .newarray .int), (97, 9, 3, [12, 20, 3, 6, 31], .putfield 44), (100, 3, 1, [0], .aload_n 0), (101, 0, 2, [0, 7], .bipush 7), (103, 55, 2, [100, 0, 0, 132], .newarray .int), (105, 9, 3, [12, 23, 3, 6, 34], .putfield 47), (108, 3, 1, [0], .aload_n 0), (109, 0, 2, [0, 7], .bipush 7), (111, 55, 2, [100, 0, 0, 132], .newarray .int), (113, 9, 3, [12, 24, 3, 6, 35], .putfield 50), (116, 3, 1, [0], .aload_n 0), (117, 0, 2, [0, 7], .bipush 7), (119, 55, 2, [100, 0, 0, 132], .newarray .int), (121, 9, 3, [12, 25, 3, 6, 36], .putfield 53), (124, 3, 1, [0], .aload_n 0), (125, 0, 3, [0, 256], .sipush 256), (128, 55, 2, [100, 0, 0, 132], .newarray .int), (130, 9, 3, [12, 26, 3, 6, 37], .putfield 56), (133, 3, 1, [0], .aload_n 0), (134, 0, 2, [0, 80], .bipush 80), (136, 55, 2, [100, 0, 0, 132], .newarray .int), (138, 9, 3, [12, 29, 3, 6, 40], .putfield 59), (141, 3, 1, [0], .aload_n 0), (142, 0, 1, [0, 5], .iconst 5), (143, 55, 2, [100, 0, 0, 132], .newarray .int), (145, 9, 3, [12, 30, 3, 6, 41], .putfield 62), (148, 3, 1, [0], .aload_n 0), (149, 0, 1, [0, 5], .iconst 5), (150, 55, 2, [100, 0, 0, 132], .newarray .int), (152, 9, 3, [12, 31, 3, 6, 42], .putfield 65), (155, 3, 1, [0], .aload_n 0), (156, 0, 1, [0, 0], .iconst 0), (157, 21, 3, [6, 6, 0, 12, 6, 7, 6, 9, 10, 50, 0, 17, 0], .invokevirtual 68), (160, 25, 1, [], .return_)]
noncomputable def mX12_init : MR := (yX12_init, cX12_init, 1, none, { frames := 1, cells := 15, slots := 6204, locals := 30 }, 1, tX12_init)
set_option maxRecDepth 100000 in
noncomputable def tX12_plain : List ME := [(0, 0, 1, [0, 0], .iconst 0), (1, 4, 1, [2], .istore_n 2), (2, 1, 1, [2], .iload_n 2), (3, 0, 3, [0, 528], .sipush 528), (6, 18, 3, [24, 3], .if_icmp .ge 18), (9, 3, 1, [0], .aload_n 0), (10, 8, 3, [12, 0, 6, 11], .getfield 7), (13, 1, 1, [1], .iload_n 1), (14, 1, 1, [2], .iload_n 2), (15, 26, 1, [], .iadd), (16, 0, 1, [0, 0], .iconst 0), (17, 14, 1, [], .iastore), (18, 7, 3, [2, 1], .iinc 2 1), (21, 20, 3, [2], .goto (-19)), (24, 3, 1, [0], .aload_n 0), (25, 8, 3, [12, 0, 6, 11], .getfield 7), (28, 1, 1, [1], .iload_n 1), (29, 0, 1, [0, 4], .iconst 4), (30, 26, 1, [], .iadd), (31, 0, 1, [0, 4294967295], .iconst (-1)), (32, 14, 1, [], .iastore), (33, 25, 1, [], .return_)]
noncomputable def mX12_plain : MR := (yX12_plain, cX12_plain, 3, none, { frames := 0, cells := 0, slots := 0, locals := 0 }, 2, tX12_plain)
set_option maxRecDepth 100000 in
noncomputable def tX12_status : List ME := [(0, 3, 1, [0], .aload_n 0), (1, 8, 3, [12, 2, 6, 13], .getfield 72), (4, 22, 1, [], .ireturn)]
noncomputable def mX12_status : MR := (yX12_status, cX12_status, 1, (some (.int)), { frames := 0, cells := 0, slots := 0, locals := 0 }, 1, tX12_status)
set_option maxRecDepth 100000 in
noncomputable def tX12_top : List ME := [(0, 3, 1, [0], .aload_n 0), (1, 8, 3, [12, 3, 6, 14], .getfield 75), (4, 23, 1, [], .lreturn)]
noncomputable def mX12_top : MR := (yX12_top, cX12_top, 1, (some (.long)), { frames := 0, cells := 0, slots := 0, locals := 0 }, 1, tX12_top)
set_option maxRecDepth 100000 in
noncomputable def tX12_bottom : List ME := [(0, 3, 1, [0], .aload_n 0), (1, 8, 3, [12, 4, 6, 15], .getfield 17), (4, 23, 1, [], .lreturn)]
noncomputable def mX12_bottom : MR := (yX12_bottom, cX12_bottom, 1, (some (.long)), { frames := 0, cells := 0, slots := 0, locals := 0 }, 1, tX12_bottom)
set_option maxRecDepth 100000 in
noncomputable def tX12_is : List ME := [(0, 3, 1, [0], .aload_n 0), (1, 1, 1, [1], .iload_n 1), (2, 9, 3, [12, 2, 0, 6, 13], .putfield 72), (5, 1, 1, [1], .iload_n 1), (6, 19, 3, [13, 1], .ifCond .ne 7), (9, 0, 1, [0, 1], .iconst 1), (10, 20, 3, [14], .goto 4), (13, 0, 1, [0, 0], .iconst 0), (14, 22, 1, [], .ireturn)]
noncomputable def mX12_is : MR := (yX12_is, cX12_is, 2, (some (.boolean)), { frames := 0, cells := 0, slots := 0, locals := 0 }, 2, tX12_is)
set_option maxRecDepth 100000 in
noncomputable def tX12_refuse : List ME := [(0, 3, 1, [0], .aload_n 0), (1, 1, 1, [1], .iload_n 1), (2, 9, 3, [12, 2, 0, 6, 13], .putfield 72), (5, 0, 1, [0, 4294967295], .iconst (-1)), (6, 22, 1, [], .ireturn)]
noncomputable def mX12_refuse : MR := (yX12_refuse, cX12_refuse, 2, (some (.int)), { frames := 0, cells := 0, slots := 0, locals := 0 }, 2, tX12_refuse)
set_option maxRecDepth 100000 in
noncomputable def tX12_gives : List ME := [(0, 3, 1, [0], .aload_n 0), (1, 0, 1, [0, 0], .iconst 0), (2, 9, 3, [12, 2, 0, 6, 13], .putfield 72), (5, 1, 1, [1], .iload_n 1), (6, 22, 1, [], .ireturn)]
noncomputable def mX12_gives : MR := (yX12_gives, cX12_gives, 2, (some (.int)), { frames := 0, cells := 0, slots := 0, locals := 0 }, 2, tX12_gives)
set_option maxRecDepth 100000 in
noncomputable def tX12_orNone : List ME := [(0, 1, 1, [1], .iload_n 1), (1, 0, 1, [0, 4294967295], .iconst (-1)), (2, 18, 3, [14, 1], .if_icmp .ne 12), (5, 3, 1, [0], .aload_n 0), (6, 0, 2, [0, 6], .bipush 6), (8, 21, 3, [6, 11, 0, 12, 6, 193, 6, 195, 10, 57, 0, 17, 0], .invokevirtual 78), (11, 20, 3, [19], .goto 8), (19, 22, 1, [], .ireturn)]
noncomputable def mX12_orNone : MR := (yX12_orNone, cX12_orNone, 2, (some (.int)), { frames := 1, cells := 0, slots := 0, locals := 21 }, 2, tX12_orNone)
set_option maxRecDepth 100000 in
noncomputable def tX12_isTray : List ME := [(0, 1, 1, [0], .iload_n 0), (1, 19, 3, [13, 2], .ifCond .lt 12), (4, 1, 1, [0], .iload_n 0), (5, 0, 1, [0, 4], .iconst 4), (6, 18, 3, [13, 3], .if_icmp .ge 7), (9, 0, 1, [0, 1], .iconst 1), (10, 20, 3, [14], .goto 4), (13, 0, 1, [0, 0], .iconst 0), (14, 22, 1, [], .ireturn)]
noncomputable def mX12_isTray : MR := (yX12_isTray, cX12_isTray, 1, (some (.boolean)), { frames := 0, cells := 0, slots := 0, locals := 0 }, 1, tX12_isTray)
set_option maxRecDepth 100000 in
noncomputable def tX12_tray : List ME := [(0, 1, 1, [1], .iload_n 1), (1, 21, 3, [6, 14, 2, 12, 6, 130, 6, 131, 0, 17, 0], .invokestatic 89), (4, 19, 3, [26, 0], .ifCond .eq 22), (7, 1, 1, [2], .iload_n 2), (8, 19, 3, [26, 2], .ifCond .lt 18), (11, 1, 1, [2], .iload_n 2), (12, 0, 1, [0, 3], .iconst 3), (13, 18, 3, [26, 4], .if_icmp .gt 13), (16, 1, 1, [3], .iload_n 3), (17, 19, 3, [26, 2], .ifCond .lt 9), (20, 1, 1, [3], .iload_n 3), (21, 0, 2, [0, 60], .bipush 60), (23, 18, 3, [32, 5], .if_icmp .le 9), (26, 3, 1, [0], .aload_n 0), (27, 0, 1, [0, 1], .iconst 1), (28, 21, 3, [6, 10, 0, 12, 6, 133, 6, 135, 10, 51, 0, 17, 0], .invokevirtual 85), (31, 22, 1, [], .ireturn), (32, 3, 1, [0], .aload_n 0), (33, 8, 3, [12, 5, 6, 16], .getfield 21), (36, 1, 1, [1], .iload_n 1), (37, 1, 1, [2], .iload_n 2), (38, 14, 1, [], .iastore), (39, 3, 1, [0], .aload_n 0), (40, 8, 3, [12, 6, 6, 17], .getfield 24), (43, 1, 1, [1], .iload_n 1), (44, 1, 1, [3], .iload_n 3), (45, 14, 1, [], .iastore), (46, 0, 1, [0, 0], .iconst 0), (47, 4, 2, [4], .istore 4), (49, 1, 2, [4], .iload 4), (51, 1, 1, [3], .iload_n 3), (52, 18, 3, [74, 3], .if_icmp .ge 22), (55, 3, 1, [0], .aload_n 0), (56, 8, 3, [12, 7, 6, 18], .getfield 27), (59, 0, 2, [0, 60], .bipush 60), (61, 1, 1, [1], .iload_n 1), (62, 28, 1, [], .imul), (63, 1, 2, [4], .iload 4), (65, 26, 1, [], .iadd), (66, 0, 1, [1, 0], .lconst 0), (67, 15, 1, [], .lastore), (68, 7, 3, [4, 1], .iinc 4 1), (71, 20, 3, [49], .goto (-22)), (74, 3, 1, [0], .aload_n 0), (75, 0, 1, [0, 0], .iconst 0), (76, 21, 3, [6, 10, 0, 12, 6, 133, 6, 135, 10, 51, 0, 17, 0], .invokevirtual 85), (79, 22, 1, [], .ireturn)]
noncomputable def mX12_tray : MR := (yX12_tray, cX12_tray, 5, (some (.boolean)), { frames := 1, cells := 0, slots := 0, locals := 21 }, 4, tX12_tray)
set_option maxRecDepth 100000 in
noncomputable def tX12_wrongPlace : List ME := [(0, 1, 1, [1], .iload_n 1), (1, 21, 3, [6, 14, 2, 12, 6, 130, 6, 131, 0, 17, 0], .invokestatic 89), (4, 19, 3, [11, 1], .ifCond .ne 7), (7, 0, 1, [0, 1], .iconst 1), (8, 20, 3, [44], .goto 36), (11, 3, 1, [0], .aload_n 0), (12, 8, 3, [12, 6, 6, 17], .getfield 24), (15, 1, 1, [1], .iload_n 1), (16, 10, 1, [], .iaload), (17, 0, 1, [0, 4294967295], .iconst (-1)), (18, 18, 3, [25, 1], .if_icmp .ne 7), (21, 0, 1, [0, 2], .iconst 2), (22, 20, 3, [44], .goto 22), (44, 22, 1, [], .ireturn)]
noncomputable def mX12_wrongPlace : MR := (yX12_wrongPlace, cX12_wrongPlace, 3, (some (.int)), { frames := 1, cells := 0, slots := 0, locals := 20 }, 3, tX12_wrongPlace)
set_option maxRecDepth 100000 in
noncomputable def tX12_write : List ME := [(0, 3, 1, [0], .aload_n 0), (1, 1, 1, [1], .iload_n 1), (2, 1, 1, [2], .iload_n 2), (3, 21, 3, [6, 16, 0, 12, 6, 141, 6, 143, 10, 52, 0, 17, 0], .invokevirtual 92), (6, 4, 2, [5], .istore 5), (8, 1, 2, [5], .iload 5), (10, 19, 3, [34, 1], .ifCond .ne 24), (34, 3, 1, [0], .aload_n 0), (35, 1, 2, [5], .iload 5), (37, 21, 3, [6, 10, 0, 12, 6, 133, 6, 135, 10, 51, 0, 17, 0], .invokevirtual 85), (40, 22, 1, [], .ireturn)]
noncomputable def mX12_write : MR := (yX12_write, cX12_write, 6, (some (.boolean)), { frames := 2, cells := 0, slots := 0, locals := 42 }, 4, tX12_write)
set_option maxRecDepth 100000 in
noncomputable def tX12_read : List ME := [(0, 3, 1, [0], .aload_n 0), (1, 3, 1, [0], .aload_n 0), (2, 1, 1, [1], .iload_n 1), (3, 1, 1, [2], .iload_n 2), (4, 21, 3, [6, 16, 0, 12, 6, 141, 6, 143, 10, 52, 0, 17, 0], .invokevirtual 92), (7, 9, 3, [12, 2, 0, 6, 13], .putfield 72), (10, 3, 1, [0], .aload_n 0), (11, 8, 3, [12, 2, 6, 13], .getfield 72), (14, 19, 3, [23, 5], .ifCond .le 9), (17, 0, 3, [1, 18446744073709551615, 6, 152], .ldc2_w 100), (20, 20, 3, [34], .goto 14), (34, 23, 1, [], .lreturn)]
noncomputable def mX12_read : MR := (yX12_read, cX12_read, 3, (some (.long)), { frames := 2, cells := 0, slots := 0, locals := 42 }, 3, tX12_read)
set_option maxRecDepth 100000 in
noncomputable def tX12_pour : List ME := [(0, 1, 1, [1], .iload_n 1), (1, 21, 3, [6, 14, 2, 12, 6, 130, 6, 131, 0, 17, 0], .invokestatic 89), (4, 19, 3, [28, 0], .ifCond .eq 24), (7, 1, 1, [3], .iload_n 3), (8, 21, 3, [6, 14, 2, 12, 6, 130, 6, 131, 0, 17, 0], .invokestatic 89), (11, 19, 3, [28, 0], .ifCond .eq 17), (14, 1, 1, [2], .iload_n 2), (15, 19, 3, [28, 2], .ifCond .lt 13), (18, 1, 2, [4], .iload 4), (20, 19, 3, [28, 2], .ifCond .lt 8), (23, 1, 2, [5], .iload 5), (25, 19, 3, [34, 3], .ifCond .ge 9), (28, 3, 1, [0], .aload_n 0), (29, 0, 1, [0, 1], .iconst 1), (30, 21, 3, [6, 10, 0, 12, 6, 133, 6, 135, 10, 51, 0, 17, 0], .invokevirtual 85), (33, 22, 1, [], .ireturn), (34, 3, 1, [0], .aload_n 0), (35, 8, 3, [12, 6, 6, 17], .getfield 24), (38, 1, 1, [1], .iload_n 1), (39, 10, 1, [], .iaload), (40, 0, 1, [0, 4294967295], .iconst (-1)), (41, 18, 3, [54, 0], .if_icmp .eq 13), (54, 3, 1, [0], .aload_n 0), (55, 0, 1, [0, 2], .iconst 2), (56, 21, 3, [6, 10, 0, 12, 6, 133, 6, 135, 10, 51, 0, 17, 0], .invokevirtual 85), (59, 22, 1, [], .ireturn)]
noncomputable def mX12_pour : MR := (yX12_pour, cX12_pour, 8, (some (.boolean)), { frames := 1, cells := 0, slots := 0, locals := 21 }, 6, tX12_pour)
set_option maxRecDepth 100000 in
noncomputable def tX12_isFrom : List ME := [(0, 2, 1, [0], .lload_n 0), (1, 2, 1, [2], .lload_n 2), (2, 43, 1, [], .lcmp), (3, 19, 3, [17, 2], .ifCond .lt 14), (6, 2, 1, [0], .lload_n 0), (7, 2, 2, [4], .lload 4), (9, 43, 1, [], .lcmp), (10, 19, 3, [17, 4], .ifCond .gt 7), (13, 0, 1, [0, 1], .iconst 1), (14, 20, 3, [18], .goto 4), (17, 0, 1, [0, 0], .iconst 0), (18, 22, 1, [], .ireturn)]
noncomputable def mX12_isFrom : MR := (yX12_isFrom, cX12_isFrom, 6, (some (.boolean)), { frames := 0, cells := 0, slots := 0, locals := 0 }, 3, tX12_isFrom)
set_option maxRecDepth 100000 in
noncomputable def tX12_feed : List ME := [(0, 3, 1, [0], .aload_n 0), (1, 8, 3, [12, 10, 6, 21], .getfield 102), (4, 0, 2, [0, 20], .bipush 20), (6, 26, 1, [], .iadd), (7, 0, 3, [0, 900], .sipush 900), (10, 18, 3, [15, 5], .if_icmp .le 5), (15, 3, 1, [0], .aload_n 0), (16, 1, 1, [1], .iload_n 1), (17, 21, 3, [7, 2, 0, 12, 6, 161, 6, 163, 10, 53, 0, 17, 0], .invokevirtual 105), (20, 3, 1, [0], .aload_n 0), (21, 1, 1, [2], .iload_n 2), (22, 21, 3, [7, 2, 0, 12, 6, 161, 6, 163, 10, 53, 0, 17, 0], .invokevirtual 105), (25, 3, 1, [0], .aload_n 0), (26, 1, 1, [3], .iload_n 3), (27, 21, 3, [7, 2, 0, 12, 6, 161, 6, 163, 10, 53, 0, 17, 0], .invokevirtual 105), (30, 3, 1, [0], .aload_n 0), (31, 1, 2, [4], .iload 4), (33, 21, 3, [7, 2, 0, 12, 6, 161, 6, 163, 10, 53, 0, 17, 0], .invokevirtual 105), (36, 3, 1, [0], .aload_n 0), (37, 1, 2, [5], .iload 5), (39, 21, 3, [7, 2, 0, 12, 6, 161, 6, 163, 10, 53, 0, 17, 0], .invokevirtual 105), (42, 3, 1, [0], .aload_n 0), (43, 8, 3, [12, 10, 6, 21], .getfield 102), (46, 22, 1, [], .ireturn)]
noncomputable def mX12_feed : MR := (yX12_feed, cX12_feed, 6, (some (.int)), { frames := 1, cells := 0, slots := 0, locals := 22 }, 6, tX12_feed)
set_option maxRecDepth 100000 in
noncomputable def tX12_four : List ME := [(0, 0, 2, [0, 24], .bipush 24), (2, 4, 1, [2], .istore_n 2), (3, 1, 1, [2], .iload_n 2), (4, 19, 3, [36, 2], .ifCond .lt 32), (7, 3, 1, [0], .aload_n 0), (8, 8, 3, [12, 8, 6, 19], .getfield 30), (11, 3, 1, [0], .aload_n 0), (12, 8, 3, [12, 10, 6, 21], .getfield 102), (15, 1, 1, [1], .iload_n 1), (16, 1, 1, [2], .iload_n 2), (17, 33, 1, [], .ishr), (18, 44, 1, [], .i2b), (19, 16, 1, [], .bastore), (20, 3, 1, [0], .aload_n 0), (21, 50, 1, [], .dup), (22, 8, 3, [12, 10, 6, 21], .getfield 102), (25, 0, 1, [0, 1], .iconst 1), (26, 26, 1, [], .iadd), (27, 9, 3, [12, 10, 0, 6, 21], .putfield 102), (30, 7, 3, [2, 4294967288], .iinc 2 (-8)), (33, 20, 3, [3], .goto (-30)), (36, 25, 1, [], .return_)]
noncomputable def mX12_four : MR := (yX12_four, cX12_four, 3, none, { frames := 0, cells := 0, slots := 0, locals := 0 }, 2, tX12_four)
set_option maxRecDepth 100000 in
noncomputable def tX12_byteAt : List ME := [(0, 1, 1, [1], .iload_n 1), (1, 3, 1, [0], .aload_n 0), (2, 8, 3, [12, 11, 6, 22], .getfield 108), (5, 18, 3, [21, 3], .if_icmp .ge 16), (21, 0, 1, [0, 4294967295], .iconst (-1)), (22, 22, 1, [], .ireturn)]
noncomputable def mX12_byteAt : MR := (yX12_byteAt, cX12_byteAt, 2, (some (.int)), { frames := 0, cells := 0, slots := 0, locals := 0 }, 2, tX12_byteAt)
set_option maxRecDepth 100000 in
noncomputable def tX12_ahead : List ME := [(0, 3, 1, [0], .aload_n 0), (1, 3, 1, [0], .aload_n 0), (2, 8, 3, [12, 14, 6, 25], .getfield 111), (5, 21, 3, [7, 3, 0, 12, 6, 181, 6, 183, 10, 56, 0, 17, 0], .invokevirtual 114), (8, 0, 2, [0, 32], .bipush 32), (10, 18, 3, [26, 0], .if_icmp .eq 16), (13, 3, 1, [0], .aload_n 0), (14, 3, 1, [0], .aload_n 0), (15, 8, 3, [12, 14, 6, 25], .getfield 111), (18, 21, 3, [7, 3, 0, 12, 6, 181, 6, 183, 10, 56, 0, 17, 0], .invokevirtual 114), (21, 0, 2, [0, 10], .bipush 10), (23, 18, 3, [39, 1], .if_icmp .ne 16), (39, 3, 1, [0], .aload_n 0), (40, 3, 1, [0], .aload_n 0), (41, 8, 3, [12, 14, 6, 25], .getfield 111), (44, 9, 3, [12, 13, 0, 6, 24], .putfield 117), (47, 3, 1, [0], .aload_n 0), (48, 3, 1, [0], .aload_n 0), (49, 8, 3, [12, 14, 6, 25], .getfield 111), (52, 21, 3, [7, 3, 0, 12, 6, 181, 6, 183, 10, 56, 0, 17, 0], .invokevirtual 114), (55, 4, 1, [1], .istore_n 1), (56, 3, 1, [0], .aload_n 0), (57, 1, 1, [1], .iload_n 1), (58, 9, 3, [12, 15, 0, 6, 26], .putfield 120), (61, 1, 1, [1], .iload_n 1), (62, 0, 1, [0, 4294967295], .iconst (-1)), (63, 18, 3, [74, 1], .if_icmp .ne 11), (66, 3, 1, [0], .aload_n 0), (67, 0, 1, [0, 0], .iconst 0), (68, 9, 3, [12, 12, 0, 6, 23], .putfield 123), (71, 20, 3, [251], .goto 180), (251, 25, 1, [], .return_)]
noncomputable def mX12_ahead : MR := (yX12_ahead, cX12_ahead, 2, none, { frames := 1, cells := 0, slots := 0, locals := 21 }, 1, tX12_ahead)
set_option maxRecDepth 100000 in
noncomputable def tX12_begins : List ME := [(0, 1, 1, [1], .iload_n 1), (1, 19, 3, [17, 2], .ifCond .lt 16), (4, 1, 1, [1], .iload_n 1), (5, 3, 1, [0], .aload_n 0), (6, 8, 3, [12, 10, 6, 21], .getfield 102), (9, 18, 3, [17, 4], .if_icmp .gt 8), (12, 1, 1, [1], .iload_n 1), (13, 1, 1, [2], .iload_n 2), (14, 18, 3, [19, 5], .if_icmp .le 5), (17, 0, 1, [0, 0], .iconst 0), (18, 22, 1, [], .ireturn), (19, 3, 1, [0], .aload_n 0), (20, 1, 1, [1], .iload_n 1), (21, 9, 3, [12, 11, 0, 6, 22], .putfield 108), (24, 0, 1, [0, 0], .iconst 0), (25, 4, 1, [3], .istore_n 3), (26, 1, 1, [3], .iload_n 3), (27, 1, 1, [1], .iload_n 1), (28, 18, 3, [49, 3], .if_icmp .ge 21), (49, 3, 1, [0], .aload_n 0), (50, 0, 1, [0, 0], .iconst 0), (51, 9, 3, [12, 10, 0, 6, 21], .putfield 102), (54, 3, 1, [0], .aload_n 0), (55, 0, 1, [0, 0], .iconst 0), (56, 9, 3, [12, 18, 0, 6, 29], .putfield 148), (59, 3, 1, [0], .aload_n 0), (60, 0, 1, [0, 4294967295], .iconst (-1)), (61, 9, 3, [12, 17, 0, 6, 28], .putfield 41), (64, 3, 1, [0], .aload_n 0), (65, 0, 1, [0, 0], .iconst 0), (66, 9, 3, [12, 14, 0, 6, 25], .putfield 111), (69, 3, 1, [0], .aload_n 0), (70, 0, 1, [0, 0], .iconst 0), (71, 9, 3, [12, 19, 0, 6, 30], .putfield 151), (74, 3, 1, [0], .aload_n 0), (75, 21, 3, [7, 4, 0, 12, 6, 177, 6, 179, 10, 55, 0, 17, 0], .invokevirtual 154), (78, 0, 1, [0, 1], .iconst 1), (79, 22, 1, [], .ireturn)]
noncomputable def mX12_begins : MR := (yX12_begins, cX12_begins, 4, (some (.boolean)), { frames := 2, cells := 0, slots := 0, locals := 42 }, 3, tX12_begins)
set_option maxRecDepth 100000 in
noncomputable def tX12_fault : List ME := [(0, 1, 1, [1], .iload_n 1), (1, 19, 3, [11, 1], .ifCond .ne 10), (4, 3, 1, [0], .aload_n 0), (5, 8, 3, [12, 16, 6, 27], .getfield 37), (8, 20, 3, [24], .goto 16), (11, 1, 1, [1], .iload_n 1), (12, 0, 1, [0, 1], .iconst 1), (13, 18, 3, [23, 1], .if_icmp .ne 10), (16, 3, 1, [0], .aload_n 0), (17, 8, 3, [12, 17, 6, 28], .getfield 41), (20, 20, 3, [24], .goto 4), (23, 0, 1, [0, 4294967295], .iconst (-1)), (24, 22, 1, [], .ireturn)]
noncomputable def mX12_fault : MR := (yX12_fault, cX12_fault, 2, (some (.int)), { frames := 0, cells := 0, slots := 0, locals := 0 }, 2, tX12_fault)
set_option maxRecDepth 100000 in
noncomputable def tX12_taken : List ME := [(0, 3, 1, [0], .aload_n 0), (1, 3, 1, [0], .aload_n 0), (2, 8, 3, [12, 18, 6, 29], .getfield 148), (5, 9, 3, [12, 16, 0, 6, 27], .putfield 37), (8, 3, 1, [0], .aload_n 0), (9, 8, 3, [12, 18, 6, 29], .getfield 148), (12, 19, 3, [24, 5], .ifCond .le 12), (24, 3, 1, [0], .aload_n 0), (25, 1, 1, [1], .iload_n 1), (26, 21, 3, [6, 12, 0, 12, 7, 40, 7, 42, 10, 78, 0, 17, 0], .invokevirtual 82), (29, 22, 1, [], .ireturn)]
noncomputable def mX12_taken : MR := (yX12_taken, cX12_taken, 2, (some (.int)), { frames := 1, cells := 0, slots := 0, locals := 21 }, 2, tX12_taken)
set_option maxRecDepth 100000 in
noncomputable def tX12_land : List ME := [(0, 3, 1, [0], .aload_n 0), (1, 1, 1, [1], .iload_n 1), (2, 0, 3, [0, 900], .sipush 900), (5, 21, 3, [7, 5, 0, 12, 6, 173, 6, 175, 10, 54, 0, 17, 0], .invokevirtual 219), (8, 19, 3, [17, 1], .ifCond .ne 9), (11, 3, 1, [0], .aload_n 0), (12, 0, 1, [0, 1], .iconst 1), (13, 21, 3, [6, 11, 0, 12, 6, 193, 6, 195, 10, 57, 0, 17, 0], .invokevirtual 78), (16, 22, 1, [], .ireturn), (17, 3, 1, [0], .aload_n 0), (18, 0, 3, [0, 2112], .sipush 2112), (21, 21, 3, [6, 6, 0, 12, 6, 7, 6, 9, 10, 50, 0, 17, 0], .invokevirtual 68), (24, 0, 1, [0, 1], .iconst 1), (25, 4, 1, [2], .istore_n 2), (26, 1, 1, [2], .iload_n 2), (27, 19, 3, [45, 0], .ifCond .eq 18), (30, 3, 1, [0], .aload_n 0), (31, 8, 3, [12, 12, 6, 23], .getfield 123), (34, 19, 3, [45, 0], .ifCond .eq 11), (45, 3, 1, [0], .aload_n 0), (46, 8, 3, [12, 18, 6, 29], .getfield 148), (49, 19, 3, [112, 1], .ifCond .ne 63), (52, 0, 1, [0, 0], .iconst 0), (53, 4, 1, [3], .istore_n 3), (54, 1, 1, [3], .iload_n 3), (55, 0, 3, [0, 528], .sipush 528), (58, 18, 3, [83, 3], .if_icmp .ge 25), (61, 3, 1, [0], .aload_n 0), (62, 8, 3, [12, 0, 6, 11], .getfield 7), (65, 1, 1, [3], .iload_n 3), (66, 3, 1, [0], .aload_n 0), (67, 8, 3, [12, 0, 6, 11], .getfield 7), (70, 0, 3, [0, 2112], .sipush 2112), (73, 1, 1, [3], .iload_n 3), (74, 26, 1, [], .iadd), (75, 10, 1, [], .iaload), (76, 14, 1, [], .iastore), (77, 7, 3, [3, 1], .iinc 3 1), (80, 20, 3, [54], .goto (-26)), (83, 0, 1, [0, 0], .iconst 0), (84, 4, 1, [3], .istore_n 3), (85, 1, 1, [3], .iload_n 3), (86, 0, 2, [0, 15], .bipush 15), (88, 18, 3, [112, 3], .if_icmp .ge 24), (91, 3, 1, [0], .aload_n 0), (92, 8, 3, [12, 1, 6, 12], .getfield 13), (95, 1, 1, [3], .iload_n 3), (96, 3, 1, [0], .aload_n 0), (97, 8, 3, [12, 1, 6, 12], .getfield 13), (100, 0, 2, [0, 60], .bipush 60), (102, 1, 1, [3], .iload_n 3), (103, 26, 1, [], .iadd), (104, 11, 1, [], .laload), (105, 15, 1, [], .lastore), (106, 7, 3, [3, 1], .iinc 3 1), (109, 20, 3, [85], .goto (-24)), (112, 3, 1, [0], .aload_n 0), (113, 3, 1, [0], .aload_n 0), (114, 8, 3, [12, 0, 6, 11], .getfield 7), (117, 0, 1, [0, 1], .iconst 1), (118, 10, 1, [], .iaload), (119, 21, 3, [7, 7, 0, 12, 7, 36, 7, 38, 10, 77, 0, 17, 0], .invokevirtual 226), (122, 22, 1, [], .ireturn)]
noncomputable def mX12_land : MR := (yX12_land, cX12_land, 4, (some (.int)), { frames := 3, cells := 0, slots := 0, locals := 65 }, 2, tX12_land)
set_option maxRecDepth 100000 in
noncomputable def tX12_tales : List ME := [(0, 3, 1, [0], .aload_n 0), (1, 1, 1, [1], .iload_n 1), (2, 0, 3, [0, 300], .sipush 300), (5, 21, 3, [7, 5, 0, 12, 6, 173, 6, 175, 10, 54, 0, 17, 0], .invokevirtual 219), (8, 19, 3, [17, 1], .ifCond .ne 9), (11, 3, 1, [0], .aload_n 0), (12, 0, 1, [0, 1], .iconst 1), (13, 21, 3, [6, 11, 0, 12, 6, 193, 6, 195, 10, 57, 0, 17, 0], .invokevirtual 78), (16, 22, 1, [], .ireturn), (17, 3, 1, [0], .aload_n 0), (18, 8, 3, [12, 0, 6, 11], .getfield 7), (21, 0, 3, [0, 2116], .sipush 2116), (24, 0, 1, [0, 0], .iconst 0), (25, 14, 1, [], .iastore), (26, 3, 1, [0], .aload_n 0), (27, 0, 1, [0, 0], .iconst 0), (28, 9, 3, [12, 21, 0, 6, 32], .putfield 238), (31, 3, 1, [0], .aload_n 0), (32, 0, 1, [0, 0], .iconst 0), (33, 9, 3, [12, 22, 0, 6, 33], .putfield 241), (36, 0, 1, [0, 1], .iconst 1), (37, 4, 1, [2], .istore_n 2), (38, 1, 1, [2], .iload_n 2), (39, 19, 3, [57, 0], .ifCond .eq 18), (42, 3, 1, [0], .aload_n 0), (43, 8, 3, [12, 12, 6, 23], .getfield 123), (46, 19, 3, [57, 0], .ifCond .eq 11), (57, 3, 1, [0], .aload_n 0), (58, 8, 3, [12, 18, 6, 29], .getfield 148), (61, 19, 3, [77, 1], .ifCond .ne 16), (64, 3, 1, [0], .aload_n 0), (65, 8, 3, [12, 21, 6, 32], .getfield 238), (68, 19, 3, [77, 5], .ifCond .le 9), (77, 3, 1, [0], .aload_n 0), (78, 8, 3, [12, 18, 6, 29], .getfield 148), (81, 19, 3, [131, 1], .ifCond .ne 50), (84, 3, 1, [0], .aload_n 0), (85, 8, 3, [12, 0, 6, 11], .getfield 7), (88, 0, 1, [0, 4], .iconst 4), (89, 3, 1, [0], .aload_n 0), (90, 8, 3, [12, 0, 6, 11], .getfield 7), (93, 0, 3, [0, 2116], .sipush 2116), (96, 10, 1, [], .iaload), (97, 14, 1, [], .iastore), (98, 0, 3, [0, 164], .sipush 164), (101, 4, 1, [3], .istore_n 3), (102, 1, 1, [3], .iload_n 3), (103, 0, 3, [0, 524], .sipush 524), (106, 18, 3, [131, 3], .if_icmp .ge 25), (109, 3, 1, [0], .aload_n 0), (110, 8, 3, [12, 0, 6, 11], .getfield 7), (113, 1, 1, [3], .iload_n 3), (114, 3, 1, [0], .aload_n 0), (115, 8, 3, [12, 0, 6, 11], .getfield 7), (118, 0, 3, [0, 2112], .sipush 2112), (121, 1, 1, [3], .iload_n 3), (122, 26, 1, [], .iadd), (123, 10, 1, [], .iaload), (124, 14, 1, [], .iastore), (125, 7, 3, [3, 1], .iinc 3 1), (128, 20, 3, [102], .goto (-26)), (131, 3, 1, [0], .aload_n 0), (132, 3, 1, [0], .aload_n 0), (133, 8, 3, [12, 22, 6, 33], .getfield 241), (136, 21, 3, [7, 7, 0, 12, 7, 36, 7, 38, 10, 77, 0, 17, 0], .invokevirtual 226), (139, 22, 1, [], .ireturn)]
noncomputable def mX12_tales : MR := (yX12_tales, cX12_tales, 4, (some (.int)), { frames := 3, cells := 0, slots := 0, locals := 65 }, 2, tX12_tales)
set_option maxRecDepth 100000 in
noncomputable def tX12_isHouse : List ME := [(0, 1, 1, [1], .iload_n 1), (1, 19, 3, [18, 2], .ifCond .lt 17), (4, 1, 1, [1], .iload_n 1), (5, 3, 1, [0], .aload_n 0), (6, 8, 3, [12, 0, 6, 11], .getfield 7), (9, 0, 1, [0, 0], .iconst 0), (10, 10, 1, [], .iaload), (11, 18, 3, [18, 3], .if_icmp .ge 7), (18, 0, 1, [0, 0], .iconst 0), (19, 22, 1, [], .ireturn)]
noncomputable def mX12_isHouse : MR := (yX12_isHouse, cX12_isHouse, 2, (some (.boolean)), { frames := 0, cells := 0, slots := 0, locals := 0 }, 2, tX12_isHouse)
set_option maxRecDepth 100000 in
noncomputable def tX12_isPerson : List ME := [(0, 1, 1, [1], .iload_n 1), (1, 19, 3, [18, 2], .ifCond .lt 17), (4, 1, 1, [1], .iload_n 1), (5, 3, 1, [0], .aload_n 0), (6, 8, 3, [12, 0, 6, 11], .getfield 7), (9, 0, 1, [0, 1], .iconst 1), (10, 10, 1, [], .iaload), (11, 18, 3, [18, 3], .if_icmp .ge 7), (18, 0, 1, [0, 0], .iconst 0), (19, 22, 1, [], .ireturn)]
noncomputable def mX12_isPerson : MR := (yX12_isPerson, cX12_isPerson, 2, (some (.boolean)), { frames := 0, cells := 0, slots := 0, locals := 0 }, 2, tX12_isPerson)
set_option maxRecDepth 100000 in
noncomputable def tX12_areTwo : List ME := [(0, 3, 1, [0], .aload_n 0), (1, 1, 1, [1], .iload_n 1), (2, 21, 3, [7, 11, 0, 12, 7, 113, 7, 115, 10, 91, 0, 17, 0], .invokevirtual 250), (5, 19, 3, [25, 0], .ifCond .eq 20), (25, 0, 1, [0, 0], .iconst 0), (26, 22, 1, [], .ireturn)]
noncomputable def mX12_areTwo : MR := (yX12_areTwo, cX12_areTwo, 3, (some (.boolean)), { frames := 1, cells := 0, slots := 0, locals := 21 }, 3, tX12_areTwo)
set_option maxRecDepth 100000 in
noncomputable def tX12_sorrow : List ME := [(0, 0, 1, [0, 0], .iconst 0), (1, 4, 1, [1], .istore_n 1), (2, 0, 1, [0, 0], .iconst 0), (3, 4, 1, [2], .istore_n 2), (4, 1, 1, [2], .iload_n 2), (5, 3, 1, [0], .aload_n 0), (6, 8, 3, [12, 0, 6, 11], .getfield 7), (9, 0, 1, [0, 1], .iconst 1), (10, 10, 1, [], .iaload), (11, 18, 3, [28, 3], .if_icmp .ge 17), (28, 1, 1, [1], .iload_n 1), (29, 22, 1, [], .ireturn)]
noncomputable def mX12_sorrow : MR := (yX12_sorrow, cX12_sorrow, 3, (some (.int)), { frames := 0, cells := 0, slots := 0, locals := 0 }, 1, tX12_sorrow)
set_option maxRecDepth 100000 in
noncomputable def tX12_setOf : List ME := [(0, 0, 1, [0, 0], .iconst 0), (1, 4, 1, [2], .istore_n 2), (2, 0, 1, [0, 0], .iconst 0), (3, 4, 1, [3], .istore_n 3), (4, 1, 1, [3], .iload_n 3), (5, 3, 1, [0], .aload_n 0), (6, 8, 3, [12, 0, 6, 11], .getfield 7), (9, 0, 1, [0, 1], .iconst 1), (10, 10, 1, [], .iaload), (11, 18, 3, [92, 3], .if_icmp .ge 81), (92, 1, 1, [2], .iload_n 2), (93, 22, 1, [], .ireturn)]
noncomputable def mX12_setOf : MR := (yX12_setOf, cX12_setOf, 4, (some (.int)), { frames := 0, cells := 0, slots := 0, locals := 0 }, 2, tX12_setOf)
set_option maxRecDepth 100000 in
noncomputable def tX12_told : List ME := [(0, 0, 1, [0, 0], .iconst 0), (1, 4, 1, [2], .istore_n 2), (2, 1, 1, [1], .iload_n 1), (3, 57, 53, [187, 0, 9, 0, 56, 1, 56, 2, 67, 3, 110, 4, 110, 5, 123, 6, 132, 7, 174, 8, 174, 9, 174], .tableswitch 184 0 9 #[53, 53, 64, 107, 107, 120, 129, 171, 171, 171]), (56, 3, 1, [0], .aload_n 0), (57, 3, 1, [0], .aload_n 0), (58, 8, 3, [12, 0, 6, 11], .getfield 7), (61, 1, 1, [1], .iload_n 1), (62, 10, 1, [], .iaload), (63, 21, 3, [6, 12, 0, 12, 7, 40, 7, 42, 10, 78, 0, 17, 0], .invokevirtual 82), (66, 22, 1, [], .ireturn), (67, 0, 1, [0, 0], .iconst 0), (68, 4, 1, [3], .istore_n 3), (69, 1, 1, [3], .iload_n 3), (70, 3, 1, [0], .aload_n 0), (71, 8, 3, [12, 0, 6, 11], .getfield 7), (74, 0, 1, [0, 0], .iconst 0), (75, 10, 1, [], .iaload), (76, 18, 3, [102, 3], .if_icmp .ge 26), (102, 3, 1, [0], .aload_n 0), (103, 1, 1, [2], .iload_n 2), (104, 0, 1, [0, 2], .iconst 2), (105, 35, 1, [], .idiv), (106, 21, 3, [6, 12, 0, 12, 7, 40, 7, 42, 10, 78, 0, 17, 0], .invokevirtual 82), (109, 22, 1, [], .ireturn), (110, 3, 1, [0], .aload_n 0), (111, 3, 1, [0], .aload_n 0), (112, 8, 3, [12, 0, 6, 11], .getfield 7), (115, 1, 1, [1], .iload_n 1), (116, 0, 1, [0, 1], .iconst 1), (117, 27, 1, [], .isub), (118, 10, 1, [], .iaload), (119, 21, 3, [6, 12, 0, 12, 7, 40, 7, 42, 10, 78, 0, 17, 0], .invokevirtual 82), (122, 22, 1, [], .ireturn), (123, 3, 1, [0], .aload_n 0), (124, 3, 1, [0], .aload_n 0), (125, 21, 3, [7, 13, 0, 12, 7, 78, 7, 80, 10, 84, 0, 17, 0], .invokevirtual 274), (128, 21, 3, [6, 12, 0, 12, 7, 40, 7, 42, 10, 78, 0, 17, 0], .invokevirtual 82), (131, 22, 1, [], .ireturn), (132, 0, 1, [0, 0], .iconst 0), (133, 4, 1, [3], .istore_n 3), (134, 1, 1, [3], .iload_n 3), (135, 3, 1, [0], .aload_n 0), (136, 8, 3, [12, 0, 6, 11], .getfield 7), (139, 0, 1, [0, 0], .iconst 0), (140, 10, 1, [], .iaload), (141, 18, 3, [168, 3], .if_icmp .ge 27), (168, 3, 1, [0], .aload_n 0), (169, 1, 1, [2], .iload_n 2), (170, 21, 3, [6, 12, 0, 12, 7, 40, 7, 42, 10, 78, 0, 17, 0], .invokevirtual 82), (173, 22, 1, [], .ireturn), (174, 3, 1, [0], .aload_n 0), (175, 3, 1, [0], .aload_n 0), (176, 1, 1, [1], .iload_n 1), (177, 0, 2, [0, 7], .bipush 7), (179, 27, 1, [], .isub), (180, 21, 3, [7, 14, 0, 12, 7, 94, 7, 96, 10, 88, 0, 17, 0], .invokevirtual 280), (183, 21, 3, [6, 12, 0, 12, 7, 40, 7, 42, 10, 78, 0, 17, 0], .invokevirtual 82), (186, 22, 1, [], .ireturn), (187, 3, 1, [0], .aload_n 0), (188, 0, 1, [0, 1], .iconst 1), (189, 21, 3, [6, 11, 0, 12, 6, 193, 6, 195, 10, 57, 0, 17, 0], .invokevirtual 78), (192, 22, 1, [], .ireturn)]
noncomputable def mX12_told : MR := (yX12_told, cX12_told, 4, (some (.int)), { frames := 1, cells := 0, slots := 0, locals := 23 }, 2, tX12_told)
set_option maxRecDepth 100000 in
noncomputable def tX12_person : List ME := [(0, 3, 1, [0], .aload_n 0), (1, 1, 1, [1], .iload_n 1), (2, 21, 3, [7, 11, 0, 12, 7, 113, 7, 115, 10, 91, 0, 17, 0], .invokevirtual 250), (5, 19, 3, [18, 0], .ifCond .eq 13), (18, 3, 1, [0], .aload_n 0), (19, 0, 1, [0, 1], .iconst 1), (20, 21, 3, [6, 11, 0, 12, 6, 193, 6, 195, 10, 57, 0, 17, 0], .invokevirtual 78), (23, 22, 1, [], .ireturn)]
noncomputable def mX12_person : MR := (yX12_person, cX12_person, 3, (some (.int)), { frames := 1, cells := 0, slots := 0, locals := 21 }, 3, tX12_person)
set_option maxRecDepth 100000 in
noncomputable def tX12_owed : List ME := [(0, 3, 1, [0], .aload_n 0), (1, 1, 1, [1], .iload_n 1), (2, 1, 1, [2], .iload_n 2), (3, 21, 3, [7, 12, 0, 12, 7, 125, 7, 127, 10, 93, 0, 17, 0], .invokevirtual 286), (6, 19, 3, [22, 0], .ifCond .eq 16), (22, 3, 1, [0], .aload_n 0), (23, 0, 1, [0, 1], .iconst 1), (24, 21, 3, [6, 11, 0, 12, 6, 193, 6, 195, 10, 57, 0, 17, 0], .invokevirtual 78), (27, 22, 1, [], .ireturn)]
noncomputable def mX12_owed : MR := (yX12_owed, cX12_owed, 3, (some (.int)), { frames := 2, cells := 0, slots := 0, locals := 43 }, 3, tX12_owed)
set_option maxRecDepth 100000 in
noncomputable def tX12_heir : List ME := [(0, 3, 1, [0], .aload_n 0), (1, 1, 1, [1], .iload_n 1), (2, 21, 3, [7, 11, 0, 12, 7, 113, 7, 115, 10, 91, 0, 17, 0], .invokevirtual 250), (5, 19, 3, [14, 1], .ifCond .ne 9), (8, 3, 1, [0], .aload_n 0), (9, 0, 1, [0, 1], .iconst 1), (10, 21, 3, [6, 11, 0, 12, 6, 193, 6, 195, 10, 57, 0, 17, 0], .invokevirtual 78), (13, 22, 1, [], .ireturn)]
noncomputable def mX12_heir : MR := (yX12_heir, cX12_heir, 4, (some (.int)), { frames := 1, cells := 0, slots := 0, locals := 21 }, 3, tX12_heir)
set_option maxRecDepth 100000 in
noncomputable def tX12_door : List ME := [(0, 3, 1, [0], .aload_n 0), (1, 1, 1, [1], .iload_n 1), (2, 21, 3, [7, 10, 0, 12, 7, 137, 7, 139, 10, 94, 0, 17, 0], .invokevirtual 292), (5, 19, 3, [42, 0], .ifCond .eq 37), (42, 3, 1, [0], .aload_n 0), (43, 0, 1, [0, 1], .iconst 1), (44, 21, 3, [6, 11, 0, 12, 6, 193, 6, 195, 10, 57, 0, 17, 0], .invokevirtual 78), (47, 22, 1, [], .ireturn)]
noncomputable def mX12_door : MR := (yX12_door, cX12_door, 3, (some (.int)), { frames := 1, cells := 0, slots := 0, locals := 21 }, 3, tX12_door)
set_option maxRecDepth 100000 in
noncomputable def tX12_labour : List ME := [(0, 3, 1, [0], .aload_n 0), (1, 1, 1, [1], .iload_n 1), (2, 21, 3, [7, 10, 0, 12, 7, 137, 7, 139, 10, 94, 0, 17, 0], .invokevirtual 292), (5, 19, 3, [26, 0], .ifCond .eq 21), (26, 3, 1, [0], .aload_n 0), (27, 0, 1, [0, 1], .iconst 1), (28, 21, 3, [6, 11, 0, 12, 6, 193, 6, 195, 10, 57, 0, 17, 0], .invokevirtual 78), (31, 22, 1, [], .ireturn)]
noncomputable def mX12_labour : MR := (yX12_labour, cX12_labour, 2, (some (.int)), { frames := 1, cells := 0, slots := 0, locals := 21 }, 2, tX12_labour)
set_option maxRecDepth 100000 in
noncomputable def tX12_within : List ME := [(0, 3, 1, [0], .aload_n 0), (1, 1, 1, [1], .iload_n 1), (2, 21, 3, [7, 10, 0, 12, 7, 137, 7, 139, 10, 94, 0, 17, 0], .invokevirtual 292), (5, 19, 3, [17, 0], .ifCond .eq 12), (17, 3, 1, [0], .aload_n 0), (18, 0, 1, [0, 1], .iconst 1), (19, 21, 3, [6, 11, 0, 12, 6, 193, 6, 195, 10, 57, 0, 17, 0], .invokevirtual 78), (22, 22, 1, [], .ireturn)]
noncomputable def mX12_within : MR := (yX12_within, cX12_within, 3, (some (.int)), { frames := 1, cells := 0, slots := 0, locals := 23 }, 3, tX12_within)
set_option maxRecDepth 100000 in
noncomputable def tX12_night0 : List ME := [(0, 3, 1, [0], .aload_n 0), (1, 8, 3, [12, 0, 6, 11], .getfield 7), (4, 0, 1, [0, 2], .iconst 2), (5, 51, 1, [], .dup2), (6, 10, 1, [], .iaload), (7, 0, 1, [0, 1], .iconst 1), (8, 26, 1, [], .iadd), (9, 14, 1, [], .iastore), (10, 0, 1, [0, 0], .iconst 0), (11, 4, 1, [1], .istore_n 1), (12, 1, 1, [1], .iload_n 1), (13, 3, 1, [0], .aload_n 0), (14, 8, 3, [12, 0, 6, 11], .getfield 7), (17, 0, 1, [0, 1], .iconst 1), (18, 10, 1, [], .iaload), (19, 18, 3, [99, 3], .if_icmp .ge 80), (99, 25, 1, [], .return_)]
noncomputable def mX12_night0 : MR := (yX12_night0, cX12_night0, 3, none, { frames := 0, cells := 0, slots := 0, locals := 0 }, 1, tX12_night0)
set_option maxRecDepth 100000 in
noncomputable def tX12_night : List ME := [(0, 1, 1, [1], .iload_n 1), (1, 48, 1, [], .i2l), (2, 0, 1, [1, 1], .lconst 1), (3, 0, 3, [1, 99, 7, 169], .ldc2_w 322), (6, 21, 3, [7, 0, 2, 12, 7, 170, 7, 171, 0, 17, 0], .invokestatic 324), (9, 19, 3, [18, 1], .ifCond .ne 9), (12, 3, 1, [0], .aload_n 0), (13, 0, 1, [0, 1], .iconst 1), (14, 21, 3, [6, 11, 0, 12, 6, 193, 6, 195, 10, 57, 0, 17, 0], .invokevirtual 78), (17, 22, 1, [], .ireturn), (18, 3, 1, [0], .aload_n 0), (19, 8, 3, [12, 0, 6, 11], .getfield 7), (22, 0, 1, [0, 2], .iconst 2), (23, 10, 1, [], .iaload), (24, 1, 1, [1], .iload_n 1), (25, 26, 1, [], .iadd), (26, 0, 3, [0, 9999], .sipush 9999), (29, 18, 3, [38, 5], .if_icmp .le 9), (38, 0, 1, [0, 0], .iconst 0), (39, 4, 1, [2], .istore_n 2), (40, 1, 1, [2], .iload_n 2), (41, 1, 1, [1], .iload_n 1), (42, 18, 3, [55, 3], .if_icmp .ge 13), (45, 3, 1, [0], .aload_n 0), (46, 21, 3, [8, 2, 0, 12, 7, 173, 7, 175, 10, 99, 0, 17, 0], .invokevirtual 328), (49, 7, 3, [2, 1], .iinc 2 1), (52, 20, 3, [40], .goto (-12)), (55, 3, 1, [0], .aload_n 0), (56, 3, 1, [0], .aload_n 0), (57, 8, 3, [12, 0, 6, 11], .getfield 7), (60, 0, 1, [0, 2], .iconst 2), (61, 10, 1, [], .iaload), (62, 21, 3, [6, 12, 0, 12, 7, 40, 7, 42, 10, 78, 0, 17, 0], .invokevirtual 82), (65, 22, 1, [], .ireturn)]
noncomputable def mX12_night : MR := (yX12_night, cX12_night, 3, (some (.int)), { frames := 1, cells := 0, slots := 0, locals := 25 }, 2, tX12_night)
set_option maxRecDepth 100000 in
noncomputable def tX12_die : List ME := [(0, 3, 1, [0], .aload_n 0), (1, 1, 1, [1], .iload_n 1), (2, 21, 3, [7, 11, 0, 12, 7, 113, 7, 115, 10, 91, 0, 17, 0], .invokevirtual 250), (5, 19, 3, [16, 1], .ifCond .ne 11), (8, 3, 1, [0], .aload_n 0), (9, 0, 1, [0, 1], .iconst 1), (10, 21, 3, [6, 11, 0, 12, 6, 193, 6, 195, 10, 57, 0, 17, 0], .invokevirtual 78), (13, 20, 3, [41], .goto 28), (41, 22, 1, [], .ireturn)]
noncomputable def mX12_die : MR := (yX12_die, cX12_die, 2, (some (.int)), { frames := 1, cells := 0, slots := 0, locals := 22 }, 2, tX12_die)
set_option maxRecDepth 100000 in
noncomputable def tX12_forgive : List ME := [(0, 3, 1, [0], .aload_n 0), (1, 1, 1, [1], .iload_n 1), (2, 1, 1, [2], .iload_n 2), (3, 21, 3, [7, 12, 0, 12, 7, 125, 7, 127, 10, 93, 0, 17, 0], .invokevirtual 286), (6, 19, 3, [15, 1], .ifCond .ne 9), (9, 3, 1, [0], .aload_n 0), (10, 0, 1, [0, 1], .iconst 1), (11, 21, 3, [6, 11, 0, 12, 6, 193, 6, 195, 10, 57, 0, 17, 0], .invokevirtual 78), (14, 22, 1, [], .ireturn)]
noncomputable def mX12_forgive : MR := (yX12_forgive, cX12_forgive, 4, (some (.int)), { frames := 2, cells := 0, slots := 0, locals := 43 }, 3, tX12_forgive)
set_option maxRecDepth 100000 in
noncomputable def tX12_forge : List ME := [(0, 3, 1, [0], .aload_n 0), (1, 1, 1, [1], .iload_n 1), (2, 1, 1, [2], .iload_n 2), (3, 21, 3, [7, 12, 0, 12, 7, 125, 7, 127, 10, 93, 0, 17, 0], .invokevirtual 286), (6, 19, 3, [21, 0], .ifCond .eq 15), (21, 3, 1, [0], .aload_n 0), (22, 0, 1, [0, 1], .iconst 1), (23, 21, 3, [6, 11, 0, 12, 6, 193, 6, 195, 10, 57, 0, 17, 0], .invokevirtual 78), (26, 22, 1, [], .ireturn)]
noncomputable def mX12_forge : MR := (yX12_forge, cX12_forge, 4, (some (.int)), { frames := 2, cells := 0, slots := 0, locals := 43 }, 4, tX12_forge)
set_option maxRecDepth 100000 in
noncomputable def tX12_salt : List ME := [(0, 3, 1, [0], .aload_n 0), (1, 3, 1, [0], .aload_n 0), (2, 1, 1, [1], .iload_n 1), (3, 21, 3, [7, 10, 0, 12, 7, 137, 7, 139, 10, 94, 0, 17, 0], .invokevirtual 292), (6, 19, 3, [13, 1], .ifCond .ne 7), (9, 0, 1, [0, 1], .iconst 1), (10, 20, 3, [31], .goto 21), (31, 21, 3, [6, 10, 0, 12, 6, 133, 6, 135, 10, 51, 0, 17, 0], .invokevirtual 85), (34, 22, 1, [], .ireturn)]
noncomputable def mX12_salt : MR := (yX12_salt, cX12_salt, 3, (some (.boolean)), { frames := 1, cells := 0, slots := 0, locals := 21 }, 3, tX12_salt)
set_option maxRecDepth 100000 in
noncomputable def tX12_keep : List ME := [(0, 3, 1, [0], .aload_n 0), (1, 3, 1, [0], .aload_n 0), (2, 1, 1, [1], .iload_n 1), (3, 21, 3, [7, 11, 0, 12, 7, 113, 7, 115, 10, 91, 0, 17, 0], .invokevirtual 250), (6, 19, 3, [13, 1], .ifCond .ne 7), (9, 0, 1, [0, 1], .iconst 1), (10, 20, 3, [33], .goto 23), (33, 21, 3, [6, 10, 0, 12, 6, 133, 6, 135, 10, 51, 0, 17, 0], .invokevirtual 85), (36, 22, 1, [], .ireturn)]
noncomputable def mX12_keep : MR := (yX12_keep, cX12_keep, 3, (some (.boolean)), { frames := 1, cells := 0, slots := 0, locals := 21 }, 3, tX12_keep)
set_option maxRecDepth 100000 in
noncomputable def tX12_wall : List ME := [(0, 3, 1, [0], .aload_n 0), (1, 1, 1, [1], .iload_n 1), (2, 21, 3, [7, 10, 0, 12, 7, 137, 7, 139, 10, 94, 0, 17, 0], .invokevirtual 292), (5, 19, 3, [21, 0], .ifCond .eq 16), (21, 3, 1, [0], .aload_n 0), (22, 0, 1, [0, 1], .iconst 1), (23, 21, 3, [6, 10, 0, 12, 6, 133, 6, 135, 10, 51, 0, 17, 0], .invokevirtual 85), (26, 22, 1, [], .ireturn)]
noncomputable def mX12_wall : MR := (yX12_wall, cX12_wall, 4, (some (.boolean)), { frames := 1, cells := 0, slots := 0, locals := 21 }, 4, tX12_wall)
set_option maxRecDepth 100000 in
noncomputable def tX12_move : List ME := [(0, 3, 1, [0], .aload_n 0), (1, 1, 1, [1], .iload_n 1), (2, 21, 3, [7, 11, 0, 12, 7, 113, 7, 115, 10, 91, 0, 17, 0], .invokevirtual 250), (5, 19, 3, [16, 0], .ifCond .eq 11), (16, 3, 1, [0], .aload_n 0), (17, 0, 1, [0, 1], .iconst 1), (18, 21, 3, [6, 10, 0, 12, 6, 133, 6, 135, 10, 51, 0, 17, 0], .invokevirtual 85), (21, 22, 1, [], .ireturn)]
noncomputable def mX12_move : MR := (yX12_move, cX12_move, 3, (some (.boolean)), { frames := 1, cells := 0, slots := 0, locals := 21 }, 3, tX12_move)
set_option maxRecDepth 100000 in
noncomputable def tX12_way : List ME := [(0, 3, 1, [0], .aload_n 0), (1, 1, 1, [1], .iload_n 1), (2, 21, 3, [7, 11, 0, 12, 7, 113, 7, 115, 10, 91, 0, 17, 0], .invokevirtual 250), (5, 19, 3, [16, 0], .ifCond .eq 11), (16, 3, 1, [0], .aload_n 0), (17, 0, 1, [0, 1], .iconst 1), (18, 21, 3, [6, 11, 0, 12, 6, 193, 6, 195, 10, 57, 0, 17, 0], .invokevirtual 78), (21, 22, 1, [], .ireturn)]
noncomputable def mX12_way : MR := (yX12_way, cX12_way, 3, (some (.int)), { frames := 1, cells := 0, slots := 0, locals := 21 }, 3, tX12_way)
set_option maxRecDepth 100000 in
noncomputable def tX12_aim : List ME := [(0, 3, 1, [0], .aload_n 0), (1, 1, 1, [1], .iload_n 1), (2, 21, 3, [7, 11, 0, 12, 7, 113, 7, 115, 10, 91, 0, 17, 0], .invokevirtual 250), (5, 19, 3, [32, 0], .ifCond .eq 27), (32, 3, 1, [0], .aload_n 0), (33, 0, 1, [0, 1], .iconst 1), (34, 21, 3, [6, 11, 0, 12, 6, 193, 6, 195, 10, 57, 0, 17, 0], .invokevirtual 78), (37, 22, 1, [], .ireturn)]
noncomputable def mX12_aim : MR := (yX12_aim, cX12_aim, 2, (some (.int)), { frames := 2, cells := 0, slots := 0, locals := 42 }, 2, tX12_aim)
set_option maxRecDepth 100000 in
noncomputable def tX12_step : List ME := [(0, 3, 1, [0], .aload_n 0), (1, 1, 1, [1], .iload_n 1), (2, 21, 3, [7, 11, 0, 12, 7, 113, 7, 115, 10, 91, 0, 17, 0], .invokevirtual 250), (5, 19, 3, [20, 0], .ifCond .eq 15), (20, 3, 1, [0], .aload_n 0), (21, 0, 1, [0, 1], .iconst 1), (22, 21, 3, [6, 11, 0, 12, 6, 193, 6, 195, 10, 57, 0, 17, 0], .invokevirtual 78), (25, 22, 1, [], .ireturn)]
noncomputable def mX12_step : MR := (yX12_step, cX12_step, 2, (some (.int)), { frames := 1, cells := 0, slots := 0, locals := 21 }, 2, tX12_step)
set_option maxRecDepth 100000 in
noncomputable def tX12_keeps : List ME := [(0, 0, 1, [0, 0], .iconst 0), (1, 4, 1, [2], .istore_n 2), (2, 1, 1, [2], .iload_n 2), (3, 0, 3, [0, 164], .sipush 164), (6, 18, 3, [29, 3], .if_icmp .ge 23), (9, 3, 1, [0], .aload_n 0), (10, 8, 3, [12, 0, 6, 11], .getfield 7), (13, 1, 1, [1], .iload_n 1), (14, 1, 1, [2], .iload_n 2), (15, 26, 1, [], .iadd), (16, 3, 1, [0], .aload_n 0), (17, 8, 3, [12, 0, 6, 11], .getfield 7), (20, 1, 1, [2], .iload_n 2), (21, 10, 1, [], .iaload), (22, 14, 1, [], .iastore), (23, 7, 3, [2, 1], .iinc 2 1), (26, 20, 3, [2], .goto (-24)), (29, 25, 1, [], .return_)]
noncomputable def mX12_keeps : MR := (yX12_keeps, cX12_keeps, 3, none, { frames := 0, cells := 0, slots := 0, locals := 0 }, 2, tX12_keeps)
set_option maxRecDepth 100000 in
noncomputable def tX12_restores : List ME := [(0, 0, 1, [0, 0], .iconst 0), (1, 4, 1, [2], .istore_n 2), (2, 1, 1, [2], .iload_n 2), (3, 0, 3, [0, 164], .sipush 164), (6, 18, 3, [29, 3], .if_icmp .ge 23), (9, 3, 1, [0], .aload_n 0), (10, 8, 3, [12, 0, 6, 11], .getfield 7), (13, 1, 1, [2], .iload_n 2), (14, 3, 1, [0], .aload_n 0), (15, 8, 3, [12, 0, 6, 11], .getfield 7), (18, 1, 1, [1], .iload_n 1), (19, 1, 1, [2], .iload_n 2), (20, 26, 1, [], .iadd), (21, 10, 1, [], .iaload), (22, 14, 1, [], .iastore), (23, 7, 3, [2, 1], .iinc 2 1), (26, 20, 3, [2], .goto (-24)), (29, 25, 1, [], .return_)]
noncomputable def mX12_restores : MR := (yX12_restores, cX12_restores, 3, none, { frames := 0, cells := 0, slots := 0, locals := 0 }, 2, tX12_restores)
set_option maxRecDepth 100000 in
noncomputable def tX12_walks : List ME := [(0, 3, 1, [0], .aload_n 0), (1, 1, 1, [1], .iload_n 1), (2, 21, 3, [7, 11, 0, 12, 7, 113, 7, 115, 10, 91, 0, 17, 0], .invokevirtual 250), (5, 19, 3, [16, 0], .ifCond .eq 11), (16, 3, 1, [0], .aload_n 0), (17, 0, 1, [0, 1], .iconst 1), (18, 21, 3, [6, 11, 0, 12, 6, 193, 6, 195, 10, 57, 0, 17, 0], .invokevirtual 78), (21, 22, 1, [], .ireturn)]
noncomputable def mX12_walks : MR := (yX12_walks, cX12_walks, 4, (some (.int)), { frames := 1, cells := 0, slots := 0, locals := 22 }, 3, tX12_walks)
set_option maxRecDepth 100000 in
noncomputable def tX12_later : List ME := [(0, 3, 1, [0], .aload_n 0), (1, 1, 1, [1], .iload_n 1), (2, 21, 3, [7, 11, 0, 12, 7, 113, 7, 115, 10, 91, 0, 17, 0], .invokevirtual 250), (5, 19, 3, [16, 0], .ifCond .eq 11), (16, 3, 1, [0], .aload_n 0), (17, 0, 1, [0, 1], .iconst 1), (18, 21, 3, [6, 11, 0, 12, 6, 193, 6, 195, 10, 57, 0, 17, 0], .invokevirtual 78), (21, 22, 1, [], .ireturn)]
noncomputable def mX12_later : MR := (yX12_later, cX12_later, 4, (some (.int)), { frames := 1, cells := 0, slots := 0, locals := 22 }, 3, tX12_later)
set_option maxRecDepth 100000 in
noncomputable def tX12_rest : List ME := [(0, 3, 1, [0], .aload_n 0), (1, 1, 1, [1], .iload_n 1), (2, 21, 3, [7, 11, 0, 12, 7, 113, 7, 115, 10, 91, 0, 17, 0], .invokevirtual 250), (5, 19, 3, [25, 0], .ifCond .eq 20), (25, 3, 1, [0], .aload_n 0), (26, 0, 1, [0, 1], .iconst 1), (27, 21, 3, [6, 11, 0, 12, 6, 193, 6, 195, 10, 57, 0, 17, 0], .invokevirtual 78), (30, 22, 1, [], .ireturn)]
noncomputable def mX12_rest : MR := (yX12_rest, cX12_rest, 2, (some (.int)), { frames := 2, cells := 0, slots := 0, locals := 42 }, 2, tX12_rest)
set_option maxRecDepth 100000 in
noncomputable def tX12_quiet : List ME := [(0, 3, 1, [0], .aload_n 0), (1, 1, 1, [1], .iload_n 1), (2, 21, 3, [7, 10, 0, 12, 7, 137, 7, 139, 10, 94, 0, 17, 0], .invokevirtual 292), (5, 19, 3, [24, 0], .ifCond .eq 19), (24, 3, 1, [0], .aload_n 0), (25, 0, 1, [0, 1], .iconst 1), (26, 21, 3, [6, 11, 0, 12, 6, 193, 6, 195, 10, 57, 0, 17, 0], .invokevirtual 78), (29, 22, 1, [], .ireturn)]
noncomputable def mX12_quiet : MR := (yX12_quiet, cX12_quiet, 2, (some (.int)), { frames := 2, cells := 0, slots := 0, locals := 42 }, 2, tX12_quiet)
set_option maxRecDepth 100000 in
noncomputable def tX12_harvest : List ME := [(0, 3, 1, [0], .aload_n 0), (1, 1, 1, [1], .iload_n 1), (2, 21, 3, [7, 10, 0, 12, 7, 137, 7, 139, 10, 94, 0, 17, 0], .invokevirtual 292), (5, 19, 3, [37, 0], .ifCond .eq 32), (37, 3, 1, [0], .aload_n 0), (38, 0, 1, [0, 1], .iconst 1), (39, 21, 3, [6, 11, 0, 12, 6, 193, 6, 195, 10, 57, 0, 17, 0], .invokevirtual 78), (42, 22, 1, [], .ireturn)]
noncomputable def mX12_harvest : MR := (yX12_harvest, cX12_harvest, 3, (some (.int)), { frames := 2, cells := 0, slots := 0, locals := 42 }, 3, tX12_harvest)
set_option maxRecDepth 100000 in
noncomputable def tX12_visitors : List ME := [(0, 3, 1, [0], .aload_n 0), (1, 1, 1, [1], .iload_n 1), (2, 21, 3, [7, 10, 0, 12, 7, 137, 7, 139, 10, 94, 0, 17, 0], .invokevirtual 292), (5, 19, 3, [20, 0], .ifCond .eq 15), (20, 3, 1, [0], .aload_n 0), (21, 0, 1, [0, 1], .iconst 1), (22, 21, 3, [6, 11, 0, 12, 6, 193, 6, 195, 10, 57, 0, 17, 0], .invokevirtual 78), (25, 22, 1, [], .ireturn)]
noncomputable def mX12_visitors : MR := (yX12_visitors, cX12_visitors, 5, (some (.int)), { frames := 1, cells := 0, slots := 0, locals := 25 }, 3, tX12_visitors)
set_option maxRecDepth 100000 in
noncomputable def tX12_stays : List ME := [(0, 3, 1, [0], .aload_n 0), (1, 1, 1, [1], .iload_n 1), (2, 21, 3, [7, 11, 0, 12, 7, 113, 7, 115, 10, 91, 0, 17, 0], .invokevirtual 250), (5, 19, 3, [28, 0], .ifCond .eq 23), (28, 3, 1, [0], .aload_n 0), (29, 0, 1, [0, 1], .iconst 1), (30, 21, 3, [6, 11, 0, 12, 6, 193, 6, 195, 10, 57, 0, 17, 0], .invokevirtual 78), (33, 22, 1, [], .ireturn)]
noncomputable def mX12_stays : MR := (yX12_stays, cX12_stays, 6, (some (.int)), { frames := 1, cells := 0, slots := 0, locals := 25 }, 4, tX12_stays)
set_option maxRecDepth 100000 in
noncomputable def tX12_must : List ME := [(0, 3, 1, [0], .aload_n 0), (1, 1, 1, [1], .iload_n 1), (2, 21, 3, [7, 11, 0, 12, 7, 113, 7, 115, 10, 91, 0, 17, 0], .invokevirtual 250), (5, 19, 3, [16, 0], .ifCond .eq 11), (16, 3, 1, [0], .aload_n 0), (17, 0, 1, [0, 1], .iconst 1), (18, 21, 3, [6, 11, 0, 12, 6, 193, 6, 195, 10, 57, 0, 17, 0], .invokevirtual 78), (21, 22, 1, [], .ireturn)]
noncomputable def mX12_must : MR := (yX12_must, cX12_must, 5, (some (.int)), { frames := 1, cells := 0, slots := 0, locals := 21 }, 3, tX12_must)
set_option maxRecDepth 100000 in
noncomputable def tX12_reach : List ME := [(0, 3, 1, [0], .aload_n 0), (1, 1, 1, [1], .iload_n 1), (2, 21, 3, [7, 11, 0, 12, 7, 113, 7, 115, 10, 91, 0, 17, 0], .invokevirtual 250), (5, 19, 3, [14, 1], .ifCond .ne 9), (8, 3, 1, [0], .aload_n 0), (9, 0, 1, [0, 1], .iconst 1), (10, 21, 3, [6, 11, 0, 12, 6, 193, 6, 195, 10, 57, 0, 17, 0], .invokevirtual 78), (13, 22, 1, [], .ireturn)]
noncomputable def mX12_reach : MR := (yX12_reach, cX12_reach, 4, (some (.int)), { frames := 1, cells := 0, slots := 0, locals := 21 }, 2, tX12_reach)
set_option maxRecDepth 100000 in
noncomputable def tX12_tours : List ME := [(0, 3, 1, [0], .aload_n 0), (1, 1, 1, [1], .iload_n 1), (2, 21, 3, [7, 11, 0, 12, 7, 113, 7, 115, 10, 91, 0, 17, 0], .invokevirtual 250), (5, 19, 3, [20, 0], .ifCond .eq 15), (20, 3, 1, [0], .aload_n 0), (21, 0, 1, [0, 1], .iconst 1), (22, 21, 3, [6, 11, 0, 12, 6, 193, 6, 195, 10, 57, 0, 17, 0], .invokevirtual 78), (25, 22, 1, [], .ireturn)]
noncomputable def mX12_tours : MR := (yX12_tours, cX12_tours, 5, (some (.int)), { frames := 1, cells := 0, slots := 0, locals := 25 }, 3, tX12_tours)
set_option maxRecDepth 100000 in
noncomputable def tX12_meets : List ME := [(0, 3, 1, [0], .aload_n 0), (1, 1, 1, [1], .iload_n 1), (2, 1, 1, [2], .iload_n 2), (3, 21, 3, [7, 12, 0, 12, 7, 125, 7, 127, 10, 93, 0, 17, 0], .invokevirtual 286), (6, 19, 3, [15, 1], .ifCond .ne 9), (9, 3, 1, [0], .aload_n 0), (10, 0, 1, [0, 1], .iconst 1), (11, 21, 3, [6, 11, 0, 12, 6, 193, 6, 195, 10, 57, 0, 17, 0], .invokevirtual 78), (14, 22, 1, [], .ireturn)]
noncomputable def mX12_meets : MR := (yX12_meets, cX12_meets, 4, (some (.int)), { frames := 2, cells := 0, slots := 0, locals := 43 }, 3, tX12_meets)
set_option maxRecDepth 100000 in
noncomputable def tX12_mostOf : List ME := [(0, 0, 1, [0, 4294967295], .iconst (-1)), (1, 4, 1, [2], .istore_n 2), (2, 0, 1, [0, 0], .iconst 0), (3, 4, 1, [3], .istore_n 3), (4, 1, 1, [3], .iload_n 3), (5, 3, 1, [0], .aload_n 0), (6, 8, 3, [12, 0, 6, 11], .getfield 7), (9, 0, 1, [0, 0], .iconst 0), (10, 10, 1, [], .iaload), (11, 18, 3, [40, 3], .if_icmp .ge 29), (40, 1, 1, [2], .iload_n 2), (41, 22, 1, [], .ireturn)]
noncomputable def mX12_mostOf : MR := (yX12_mostOf, cX12_mostOf, 4, (some (.int)), { frames := 0, cells := 0, slots := 0, locals := 0 }, 2, tX12_mostOf)
set_option maxRecDepth 100000 in
noncomputable def tX12_counts : List ME := [(0, 0, 1, [0, 0], .iconst 0), (1, 4, 1, [1], .istore_n 1), (2, 1, 1, [1], .iload_n 1), (3, 3, 1, [0], .aload_n 0), (4, 8, 3, [12, 0, 6, 11], .getfield 7), (7, 0, 1, [0, 0], .iconst 0), (8, 10, 1, [], .iaload), (9, 18, 3, [41, 3], .if_icmp .ge 32), (41, 25, 1, [], .return_)]
noncomputable def mX12_counts : MR := (yX12_counts, cX12_counts, 2, none, { frames := 1, cells := 0, slots := 0, locals := 23 }, 1, tX12_counts)
set_option maxRecDepth 100000 in
noncomputable def tX12_clears : List ME := [(0, 0, 1, [0, 0], .iconst 0), (1, 4, 1, [1], .istore_n 1), (2, 1, 1, [1], .iload_n 1), (3, 0, 2, [0, 7], .bipush 7), (5, 18, 3, [21, 3], .if_icmp .ge 16), (8, 3, 1, [0], .aload_n 0), (9, 8, 3, [12, 24, 6, 35], .getfield 50), (12, 1, 1, [1], .iload_n 1), (13, 0, 1, [0, 0], .iconst 0), (14, 14, 1, [], .iastore), (15, 7, 3, [1, 1], .iinc 1 1), (18, 20, 3, [2], .goto (-16)), (21, 25, 1, [], .return_)]
noncomputable def mX12_clears : MR := (yX12_clears, cX12_clears, 2, none, { frames := 0, cells := 0, slots := 0, locals := 0 }, 1, tX12_clears)
set_option maxRecDepth 100000 in
noncomputable def tX12_crowd : List ME := [(0, 3, 1, [0], .aload_n 0), (1, 21, 3, [9, 9, 0, 12, 8, 108, 8, 110, 10, 120, 0, 17, 0], .invokevirtual 383), (4, 3, 1, [0], .aload_n 0), (5, 21, 3, [9, 8, 0, 12, 8, 112, 8, 114, 10, 121, 0, 17, 0], .invokevirtual 386), (8, 3, 1, [0], .aload_n 0), (9, 3, 1, [0], .aload_n 0), (10, 3, 1, [0], .aload_n 0), (11, 8, 3, [12, 24, 6, 35], .getfield 50), (14, 21, 3, [9, 7, 0, 12, 8, 116, 8, 118, 10, 122, 0, 17, 0], .invokevirtual 389), (17, 21, 3, [6, 13, 0, 12, 8, 22, 8, 24, 10, 112, 0, 17, 0], .invokevirtual 354), (20, 22, 1, [], .ireturn)]
noncomputable def mX12_crowd : MR := (yX12_crowd, cX12_crowd, 1, (some (.int)), { frames := 2, cells := 0, slots := 0, locals := 44 }, 1, tX12_crowd)
set_option maxRecDepth 100000 in
noncomputable def tX12_busiest : List ME := [(0, 1, 1, [1], .iload_n 1), (1, 48, 1, [], .i2l), (2, 0, 1, [1, 1], .lconst 1), (3, 0, 3, [1, 99, 7, 169], .ldc2_w 322), (6, 21, 3, [7, 0, 2, 12, 7, 170, 7, 171, 0, 17, 0], .invokestatic 324), (9, 19, 3, [18, 1], .ifCond .ne 9), (12, 3, 1, [0], .aload_n 0), (13, 0, 1, [0, 1], .iconst 1), (14, 21, 3, [6, 11, 0, 12, 6, 193, 6, 195, 10, 57, 0, 17, 0], .invokevirtual 78), (17, 22, 1, [], .ireturn), (18, 3, 1, [0], .aload_n 0), (19, 0, 3, [0, 3168], .sipush 3168), (22, 21, 3, [8, 14, 0, 12, 8, 43, 8, 45, 10, 115, 0, 17, 0], .invokevirtual 365), (25, 3, 1, [0], .aload_n 0), (26, 21, 3, [9, 9, 0, 12, 8, 108, 8, 110, 10, 120, 0, 17, 0], .invokevirtual 383), (29, 0, 1, [0, 0], .iconst 0), (30, 4, 1, [2], .istore_n 2), (31, 1, 1, [2], .iload_n 2), (32, 1, 1, [1], .iload_n 1), (33, 18, 3, [50, 3], .if_icmp .ge 17), (36, 3, 1, [0], .aload_n 0), (37, 21, 3, [8, 2, 0, 12, 7, 173, 7, 175, 10, 99, 0, 17, 0], .invokevirtual 328), (40, 3, 1, [0], .aload_n 0), (41, 21, 3, [9, 8, 0, 12, 8, 112, 8, 114, 10, 121, 0, 17, 0], .invokevirtual 386), (44, 7, 3, [2, 1], .iinc 2 1), (47, 20, 3, [31], .goto (-16)), (50, 3, 1, [0], .aload_n 0), (51, 0, 3, [0, 3168], .sipush 3168), (54, 21, 3, [8, 15, 0, 12, 8, 51, 8, 53, 10, 117, 0, 17, 0], .invokevirtual 371), (57, 3, 1, [0], .aload_n 0), (58, 3, 1, [0], .aload_n 0), (59, 3, 1, [0], .aload_n 0), (60, 8, 3, [12, 24, 6, 35], .getfield 50), (63, 21, 3, [9, 7, 0, 12, 8, 116, 8, 118, 10, 122, 0, 17, 0], .invokevirtual 389), (66, 21, 3, [6, 13, 0, 12, 8, 22, 8, 24, 10, 112, 0, 17, 0], .invokevirtual 354), (69, 22, 1, [], .ireturn)]
noncomputable def mX12_busiest : MR := (yX12_busiest, cX12_busiest, 3, (some (.int)), { frames := 2, cells := 0, slots := 0, locals := 44 }, 2, tX12_busiest)
set_option maxRecDepth 100000 in
noncomputable def tX12_exposed : List ME := [(0, 0, 1, [0, 0], .iconst 0), (1, 4, 1, [1], .istore_n 1), (2, 0, 1, [0, 0], .iconst 0), (3, 4, 1, [2], .istore_n 2), (4, 1, 1, [2], .iload_n 2), (5, 3, 1, [0], .aload_n 0), (6, 8, 3, [12, 0, 6, 11], .getfield 7), (9, 0, 1, [0, 1], .iconst 1), (10, 10, 1, [], .iaload), (11, 18, 3, [81, 3], .if_icmp .ge 70), (81, 3, 1, [0], .aload_n 0), (82, 1, 1, [1], .iload_n 1), (83, 21, 3, [6, 12, 0, 12, 7, 40, 7, 42, 10, 78, 0, 17, 0], .invokevirtual 82), (86, 22, 1, [], .ireturn)]
noncomputable def mX12_exposed : MR := (yX12_exposed, cX12_exposed, 4, (some (.int)), { frames := 1, cells := 0, slots := 0, locals := 21 }, 1, tX12_exposed)
set_option maxRecDepth 100000 in
noncomputable def tX12_wells : List ME := [(0, 3, 1, [0], .aload_n 0), (1, 1, 1, [1], .iload_n 1), (2, 21, 3, [7, 10, 0, 12, 7, 137, 7, 139, 10, 94, 0, 17, 0], .invokevirtual 292), (5, 19, 3, [16, 0], .ifCond .eq 11), (16, 3, 1, [0], .aload_n 0), (17, 0, 1, [0, 1], .iconst 1), (18, 21, 3, [6, 11, 0, 12, 6, 193, 6, 195, 10, 57, 0, 17, 0], .invokevirtual 78), (21, 22, 1, [], .ireturn)]
noncomputable def mX12_wells : MR := (yX12_wells, cX12_wells, 4, (some (.int)), { frames := 1, cells := 0, slots := 0, locals := 22 }, 3, tX12_wells)
set_option maxRecDepth 100000 in
noncomputable def tX12_ways : List ME := [(0, 3, 1, [0], .aload_n 0), (1, 1, 1, [1], .iload_n 1), (2, 21, 3, [7, 11, 0, 12, 7, 113, 7, 115, 10, 91, 0, 17, 0], .invokevirtual 250), (5, 19, 3, [16, 0], .ifCond .eq 11), (16, 3, 1, [0], .aload_n 0), (17, 0, 1, [0, 1], .iconst 1), (18, 21, 3, [6, 11, 0, 12, 6, 193, 6, 195, 10, 57, 0, 17, 0], .invokevirtual 78), (21, 22, 1, [], .ireturn)]
noncomputable def mX12_ways : MR := (yX12_ways, cX12_ways, 6, (some (.int)), { frames := 1, cells := 0, slots := 0, locals := 21 }, 3, tX12_ways)
set_option maxRecDepth 100000 in
noncomputable def tX12_heirs : List ME := [(0, 3, 1, [0], .aload_n 0), (1, 1, 1, [1], .iload_n 1), (2, 1, 1, [2], .iload_n 2), (3, 21, 3, [7, 12, 0, 12, 7, 125, 7, 127, 10, 93, 0, 17, 0], .invokevirtual 286), (6, 19, 3, [15, 1], .ifCond .ne 9), (9, 3, 1, [0], .aload_n 0), (10, 0, 1, [0, 1], .iconst 1), (11, 21, 3, [6, 11, 0, 12, 6, 193, 6, 195, 10, 57, 0, 17, 0], .invokevirtual 78), (14, 22, 1, [], .ireturn)]
noncomputable def mX12_heirs : MR := (yX12_heirs, cX12_heirs, 5, (some (.int)), { frames := 2, cells := 0, slots := 0, locals := 43 }, 3, tX12_heirs)
set_option maxRecDepth 100000 in
noncomputable def tX12_loss : List ME := [(0, 3, 1, [0], .aload_n 0), (1, 1, 1, [1], .iload_n 1), (2, 21, 3, [7, 11, 0, 12, 7, 113, 7, 115, 10, 91, 0, 17, 0], .invokevirtual 250), (5, 19, 3, [16, 1], .ifCond .ne 11), (8, 3, 1, [0], .aload_n 0), (9, 0, 1, [0, 1], .iconst 1), (10, 21, 3, [6, 11, 0, 12, 6, 193, 6, 195, 10, 57, 0, 17, 0], .invokevirtual 78), (13, 20, 3, [47], .goto 34), (47, 22, 1, [], .ireturn)]
noncomputable def mX12_loss : MR := (yX12_loss, cX12_loss, 2, (some (.int)), { frames := 1, cells := 0, slots := 0, locals := 22 }, 2, tX12_loss)
set_option maxRecDepth 100000 in
noncomputable def tX12_saint : List ME := [(0, 0, 1, [0, 4294967295], .iconst (-1)), (1, 4, 1, [1], .istore_n 1), (2, 0, 1, [0, 0], .iconst 0), (3, 4, 1, [2], .istore_n 2), (4, 1, 1, [2], .iload_n 2), (5, 3, 1, [0], .aload_n 0), (6, 8, 3, [12, 0, 6, 11], .getfield 7), (9, 0, 1, [0, 1], .iconst 1), (10, 10, 1, [], .iaload), (11, 18, 3, [48, 3], .if_icmp .ge 37), (48, 3, 1, [0], .aload_n 0), (49, 1, 1, [1], .iload_n 1), (50, 21, 3, [6, 13, 0, 12, 8, 22, 8, 24, 10, 112, 0, 17, 0], .invokevirtual 354), (53, 22, 1, [], .ireturn)]
noncomputable def mX12_saint : MR := (yX12_saint, cX12_saint, 3, (some (.int)), { frames := 2, cells := 0, slots := 0, locals := 42 }, 1, tX12_saint)
set_option maxRecDepth 100000 in
noncomputable def tX12_keeper : List ME := [(0, 0, 1, [0, 4294967295], .iconst (-1)), (1, 4, 1, [1], .istore_n 1), (2, 0, 1, [0, 4294967295], .iconst (-1)), (3, 4, 1, [2], .istore_n 2), (4, 0, 1, [0, 0], .iconst 0), (5, 4, 1, [3], .istore_n 3), (6, 1, 1, [3], .iload_n 3), (7, 3, 1, [0], .aload_n 0), (8, 8, 3, [12, 0, 6, 11], .getfield 7), (11, 0, 1, [0, 1], .iconst 1), (12, 10, 1, [], .iaload), (13, 18, 3, [70, 3], .if_icmp .ge 57), (70, 3, 1, [0], .aload_n 0), (71, 1, 1, [1], .iload_n 1), (72, 21, 3, [6, 13, 0, 12, 8, 22, 8, 24, 10, 112, 0, 17, 0], .invokevirtual 354), (75, 22, 1, [], .ireturn)]
noncomputable def mX12_keeper : MR := (yX12_keeper, cX12_keeper, 5, (some (.int)), { frames := 2, cells := 0, slots := 0, locals := 42 }, 1, tX12_keeper)
set_option maxRecDepth 100000 in
noncomputable def tX12_lonely : List ME := [(0, 0, 1, [0, 0], .iconst 0), (1, 4, 1, [1], .istore_n 1), (2, 0, 1, [0, 0], .iconst 0), (3, 4, 1, [2], .istore_n 2), (4, 1, 1, [2], .iload_n 2), (5, 3, 1, [0], .aload_n 0), (6, 8, 3, [12, 0, 6, 11], .getfield 7), (9, 0, 1, [0, 1], .iconst 1), (10, 10, 1, [], .iaload), (11, 18, 3, [46, 3], .if_icmp .ge 35), (46, 3, 1, [0], .aload_n 0), (47, 1, 1, [1], .iload_n 1), (48, 21, 3, [6, 12, 0, 12, 7, 40, 7, 42, 10, 78, 0, 17, 0], .invokevirtual 82), (51, 22, 1, [], .ireturn)]
noncomputable def mX12_lonely : MR := (yX12_lonely, cX12_lonely, 3, (some (.int)), { frames := 1, cells := 0, slots := 0, locals := 21 }, 1, tX12_lonely)
set_option maxRecDepth 100000 in
noncomputable def tX12_due : List ME := [(0, 3, 1, [0], .aload_n 0), (1, 1, 1, [1], .iload_n 1), (2, 21, 3, [7, 10, 0, 12, 7, 137, 7, 139, 10, 94, 0, 17, 0], .invokevirtual 292), (5, 19, 3, [14, 1], .ifCond .ne 9), (8, 3, 1, [0], .aload_n 0), (9, 0, 1, [0, 1], .iconst 1), (10, 21, 3, [6, 11, 0, 12, 6, 193, 6, 195, 10, 57, 0, 17, 0], .invokevirtual 78), (13, 22, 1, [], .ireturn)]
noncomputable def mX12_due : MR := (yX12_due, cX12_due, 4, (some (.int)), { frames := 1, cells := 0, slots := 0, locals := 21 }, 2, tX12_due)
set_option maxRecDepth 100000 in
noncomputable def tX12_net : List ME := [(0, 3, 1, [0], .aload_n 0), (1, 1, 1, [1], .iload_n 1), (2, 21, 3, [7, 11, 0, 12, 7, 113, 7, 115, 10, 91, 0, 17, 0], .invokevirtual 250), (5, 19, 3, [26, 0], .ifCond .eq 21), (26, 3, 1, [0], .aload_n 0), (27, 0, 1, [0, 1], .iconst 1), (28, 21, 3, [6, 11, 0, 12, 6, 193, 6, 195, 10, 57, 0, 17, 0], .invokevirtual 78), (31, 22, 1, [], .ireturn)]
noncomputable def mX12_net : MR := (yX12_net, cX12_net, 2, (some (.int)), { frames := 1, cells := 0, slots := 0, locals := 21 }, 2, tX12_net)
set_option maxRecDepth 100000 in
noncomputable def tX12_wedding : List ME := [(0, 3, 1, [0], .aload_n 0), (1, 1, 1, [1], .iload_n 1), (2, 21, 3, [7, 10, 0, 12, 7, 137, 7, 139, 10, 94, 0, 17, 0], .invokevirtual 292), (5, 19, 3, [14, 1], .ifCond .ne 9), (8, 3, 1, [0], .aload_n 0), (9, 0, 1, [0, 1], .iconst 1), (10, 21, 3, [6, 11, 0, 12, 6, 193, 6, 195, 10, 57, 0, 17, 0], .invokevirtual 78), (13, 22, 1, [], .ireturn)]
noncomputable def mX12_wedding : MR := (yX12_wedding, cX12_wedding, 3, (some (.int)), { frames := 1, cells := 0, slots := 0, locals := 21 }, 2, tX12_wedding)
set_option maxRecDepth 100000 in
noncomputable def tX12_weddingSet : List ME := [(0, 3, 1, [0], .aload_n 0), (1, 1, 1, [1], .iload_n 1), (2, 21, 3, [7, 10, 0, 12, 7, 137, 7, 139, 10, 94, 0, 17, 0], .invokevirtual 292), (5, 19, 3, [20, 0], .ifCond .eq 15), (20, 3, 1, [0], .aload_n 0), (21, 0, 1, [0, 1], .iconst 1), (22, 21, 3, [6, 11, 0, 12, 6, 193, 6, 195, 10, 57, 0, 17, 0], .invokevirtual 78), (25, 22, 1, [], .ireturn)]
noncomputable def mX12_weddingSet : MR := (yX12_weddingSet, cX12_weddingSet, 2, (some (.int)), { frames := 2, cells := 0, slots := 0, locals := 42 }, 2, tX12_weddingSet)
set_option maxRecDepth 100000 in
noncomputable def tX12_isPardon : List ME := [(0, 3, 1, [0], .aload_n 0), (1, 1, 1, [1], .iload_n 1), (2, 21, 3, [7, 10, 0, 12, 7, 137, 7, 139, 10, 94, 0, 17, 0], .invokevirtual 292), (5, 19, 3, [24, 0], .ifCond .eq 19), (24, 0, 1, [0, 0], .iconst 0), (25, 22, 1, [], .ireturn)]
noncomputable def mX12_isPardon : MR := (yX12_isPardon, cX12_isPardon, 3, (some (.boolean)), { frames := 1, cells := 0, slots := 0, locals := 25 }, 3, tX12_isPardon)
set_option maxRecDepth 100000 in
noncomputable def tX12_pardon : List ME := [(0, 3, 1, [0], .aload_n 0), (1, 1, 1, [1], .iload_n 1), (2, 1, 1, [2], .iload_n 2), (3, 21, 3, [10, 4, 0, 12, 8, 192, 8, 194, 10, 127, 0, 17, 0], .invokevirtual 407), (6, 19, 3, [15, 1], .ifCond .ne 9), (9, 3, 1, [0], .aload_n 0), (10, 0, 1, [0, 1], .iconst 1), (11, 21, 3, [6, 11, 0, 12, 6, 193, 6, 195, 10, 57, 0, 17, 0], .invokevirtual 78), (14, 22, 1, [], .ireturn)]
noncomputable def mX12_pardon : MR := (yX12_pardon, cX12_pardon, 4, (some (.int)), { frames := 2, cells := 0, slots := 0, locals := 47 }, 3, tX12_pardon)
set_option maxRecDepth 100000 in
noncomputable def tX12_pardonSet : List ME := [(0, 3, 1, [0], .aload_n 0), (1, 1, 1, [1], .iload_n 1), (2, 1, 1, [2], .iload_n 2), (3, 21, 3, [10, 4, 0, 12, 8, 192, 8, 194, 10, 127, 0, 17, 0], .invokevirtual 407), (6, 19, 3, [22, 0], .ifCond .eq 16), (22, 3, 1, [0], .aload_n 0), (23, 0, 1, [0, 1], .iconst 1), (24, 21, 3, [6, 11, 0, 12, 6, 193, 6, 195, 10, 57, 0, 17, 0], .invokevirtual 78), (27, 22, 1, [], .ireturn)]
noncomputable def mX12_pardonSet : MR := (yX12_pardonSet, cX12_pardonSet, 3, (some (.int)), { frames := 2, cells := 0, slots := 0, locals := 47 }, 3, tX12_pardonSet)
set_option maxRecDepth 100000 in
noncomputable def tX12_pair : List ME := [(0, 1, 1, [1], .iload_n 1), (1, 19, 3, [9, 2], .ifCond .lt 8), (4, 1, 1, [1], .iload_n 1), (5, 0, 1, [0, 2], .iconst 2), (6, 18, 3, [15, 5], .if_icmp .le 9), (9, 3, 1, [0], .aload_n 0), (10, 0, 1, [0, 1], .iconst 1), (11, 21, 3, [6, 11, 0, 12, 6, 193, 6, 195, 10, 57, 0, 17, 0], .invokevirtual 78), (14, 22, 1, [], .ireturn), (15, 0, 1, [0, 4294967295], .iconst (-1)), (16, 4, 1, [2], .istore_n 2), (17, 0, 1, [0, 4294967295], .iconst (-1)), (18, 4, 1, [3], .istore_n 3), (19, 0, 1, [0, 0], .iconst 0), (20, 4, 2, [4], .istore 4), (22, 0, 1, [0, 0], .iconst 0), (23, 4, 2, [5], .istore 5), (25, 1, 2, [5], .iload 5), (27, 3, 1, [0], .aload_n 0), (28, 8, 3, [12, 0, 6, 11], .getfield 7), (31, 0, 1, [0, 1], .iconst 1), (32, 10, 1, [], .iaload), (33, 18, 3, [144, 3], .if_icmp .ge 111), (144, 1, 1, [2], .iload_n 2), (145, 0, 1, [0, 4294967295], .iconst (-1)), (146, 18, 3, [158, 1], .if_icmp .ne 12), (149, 3, 1, [0], .aload_n 0), (150, 0, 2, [0, 6], .bipush 6), (152, 21, 3, [6, 11, 0, 12, 6, 193, 6, 195, 10, 57, 0, 17, 0], .invokevirtual 78), (155, 20, 3, [181], .goto 26), (181, 22, 1, [], .ireturn)]
noncomputable def mX12_pair : MR := (yX12_pair, cX12_pair, 7, (some (.int)), { frames := 1, cells := 0, slots := 0, locals := 21 }, 2, tX12_pair)
set_option maxRecDepth 100000 in
noncomputable def tX12_share : List ME := [(0, 3, 1, [0], .aload_n 0), (1, 1, 1, [1], .iload_n 1), (2, 1, 1, [2], .iload_n 2), (3, 21, 3, [7, 12, 0, 12, 7, 125, 7, 127, 10, 93, 0, 17, 0], .invokevirtual 286), (6, 19, 3, [17, 0], .ifCond .eq 11), (17, 3, 1, [0], .aload_n 0), (18, 0, 1, [0, 1], .iconst 1), (19, 21, 3, [6, 11, 0, 12, 6, 193, 6, 195, 10, 57, 0, 17, 0], .invokevirtual 78), (22, 22, 1, [], .ireturn)]
noncomputable def mX12_share : MR := (yX12_share, cX12_share, 5, (some (.int)), { frames := 2, cells := 0, slots := 0, locals := 43 }, 4, tX12_share)
set_option maxRecDepth 100000 in
noncomputable def tX12_gracious : List ME := [(0, 0, 1, [0, 4294967295], .iconst (-1)), (1, 4, 1, [1], .istore_n 1), (2, 0, 1, [0, 0], .iconst 0), (3, 4, 1, [2], .istore_n 2), (4, 1, 1, [2], .iload_n 2), (5, 3, 1, [0], .aload_n 0), (6, 8, 3, [12, 0, 6, 11], .getfield 7), (9, 0, 1, [0, 1], .iconst 1), (10, 10, 1, [], .iaload), (11, 18, 3, [52, 3], .if_icmp .ge 41), (52, 3, 1, [0], .aload_n 0), (53, 1, 1, [1], .iload_n 1), (54, 21, 3, [6, 13, 0, 12, 8, 22, 8, 24, 10, 112, 0, 17, 0], .invokevirtual 354), (57, 22, 1, [], .ireturn)]
noncomputable def mX12_gracious : MR := (yX12_gracious, cX12_gracious, 3, (some (.int)), { frames := 2, cells := 0, slots := 0, locals := 42 }, 1, tX12_gracious)
set_option maxRecDepth 100000 in
noncomputable def tX12_deepest : List ME := [(0, 0, 1, [0, 4294967295], .iconst (-1)), (1, 4, 1, [1], .istore_n 1), (2, 0, 1, [0, 0], .iconst 0), (3, 4, 1, [2], .istore_n 2), (4, 1, 1, [2], .iload_n 2), (5, 3, 1, [0], .aload_n 0), (6, 8, 3, [12, 0, 6, 11], .getfield 7), (9, 0, 1, [0, 1], .iconst 1), (10, 10, 1, [], .iaload), (11, 18, 3, [44, 3], .if_icmp .ge 33), (44, 3, 1, [0], .aload_n 0), (45, 1, 1, [1], .iload_n 1), (46, 21, 3, [6, 13, 0, 12, 8, 22, 8, 24, 10, 112, 0, 17, 0], .invokevirtual 354), (49, 22, 1, [], .ireturn)]
noncomputable def mX12_deepest : MR := (yX12_deepest, cX12_deepest, 3, (some (.int)), { frames := 2, cells := 0, slots := 0, locals := 42 }, 1, tX12_deepest)
set_option maxRecDepth 100000 in
noncomputable def tX12_weight : List ME := [(0, 0, 1, [0, 0], .iconst 0), (1, 4, 1, [1], .istore_n 1), (2, 0, 1, [0, 0], .iconst 0), (3, 4, 1, [2], .istore_n 2), (4, 1, 1, [2], .iload_n 2), (5, 3, 1, [0], .aload_n 0), (6, 8, 3, [12, 0, 6, 11], .getfield 7), (9, 0, 1, [0, 1], .iconst 1), (10, 10, 1, [], .iaload), (11, 18, 3, [40, 3], .if_icmp .ge 29), (40, 3, 1, [0], .aload_n 0), (41, 21, 3, [7, 13, 0, 12, 7, 78, 7, 80, 10, 84, 0, 17, 0], .invokevirtual 274), (44, 19, 3, [56, 1], .ifCond .ne 12), (47, 3, 1, [0], .aload_n 0), (48, 0, 2, [0, 6], .bipush 6), (50, 21, 3, [6, 10, 0, 12, 6, 133, 6, 135, 10, 51, 0, 17, 0], .invokevirtual 85), (53, 20, 3, [67], .goto 14), (67, 22, 1, [], .ireturn)]
noncomputable def mX12_weight : MR := (yX12_weight, cX12_weight, 3, (some (.boolean)), { frames := 1, cells := 0, slots := 0, locals := 22 }, 1, tX12_weight)
set_option maxRecDepth 100000 in
noncomputable def tX12_mutual : List ME := [(0, 0, 1, [0, 0], .iconst 0), (1, 4, 1, [1], .istore_n 1), (2, 0, 1, [0, 0], .iconst 0), (3, 4, 1, [2], .istore_n 2), (4, 1, 1, [2], .iload_n 2), (5, 3, 1, [0], .aload_n 0), (6, 8, 3, [12, 0, 6, 11], .getfield 7), (9, 0, 1, [0, 1], .iconst 1), (10, 10, 1, [], .iaload), (11, 18, 3, [50, 3], .if_icmp .ge 39), (50, 3, 1, [0], .aload_n 0), (51, 1, 1, [1], .iload_n 1), (52, 21, 3, [6, 12, 0, 12, 7, 40, 7, 42, 10, 78, 0, 17, 0], .invokevirtual 82), (55, 22, 1, [], .ireturn)]
noncomputable def mX12_mutual : MR := (yX12_mutual, cX12_mutual, 4, (some (.int)), { frames := 1, cells := 0, slots := 0, locals := 21 }, 1, tX12_mutual)
set_option maxRecDepth 100000 in
noncomputable def tX12_chain : List ME := [(0, 0, 1, [0, 0], .iconst 0), (1, 4, 1, [1], .istore_n 1), (2, 0, 1, [0, 1], .iconst 1), (3, 4, 1, [2], .istore_n 2), (4, 1, 1, [2], .iload_n 2), (5, 0, 1, [0, 1], .iconst 1), (6, 3, 1, [0], .aload_n 0), (7, 8, 3, [12, 0, 6, 11], .getfield 7), (10, 0, 1, [0, 1], .iconst 1), (11, 10, 1, [], .iaload), (12, 32, 1, [], .ishl), (13, 18, 3, [188, 3], .if_icmp .ge 175), (188, 3, 1, [0], .aload_n 0), (189, 1, 1, [1], .iload_n 1), (190, 21, 3, [6, 12, 0, 12, 7, 40, 7, 42, 10, 78, 0, 17, 0], .invokevirtual 82), (193, 22, 1, [], .ireturn)]
noncomputable def mX12_chain : MR := (yX12_chain, cX12_chain, 7, (some (.int)), { frames := 1, cells := 0, slots := 0, locals := 21 }, 1, tX12_chain)
set_option maxRecDepth 100000 in
noncomputable def tX12_circle : List ME := [(0, 3, 1, [0], .aload_n 0), (1, 1, 1, [1], .iload_n 1), (2, 21, 3, [7, 11, 0, 12, 7, 113, 7, 115, 10, 91, 0, 17, 0], .invokevirtual 250), (5, 19, 3, [14, 1], .ifCond .ne 9), (8, 3, 1, [0], .aload_n 0), (9, 0, 1, [0, 1], .iconst 1), (10, 21, 3, [6, 11, 0, 12, 6, 193, 6, 195, 10, 57, 0, 17, 0], .invokevirtual 78), (13, 22, 1, [], .ireturn)]
noncomputable def mX12_circle : MR := (yX12_circle, cX12_circle, 6, (some (.int)), { frames := 1, cells := 0, slots := 0, locals := 21 }, 2, tX12_circle)
set_option maxRecDepth 100000 in
noncomputable def tX12_bestSalt : List ME := [(0, 0, 1, [0, 4294967295], .iconst (-1)), (1, 4, 1, [1], .istore_n 1), (2, 0, 1, [0, 4294967295], .iconst (-1)), (3, 4, 1, [2], .istore_n 2), (4, 0, 1, [0, 0], .iconst 0), (5, 4, 1, [3], .istore_n 3), (6, 1, 1, [3], .iload_n 3), (7, 3, 1, [0], .aload_n 0), (8, 8, 3, [12, 0, 6, 11], .getfield 7), (11, 0, 1, [0, 0], .iconst 0), (12, 10, 1, [], .iaload), (13, 18, 3, [119, 3], .if_icmp .ge 106), (119, 3, 1, [0], .aload_n 0), (120, 1, 1, [1], .iload_n 1), (121, 21, 3, [6, 13, 0, 12, 8, 22, 8, 24, 10, 112, 0, 17, 0], .invokevirtual 354), (124, 22, 1, [], .ireturn)]
noncomputable def mX12_bestSalt : MR := (yX12_bestSalt, cX12_bestSalt, 6, (some (.int)), { frames := 2, cells := 0, slots := 0, locals := 42 }, 1, tX12_bestSalt)
set_option maxRecDepth 100000 in
noncomputable def tX12_live : List ME := [(0, 1, 1, [1], .iload_n 1), (1, 48, 1, [], .i2l), (2, 0, 1, [1, 0], .lconst 0), (3, 0, 3, [1, 9999, 8, 79], .ldc2_w 381), (6, 21, 3, [7, 0, 2, 12, 7, 170, 7, 171, 0, 17, 0], .invokestatic 324), (9, 19, 3, [18, 1], .ifCond .ne 9), (12, 3, 1, [0], .aload_n 0), (13, 0, 1, [0, 1], .iconst 1), (14, 21, 3, [6, 11, 0, 12, 6, 193, 6, 195, 10, 57, 0, 17, 0], .invokevirtual 78), (17, 22, 1, [], .ireturn), (18, 3, 1, [0], .aload_n 0), (19, 8, 3, [12, 0, 6, 11], .getfield 7), (22, 0, 1, [0, 4], .iconst 4), (23, 10, 1, [], .iaload), (24, 0, 1, [0, 4294967295], .iconst (-1)), (25, 18, 3, [35, 1], .if_icmp .ne 10), (28, 3, 1, [0], .aload_n 0), (29, 0, 2, [0, 6], .bipush 6), (31, 21, 3, [6, 11, 0, 12, 6, 193, 6, 195, 10, 57, 0, 17, 0], .invokevirtual 78), (34, 22, 1, [], .ireturn)]
noncomputable def mX12_live : MR := (yX12_live, cX12_live, 3, (some (.int)), { frames := 1, cells := 0, slots := 0, locals := 25 }, 2, tX12_live)
set_option maxRecDepth 100000 in
noncomputable def tX12_lived : List ME := [(0, 1, 1, [1], .iload_n 1), (1, 19, 3, [9, 2], .ifCond .lt 8), (4, 1, 1, [1], .iload_n 1), (5, 0, 1, [0, 4], .iconst 4), (6, 18, 3, [17, 5], .if_icmp .le 11), (9, 3, 1, [0], .aload_n 0), (10, 0, 1, [0, 1], .iconst 1), (11, 21, 3, [6, 11, 0, 12, 6, 193, 6, 195, 10, 57, 0, 17, 0], .invokevirtual 78), (14, 20, 3, [43], .goto 29), (17, 3, 1, [0], .aload_n 0), (18, 8, 3, [12, 32, 6, 43], .getfield 454), (21, 19, 3, [37, 0], .ifCond .eq 16), (37, 3, 1, [0], .aload_n 0), (38, 0, 2, [0, 6], .bipush 6), (40, 21, 3, [6, 11, 0, 12, 6, 193, 6, 195, 10, 57, 0, 17, 0], .invokevirtual 78), (43, 22, 1, [], .ireturn)]
noncomputable def mX12_lived : MR := (yX12_lived, cX12_lived, 2, (some (.int)), { frames := 1, cells := 0, slots := 0, locals := 21 }, 2, tX12_lived)
set_option maxRecDepth 100000 in
noncomputable def tX12_mean : List ME := [(0, 1, 1, [1], .iload_n 1), (1, 48, 1, [], .i2l), (2, 0, 1, [1, 0], .lconst 0), (3, 0, 3, [1, 9999, 8, 79], .ldc2_w 381), (6, 21, 3, [7, 0, 2, 12, 7, 170, 7, 171, 0, 17, 0], .invokestatic 324), (9, 19, 3, [35, 0], .ifCond .eq 26), (12, 1, 1, [2], .iload_n 2), (13, 48, 1, [], .i2l), (14, 0, 1, [1, 1], .lconst 1), (15, 0, 3, [1, 20, 8, 196], .ldc2_w 405), (18, 21, 3, [7, 0, 2, 12, 7, 170, 7, 171, 0, 17, 0], .invokestatic 324), (21, 19, 3, [35, 0], .ifCond .eq 14), (24, 1, 1, [1], .iload_n 1), (25, 1, 1, [2], .iload_n 2), (26, 26, 1, [], .iadd), (27, 0, 1, [0, 1], .iconst 1), (28, 27, 1, [], .isub), (29, 0, 3, [0, 9999], .sipush 9999), (32, 18, 3, [41, 5], .if_icmp .le 9), (35, 3, 1, [0], .aload_n 0), (36, 0, 1, [0, 1], .iconst 1), (37, 21, 3, [6, 10, 0, 12, 6, 133, 6, 135, 10, 51, 0, 17, 0], .invokevirtual 85), (40, 22, 1, [], .ireturn), (41, 3, 1, [0], .aload_n 0), (42, 8, 3, [12, 0, 6, 11], .getfield 7), (45, 0, 1, [0, 4], .iconst 4), (46, 10, 1, [], .iaload), (47, 0, 1, [0, 4294967295], .iconst (-1)), (48, 18, 3, [58, 1], .if_icmp .ne 10), (51, 3, 1, [0], .aload_n 0), (52, 0, 2, [0, 6], .bipush 6), (54, 21, 3, [6, 10, 0, 12, 6, 133, 6, 135, 10, 51, 0, 17, 0], .invokevirtual 85), (57, 22, 1, [], .ireturn)]
noncomputable def mX12_mean : MR := (yX12_mean, cX12_mean, 6, (some (.boolean)), { frames := 1, cells := 0, slots := 0, locals := 25 }, 3, tX12_mean)
set_option maxRecDepth 100000 in
noncomputable def tX12_copies : List ME := [(0, 0, 1, [0, 0], .iconst 0), (1, 4, 1, [3], .istore_n 3), (2, 1, 1, [3], .iload_n 3), (3, 0, 3, [0, 528], .sipush 528), (6, 18, 3, [39, 3], .if_icmp .ge 33), (9, 3, 1, [0], .aload_n 0), (10, 8, 3, [12, 0, 6, 11], .getfield 7), (13, 0, 3, [0, 528], .sipush 528), (16, 1, 1, [2], .iload_n 2), (17, 28, 1, [], .imul), (18, 1, 1, [3], .iload_n 3), (19, 26, 1, [], .iadd), (20, 3, 1, [0], .aload_n 0), (21, 8, 3, [12, 0, 6, 11], .getfield 7), (24, 0, 3, [0, 528], .sipush 528), (27, 1, 1, [1], .iload_n 1), (28, 28, 1, [], .imul), (29, 1, 1, [3], .iload_n 3), (30, 26, 1, [], .iadd), (31, 10, 1, [], .iaload), (32, 14, 1, [], .iastore), (33, 7, 3, [3, 1], .iinc 3 1), (36, 20, 3, [2], .goto (-34)), (39, 0, 1, [0, 0], .iconst 0), (40, 4, 1, [3], .istore_n 3), (41, 1, 1, [3], .iload_n 3), (42, 0, 2, [0, 15], .bipush 15), (44, 18, 3, [75, 3], .if_icmp .ge 31), (47, 3, 1, [0], .aload_n 0), (48, 8, 3, [12, 1, 6, 12], .getfield 13), (51, 0, 2, [0, 15], .bipush 15), (53, 1, 1, [2], .iload_n 2), (54, 28, 1, [], .imul), (55, 1, 1, [3], .iload_n 3), (56, 26, 1, [], .iadd), (57, 3, 1, [0], .aload_n 0), (58, 8, 3, [12, 1, 6, 12], .getfield 13), (61, 0, 2, [0, 15], .bipush 15), (63, 1, 1, [1], .iload_n 1), (64, 28, 1, [], .imul), (65, 1, 1, [3], .iload_n 3), (66, 26, 1, [], .iadd), (67, 11, 1, [], .laload), (68, 15, 1, [], .lastore), (69, 7, 3, [3, 1], .iinc 3 1), (72, 20, 3, [41], .goto (-31)), (75, 25, 1, [], .return_)]
noncomputable def mX12_copies : MR := (yX12_copies, cX12_copies, 4, none, { frames := 0, cells := 0, slots := 0, locals := 0 }, 3, tX12_copies)
set_option maxRecDepth 100000 in
noncomputable def tX12_mark : List ME := [(0, 3, 1, [0], .aload_n 0), (1, 8, 3, [12, 33, 6, 44], .getfield 458), (4, 0, 1, [0, 3], .iconst 3), (5, 18, 3, [14, 1], .if_icmp .ne 9), (14, 3, 1, [0], .aload_n 0), (15, 50, 1, [], .dup), (16, 8, 3, [12, 33, 6, 44], .getfield 458), (19, 0, 1, [0, 1], .iconst 1), (20, 26, 1, [], .iadd), (21, 9, 3, [12, 33, 0, 6, 44], .putfield 458), (24, 3, 1, [0], .aload_n 0), (25, 0, 1, [0, 0], .iconst 0), (26, 3, 1, [0], .aload_n 0), (27, 8, 3, [12, 33, 6, 44], .getfield 458), (30, 21, 3, [10, 19, 0, 12, 9, 61, 9, 63, 10, 139, 0, 17, 0], .invokevirtual 461), (33, 3, 1, [0], .aload_n 0), (34, 3, 1, [0], .aload_n 0), (35, 8, 3, [12, 33, 6, 44], .getfield 458), (38, 21, 3, [6, 12, 0, 12, 7, 40, 7, 42, 10, 78, 0, 17, 0], .invokevirtual 82), (41, 22, 1, [], .ireturn)]
noncomputable def mX12_mark : MR := (yX12_mark, cX12_mark, 1, (some (.int)), { frames := 1, cells := 0, slots := 0, locals := 23 }, 1, tX12_mark)
set_option maxRecDepth 100000 in
noncomputable def tX12_undo : List ME := [(0, 3, 1, [0], .aload_n 0), (1, 8, 3, [12, 33, 6, 44], .getfield 458), (4, 19, 3, [14, 1], .ifCond .ne 10), (7, 3, 1, [0], .aload_n 0), (8, 0, 2, [0, 6], .bipush 6), (10, 21, 3, [6, 11, 0, 12, 6, 193, 6, 195, 10, 57, 0, 17, 0], .invokevirtual 78), (13, 22, 1, [], .ireturn)]
noncomputable def mX12_undo : MR := (yX12_undo, cX12_undo, 1, (some (.int)), { frames := 1, cells := 0, slots := 0, locals := 23 }, 1, tX12_undo)
set_option maxRecDepth 100000 in
noncomputable def tJ0_length_8abf5 : List ME := [(0, 3, 1, [0], .aload_n 0), (1, 8, 3, [200, 0, 9, 70], .getfield 9), (4, 53, 1, [], .arraylength), (5, 3, 1, [0], .aload_n 0), (6, 21, 3, [11, 4, 0, 200, 0, 43, 0, 44, 0, 45, 0, 3, 0], .invokevirtual 335), (9, 33, 1, [], .ishr), (10, 22, 1, [], .ireturn)]
noncomputable def mJ0_length_8abf5 : MR := (yJ0_length_8abf5, cJ0_length_8abf5, 1, (some (.int)), { frames := 1, cells := 0, slots := 0, locals := 20 }, 1, tJ0_length_8abf5)
set_option maxRecDepth 100000 in
noncomputable def tJ0_charAt_5068e : List ME := [(0, 3, 1, [0], .aload_n 0), (1, 21, 3, [11, 5, 0, 200, 0, 53, 0, 54, 0, 55, 0, 3, 0], .invokevirtual 492), (4, 19, 3, [16, 0], .ifCond .eq 12), (7, 3, 1, [0], .aload_n 0), (8, 8, 3, [200, 0, 9, 70], .getfield 9), (11, 1, 1, [1], .iload_n 1), (12, 21, 3, [11, 7, 2, 300, 0, 57, 0, 58, 0, 4, 0], .invokestatic 495), (15, 22, 1, [], .ireturn)]
noncomputable def mJ0_charAt_5068e : MR := (yJ0_charAt_5068e, cJ0_charAt_5068e, 2, (some (.char)), { frames := 3, cells := 0, slots := 0, locals := 64 }, 2, tJ0_charAt_5068e)
set_option maxRecDepth 100000 in
noncomputable def tJ0_coder_7d493 : List ME := [(0, 56, 3, [0, 0, 47], .getstatic 38), (3, 19, 3, [13, 0], .ifCond .eq 10), (6, 3, 1, [0], .aload_n 0), (7, 8, 3, [200, 1, 9, 71], .getfield 15), (10, 20, 3, [14], .goto 4), (14, 22, 1, [], .ireturn)]
noncomputable def mJ0_coder_7d493 : MR := (yJ0_coder_7d493, cJ0_coder_7d493, 1, (some (.byte)), { frames := 0, cells := 0, slots := 0, locals := 0 }, 1, tJ0_coder_7d493)
set_option maxRecDepth 100000 in
noncomputable def tJ0_isLatin1_aae02 : List ME := [(0, 56, 3, [0, 0, 47], .getstatic 38), (3, 19, 3, [17, 0], .ifCond .eq 14), (6, 3, 1, [0], .aload_n 0), (7, 8, 3, [200, 1, 9, 71], .getfield 15), (10, 19, 3, [17, 1], .ifCond .ne 7), (13, 0, 1, [0, 1], .iconst 1), (14, 20, 3, [18], .goto 4), (18, 22, 1, [], .ireturn)]
noncomputable def mJ0_isLatin1_aae02 : MR := (yJ0_isLatin1_aae02, cJ0_isLatin1_aae02, 1, (some (.boolean)), { frames := 0, cells := 0, slots := 0, locals := 0 }, 1, tJ0_isLatin1_aae02)
set_option maxRecDepth 100000 in
noncomputable def tJ0_checkIndex_df160 : List ME := [(0, 1, 1, [0], .iload_n 0), (1, 1, 1, [1], .iload_n 1), (2, 56, 3, [1, 0, 63], .getstatic 1053), (5, 21, 3, [11, 10, 2, 300, 0, 65, 0, 66, 0, 5, 0], .invokestatic 1059), (8, 52, 1, [], .pop), (9, 25, 1, [], .return_)]
noncomputable def mJ0_checkIndex_df160 : MR := (yJ0_checkIndex_df160, cJ0_checkIndex_df160, 2, none, { frames := 1, cells := 0, slots := 0, locals := 22 }, 2, tJ0_checkIndex_df160)
set_option maxRecDepth 100000 in
noncomputable def tJ1_charAt_3b067 : List ME := [(0, 1, 1, [1], .iload_n 1), (1, 3, 1, [0], .aload_n 0), (2, 53, 1, [], .arraylength), (3, 21, 3, [11, 6, 2, 200, 0, 60, 0, 61, 0, 3, 0], .invokestatic 9), (6, 3, 1, [0], .aload_n 0), (7, 1, 1, [1], .iload_n 1), (8, 12, 1, [], .baload), (9, 0, 3, [0, 255], .sipush 255), (12, 29, 1, [], .iand), (13, 46, 1, [], .i2c), (14, 22, 1, [], .ireturn)]
noncomputable def mJ1_charAt_3b067 : MR := (yJ1_charAt_3b067, cJ1_charAt_3b067, 2, (some (.char)), { frames := 2, cells := 0, slots := 0, locals := 43 }, 2, tJ1_charAt_3b067)
set_option maxRecDepth 100000 in
noncomputable def tJ7_fill_d0a16 : List ME := [(0, 0, 1, [0, 0], .iconst 0), (1, 4, 1, [3], .istore_n 3), (2, 3, 1, [0], .aload_n 0), (3, 53, 1, [], .arraylength), (4, 4, 2, [4], .istore 4), (6, 1, 1, [3], .iload_n 3), (7, 1, 2, [4], .iload 4), (9, 18, 3, [22, 3], .if_icmp .ge 13), (12, 3, 1, [0], .aload_n 0), (13, 1, 1, [3], .iload_n 3), (14, 2, 1, [1], .lload_n 1), (15, 15, 1, [], .lastore), (16, 7, 3, [3, 1], .iinc 3 1), (19, 20, 3, [6], .goto (-13)), (22, 25, 1, [], .return_)]
noncomputable def mJ7_fill_d0a16 : MR := (yJ7_fill_d0a16, cJ7_fill_d0a16, 5, none, { frames := 0, cells := 0, slots := 0, locals := 0 }, 2, tJ7_fill_d0a16)
set_option maxRecDepth 100000 in
noncomputable def tJ7_fill_53178 : List ME := [(0, 0, 1, [0, 0], .iconst 0), (1, 4, 1, [2], .istore_n 2), (2, 3, 1, [0], .aload_n 0), (3, 53, 1, [], .arraylength), (4, 4, 1, [3], .istore_n 3), (5, 1, 1, [2], .iload_n 2), (6, 1, 1, [3], .iload_n 3), (7, 18, 3, [20, 3], .if_icmp .ge 13), (10, 3, 1, [0], .aload_n 0), (11, 1, 1, [2], .iload_n 2), (12, 1, 1, [1], .iload_n 1), (13, 14, 1, [], .iastore), (14, 7, 3, [2, 1], .iinc 2 1), (17, 20, 3, [5], .goto (-12)), (20, 25, 1, [], .return_)]
noncomputable def mJ7_fill_53178 : MR := (yJ7_fill_53178, cJ7_fill_53178, 4, none, { frames := 0, cells := 0, slots := 0, locals := 0 }, 2, tJ7_fill_53178)
set_option maxRecDepth 100000 in
noncomputable def tJ3_checkIndex_8e157 : List ME := [(0, 1, 1, [0], .iload_n 0), (1, 19, 3, [9, 2], .ifCond .lt 8), (4, 1, 1, [0], .iload_n 0), (5, 1, 1, [1], .iload_n 1), (6, 18, 3, [16, 2], .if_icmp .lt 10), (16, 1, 1, [0], .iload_n 0), (17, 22, 1, [], .ireturn)]
noncomputable def mJ3_checkIndex_8e157 : MR := (yJ3_checkIndex_8e157, cJ3_checkIndex_8e157, 3, (some (.int)), { frames := 0, cells := 0, slots := 0, locals := 0 }, 3, tJ3_checkIndex_8e157)
set_option maxRecDepth 100000 in
noncomputable def tL_0 : List ME := [(0, 54, 3, [11, 18, 0, 22, 0, 23, 0, 1, 0, 1, 1, 3, 3, 3, 3, 3, 3, 3, 3, 3, 3, 3, 3, 3, 3, 0], .new 7), (3, 50, 1, [], .dup), (4, 21, 3, [2, 3, 1, 11, 0, 24, 0, 25, 0, 1, 0], .invokespecial 9), (7, 6, 1, [1], .astore_n 1), (8, 54, 3, [12, 34, 6, 1, 6, 2, 0, 17, 3, 3, 0, 1, 1, 3, 3, 3, 3, 3, 0, 0, 0, 0, 0, 0, 0, 0, 0, 0, 3, 0, 0, 3, 3, 3, 3, 0, 0, 3, 3, 3, 0, 0], .new 10), (11, 50, 1, [], .dup), (12, 21, 3, [6, 5, 1, 12, 6, 3, 6, 4, 0, 17, 0], .invokespecial 12), (15, 6, 1, [2], .astore_n 2), (16, 0, 1, [0, 0], .iconst 0), (17, 4, 1, [3], .istore_n 3), (18, 1, 1, [3], .iload_n 3), (19, 3, 1, [0], .aload_n 0), (20, 53, 1, [], .arraylength), (21, 0, 2, [0, 6], .bipush 6), (23, 27, 1, [], .isub), (24, 18, 3, [2305, 4], .if_icmp .gt 2281), (27, 3, 1, [0], .aload_n 0), (28, 1, 1, [3], .iload_n 3), (29, 10, 1, [], .iaload), (30, 0, 2, [0, 127], .bipush 127), (32, 29, 1, [], .iand), (33, 57, 295, [2299, 0, 69, 0, 328, 1, 341, 2, 355, 3, 369, 4, 412, 5, 485, 6, 519, 7, 582, 8, 645, 9, 668, 10, 691, 11, 714, 12, 737, 13, 770, 14, 803, 15, 836, 16, 869, 17, 892, 18, 925, 19, 948, 20, 971, 21, 1004, 22, 1047, 23, 1096, 24, 1145, 25, 1204, 26, 1237, 27, 1270, 28, 1293, 29, 1316, 30, 1349, 31, 1382, 32, 1405, 33, 1428, 34, 1461, 35, 1494, 36, 1537, 37, 1570, 38, 1593, 39, 1626, 40, 1659, 41, 1672, 42, 1695, 43, 1708, 44, 1741, 45, 1774, 46, 1807, 47, 1830, 48, 1843, 49, 1856, 50, 1869, 51, 1892, 52, 1915, 53, 1938, 54, 1961, 55, 1994, 56, 2027, 57, 2050, 58, 2093, 59, 2106, 60, 2119, 61, 2132, 62, 2145, 63, 2158, 64, 2181, 65, 2194, 66, 2217, 67, 2240, 68, 2273, 69, 2286], .tableswitch 2266 0 69 #[295, 308, 322, 336, 379, 452, 486, 549, 612, 635, 658, 681, 704, 737, 770, 803, 836, 859, 892, 915, 938, 971, 1014, 1063, 1112, 1171, 1204, 1237, 1260, 1283, 1316, 1349, 1372, 1395, 1428, 1461, 1504, 1537, 1560, 1593, 1626, 1639, 1662, 1675, 1708, 1741, 1774, 1797, 1810, 1823, 1836, 1859, 1882, 1905, 1928, 1961, 1994, 2017, 2060, 2073, 2086, 2099, 2112, 2125, 2148, 2161, 2184, 2207, 2240, 2253]), (328, 3, 1, [1], .aload_n 1), (329, 21, 3, [2, 4, 0, 11, 2, 27, 2, 28, 2, 29, 0, 1, 0], .invokevirtual 13), (332, 3, 1, [2], .aload_n 2), (333, 21, 3, [6, 7, 0, 12, 6, 114, 6, 115, 6, 116, 0, 17, 0], .invokevirtual 17), (336, 18, 3, [2299, 0], .if_icmp .eq 1963), (341, 3, 1, [1], .aload_n 1), (342, 21, 3, [2, 5, 0, 11, 2, 31, 2, 32, 2, 33, 0, 1, 0], .invokevirtual 18), (345, 3, 1, [2], .aload_n 2), (346, 21, 3, [6, 8, 0, 12, 6, 118, 6, 119, 6, 120, 0, 17, 0], .invokevirtual 22), (349, 43, 1, [], .lcmp), (350, 19, 3, [2299, 0], .ifCond .eq 1949), (355, 3, 1, [1], .aload_n 1), (356, 21, 3, [2, 6, 0, 11, 2, 35, 2, 36, 2, 37, 0, 1, 0], .invokevirtual 23), (359, 3, 1, [2], .aload_n 2), (360, 21, 3, [6, 9, 0, 12, 6, 122, 6, 123, 6, 124, 0, 17, 0], .invokevirtual 26), (363, 43, 1, [], .lcmp), (364, 19, 3, [2299, 0], .ifCond .eq 1935), (369, 3, 1, [1], .aload_n 1)]
set_option maxRecDepth 100000 in
noncomputable def tL_1 : List ME := [(370, 3, 1, [0], .aload_n 0), (371, 1, 1, [3], .iload_n 3), (372, 0, 1, [0, 1], .iconst 1), (373, 26, 1, [], .iadd), (374, 10, 1, [], .iaload), (375, 3, 1, [0], .aload_n 0), (376, 1, 1, [3], .iload_n 3), (377, 0, 1, [0, 2], .iconst 2), (378, 26, 1, [], .iadd), (379, 10, 1, [], .iaload), (380, 3, 1, [0], .aload_n 0), (381, 1, 1, [3], .iload_n 3), (382, 0, 1, [0, 3], .iconst 3), (383, 26, 1, [], .iadd), (384, 10, 1, [], .iaload), (385, 21, 3, [2, 7, 0, 11, 2, 39, 2, 40, 2, 41, 0, 1, 0], .invokevirtual 27), (388, 3, 1, [2], .aload_n 2), (389, 3, 1, [0], .aload_n 0), (390, 1, 1, [3], .iload_n 3), (391, 0, 1, [0, 1], .iconst 1), (392, 26, 1, [], .iadd), (393, 10, 1, [], .iaload), (394, 3, 1, [0], .aload_n 0), (395, 1, 1, [3], .iload_n 3), (396, 0, 1, [0, 2], .iconst 2), (397, 26, 1, [], .iadd), (398, 10, 1, [], .iaload), (399, 3, 1, [0], .aload_n 0), (400, 1, 1, [3], .iload_n 3), (401, 0, 1, [0, 3], .iconst 3), (402, 26, 1, [], .iadd), (403, 10, 1, [], .iaload), (404, 21, 3, [6, 15, 0, 12, 6, 126, 6, 127, 6, 128, 0, 17, 0], .invokevirtual 31), (407, 18, 3, [2299, 0], .if_icmp .eq 1892), (412, 3, 1, [1], .aload_n 1), (413, 3, 1, [0], .aload_n 0), (414, 1, 1, [3], .iload_n 3), (415, 0, 1, [0, 1], .iconst 1), (416, 26, 1, [], .iadd), (417, 10, 1, [], .iaload)]
set_option maxRecDepth 100000 in
noncomputable def tL_2 : List ME := [(418, 3, 1, [0], .aload_n 0), (419, 1, 1, [3], .iload_n 3), (420, 0, 1, [0, 2], .iconst 2), (421, 26, 1, [], .iadd), (422, 10, 1, [], .iaload), (423, 3, 1, [0], .aload_n 0), (424, 1, 1, [3], .iload_n 3), (425, 0, 1, [0, 3], .iconst 3), (426, 26, 1, [], .iadd), (427, 10, 1, [], .iaload), (428, 48, 1, [], .i2l), (429, 0, 2, [0, 32], .bipush 32), (431, 42, 1, [], .lshl), (432, 3, 1, [0], .aload_n 0), (433, 1, 1, [3], .iload_n 3), (434, 0, 1, [0, 4], .iconst 4), (435, 26, 1, [], .iadd), (436, 10, 1, [], .iaload), (437, 48, 1, [], .i2l), (438, 0, 3, [1, 4294967295, 9, 69], .ldc2_w 32), (441, 40, 1, [], .land), (442, 41, 1, [], .lor), (443, 21, 3, [2, 8, 0, 11, 2, 61, 2, 62, 2, 63, 0, 1, 0], .invokevirtual 34), (446, 3, 1, [2], .aload_n 2), (447, 3, 1, [0], .aload_n 0), (448, 1, 1, [3], .iload_n 3), (449, 0, 1, [0, 1], .iconst 1), (450, 26, 1, [], .iadd), (451, 10, 1, [], .iaload), (452, 3, 1, [0], .aload_n 0), (453, 1, 1, [3], .iload_n 3), (454, 0, 1, [0, 2], .iconst 2), (455, 26, 1, [], .iadd), (456, 10, 1, [], .iaload), (457, 3, 1, [0], .aload_n 0), (458, 1, 1, [3], .iload_n 3), (459, 0, 1, [0, 3], .iconst 3), (460, 26, 1, [], .iadd), (461, 10, 1, [], .iaload), (462, 48, 1, [], .i2l)]
set_option maxRecDepth 100000 in
noncomputable def tL_3 : List ME := [(463, 0, 2, [0, 32], .bipush 32), (465, 42, 1, [], .lshl), (466, 3, 1, [0], .aload_n 0), (467, 1, 1, [3], .iload_n 3), (468, 0, 1, [0, 4], .iconst 4), (469, 26, 1, [], .iadd), (470, 10, 1, [], .iaload), (471, 48, 1, [], .i2l), (472, 0, 3, [1, 4294967295, 9, 69], .ldc2_w 32), (475, 40, 1, [], .land), (476, 41, 1, [], .lor), (477, 21, 3, [6, 17, 0, 12, 6, 137, 6, 138, 6, 139, 0, 17, 0], .invokevirtual 38), (480, 18, 3, [2299, 0], .if_icmp .eq 1819), (485, 3, 1, [1], .aload_n 1), (486, 3, 1, [0], .aload_n 0), (487, 1, 1, [3], .iload_n 3), (488, 0, 1, [0, 1], .iconst 1), (489, 26, 1, [], .iadd), (490, 10, 1, [], .iaload), (491, 3, 1, [0], .aload_n 0), (492, 1, 1, [3], .iload_n 3), (493, 0, 1, [0, 2], .iconst 2), (494, 26, 1, [], .iadd), (495, 10, 1, [], .iaload), (496, 21, 3, [2, 9, 0, 11, 2, 77, 2, 78, 2, 79, 0, 1, 0], .invokevirtual 39), (499, 3, 1, [2], .aload_n 2), (500, 3, 1, [0], .aload_n 0), (501, 1, 1, [3], .iload_n 3), (502, 0, 1, [0, 1], .iconst 1), (503, 26, 1, [], .iadd), (504, 10, 1, [], .iaload), (505, 3, 1, [0], .aload_n 0), (506, 1, 1, [3], .iload_n 3), (507, 0, 1, [0, 2], .iconst 2), (508, 26, 1, [], .iadd), (509, 10, 1, [], .iaload), (510, 21, 3, [6, 18, 0, 12, 6, 148, 6, 149, 6, 150, 0, 17, 0], .invokevirtual 43), (513, 43, 1, [], .lcmp), (514, 19, 3, [2299, 0], .ifCond .eq 1785), (519, 3, 1, [1], .aload_n 1)]
set_option maxRecDepth 100000 in
noncomputable def tL_4 : List ME := [(520, 3, 1, [0], .aload_n 0), (521, 1, 1, [3], .iload_n 3), (522, 0, 1, [0, 1], .iconst 1), (523, 26, 1, [], .iadd), (524, 10, 1, [], .iaload), (525, 3, 1, [0], .aload_n 0), (526, 1, 1, [3], .iload_n 3), (527, 0, 1, [0, 2], .iconst 2), (528, 26, 1, [], .iadd), (529, 10, 1, [], .iaload), (530, 3, 1, [0], .aload_n 0), (531, 1, 1, [3], .iload_n 3), (532, 0, 1, [0, 3], .iconst 3), (533, 26, 1, [], .iadd), (534, 10, 1, [], .iaload), (535, 3, 1, [0], .aload_n 0), (536, 1, 1, [3], .iload_n 3), (537, 0, 1, [0, 4], .iconst 4), (538, 26, 1, [], .iadd), (539, 10, 1, [], .iaload), (540, 3, 1, [0], .aload_n 0), (541, 1, 1, [3], .iload_n 3), (542, 0, 1, [0, 5], .iconst 5), (543, 26, 1, [], .iadd), (544, 10, 1, [], .iaload), (545, 21, 3, [2, 10, 0, 11, 2, 85, 2, 86, 2, 87, 0, 1, 0], .invokevirtual 44), (548, 3, 1, [2], .aload_n 2), (549, 3, 1, [0], .aload_n 0), (550, 1, 1, [3], .iload_n 3), (551, 0, 1, [0, 1], .iconst 1), (552, 26, 1, [], .iadd), (553, 10, 1, [], .iaload), (554, 3, 1, [0], .aload_n 0), (555, 1, 1, [3], .iload_n 3), (556, 0, 1, [0, 2], .iconst 2), (557, 26, 1, [], .iadd), (558, 10, 1, [], .iaload), (559, 3, 1, [0], .aload_n 0), (560, 1, 1, [3], .iload_n 3), (561, 0, 1, [0, 3], .iconst 3)]
set_option maxRecDepth 100000 in
noncomputable def tL_5 : List ME := [(562, 26, 1, [], .iadd), (563, 10, 1, [], .iaload), (564, 3, 1, [0], .aload_n 0), (565, 1, 1, [3], .iload_n 3), (566, 0, 1, [0, 4], .iconst 4), (567, 26, 1, [], .iadd), (568, 10, 1, [], .iaload), (569, 3, 1, [0], .aload_n 0), (570, 1, 1, [3], .iload_n 3), (571, 0, 1, [0, 5], .iconst 5), (572, 26, 1, [], .iadd), (573, 10, 1, [], .iaload), (574, 21, 3, [6, 19, 0, 12, 6, 153, 6, 154, 6, 155, 0, 17, 0], .invokevirtual 48), (577, 18, 3, [2299, 0], .if_icmp .eq 1722), (582, 3, 1, [1], .aload_n 1), (583, 3, 1, [0], .aload_n 0), (584, 1, 1, [3], .iload_n 3), (585, 0, 1, [0, 1], .iconst 1), (586, 26, 1, [], .iadd), (587, 10, 1, [], .iaload), (588, 3, 1, [0], .aload_n 0), (589, 1, 1, [3], .iload_n 3), (590, 0, 1, [0, 2], .iconst 2), (591, 26, 1, [], .iadd), (592, 10, 1, [], .iaload), (593, 3, 1, [0], .aload_n 0), (594, 1, 1, [3], .iload_n 3), (595, 0, 1, [0, 3], .iconst 3), (596, 26, 1, [], .iadd), (597, 10, 1, [], .iaload), (598, 3, 1, [0], .aload_n 0), (599, 1, 1, [3], .iload_n 3), (600, 0, 1, [0, 4], .iconst 4), (601, 26, 1, [], .iadd), (602, 10, 1, [], .iaload), (603, 3, 1, [0], .aload_n 0), (604, 1, 1, [3], .iload_n 3), (605, 0, 1, [0, 5], .iconst 5), (606, 26, 1, [], .iadd), (607, 10, 1, [], .iaload)]
set_option maxRecDepth 100000 in
noncomputable def tL_6 : List ME := [(608, 21, 3, [2, 11, 0, 11, 2, 92, 2, 93, 2, 94, 0, 1, 0], .invokevirtual 49), (611, 3, 1, [2], .aload_n 2), (612, 3, 1, [0], .aload_n 0), (613, 1, 1, [3], .iload_n 3), (614, 0, 1, [0, 1], .iconst 1), (615, 26, 1, [], .iadd), (616, 10, 1, [], .iaload), (617, 3, 1, [0], .aload_n 0), (618, 1, 1, [3], .iload_n 3), (619, 0, 1, [0, 2], .iconst 2), (620, 26, 1, [], .iadd), (621, 10, 1, [], .iaload), (622, 3, 1, [0], .aload_n 0), (623, 1, 1, [3], .iload_n 3), (624, 0, 1, [0, 3], .iconst 3), (625, 26, 1, [], .iadd), (626, 10, 1, [], .iaload), (627, 3, 1, [0], .aload_n 0), (628, 1, 1, [3], .iload_n 3), (629, 0, 1, [0, 4], .iconst 4), (630, 26, 1, [], .iadd), (631, 10, 1, [], .iaload), (632, 3, 1, [0], .aload_n 0), (633, 1, 1, [3], .iload_n 3), (634, 0, 1, [0, 5], .iconst 5), (635, 26, 1, [], .iadd), (636, 10, 1, [], .iaload), (637, 21, 3, [7, 1, 0, 12, 6, 157, 6, 158, 6, 159, 0, 17, 0], .invokevirtual 53), (640, 18, 3, [2299, 0], .if_icmp .eq 1659), (645, 3, 1, [1], .aload_n 1), (646, 3, 1, [0], .aload_n 0), (647, 1, 1, [3], .iload_n 3), (648, 0, 1, [0, 1], .iconst 1), (649, 26, 1, [], .iadd), (650, 10, 1, [], .iaload), (651, 21, 3, [2, 12, 0, 11, 2, 100, 2, 101, 2, 102, 0, 1, 0], .invokevirtual 54), (654, 3, 1, [2], .aload_n 2), (655, 3, 1, [0], .aload_n 0), (656, 1, 1, [3], .iload_n 3), (657, 0, 1, [0, 1], .iconst 1)]
set_option maxRecDepth 100000 in
noncomputable def tL_7 : List ME := [(658, 26, 1, [], .iadd), (659, 10, 1, [], .iaload), (660, 21, 3, [7, 8, 0, 12, 6, 169, 6, 170, 6, 171, 0, 17, 0], .invokevirtual 58), (663, 18, 3, [2299, 0], .if_icmp .eq 1636), (668, 3, 1, [1], .aload_n 1), (669, 3, 1, [0], .aload_n 0), (670, 1, 1, [3], .iload_n 3), (671, 0, 1, [0, 1], .iconst 1), (672, 26, 1, [], .iadd), (673, 10, 1, [], .iaload), (674, 21, 3, [2, 13, 0, 11, 3, 66, 3, 67, 3, 68, 0, 1, 0], .invokevirtual 59), (677, 3, 1, [2], .aload_n 2), (678, 3, 1, [0], .aload_n 0), (679, 1, 1, [3], .iload_n 3), (680, 0, 1, [0, 1], .iconst 1), (681, 26, 1, [], .iadd), (682, 10, 1, [], .iaload), (683, 21, 3, [7, 9, 0, 12, 7, 44, 7, 45, 7, 46, 0, 17, 0], .invokevirtual 62), (686, 18, 3, [2299, 0], .if_icmp .eq 1613), (691, 3, 1, [1], .aload_n 1), (692, 3, 1, [0], .aload_n 0), (693, 1, 1, [3], .iload_n 3), (694, 0, 1, [0, 1], .iconst 1), (695, 26, 1, [], .iadd), (696, 10, 1, [], .iaload), (697, 21, 3, [2, 14, 0, 11, 3, 145, 3, 146, 3, 147, 0, 1, 0], .invokevirtual 63), (700, 3, 1, [2], .aload_n 2), (701, 3, 1, [0], .aload_n 0), (702, 1, 1, [3], .iload_n 3), (703, 0, 1, [0, 1], .iconst 1), (704, 26, 1, [], .iadd), (705, 10, 1, [], .iaload), (706, 21, 3, [7, 6, 0, 12, 6, 165, 6, 166, 6, 167, 0, 17, 0], .invokevirtual 66), (709, 18, 3, [2299, 0], .if_icmp .eq 1590), (714, 3, 1, [1], .aload_n 1), (715, 3, 1, [0], .aload_n 0), (716, 1, 1, [3], .iload_n 3), (717, 0, 1, [0, 1], .iconst 1), (718, 26, 1, [], .iadd), (719, 10, 1, [], .iaload)]
set_option maxRecDepth 100000 in
noncomputable def tL_8 : List ME := [(720, 21, 3, [2, 15, 0, 11, 3, 149, 3, 150, 3, 151, 0, 1, 0], .invokevirtual 67), (723, 3, 1, [2], .aload_n 2), (724, 3, 1, [0], .aload_n 0), (725, 1, 1, [3], .iload_n 3), (726, 0, 1, [0, 1], .iconst 1), (727, 26, 1, [], .iadd), (728, 10, 1, [], .iaload), (729, 21, 3, [7, 15, 0, 12, 7, 68, 7, 69, 7, 70, 0, 17, 0], .invokevirtual 70), (732, 18, 3, [2299, 0], .if_icmp .eq 1567), (737, 3, 1, [1], .aload_n 1), (738, 3, 1, [0], .aload_n 0), (739, 1, 1, [3], .iload_n 3), (740, 0, 1, [0, 1], .iconst 1), (741, 26, 1, [], .iadd), (742, 10, 1, [], .iaload), (743, 3, 1, [0], .aload_n 0), (744, 1, 1, [3], .iload_n 3), (745, 0, 1, [0, 2], .iconst 2), (746, 26, 1, [], .iadd), (747, 10, 1, [], .iaload), (748, 21, 3, [2, 16, 0, 11, 3, 176, 3, 177, 3, 178, 0, 1, 0], .invokevirtual 71), (751, 3, 1, [2], .aload_n 2), (752, 3, 1, [0], .aload_n 0), (753, 1, 1, [3], .iload_n 3), (754, 0, 1, [0, 1], .iconst 1), (755, 26, 1, [], .iadd), (756, 10, 1, [], .iaload), (757, 3, 1, [0], .aload_n 0), (758, 1, 1, [3], .iload_n 3), (759, 0, 1, [0, 2], .iconst 2), (760, 26, 1, [], .iadd), (761, 10, 1, [], .iaload), (762, 21, 3, [7, 16, 0, 12, 7, 109, 7, 110, 7, 111, 0, 17, 0], .invokevirtual 75), (765, 18, 3, [2299, 0], .if_icmp .eq 1534), (770, 3, 1, [1], .aload_n 1), (771, 3, 1, [0], .aload_n 0), (772, 1, 1, [3], .iload_n 3), (773, 0, 1, [0, 1], .iconst 1), (774, 26, 1, [], .iadd), (775, 10, 1, [], .iaload)]
set_option maxRecDepth 100000 in
noncomputable def tL_9 : List ME := [(776, 3, 1, [0], .aload_n 0), (777, 1, 1, [3], .iload_n 3), (778, 0, 1, [0, 2], .iconst 2), (779, 26, 1, [], .iadd), (780, 10, 1, [], .iaload), (781, 21, 3, [2, 17, 0, 11, 3, 195, 3, 196, 3, 197, 0, 1, 0], .invokevirtual 76), (784, 3, 1, [2], .aload_n 2), (785, 3, 1, [0], .aload_n 0), (786, 1, 1, [3], .iload_n 3), (787, 0, 1, [0, 1], .iconst 1), (788, 26, 1, [], .iadd), (789, 10, 1, [], .iaload), (790, 3, 1, [0], .aload_n 0), (791, 1, 1, [3], .iload_n 3), (792, 0, 1, [0, 2], .iconst 2), (793, 26, 1, [], .iadd), (794, 10, 1, [], .iaload), (795, 21, 3, [7, 17, 0, 12, 7, 121, 7, 122, 7, 123, 0, 17, 0], .invokevirtual 79), (798, 18, 3, [2299, 0], .if_icmp .eq 1501), (803, 3, 1, [1], .aload_n 1), (804, 3, 1, [0], .aload_n 0), (805, 1, 1, [3], .iload_n 3), (806, 0, 1, [0, 1], .iconst 1), (807, 26, 1, [], .iadd), (808, 10, 1, [], .iaload), (809, 3, 1, [0], .aload_n 0), (810, 1, 1, [3], .iload_n 3), (811, 0, 1, [0, 2], .iconst 2), (812, 26, 1, [], .iadd), (813, 10, 1, [], .iaload), (814, 21, 3, [2, 18, 0, 11, 3, 204, 3, 205, 3, 206, 0, 1, 0], .invokevirtual 80), (817, 3, 1, [2], .aload_n 2), (818, 3, 1, [0], .aload_n 0), (819, 1, 1, [3], .iload_n 3), (820, 0, 1, [0, 1], .iconst 1), (821, 26, 1, [], .iadd), (822, 10, 1, [], .iaload), (823, 3, 1, [0], .aload_n 0), (824, 1, 1, [3], .iload_n 3), (825, 0, 1, [0, 2], .iconst 2)]
set_option maxRecDepth 100000 in
noncomputable def tL_10 : List ME := [(826, 26, 1, [], .iadd), (827, 10, 1, [], .iaload), (828, 21, 3, [7, 18, 0, 12, 7, 129, 7, 130, 7, 131, 0, 17, 0], .invokevirtual 83), (831, 18, 3, [2299, 0], .if_icmp .eq 1468), (836, 3, 1, [1], .aload_n 1), (837, 3, 1, [0], .aload_n 0), (838, 1, 1, [3], .iload_n 3), (839, 0, 1, [0, 1], .iconst 1), (840, 26, 1, [], .iadd), (841, 10, 1, [], .iaload), (842, 3, 1, [0], .aload_n 0), (843, 1, 1, [3], .iload_n 3), (844, 0, 1, [0, 2], .iconst 2), (845, 26, 1, [], .iadd), (846, 10, 1, [], .iaload), (847, 21, 3, [2, 19, 0, 11, 3, 208, 3, 209, 3, 210, 0, 1, 0], .invokevirtual 84), (850, 3, 1, [2], .aload_n 2), (851, 3, 1, [0], .aload_n 0), (852, 1, 1, [3], .iload_n 3), (853, 0, 1, [0, 1], .iconst 1), (854, 26, 1, [], .iadd), (855, 10, 1, [], .iaload), (856, 3, 1, [0], .aload_n 0), (857, 1, 1, [3], .iload_n 3), (858, 0, 1, [0, 2], .iconst 2), (859, 26, 1, [], .iadd), (860, 10, 1, [], .iaload), (861, 21, 3, [7, 19, 0, 12, 7, 133, 7, 134, 7, 135, 0, 17, 0], .invokevirtual 87), (864, 18, 3, [2299, 0], .if_icmp .eq 1435), (869, 3, 1, [1], .aload_n 1), (870, 3, 1, [0], .aload_n 0), (871, 1, 1, [3], .iload_n 3), (872, 0, 1, [0, 1], .iconst 1), (873, 26, 1, [], .iadd), (874, 10, 1, [], .iaload), (875, 21, 3, [3, 0, 0, 11, 3, 220, 3, 221, 3, 222, 0, 1, 0], .invokevirtual 88), (878, 3, 1, [2], .aload_n 2), (879, 3, 1, [0], .aload_n 0), (880, 1, 1, [3], .iload_n 3), (881, 0, 1, [0, 1], .iconst 1)]
set_option maxRecDepth 100000 in
noncomputable def tL_11 : List ME := [(882, 26, 1, [], .iadd), (883, 10, 1, [], .iaload), (884, 21, 3, [8, 0, 0, 12, 7, 149, 7, 150, 7, 151, 0, 17, 0], .invokevirtual 91), (887, 18, 3, [2299, 0], .if_icmp .eq 1412), (892, 3, 1, [1], .aload_n 1), (893, 3, 1, [0], .aload_n 0), (894, 1, 1, [3], .iload_n 3), (895, 0, 1, [0, 1], .iconst 1), (896, 26, 1, [], .iadd), (897, 10, 1, [], .iaload), (898, 3, 1, [0], .aload_n 0), (899, 1, 1, [3], .iload_n 3), (900, 0, 1, [0, 2], .iconst 2), (901, 26, 1, [], .iadd), (902, 10, 1, [], .iaload), (903, 21, 3, [3, 1, 0, 11, 3, 224, 3, 225, 3, 226, 0, 1, 0], .invokevirtual 92), (906, 3, 1, [2], .aload_n 2), (907, 3, 1, [0], .aload_n 0), (908, 1, 1, [3], .iload_n 3), (909, 0, 1, [0, 1], .iconst 1), (910, 26, 1, [], .iadd), (911, 10, 1, [], .iaload), (912, 3, 1, [0], .aload_n 0), (913, 1, 1, [3], .iload_n 3), (914, 0, 1, [0, 2], .iconst 2), (915, 26, 1, [], .iadd), (916, 10, 1, [], .iaload), (917, 21, 3, [8, 1, 0, 12, 7, 153, 7, 154, 7, 155, 0, 17, 0], .invokevirtual 95), (920, 18, 3, [2299, 0], .if_icmp .eq 1379), (925, 3, 1, [1], .aload_n 1), (926, 3, 1, [0], .aload_n 0), (927, 1, 1, [3], .iload_n 3), (928, 0, 1, [0, 1], .iconst 1), (929, 26, 1, [], .iadd), (930, 10, 1, [], .iaload), (931, 21, 3, [3, 2, 0, 11, 3, 232, 3, 233, 3, 234, 0, 1, 0], .invokevirtual 96), (934, 3, 1, [2], .aload_n 2), (935, 3, 1, [0], .aload_n 0), (936, 1, 1, [3], .iload_n 3), (937, 0, 1, [0, 1], .iconst 1)]
set_option maxRecDepth 100000 in
noncomputable def tL_12 : List ME := [(938, 26, 1, [], .iadd), (939, 10, 1, [], .iaload), (940, 21, 3, [8, 3, 0, 12, 7, 165, 7, 166, 7, 167, 0, 17, 0], .invokevirtual 99), (943, 18, 3, [2299, 0], .if_icmp .eq 1356), (948, 3, 1, [1], .aload_n 1), (949, 3, 1, [0], .aload_n 0), (950, 1, 1, [3], .iload_n 3), (951, 0, 1, [0, 1], .iconst 1), (952, 26, 1, [], .iadd), (953, 10, 1, [], .iaload), (954, 21, 3, [3, 3, 0, 11, 4, 19, 4, 20, 4, 21, 0, 1, 0], .invokevirtual 100), (957, 3, 1, [2], .aload_n 2), (958, 3, 1, [0], .aload_n 0), (959, 1, 1, [3], .iload_n 3), (960, 0, 1, [0, 1], .iconst 1), (961, 26, 1, [], .iadd), (962, 10, 1, [], .iaload), (963, 21, 3, [8, 4, 0, 12, 7, 198, 7, 199, 7, 200, 0, 17, 0], .invokevirtual 103), (966, 18, 3, [2299, 0], .if_icmp .eq 1333), (971, 3, 1, [1], .aload_n 1), (972, 3, 1, [0], .aload_n 0), (973, 1, 1, [3], .iload_n 3), (974, 0, 1, [0, 1], .iconst 1), (975, 26, 1, [], .iadd), (976, 10, 1, [], .iaload), (977, 3, 1, [0], .aload_n 0), (978, 1, 1, [3], .iload_n 3), (979, 0, 1, [0, 2], .iconst 2), (980, 26, 1, [], .iadd), (981, 10, 1, [], .iaload), (982, 21, 3, [3, 4, 0, 11, 4, 45, 4, 46, 4, 47, 0, 1, 0], .invokevirtual 104), (985, 3, 1, [2], .aload_n 2), (986, 3, 1, [0], .aload_n 0), (987, 1, 1, [3], .iload_n 3), (988, 0, 1, [0, 1], .iconst 1), (989, 26, 1, [], .iadd), (990, 10, 1, [], .iaload), (991, 3, 1, [0], .aload_n 0), (992, 1, 1, [3], .iload_n 3), (993, 0, 1, [0, 2], .iconst 2)]
set_option maxRecDepth 100000 in
noncomputable def tL_13 : List ME := [(994, 26, 1, [], .iadd), (995, 10, 1, [], .iaload), (996, 21, 3, [8, 5, 0, 12, 7, 218, 7, 219, 7, 220, 0, 17, 0], .invokevirtual 107), (999, 18, 3, [2299, 0], .if_icmp .eq 1300), (1004, 3, 1, [1], .aload_n 1), (1005, 3, 1, [0], .aload_n 0), (1006, 1, 1, [3], .iload_n 3), (1007, 0, 1, [0, 1], .iconst 1), (1008, 26, 1, [], .iadd), (1009, 10, 1, [], .iaload), (1010, 3, 1, [0], .aload_n 0), (1011, 1, 1, [3], .iload_n 3), (1012, 0, 1, [0, 2], .iconst 2), (1013, 26, 1, [], .iadd), (1014, 10, 1, [], .iaload), (1015, 3, 1, [0], .aload_n 0), (1016, 1, 1, [3], .iload_n 3), (1017, 0, 1, [0, 3], .iconst 3), (1018, 26, 1, [], .iadd), (1019, 10, 1, [], .iaload), (1020, 21, 3, [3, 5, 0, 11, 4, 57, 4, 58, 4, 59, 0, 1, 0], .invokevirtual 108), (1023, 3, 1, [2], .aload_n 2), (1024, 3, 1, [0], .aload_n 0), (1025, 1, 1, [3], .iload_n 3), (1026, 0, 1, [0, 1], .iconst 1), (1027, 26, 1, [], .iadd), (1028, 10, 1, [], .iaload), (1029, 3, 1, [0], .aload_n 0), (1030, 1, 1, [3], .iload_n 3), (1031, 0, 1, [0, 2], .iconst 2), (1032, 26, 1, [], .iadd), (1033, 10, 1, [], .iaload), (1034, 3, 1, [0], .aload_n 0), (1035, 1, 1, [3], .iload_n 3), (1036, 0, 1, [0, 3], .iconst 3), (1037, 26, 1, [], .iadd), (1038, 10, 1, [], .iaload), (1039, 21, 3, [8, 6, 0, 12, 7, 226, 7, 227, 7, 228, 0, 17, 0], .invokevirtual 112), (1042, 18, 3, [2299, 0], .if_icmp .eq 1257), (1047, 3, 1, [1], .aload_n 1)]
set_option maxRecDepth 100000 in
noncomputable def tL_14 : List ME := [(1048, 3, 1, [0], .aload_n 0), (1049, 1, 1, [3], .iload_n 3), (1050, 0, 1, [0, 1], .iconst 1), (1051, 26, 1, [], .iadd), (1052, 10, 1, [], .iaload), (1053, 3, 1, [0], .aload_n 0), (1054, 1, 1, [3], .iload_n 3), (1055, 0, 1, [0, 2], .iconst 2), (1056, 26, 1, [], .iadd), (1057, 10, 1, [], .iaload), (1058, 19, 3, [1065, 0], .ifCond .eq 7), (1061, 0, 1, [0, 1], .iconst 1), (1062, 20, 3, [1066], .goto 4), (1065, 0, 1, [0, 0], .iconst 0), (1066, 21, 3, [3, 6, 0, 11, 4, 65, 4, 66, 4, 67, 0, 1, 0], .invokevirtual 113), (1069, 3, 1, [2], .aload_n 2), (1070, 3, 1, [0], .aload_n 0), (1071, 1, 1, [3], .iload_n 3), (1072, 0, 1, [0, 1], .iconst 1), (1073, 26, 1, [], .iadd), (1074, 10, 1, [], .iaload), (1075, 3, 1, [0], .aload_n 0), (1076, 1, 1, [3], .iload_n 3), (1077, 0, 1, [0, 2], .iconst 2), (1078, 26, 1, [], .iadd), (1079, 10, 1, [], .iaload), (1080, 19, 3, [1087, 0], .ifCond .eq 7), (1083, 0, 1, [0, 1], .iconst 1), (1084, 20, 3, [1088], .goto 4), (1087, 0, 1, [0, 0], .iconst 0), (1088, 21, 3, [8, 7, 0, 12, 7, 234, 7, 235, 7, 236, 0, 17, 0], .invokevirtual 117), (1091, 18, 3, [2299, 0], .if_icmp .eq 1208), (1096, 3, 1, [1], .aload_n 1), (1097, 3, 1, [0], .aload_n 0), (1098, 1, 1, [3], .iload_n 3), (1099, 0, 1, [0, 1], .iconst 1), (1100, 26, 1, [], .iadd), (1101, 10, 1, [], .iaload), (1102, 3, 1, [0], .aload_n 0), (1103, 1, 1, [3], .iload_n 3)]
set_option maxRecDepth 100000 in
noncomputable def tL_15 : List ME := [(1104, 0, 1, [0, 2], .iconst 2), (1105, 26, 1, [], .iadd), (1106, 10, 1, [], .iaload), (1107, 19, 3, [1114, 0], .ifCond .eq 7), (1110, 0, 1, [0, 1], .iconst 1), (1111, 20, 3, [1115], .goto 4), (1114, 0, 1, [0, 0], .iconst 0), (1115, 21, 3, [3, 7, 0, 11, 4, 74, 4, 75, 4, 76, 0, 1, 0], .invokevirtual 118), (1118, 3, 1, [2], .aload_n 2), (1119, 3, 1, [0], .aload_n 0), (1120, 1, 1, [3], .iload_n 3), (1121, 0, 1, [0, 1], .iconst 1), (1122, 26, 1, [], .iadd), (1123, 10, 1, [], .iaload), (1124, 3, 1, [0], .aload_n 0), (1125, 1, 1, [3], .iload_n 3), (1126, 0, 1, [0, 2], .iconst 2), (1127, 26, 1, [], .iadd), (1128, 10, 1, [], .iaload), (1129, 19, 3, [1136, 0], .ifCond .eq 7), (1132, 0, 1, [0, 1], .iconst 1), (1133, 20, 3, [1137], .goto 4), (1136, 0, 1, [0, 0], .iconst 0), (1137, 21, 3, [8, 8, 0, 12, 8, 2, 8, 3, 8, 4, 0, 17, 0], .invokevirtual 121), (1140, 18, 3, [2299, 0], .if_icmp .eq 1159), (1145, 3, 1, [1], .aload_n 1), (1146, 3, 1, [0], .aload_n 0), (1147, 1, 1, [3], .iload_n 3), (1148, 0, 1, [0, 1], .iconst 1), (1149, 26, 1, [], .iadd), (1150, 10, 1, [], .iaload), (1151, 3, 1, [0], .aload_n 0), (1152, 1, 1, [3], .iload_n 3), (1153, 0, 1, [0, 2], .iconst 2), (1154, 26, 1, [], .iadd), (1155, 10, 1, [], .iaload), (1156, 3, 1, [0], .aload_n 0), (1157, 1, 1, [3], .iload_n 3), (1158, 0, 1, [0, 3], .iconst 3), (1159, 26, 1, [], .iadd)]
set_option maxRecDepth 100000 in
noncomputable def tL_16 : List ME := [(1160, 10, 1, [], .iaload), (1161, 19, 3, [1168, 0], .ifCond .eq 7), (1164, 0, 1, [0, 1], .iconst 1), (1165, 20, 3, [1169], .goto 4), (1168, 0, 1, [0, 0], .iconst 0), (1169, 21, 3, [3, 8, 0, 11, 4, 79, 4, 80, 4, 81, 0, 1, 0], .invokevirtual 122), (1172, 3, 1, [2], .aload_n 2), (1173, 3, 1, [0], .aload_n 0), (1174, 1, 1, [3], .iload_n 3), (1175, 0, 1, [0, 1], .iconst 1), (1176, 26, 1, [], .iadd), (1177, 10, 1, [], .iaload), (1178, 3, 1, [0], .aload_n 0), (1179, 1, 1, [3], .iload_n 3), (1180, 0, 1, [0, 2], .iconst 2), (1181, 26, 1, [], .iadd), (1182, 10, 1, [], .iaload), (1183, 3, 1, [0], .aload_n 0), (1184, 1, 1, [3], .iload_n 3), (1185, 0, 1, [0, 3], .iconst 3), (1186, 26, 1, [], .iadd), (1187, 10, 1, [], .iaload), (1188, 19, 3, [1195, 0], .ifCond .eq 7), (1191, 0, 1, [0, 1], .iconst 1), (1192, 20, 3, [1196], .goto 4), (1195, 0, 1, [0, 0], .iconst 0), (1196, 21, 3, [8, 9, 0, 12, 8, 6, 8, 7, 8, 8, 0, 17, 0], .invokevirtual 126), (1199, 18, 3, [2299, 0], .if_icmp .eq 1100), (1204, 3, 1, [1], .aload_n 1), (1205, 3, 1, [0], .aload_n 0), (1206, 1, 1, [3], .iload_n 3), (1207, 0, 1, [0, 1], .iconst 1), (1208, 26, 1, [], .iadd), (1209, 10, 1, [], .iaload), (1210, 3, 1, [0], .aload_n 0), (1211, 1, 1, [3], .iload_n 3), (1212, 0, 1, [0, 2], .iconst 2), (1213, 26, 1, [], .iadd), (1214, 10, 1, [], .iaload), (1215, 21, 3, [3, 9, 0, 11, 4, 85, 4, 86, 4, 87, 0, 1, 0], .invokevirtual 127)]
set_option maxRecDepth 100000 in
noncomputable def tL_17 : List ME := [(1218, 3, 1, [2], .aload_n 2), (1219, 3, 1, [0], .aload_n 0), (1220, 1, 1, [3], .iload_n 3), (1221, 0, 1, [0, 1], .iconst 1), (1222, 26, 1, [], .iadd), (1223, 10, 1, [], .iaload), (1224, 3, 1, [0], .aload_n 0), (1225, 1, 1, [3], .iload_n 3), (1226, 0, 1, [0, 2], .iconst 2), (1227, 26, 1, [], .iadd), (1228, 10, 1, [], .iaload), (1229, 21, 3, [8, 10, 0, 12, 8, 10, 8, 11, 8, 12, 0, 17, 0], .invokevirtual 131), (1232, 18, 3, [2299, 0], .if_icmp .eq 1067), (1237, 3, 1, [1], .aload_n 1), (1238, 3, 1, [0], .aload_n 0), (1239, 1, 1, [3], .iload_n 3), (1240, 0, 1, [0, 1], .iconst 1), (1241, 26, 1, [], .iadd), (1242, 10, 1, [], .iaload), (1243, 3, 1, [0], .aload_n 0), (1244, 1, 1, [3], .iload_n 3), (1245, 0, 1, [0, 2], .iconst 2), (1246, 26, 1, [], .iadd), (1247, 10, 1, [], .iaload), (1248, 21, 3, [3, 10, 0, 11, 4, 90, 4, 91, 4, 92, 0, 1, 0], .invokevirtual 132), (1251, 3, 1, [2], .aload_n 2), (1252, 3, 1, [0], .aload_n 0), (1253, 1, 1, [3], .iload_n 3), (1254, 0, 1, [0, 1], .iconst 1), (1255, 26, 1, [], .iadd), (1256, 10, 1, [], .iaload), (1257, 3, 1, [0], .aload_n 0), (1258, 1, 1, [3], .iload_n 3), (1259, 0, 1, [0, 2], .iconst 2), (1260, 26, 1, [], .iadd), (1261, 10, 1, [], .iaload), (1262, 21, 3, [8, 11, 0, 12, 8, 14, 8, 15, 8, 16, 0, 17, 0], .invokevirtual 135), (1265, 18, 3, [2299, 0], .if_icmp .eq 1034), (1270, 3, 1, [1], .aload_n 1), (1271, 3, 1, [0], .aload_n 0)]
set_option maxRecDepth 100000 in
noncomputable def tL_18 : List ME := [(1272, 1, 1, [3], .iload_n 3), (1273, 0, 1, [0, 1], .iconst 1), (1274, 26, 1, [], .iadd), (1275, 10, 1, [], .iaload), (1276, 21, 3, [3, 11, 0, 11, 4, 99, 4, 100, 4, 101, 0, 1, 0], .invokevirtual 136), (1279, 3, 1, [2], .aload_n 2), (1280, 3, 1, [0], .aload_n 0), (1281, 1, 1, [3], .iload_n 3), (1282, 0, 1, [0, 1], .iconst 1), (1283, 26, 1, [], .iadd), (1284, 10, 1, [], .iaload), (1285, 21, 3, [8, 12, 0, 12, 8, 18, 8, 19, 8, 20, 0, 17, 0], .invokevirtual 139), (1288, 18, 3, [2299, 0], .if_icmp .eq 1011), (1293, 3, 1, [1], .aload_n 1), (1294, 3, 1, [0], .aload_n 0), (1295, 1, 1, [3], .iload_n 3), (1296, 0, 1, [0, 1], .iconst 1), (1297, 26, 1, [], .iadd), (1298, 10, 1, [], .iaload), (1299, 21, 3, [3, 12, 0, 11, 4, 105, 4, 106, 4, 107, 0, 1, 0], .invokevirtual 140), (1302, 3, 1, [2], .aload_n 2), (1303, 3, 1, [0], .aload_n 0), (1304, 1, 1, [3], .iload_n 3), (1305, 0, 1, [0, 1], .iconst 1), (1306, 26, 1, [], .iadd), (1307, 10, 1, [], .iaload), (1308, 21, 3, [8, 13, 0, 12, 8, 26, 8, 27, 8, 28, 0, 17, 0], .invokevirtual 143), (1311, 18, 3, [2299, 0], .if_icmp .eq 988), (1316, 3, 1, [1], .aload_n 1), (1317, 3, 1, [0], .aload_n 0), (1318, 1, 1, [3], .iload_n 3), (1319, 0, 1, [0, 1], .iconst 1), (1320, 26, 1, [], .iadd), (1321, 10, 1, [], .iaload), (1322, 3, 1, [0], .aload_n 0), (1323, 1, 1, [3], .iload_n 3), (1324, 0, 1, [0, 2], .iconst 2), (1325, 26, 1, [], .iadd), (1326, 10, 1, [], .iaload), (1327, 21, 3, [3, 13, 0, 11, 4, 113, 4, 114, 4, 115, 0, 1, 0], .invokevirtual 144)]
set_option maxRecDepth 100000 in
noncomputable def tL_19 : List ME := [(1330, 3, 1, [2], .aload_n 2), (1331, 3, 1, [0], .aload_n 0), (1332, 1, 1, [3], .iload_n 3), (1333, 0, 1, [0, 1], .iconst 1), (1334, 26, 1, [], .iadd), (1335, 10, 1, [], .iaload), (1336, 3, 1, [0], .aload_n 0), (1337, 1, 1, [3], .iload_n 3), (1338, 0, 1, [0, 2], .iconst 2), (1339, 26, 1, [], .iadd), (1340, 10, 1, [], .iaload), (1341, 21, 3, [8, 16, 0, 12, 8, 34, 8, 35, 8, 36, 0, 17, 0], .invokevirtual 147), (1344, 18, 3, [2299, 0], .if_icmp .eq 955), (1349, 3, 1, [1], .aload_n 1), (1350, 3, 1, [0], .aload_n 0), (1351, 1, 1, [3], .iload_n 3), (1352, 0, 1, [0, 1], .iconst 1), (1353, 26, 1, [], .iadd), (1354, 10, 1, [], .iaload), (1355, 3, 1, [0], .aload_n 0), (1356, 1, 1, [3], .iload_n 3), (1357, 0, 1, [0, 2], .iconst 2), (1358, 26, 1, [], .iadd), (1359, 10, 1, [], .iaload), (1360, 21, 3, [3, 14, 0, 11, 4, 123, 4, 124, 4, 125, 0, 1, 0], .invokevirtual 148), (1363, 3, 1, [2], .aload_n 2), (1364, 3, 1, [0], .aload_n 0), (1365, 1, 1, [3], .iload_n 3), (1366, 0, 1, [0, 1], .iconst 1), (1367, 26, 1, [], .iadd), (1368, 10, 1, [], .iaload), (1369, 3, 1, [0], .aload_n 0), (1370, 1, 1, [3], .iload_n 3), (1371, 0, 1, [0, 2], .iconst 2), (1372, 26, 1, [], .iadd), (1373, 10, 1, [], .iaload), (1374, 21, 3, [8, 17, 0, 12, 8, 55, 8, 56, 8, 57, 0, 17, 0], .invokevirtual 151), (1377, 18, 3, [2299, 0], .if_icmp .eq 922), (1382, 3, 1, [1], .aload_n 1), (1383, 3, 1, [0], .aload_n 0)]
set_option maxRecDepth 100000 in
noncomputable def tL_20 : List ME := [(1384, 1, 1, [3], .iload_n 3), (1385, 0, 1, [0, 1], .iconst 1), (1386, 26, 1, [], .iadd), (1387, 10, 1, [], .iaload), (1388, 21, 3, [3, 15, 0, 11, 4, 127, 4, 128, 4, 129, 0, 1, 0], .invokevirtual 152), (1391, 3, 1, [2], .aload_n 2), (1392, 3, 1, [0], .aload_n 0), (1393, 1, 1, [3], .iload_n 3), (1394, 0, 1, [0, 1], .iconst 1), (1395, 26, 1, [], .iadd), (1396, 10, 1, [], .iaload), (1397, 21, 3, [8, 18, 0, 12, 8, 59, 8, 60, 8, 61, 0, 17, 0], .invokevirtual 155), (1400, 18, 3, [2299, 0], .if_icmp .eq 899), (1405, 3, 1, [1], .aload_n 1), (1406, 3, 1, [0], .aload_n 0), (1407, 1, 1, [3], .iload_n 3), (1408, 0, 1, [0, 1], .iconst 1), (1409, 26, 1, [], .iadd), (1410, 10, 1, [], .iaload), (1411, 21, 3, [3, 16, 0, 11, 4, 136, 4, 137, 4, 138, 0, 1, 0], .invokevirtual 156), (1414, 3, 1, [2], .aload_n 2), (1415, 3, 1, [0], .aload_n 0), (1416, 1, 1, [3], .iload_n 3), (1417, 0, 1, [0, 1], .iconst 1), (1418, 26, 1, [], .iadd), (1419, 10, 1, [], .iaload), (1420, 21, 3, [8, 19, 0, 12, 8, 71, 8, 72, 8, 73, 0, 17, 0], .invokevirtual 159), (1423, 18, 3, [2299, 0], .if_icmp .eq 876), (1428, 3, 1, [1], .aload_n 1), (1429, 3, 1, [0], .aload_n 0), (1430, 1, 1, [3], .iload_n 3), (1431, 0, 1, [0, 1], .iconst 1), (1432, 26, 1, [], .iadd), (1433, 10, 1, [], .iaload), (1434, 3, 1, [0], .aload_n 0), (1435, 1, 1, [3], .iload_n 3), (1436, 0, 1, [0, 2], .iconst 2), (1437, 26, 1, [], .iadd), (1438, 10, 1, [], .iaload), (1439, 21, 3, [3, 17, 0, 11, 4, 149, 4, 150, 4, 151, 0, 1, 0], .invokevirtual 160)]
set_option maxRecDepth 100000 in
noncomputable def tL_21 : List ME := [(1442, 3, 1, [2], .aload_n 2), (1443, 3, 1, [0], .aload_n 0), (1444, 1, 1, [3], .iload_n 3), (1445, 0, 1, [0, 1], .iconst 1), (1446, 26, 1, [], .iadd), (1447, 10, 1, [], .iaload), (1448, 3, 1, [0], .aload_n 0), (1449, 1, 1, [3], .iload_n 3), (1450, 0, 1, [0, 2], .iconst 2), (1451, 26, 1, [], .iadd), (1452, 10, 1, [], .iaload), (1453, 21, 3, [9, 0, 0, 12, 8, 75, 8, 76, 8, 77, 0, 17, 0], .invokevirtual 163), (1456, 18, 3, [2299, 0], .if_icmp .eq 843), (1461, 3, 1, [1], .aload_n 1), (1462, 3, 1, [0], .aload_n 0), (1463, 1, 1, [3], .iload_n 3), (1464, 0, 1, [0, 1], .iconst 1), (1465, 26, 1, [], .iadd), (1466, 10, 1, [], .iaload), (1467, 3, 1, [0], .aload_n 0), (1468, 1, 1, [3], .iload_n 3), (1469, 0, 1, [0, 2], .iconst 2), (1470, 26, 1, [], .iadd), (1471, 10, 1, [], .iaload), (1472, 21, 3, [3, 18, 0, 11, 4, 157, 4, 158, 4, 159, 0, 1, 0], .invokevirtual 164), (1475, 3, 1, [2], .aload_n 2), (1476, 3, 1, [0], .aload_n 0), (1477, 1, 1, [3], .iload_n 3), (1478, 0, 1, [0, 1], .iconst 1), (1479, 26, 1, [], .iadd), (1480, 10, 1, [], .iaload), (1481, 3, 1, [0], .aload_n 0), (1482, 1, 1, [3], .iload_n 3), (1483, 0, 1, [0, 2], .iconst 2), (1484, 26, 1, [], .iadd), (1485, 10, 1, [], .iaload), (1486, 21, 3, [9, 1, 0, 12, 8, 80, 8, 81, 8, 82, 0, 17, 0], .invokevirtual 167), (1489, 18, 3, [2299, 0], .if_icmp .eq 810), (1494, 3, 1, [1], .aload_n 1), (1495, 3, 1, [0], .aload_n 0)]
set_option maxRecDepth 100000 in
noncomputable def tL_22 : List ME := [(1496, 1, 1, [3], .iload_n 3), (1497, 0, 1, [0, 1], .iconst 1), (1498, 26, 1, [], .iadd), (1499, 10, 1, [], .iaload), (1500, 3, 1, [0], .aload_n 0), (1501, 1, 1, [3], .iload_n 3), (1502, 0, 1, [0, 2], .iconst 2), (1503, 26, 1, [], .iadd), (1504, 10, 1, [], .iaload), (1505, 3, 1, [0], .aload_n 0), (1506, 1, 1, [3], .iload_n 3), (1507, 0, 1, [0, 3], .iconst 3), (1508, 26, 1, [], .iadd), (1509, 10, 1, [], .iaload), (1510, 21, 3, [3, 19, 0, 11, 4, 167, 4, 168, 4, 169, 0, 1, 0], .invokevirtual 168), (1513, 3, 1, [2], .aload_n 2), (1514, 3, 1, [0], .aload_n 0), (1515, 1, 1, [3], .iload_n 3), (1516, 0, 1, [0, 1], .iconst 1), (1517, 26, 1, [], .iadd), (1518, 10, 1, [], .iaload), (1519, 3, 1, [0], .aload_n 0), (1520, 1, 1, [3], .iload_n 3), (1521, 0, 1, [0, 2], .iconst 2), (1522, 26, 1, [], .iadd), (1523, 10, 1, [], .iaload), (1524, 3, 1, [0], .aload_n 0), (1525, 1, 1, [3], .iload_n 3), (1526, 0, 1, [0, 3], .iconst 3), (1527, 26, 1, [], .iadd), (1528, 10, 1, [], .iaload), (1529, 21, 3, [9, 2, 0, 12, 8, 84, 8, 85, 8, 86, 0, 17, 0], .invokevirtual 171), (1532, 18, 3, [2299, 0], .if_icmp .eq 767), (1537, 3, 1, [1], .aload_n 1), (1538, 3, 1, [0], .aload_n 0), (1539, 1, 1, [3], .iload_n 3), (1540, 0, 1, [0, 1], .iconst 1), (1541, 26, 1, [], .iadd), (1542, 10, 1, [], .iaload), (1543, 3, 1, [0], .aload_n 0)]
set_option maxRecDepth 100000 in
noncomputable def tL_23 : List ME := [(1544, 1, 1, [3], .iload_n 3), (1545, 0, 1, [0, 2], .iconst 2), (1546, 26, 1, [], .iadd), (1547, 10, 1, [], .iaload), (1548, 21, 3, [4, 0, 0, 11, 4, 175, 4, 176, 4, 177, 0, 1, 0], .invokevirtual 172), (1551, 3, 1, [2], .aload_n 2), (1552, 3, 1, [0], .aload_n 0), (1553, 1, 1, [3], .iload_n 3), (1554, 0, 1, [0, 1], .iconst 1), (1555, 26, 1, [], .iadd), (1556, 10, 1, [], .iaload), (1557, 3, 1, [0], .aload_n 0), (1558, 1, 1, [3], .iload_n 3), (1559, 0, 1, [0, 2], .iconst 2), (1560, 26, 1, [], .iadd), (1561, 10, 1, [], .iaload), (1562, 21, 3, [9, 3, 0, 12, 8, 88, 8, 89, 8, 90, 0, 17, 0], .invokevirtual 175), (1565, 18, 3, [2299, 0], .if_icmp .eq 734), (1570, 3, 1, [1], .aload_n 1), (1571, 3, 1, [0], .aload_n 0), (1572, 1, 1, [3], .iload_n 3), (1573, 0, 1, [0, 1], .iconst 1), (1574, 26, 1, [], .iadd), (1575, 10, 1, [], .iaload), (1576, 21, 3, [4, 1, 0, 11, 4, 187, 4, 188, 4, 189, 0, 1, 0], .invokevirtual 176), (1579, 3, 1, [2], .aload_n 2), (1580, 3, 1, [0], .aload_n 0), (1581, 1, 1, [3], .iload_n 3), (1582, 0, 1, [0, 1], .iconst 1), (1583, 26, 1, [], .iadd), (1584, 10, 1, [], .iaload), (1585, 21, 3, [9, 4, 0, 12, 8, 92, 8, 93, 8, 94, 0, 17, 0], .invokevirtual 179), (1588, 18, 3, [2299, 0], .if_icmp .eq 711), (1593, 3, 1, [1], .aload_n 1), (1594, 3, 1, [0], .aload_n 0), (1595, 1, 1, [3], .iload_n 3), (1596, 0, 1, [0, 1], .iconst 1), (1597, 26, 1, [], .iadd), (1598, 10, 1, [], .iaload), (1599, 3, 1, [0], .aload_n 0)]
set_option maxRecDepth 100000 in
noncomputable def tL_24 : List ME := [(1600, 1, 1, [3], .iload_n 3), (1601, 0, 1, [0, 2], .iconst 2), (1602, 26, 1, [], .iadd), (1603, 10, 1, [], .iaload), (1604, 21, 3, [4, 2, 0, 11, 4, 192, 4, 193, 4, 194, 0, 1, 0], .invokevirtual 180), (1607, 3, 1, [2], .aload_n 2), (1608, 3, 1, [0], .aload_n 0), (1609, 1, 1, [3], .iload_n 3), (1610, 0, 1, [0, 1], .iconst 1), (1611, 26, 1, [], .iadd), (1612, 10, 1, [], .iaload), (1613, 3, 1, [0], .aload_n 0), (1614, 1, 1, [3], .iload_n 3), (1615, 0, 1, [0, 2], .iconst 2), (1616, 26, 1, [], .iadd), (1617, 10, 1, [], .iaload), (1618, 21, 3, [9, 5, 0, 12, 8, 96, 8, 97, 8, 98, 0, 17, 0], .invokevirtual 183), (1621, 18, 3, [2299, 0], .if_icmp .eq 678), (1626, 3, 1, [1], .aload_n 1), (1627, 3, 1, [0], .aload_n 0), (1628, 1, 1, [3], .iload_n 3), (1629, 0, 1, [0, 1], .iconst 1), (1630, 26, 1, [], .iadd), (1631, 10, 1, [], .iaload), (1632, 3, 1, [0], .aload_n 0), (1633, 1, 1, [3], .iload_n 3), (1634, 0, 1, [0, 2], .iconst 2), (1635, 26, 1, [], .iadd), (1636, 10, 1, [], .iaload), (1637, 21, 3, [4, 3, 0, 11, 4, 201, 4, 202, 4, 203, 0, 1, 0], .invokevirtual 184), (1640, 3, 1, [2], .aload_n 2), (1641, 3, 1, [0], .aload_n 0), (1642, 1, 1, [3], .iload_n 3), (1643, 0, 1, [0, 1], .iconst 1), (1644, 26, 1, [], .iadd), (1645, 10, 1, [], .iaload), (1646, 3, 1, [0], .aload_n 0), (1647, 1, 1, [3], .iload_n 3), (1648, 0, 1, [0, 2], .iconst 2), (1649, 26, 1, [], .iadd)]
set_option maxRecDepth 100000 in
noncomputable def tL_25 : List ME := [(1650, 10, 1, [], .iaload), (1651, 21, 3, [9, 6, 0, 12, 8, 100, 8, 101, 8, 102, 0, 17, 0], .invokevirtual 187), (1654, 18, 3, [2299, 0], .if_icmp .eq 645), (1659, 3, 1, [1], .aload_n 1), (1660, 21, 3, [4, 4, 0, 11, 4, 209, 4, 210, 4, 211, 0, 1, 0], .invokevirtual 188), (1663, 3, 1, [2], .aload_n 2), (1664, 21, 3, [9, 10, 0, 12, 8, 104, 8, 105, 8, 106, 0, 17, 0], .invokevirtual 191), (1667, 18, 3, [2299, 0], .if_icmp .eq 632), (1672, 3, 1, [1], .aload_n 1), (1673, 3, 1, [0], .aload_n 0), (1674, 1, 1, [3], .iload_n 3), (1675, 0, 1, [0, 1], .iconst 1), (1676, 26, 1, [], .iadd), (1677, 10, 1, [], .iaload), (1678, 21, 3, [4, 5, 0, 11, 4, 222, 4, 223, 4, 224, 0, 1, 0], .invokevirtual 192), (1681, 3, 1, [2], .aload_n 2), (1682, 3, 1, [0], .aload_n 0), (1683, 1, 1, [3], .iload_n 3), (1684, 0, 1, [0, 1], .iconst 1), (1685, 26, 1, [], .iadd), (1686, 10, 1, [], .iaload), (1687, 21, 3, [9, 11, 0, 12, 8, 120, 8, 121, 8, 122, 0, 17, 0], .invokevirtual 195), (1690, 18, 3, [2299, 0], .if_icmp .eq 609), (1695, 3, 1, [1], .aload_n 1), (1696, 21, 3, [4, 6, 0, 11, 4, 226, 4, 227, 4, 228, 0, 1, 0], .invokevirtual 196), (1699, 3, 1, [2], .aload_n 2), (1700, 21, 3, [9, 12, 0, 12, 8, 124, 8, 125, 8, 126, 0, 17, 0], .invokevirtual 199), (1703, 18, 3, [2299, 0], .if_icmp .eq 596), (1708, 3, 1, [1], .aload_n 1), (1709, 3, 1, [0], .aload_n 0), (1710, 1, 1, [3], .iload_n 3), (1711, 0, 1, [0, 1], .iconst 1), (1712, 26, 1, [], .iadd), (1713, 10, 1, [], .iaload), (1714, 3, 1, [0], .aload_n 0), (1715, 1, 1, [3], .iload_n 3), (1716, 0, 1, [0, 2], .iconst 2), (1717, 26, 1, [], .iadd), (1718, 10, 1, [], .iaload), (1719, 21, 3, [4, 7, 0, 11, 4, 231, 4, 232, 4, 233, 0, 1, 0], .invokevirtual 200)]
set_option maxRecDepth 100000 in
noncomputable def tL_26 : List ME := [(1722, 3, 1, [2], .aload_n 2), (1723, 3, 1, [0], .aload_n 0), (1724, 1, 1, [3], .iload_n 3), (1725, 0, 1, [0, 1], .iconst 1), (1726, 26, 1, [], .iadd), (1727, 10, 1, [], .iaload), (1728, 3, 1, [0], .aload_n 0), (1729, 1, 1, [3], .iload_n 3), (1730, 0, 1, [0, 2], .iconst 2), (1731, 26, 1, [], .iadd), (1732, 10, 1, [], .iaload), (1733, 21, 3, [9, 13, 0, 12, 8, 128, 8, 129, 8, 130, 0, 17, 0], .invokevirtual 203), (1736, 18, 3, [2299, 0], .if_icmp .eq 563), (1741, 3, 1, [1], .aload_n 1), (1742, 3, 1, [0], .aload_n 0), (1743, 1, 1, [3], .iload_n 3), (1744, 0, 1, [0, 1], .iconst 1), (1745, 26, 1, [], .iadd), (1746, 10, 1, [], .iaload), (1747, 3, 1, [0], .aload_n 0), (1748, 1, 1, [3], .iload_n 3), (1749, 0, 1, [0, 2], .iconst 2), (1750, 26, 1, [], .iadd), (1751, 10, 1, [], .iaload), (1752, 21, 3, [4, 8, 0, 11, 4, 235, 4, 236, 4, 237, 0, 1, 0], .invokevirtual 204), (1755, 3, 1, [2], .aload_n 2), (1756, 3, 1, [0], .aload_n 0), (1757, 1, 1, [3], .iload_n 3), (1758, 0, 1, [0, 1], .iconst 1), (1759, 26, 1, [], .iadd), (1760, 10, 1, [], .iaload), (1761, 3, 1, [0], .aload_n 0), (1762, 1, 1, [3], .iload_n 3), (1763, 0, 1, [0, 2], .iconst 2), (1764, 26, 1, [], .iadd), (1765, 10, 1, [], .iaload), (1766, 21, 3, [9, 14, 0, 12, 8, 132, 8, 133, 8, 134, 0, 17, 0], .invokevirtual 207), (1769, 18, 3, [2299, 0], .if_icmp .eq 530), (1774, 3, 1, [1], .aload_n 1), (1775, 3, 1, [0], .aload_n 0)]
set_option maxRecDepth 100000 in
noncomputable def tL_27 : List ME := [(1776, 1, 1, [3], .iload_n 3), (1777, 0, 1, [0, 1], .iconst 1), (1778, 26, 1, [], .iadd), (1779, 10, 1, [], .iaload), (1780, 3, 1, [0], .aload_n 0), (1781, 1, 1, [3], .iload_n 3), (1782, 0, 1, [0, 2], .iconst 2), (1783, 26, 1, [], .iadd), (1784, 10, 1, [], .iaload), (1785, 21, 3, [4, 9, 0, 11, 5, 7, 5, 8, 5, 9, 0, 1, 0], .invokevirtual 208), (1788, 3, 1, [2], .aload_n 2), (1789, 3, 1, [0], .aload_n 0), (1790, 1, 1, [3], .iload_n 3), (1791, 0, 1, [0, 1], .iconst 1), (1792, 26, 1, [], .iadd), (1793, 10, 1, [], .iaload), (1794, 3, 1, [0], .aload_n 0), (1795, 1, 1, [3], .iload_n 3), (1796, 0, 1, [0, 2], .iconst 2), (1797, 26, 1, [], .iadd), (1798, 10, 1, [], .iaload), (1799, 21, 3, [9, 15, 0, 12, 8, 136, 8, 137, 8, 138, 0, 17, 0], .invokevirtual 211), (1802, 18, 3, [2299, 0], .if_icmp .eq 497), (1807, 3, 1, [1], .aload_n 1), (1808, 3, 1, [0], .aload_n 0), (1809, 1, 1, [3], .iload_n 3), (1810, 0, 1, [0, 1], .iconst 1), (1811, 26, 1, [], .iadd), (1812, 10, 1, [], .iaload), (1813, 21, 3, [4, 10, 0, 11, 5, 12, 5, 13, 5, 14, 0, 1, 0], .invokevirtual 212), (1816, 3, 1, [2], .aload_n 2), (1817, 3, 1, [0], .aload_n 0), (1818, 1, 1, [3], .iload_n 3), (1819, 0, 1, [0, 1], .iconst 1), (1820, 26, 1, [], .iadd), (1821, 10, 1, [], .iaload), (1822, 21, 3, [9, 16, 0, 12, 8, 140, 8, 141, 8, 142, 0, 17, 0], .invokevirtual 215), (1825, 18, 3, [2299, 0], .if_icmp .eq 474), (1830, 3, 1, [1], .aload_n 1), (1831, 21, 3, [4, 11, 0, 11, 5, 23, 5, 24, 5, 25, 0, 1, 0], .invokevirtual 216)]
set_option maxRecDepth 100000 in
noncomputable def tL_28 : List ME := [(1834, 3, 1, [2], .aload_n 2), (1835, 21, 3, [9, 17, 0, 12, 8, 148, 8, 149, 8, 150, 0, 17, 0], .invokevirtual 219), (1838, 18, 3, [2299, 0], .if_icmp .eq 461), (1843, 3, 1, [1], .aload_n 1), (1844, 21, 3, [4, 12, 0, 11, 5, 33, 5, 34, 5, 35, 0, 1, 0], .invokevirtual 220), (1847, 3, 1, [2], .aload_n 2), (1848, 21, 3, [9, 18, 0, 12, 8, 152, 8, 153, 8, 154, 0, 17, 0], .invokevirtual 223), (1851, 18, 3, [2299, 0], .if_icmp .eq 448), (1856, 3, 1, [1], .aload_n 1), (1857, 21, 3, [4, 13, 0, 11, 5, 47, 5, 48, 5, 49, 0, 1, 0], .invokevirtual 224), (1860, 3, 1, [2], .aload_n 2), (1861, 21, 3, [9, 19, 0, 12, 8, 160, 8, 161, 8, 162, 0, 17, 0], .invokevirtual 227), (1864, 18, 3, [2299, 0], .if_icmp .eq 435), (1869, 3, 1, [1], .aload_n 1), (1870, 3, 1, [0], .aload_n 0), (1871, 1, 1, [3], .iload_n 3), (1872, 0, 1, [0, 1], .iconst 1), (1873, 26, 1, [], .iadd), (1874, 10, 1, [], .iaload), (1875, 21, 3, [4, 14, 0, 11, 5, 51, 5, 52, 5, 53, 0, 1, 0], .invokevirtual 228), (1878, 3, 1, [2], .aload_n 2), (1879, 3, 1, [0], .aload_n 0), (1880, 1, 1, [3], .iload_n 3), (1881, 0, 1, [0, 1], .iconst 1), (1882, 26, 1, [], .iadd), (1883, 10, 1, [], .iaload), (1884, 21, 3, [10, 0, 0, 12, 8, 164, 8, 165, 8, 166, 0, 17, 0], .invokevirtual 231), (1887, 18, 3, [2299, 0], .if_icmp .eq 412), (1892, 3, 1, [1], .aload_n 1), (1893, 3, 1, [0], .aload_n 0), (1894, 1, 1, [3], .iload_n 3), (1895, 0, 1, [0, 1], .iconst 1), (1896, 26, 1, [], .iadd), (1897, 10, 1, [], .iaload), (1898, 21, 3, [4, 15, 0, 11, 5, 55, 5, 56, 5, 57, 0, 1, 0], .invokevirtual 232), (1901, 3, 1, [2], .aload_n 2), (1902, 3, 1, [0], .aload_n 0), (1903, 1, 1, [3], .iload_n 3), (1904, 0, 1, [0, 1], .iconst 1), (1905, 26, 1, [], .iadd)]
set_option maxRecDepth 100000 in
noncomputable def tL_29 : List ME := [(1906, 10, 1, [], .iaload), (1907, 21, 3, [10, 1, 0, 12, 8, 168, 8, 169, 8, 170, 0, 17, 0], .invokevirtual 235), (1910, 18, 3, [2299, 0], .if_icmp .eq 389), (1915, 3, 1, [1], .aload_n 1), (1916, 3, 1, [0], .aload_n 0), (1917, 1, 1, [3], .iload_n 3), (1918, 0, 1, [0, 1], .iconst 1), (1919, 26, 1, [], .iadd), (1920, 10, 1, [], .iaload), (1921, 21, 3, [4, 16, 0, 11, 5, 59, 5, 60, 5, 61, 0, 1, 0], .invokevirtual 236), (1924, 3, 1, [2], .aload_n 2), (1925, 3, 1, [0], .aload_n 0), (1926, 1, 1, [3], .iload_n 3), (1927, 0, 1, [0, 1], .iconst 1), (1928, 26, 1, [], .iadd), (1929, 10, 1, [], .iaload), (1930, 21, 3, [10, 2, 0, 12, 8, 172, 8, 173, 8, 174, 0, 17, 0], .invokevirtual 239), (1933, 18, 3, [2299, 0], .if_icmp .eq 366), (1938, 3, 1, [1], .aload_n 1), (1939, 3, 1, [0], .aload_n 0), (1940, 1, 1, [3], .iload_n 3), (1941, 0, 1, [0, 1], .iconst 1), (1942, 26, 1, [], .iadd), (1943, 10, 1, [], .iaload), (1944, 21, 3, [4, 17, 0, 11, 5, 74, 5, 75, 5, 76, 0, 1, 0], .invokevirtual 240), (1947, 3, 1, [2], .aload_n 2), (1948, 3, 1, [0], .aload_n 0), (1949, 1, 1, [3], .iload_n 3), (1950, 0, 1, [0, 1], .iconst 1), (1951, 26, 1, [], .iadd), (1952, 10, 1, [], .iaload), (1953, 21, 3, [10, 3, 0, 12, 8, 184, 8, 185, 8, 186, 0, 17, 0], .invokevirtual 243), (1956, 18, 3, [2299, 0], .if_icmp .eq 343), (1961, 3, 1, [1], .aload_n 1), (1962, 3, 1, [0], .aload_n 0), (1963, 1, 1, [3], .iload_n 3), (1964, 0, 1, [0, 1], .iconst 1), (1965, 26, 1, [], .iadd), (1966, 10, 1, [], .iaload), (1967, 3, 1, [0], .aload_n 0)]
set_option maxRecDepth 100000 in
noncomputable def tL_30 : List ME := [(1968, 1, 1, [3], .iload_n 3), (1969, 0, 1, [0, 2], .iconst 2), (1970, 26, 1, [], .iadd), (1971, 10, 1, [], .iaload), (1972, 21, 3, [4, 18, 0, 11, 5, 78, 5, 79, 5, 80, 0, 1, 0], .invokevirtual 244), (1975, 3, 1, [2], .aload_n 2), (1976, 3, 1, [0], .aload_n 0), (1977, 1, 1, [3], .iload_n 3), (1978, 0, 1, [0, 1], .iconst 1), (1979, 26, 1, [], .iadd), (1980, 10, 1, [], .iaload), (1981, 3, 1, [0], .aload_n 0), (1982, 1, 1, [3], .iload_n 3), (1983, 0, 1, [0, 2], .iconst 2), (1984, 26, 1, [], .iadd), (1985, 10, 1, [], .iaload), (1986, 21, 3, [10, 5, 0, 12, 8, 188, 8, 189, 8, 190, 0, 17, 0], .invokevirtual 247), (1989, 18, 3, [2299, 0], .if_icmp .eq 310), (1994, 3, 1, [1], .aload_n 1), (1995, 3, 1, [0], .aload_n 0), (1996, 1, 1, [3], .iload_n 3), (1997, 0, 1, [0, 1], .iconst 1), (1998, 26, 1, [], .iadd), (1999, 10, 1, [], .iaload), (2000, 3, 1, [0], .aload_n 0), (2001, 1, 1, [3], .iload_n 3), (2002, 0, 1, [0, 2], .iconst 2), (2003, 26, 1, [], .iadd), (2004, 10, 1, [], .iaload), (2005, 21, 3, [4, 19, 0, 11, 5, 98, 5, 99, 5, 100, 0, 1, 0], .invokevirtual 248), (2008, 3, 1, [2], .aload_n 2), (2009, 3, 1, [0], .aload_n 0), (2010, 1, 1, [3], .iload_n 3), (2011, 0, 1, [0, 1], .iconst 1), (2012, 26, 1, [], .iadd), (2013, 10, 1, [], .iaload), (2014, 3, 1, [0], .aload_n 0), (2015, 1, 1, [3], .iload_n 3), (2016, 0, 1, [0, 2], .iconst 2), (2017, 26, 1, [], .iadd)]
set_option maxRecDepth 100000 in
noncomputable def tL_31 : List ME := [(2018, 10, 1, [], .iaload), (2019, 21, 3, [10, 6, 0, 12, 8, 201, 8, 202, 8, 203, 0, 17, 0], .invokevirtual 251), (2022, 18, 3, [2299, 0], .if_icmp .eq 277), (2027, 3, 1, [1], .aload_n 1), (2028, 3, 1, [0], .aload_n 0), (2029, 1, 1, [3], .iload_n 3), (2030, 0, 1, [0, 1], .iconst 1), (2031, 26, 1, [], .iadd), (2032, 10, 1, [], .iaload), (2033, 21, 3, [5, 0, 0, 11, 5, 102, 5, 103, 5, 104, 0, 1, 0], .invokevirtual 252), (2036, 3, 1, [2], .aload_n 2), (2037, 3, 1, [0], .aload_n 0), (2038, 1, 1, [3], .iload_n 3), (2039, 0, 1, [0, 1], .iconst 1), (2040, 26, 1, [], .iadd), (2041, 10, 1, [], .iaload), (2042, 21, 3, [10, 7, 0, 12, 8, 205, 8, 206, 8, 207, 0, 17, 0], .invokevirtual 255), (2045, 18, 3, [2299, 0], .if_icmp .eq 254), (2050, 3, 1, [1], .aload_n 1), (2051, 3, 1, [0], .aload_n 0), (2052, 1, 1, [3], .iload_n 3), (2053, 0, 1, [0, 1], .iconst 1), (2054, 26, 1, [], .iadd), (2055, 10, 1, [], .iaload), (2056, 3, 1, [0], .aload_n 0), (2057, 1, 1, [3], .iload_n 3), (2058, 0, 1, [0, 2], .iconst 2), (2059, 26, 1, [], .iadd), (2060, 10, 1, [], .iaload), (2061, 3, 1, [0], .aload_n 0), (2062, 1, 1, [3], .iload_n 3), (2063, 0, 1, [0, 3], .iconst 3), (2064, 26, 1, [], .iadd), (2065, 10, 1, [], .iaload), (2066, 21, 3, [5, 1, 0, 11, 5, 115, 5, 116, 5, 117, 0, 1, 0], .invokevirtual 256), (2069, 3, 1, [2], .aload_n 2), (2070, 3, 1, [0], .aload_n 0), (2071, 1, 1, [3], .iload_n 3), (2072, 0, 1, [0, 1], .iconst 1), (2073, 26, 1, [], .iadd)]
set_option maxRecDepth 100000 in
noncomputable def tL_32 : List ME := [(2074, 10, 1, [], .iaload), (2075, 3, 1, [0], .aload_n 0), (2076, 1, 1, [3], .iload_n 3), (2077, 0, 1, [0, 2], .iconst 2), (2078, 26, 1, [], .iadd), (2079, 10, 1, [], .iaload), (2080, 3, 1, [0], .aload_n 0), (2081, 1, 1, [3], .iload_n 3), (2082, 0, 1, [0, 3], .iconst 3), (2083, 26, 1, [], .iadd), (2084, 10, 1, [], .iaload), (2085, 21, 3, [10, 8, 0, 12, 8, 213, 8, 214, 8, 215, 0, 17, 0], .invokevirtual 259), (2088, 18, 3, [2299, 0], .if_icmp .eq 211), (2093, 3, 1, [1], .aload_n 1), (2094, 21, 3, [5, 2, 0, 11, 5, 120, 5, 121, 5, 122, 0, 1, 0], .invokevirtual 260), (2097, 3, 1, [2], .aload_n 2), (2098, 21, 3, [10, 9, 0, 12, 8, 217, 8, 218, 8, 219, 0, 17, 0], .invokevirtual 263), (2101, 18, 3, [2299, 0], .if_icmp .eq 198), (2106, 3, 1, [1], .aload_n 1), (2107, 21, 3, [5, 3, 0, 11, 5, 124, 5, 125, 5, 126, 0, 1, 0], .invokevirtual 264), (2110, 3, 1, [2], .aload_n 2), (2111, 21, 3, [10, 10, 0, 12, 8, 221, 8, 222, 8, 223, 0, 17, 0], .invokevirtual 267), (2114, 18, 3, [2299, 0], .if_icmp .eq 185), (2119, 3, 1, [1], .aload_n 1), (2120, 21, 3, [5, 4, 0, 11, 5, 128, 5, 129, 5, 130, 0, 1, 0], .invokevirtual 268), (2123, 3, 1, [2], .aload_n 2), (2124, 21, 3, [10, 11, 0, 12, 8, 225, 8, 226, 8, 227, 0, 17, 0], .invokevirtual 272), (2127, 18, 3, [2299, 0], .if_icmp .eq 172), (2132, 3, 1, [1], .aload_n 1), (2133, 21, 3, [5, 5, 0, 11, 5, 136, 5, 137, 5, 138, 0, 1, 0], .invokevirtual 273), (2136, 3, 1, [2], .aload_n 2), (2137, 21, 3, [10, 12, 0, 12, 8, 233, 8, 234, 8, 235, 0, 17, 0], .invokevirtual 276), (2140, 18, 3, [2299, 0], .if_icmp .eq 159), (2145, 3, 1, [1], .aload_n 1), (2146, 21, 3, [5, 6, 0, 11, 5, 141, 5, 142, 5, 143, 0, 1, 0], .invokevirtual 277), (2149, 3, 1, [2], .aload_n 2), (2150, 21, 3, [10, 13, 0, 12, 8, 237, 8, 238, 8, 239, 0, 17, 0], .invokevirtual 280), (2153, 18, 3, [2299, 0], .if_icmp .eq 146), (2158, 3, 1, [1], .aload_n 1), (2159, 3, 1, [0], .aload_n 0)]
set_option maxRecDepth 100000 in
noncomputable def tL_33 : List ME := [(2160, 1, 1, [3], .iload_n 3), (2161, 0, 1, [0, 1], .iconst 1), (2162, 26, 1, [], .iadd), (2163, 10, 1, [], .iaload), (2164, 21, 3, [5, 7, 0, 11, 5, 157, 5, 158, 5, 159, 0, 1, 0], .invokevirtual 281), (2167, 3, 1, [2], .aload_n 2), (2168, 3, 1, [0], .aload_n 0), (2169, 1, 1, [3], .iload_n 3), (2170, 0, 1, [0, 1], .iconst 1), (2171, 26, 1, [], .iadd), (2172, 10, 1, [], .iaload), (2173, 21, 3, [10, 14, 0, 12, 9, 4, 9, 5, 9, 6, 0, 17, 0], .invokevirtual 284), (2176, 18, 3, [2299, 0], .if_icmp .eq 123), (2181, 3, 1, [1], .aload_n 1), (2182, 21, 3, [5, 8, 0, 11, 5, 168, 5, 169, 5, 170, 0, 1, 0], .invokevirtual 285), (2185, 3, 1, [2], .aload_n 2), (2186, 21, 3, [10, 15, 0, 12, 9, 8, 9, 9, 9, 10, 0, 17, 0], .invokevirtual 288), (2189, 18, 3, [2299, 0], .if_icmp .eq 110), (2194, 3, 1, [1], .aload_n 1), (2195, 3, 1, [0], .aload_n 0), (2196, 1, 1, [3], .iload_n 3), (2197, 0, 1, [0, 1], .iconst 1), (2198, 26, 1, [], .iadd), (2199, 10, 1, [], .iaload), (2200, 21, 3, [5, 9, 0, 11, 5, 185, 5, 186, 5, 187, 0, 1, 0], .invokevirtual 289), (2203, 3, 1, [2], .aload_n 2), (2204, 3, 1, [0], .aload_n 0), (2205, 1, 1, [3], .iload_n 3), (2206, 0, 1, [0, 1], .iconst 1), (2207, 26, 1, [], .iadd), (2208, 10, 1, [], .iaload), (2209, 21, 3, [10, 16, 0, 12, 9, 12, 9, 13, 9, 14, 0, 17, 0], .invokevirtual 292), (2212, 18, 3, [2299, 0], .if_icmp .eq 87), (2217, 3, 1, [1], .aload_n 1), (2218, 3, 1, [0], .aload_n 0), (2219, 1, 1, [3], .iload_n 3), (2220, 0, 1, [0, 1], .iconst 1), (2221, 26, 1, [], .iadd), (2222, 10, 1, [], .iaload), (2223, 21, 3, [5, 10, 0, 11, 5, 225, 5, 226, 5, 227, 0, 1, 0], .invokevirtual 293)]
set_option maxRecDepth 100000 in
noncomputable def tL_34 : List ME := [(2226, 3, 1, [2], .aload_n 2), (2227, 3, 1, [0], .aload_n 0), (2228, 1, 1, [3], .iload_n 3), (2229, 0, 1, [0, 1], .iconst 1), (2230, 26, 1, [], .iadd), (2231, 10, 1, [], .iaload), (2232, 21, 3, [10, 17, 0, 12, 9, 49, 9, 50, 9, 51, 0, 17, 0], .invokevirtual 296), (2235, 18, 3, [2299, 0], .if_icmp .eq 64), (2240, 3, 1, [1], .aload_n 1), (2241, 3, 1, [0], .aload_n 0), (2242, 1, 1, [3], .iload_n 3), (2243, 0, 1, [0, 1], .iconst 1), (2244, 26, 1, [], .iadd), (2245, 10, 1, [], .iaload), (2246, 3, 1, [0], .aload_n 0), (2247, 1, 1, [3], .iload_n 3), (2248, 0, 1, [0, 2], .iconst 2), (2249, 26, 1, [], .iadd), (2250, 10, 1, [], .iaload), (2251, 21, 3, [5, 11, 0, 11, 5, 229, 5, 230, 5, 231, 0, 1, 0], .invokevirtual 297), (2254, 3, 1, [2], .aload_n 2), (2255, 3, 1, [0], .aload_n 0), (2256, 1, 1, [3], .iload_n 3), (2257, 0, 1, [0, 1], .iconst 1), (2258, 26, 1, [], .iadd), (2259, 10, 1, [], .iaload), (2260, 3, 1, [0], .aload_n 0), (2261, 1, 1, [3], .iload_n 3), (2262, 0, 1, [0, 2], .iconst 2), (2263, 26, 1, [], .iadd), (2264, 10, 1, [], .iaload), (2265, 21, 3, [10, 18, 0, 12, 9, 53, 9, 54, 9, 55, 0, 17, 0], .invokevirtual 300), (2268, 18, 3, [2299, 0], .if_icmp .eq 31), (2273, 3, 1, [1], .aload_n 1), (2274, 21, 3, [5, 12, 0, 11, 5, 233, 5, 234, 5, 235, 0, 1, 0], .invokevirtual 301), (2277, 3, 1, [2], .aload_n 2), (2278, 21, 3, [11, 0, 0, 12, 9, 57, 9, 58, 9, 59, 0, 17, 0], .invokevirtual 304), (2281, 18, 3, [2299, 0], .if_icmp .eq 18), (2286, 3, 1, [1], .aload_n 1), (2287, 21, 3, [5, 13, 0, 11, 5, 237, 5, 238, 5, 239, 0, 1, 0], .invokevirtual 305)]
set_option maxRecDepth 100000 in
noncomputable def tL_35 : List ME := [(2290, 3, 1, [2], .aload_n 2), (2291, 21, 3, [11, 1, 0, 12, 9, 65, 9, 66, 9, 67, 0, 17, 0], .invokevirtual 308), (2294, 18, 3, [2299, 0], .if_icmp .eq 5), (2299, 7, 3, [3, 6], .iinc 3 6), (2302, 20, 3, [18], .goto (-2284)), (2305, 0, 1, [0, 1], .iconst 1), (2306, 22, 1, [], .ireturn)]
set_option maxRecDepth 100000 in
noncomputable def tL_law : List ME := tL_0 ++ (tL_1 ++ (tL_2 ++ (tL_3 ++ (tL_4 ++ (tL_5 ++ (tL_6 ++ (tL_7 ++ (tL_8 ++ (tL_9 ++ (tL_10 ++ (tL_11 ++ (tL_12 ++ (tL_13 ++ (tL_14 ++ (tL_15 ++ (tL_16 ++ (tL_17 ++ (tL_18 ++ (tL_19 ++ (tL_20 ++ (tL_21 ++ (tL_22 ++ (tL_23 ++ (tL_24 ++ (tL_25 ++ (tL_26 ++ (tL_27 ++ (tL_28 ++ (tL_29 ++ (tL_30 ++ (tL_31 ++ (tL_32 ++ (tL_33 ++ (tL_34 ++ (tL_35)))))))))))))))))))))))))))))))))))
noncomputable def mL_law : MR := (yL_law, cL_law, 4, (some (.boolean)), room_1, 1, tL_law)
noncomputable def mt0 : List MR := [mX0_init, mX0_clear, mX0_copyFrom, mX0_of, mX0_sorrow, mX0_debtorsOf, mX1_init, mX1_clear, mX1_copyFrom, mX1_ghosts, mX1_ghostHouses, mX1_passNights, mX2_init, mX2_readAll, mX3_init, mX4_init, mX4_bestDeath, mX4_bestKeeper, mX4_deadCouple, mX4_longestRow]
noncomputable def mt1 : List MR := [mX4_bestThreshold, mX5_init, mX5_clear, mX5_copyFrom, mX5_couples, mX5_around, mX5_spread, mX5_survey, mX6_init, mX6_fullestHouse, mX6_countVisits, mX7_init, mX7_clear, mX7_copyFrom, mX8_init, mX8_readAll, mX9_init, mX9_put, mX9_begin, mX9_advance]
noncomputable def mt2 : List MR := [mX9_goesOn, mX10_init, mX10_lay, mX11_init, mX11_status, mX11_top, mX11_bottom, mX11_tray, mX11_write, mX11_read, mX11_pour, mX11_feed, mX11_land, mX11_tales, mX11_fault, mX11_told, mX11_person, mX11_owed, mX11_heir, mX11_door]
noncomputable def mt3 : List MR := [mX11_labour, mX11_within, mX11_night, mX11_die, mX11_forgive, mX11_forge, mX11_salt, mX11_keep, mX11_wall, mX11_move, mX11_way, mX11_aim, mX11_step, mX11_walks, mX11_later, mX11_rest, mX11_quiet, mX11_harvest, mX11_visitors, mX11_stays]
noncomputable def mt4 : List MR := [mX11_must, mX11_reach, mX11_tours, mX11_meets, mX11_crowd, mX11_busiest, mX11_exposed, mX11_wells, mX11_ways, mX11_heirs, mX11_loss, mX11_saint, mX11_keeper, mX11_lonely, mX11_due, mX11_net, mX11_wedding, mX11_weddingSet, mX11_pardon, mX11_pardonSet]
noncomputable def mt5 : List MR := [mX11_pair, mX11_share, mX11_gracious, mX11_deepest, mX11_weight, mX11_mutual, mX11_chain, mX11_circle, mX11_bestSalt, mX11_live, mX11_lived, mX11_mean, mX11_mark, mX11_undo, mX11_answer, mX11_answerOrNone, mX11_refuse, mX11_grant, mX11_deny, mX11_isHouse]
noncomputable def mt6 : List MR := [mX11_isPerson, mX11_areTwoHouses, mX11_areTwoPersons, mX11_isWithin, mX11_troubleAt, mX12_init, mX12_plain, mX12_status, mX12_top, mX12_bottom, mX12_is, mX12_refuse, mX12_gives, mX12_orNone, mX12_isTray, mX12_tray, mX12_wrongPlace, mX12_write, mX12_read, mX12_pour]
noncomputable def mt7 : List MR := [mX12_isFrom, mX12_feed, mX12_four, mX12_byteAt, mX12_ahead, mX12_begins, mX12_fault, mX12_taken, mX12_land, mX12_tales, mX12_isHouse, mX12_isPerson, mX12_areTwo, mX12_sorrow, mX12_setOf, mX12_told, mX12_person, mX12_owed, mX12_heir, mX12_door]
noncomputable def mt8 : List MR := [mX12_labour, mX12_within, mX12_night0, mX12_night, mX12_die, mX12_forgive, mX12_forge, mX12_salt, mX12_keep, mX12_wall, mX12_move, mX12_way, mX12_aim, mX12_step, mX12_keeps, mX12_restores, mX12_walks, mX12_later, mX12_rest, mX12_quiet]
noncomputable def mt9 : List MR := [mX12_harvest, mX12_visitors, mX12_stays, mX12_must, mX12_reach, mX12_tours, mX12_meets, mX12_mostOf, mX12_counts, mX12_clears, mX12_crowd, mX12_busiest, mX12_exposed, mX12_wells, mX12_ways, mX12_heirs, mX12_loss, mX12_saint, mX12_keeper, mX12_lonely]
noncomputable def mt10 : List MR := [mX12_due, mX12_net, mX12_wedding, mX12_weddingSet, mX12_isPardon, mX12_pardon, mX12_pardonSet, mX12_pair, mX12_share, mX12_gracious, mX12_deepest, mX12_weight, mX12_mutual, mX12_chain, mX12_circle, mX12_bestSalt, mX12_live, mX12_lived, mX12_mean, mX12_copies]
noncomputable def mt11 : List MR := [mX12_mark, mX12_undo, mJ0_length_8abf5, mJ0_charAt_5068e, mJ0_coder_7d493, mJ0_isLatin1_aae02, mJ0_checkIndex_df160, mJ1_charAt_3b067, mJ7_fill_d0a16, mJ7_fill_53178, mJ3_checkIndex_8e157]
noncomputable def mtt : List (List MR) := [mt0, mt1, mt2, mt3, mt4, mt5, mt6, mt7, mt8, mt9, mt10, mt11]
noncomputable def mth (a b : Nat) : Option MR := ob (ax_nth mtt a) (fun r => ax_nth r b)
def sbs (x : Nat) : List Nat := match x with
  | 2 => [104, 111, 117, 115, 101, 32, 115, 97, 108, 116, 32, 100, 111, 111, 114, 32, 112, 101, 114, 115, 111, 110, 32, 105, 110, 32, 100, 101, 97, 100, 32, 100, 101, 97, 102, 32, 107, 101, 101, 112, 115, 32, 111, 119, 101, 115, 32, 104, 101, 105, 114, 32, 110, 105, 103, 104, 116, 32, 100, 105, 101, 32, 102, 111, 114, 103, 105, 118, 101, 32, 115, 119, 101, 101, 112, 32, 102, 111, 114, 103, 101, 32, 116, 111, 32, 97, 110, 121, 32, 119, 104, 101, 110, 32, 108, 97, 98, 111, 117, 114, 32, 114, 101, 115, 116, 32, 97, 116, 32, 108, 111, 111, 112, 32, 101, 110, 100, 32, 115, 116, 111, 112, 32]
  | _ => [32, 104, 111, 117, 115, 101, 32, 100, 111, 111, 114, 32, 112, 101, 114, 115, 111, 110, 32, 111, 119, 101, 115, 32, 104, 101, 105, 114, 32, 115, 97, 108, 116, 32, 105, 110, 32, 100, 101, 97, 100, 32, 100, 101, 97, 102, 32, 107, 101, 101, 112, 115, 32, 110, 105, 103, 104, 116, 32, 100, 105, 101, 32, 102, 111, 114, 103, 105, 118, 101, 32, 115, 119, 101, 101, 112, 32, 102, 111, 114, 103, 101, 32, 97, 110, 121, 32, 116, 111, 32, 119, 104, 101, 110, 32, 108, 111, 111, 112, 32, 101, 110, 100, 32, 115, 116, 111, 112, 32, 108, 97, 98, 111, 117, 114, 32, 114, 101, 115, 116, 32, 97, 116, 32]
end
section
set_option maxRecDepth 100000 in
theorem ok_X0_init : (tX0_init).all (eok mth mX0_init) = true := by decide +kernel
theorem cw_X0_init : (wdq 0 178 (.code mX0_init.1 mX0_init.2.1 mX0_init.2.2.1 mX0_init.2.2.2.1) && plainName mX0_init.1.cls) = true := by decide +kernel
set_option maxRecDepth 100000 in
theorem ok_X0_clear : (tX0_clear).all (eok mth mX0_clear) = true := by decide +kernel
theorem cw_X0_clear : (wdq 2 122 (.code mX0_clear.1 mX0_clear.2.1 mX0_clear.2.2.1 mX0_clear.2.2.2.1) && plainName mX0_clear.1.cls) = true := by decide +kernel
set_option maxRecDepth 100000 in
theorem ok_X0_copyFrom : (tX0_copyFrom).all (eok mth mX0_copyFrom) = true := by decide +kernel
theorem cw_X0_copyFrom : (wdq 3 55 (.code mX0_copyFrom.1 mX0_copyFrom.2.1 mX0_copyFrom.2.2.1 mX0_copyFrom.2.2.2.1) && plainName mX0_copyFrom.1.cls) = true := by decide +kernel
set_option maxRecDepth 100000 in
theorem ok_X0_of : (tX0_of).all (eok mth mX0_of) = true := by decide +kernel
theorem cw_X0_of : (wdq 3 194 (.code mX0_of.1 mX0_of.2.1 mX0_of.2.2.1 mX0_of.2.2.2.1) && plainName mX0_of.1.cls) = true := by decide +kernel
set_option maxRecDepth 100000 in
theorem ok_X0_sorrow : (tX0_sorrow).all (eok mth mX0_sorrow) = true := by decide +kernel
theorem cw_X0_sorrow : (wdq 3 166 (.code mX0_sorrow.1 mX0_sorrow.2.1 mX0_sorrow.2.2.1 mX0_sorrow.2.2.2.1) && plainName mX0_sorrow.1.cls) = true := by decide +kernel
set_option maxRecDepth 100000 in
theorem ok_X0_debtorsOf : (tX0_debtorsOf).all (eok mth mX0_debtorsOf) = true := by decide +kernel
theorem cw_X0_debtorsOf : (wdq 5 152 (.code mX0_debtorsOf.1 mX0_debtorsOf.2.1 mX0_debtorsOf.2.2.1 mX0_debtorsOf.2.2.2.1) && plainName mX0_debtorsOf.1.cls) = true := by decide +kernel
set_option maxRecDepth 100000 in
theorem ok_X1_init : (tX1_init).all (eok mth mX1_init) = true := by decide +kernel
theorem cw_X1_init : (wdq 0 139 (.code mX1_init.1 mX1_init.2.1 mX1_init.2.2.1 mX1_init.2.2.2.1) && plainName mX1_init.1.cls) = true := by decide +kernel
set_option maxRecDepth 100000 in
theorem ok_X1_clear : (tX1_clear).all (eok mth mX1_clear) = true := by decide +kernel
theorem cw_X1_clear : (wdq 2 111 (.code mX1_clear.1 mX1_clear.2.1 mX1_clear.2.2.1 mX1_clear.2.2.2.1) && plainName mX1_clear.1.cls) = true := by decide +kernel
set_option maxRecDepth 100000 in
theorem ok_X1_copyFrom : (tX1_copyFrom).all (eok mth mX1_copyFrom) = true := by decide +kernel
theorem cw_X1_copyFrom : (wdq 3 46 (.code mX1_copyFrom.1 mX1_copyFrom.2.1 mX1_copyFrom.2.2.1 mX1_copyFrom.2.2.2.1) && plainName mX1_copyFrom.1.cls) = true := by decide +kernel
set_option maxRecDepth 100000 in
theorem ok_X1_ghosts : (tX1_ghosts).all (eok mth mX1_ghosts) = true := by decide +kernel
theorem cw_X1_ghosts : (wdq 3 170 (.code mX1_ghosts.1 mX1_ghosts.2.1 mX1_ghosts.2.2.1 mX1_ghosts.2.2.2.1) && plainName mX1_ghosts.1.cls) = true := by decide +kernel
set_option maxRecDepth 100000 in
theorem ok_X1_ghostHouses : (tX1_ghostHouses).all (eok mth mX1_ghostHouses) = true := by decide +kernel
theorem cw_X1_ghostHouses : (wdq 4 147 (.code mX1_ghostHouses.1 mX1_ghostHouses.2.1 mX1_ghostHouses.2.2.1 mX1_ghostHouses.2.2.2.1) && plainName mX1_ghostHouses.1.cls) = true := by decide +kernel
set_option maxRecDepth 100000 in
theorem ok_X1_passNights : (tX1_passNights).all (eok mth mX1_passNights) = true := by decide +kernel
theorem cw_X1_passNights : (wdq 3 239 (.code mX1_passNights.1 mX1_passNights.2.1 mX1_passNights.2.2.1 mX1_passNights.2.2.2.1) && plainName mX1_passNights.1.cls) = true := by decide +kernel
set_option maxRecDepth 100000 in
theorem ok_X2_init : (tX2_init).all (eok mth mX2_init) = true := by decide +kernel
theorem cw_X2_init : (wdq 1 84 (.code mX2_init.1 mX2_init.2.1 mX2_init.2.2.1 mX2_init.2.2.2.1) && plainName mX2_init.1.cls) = true := by decide +kernel
set_option maxRecDepth 100000 in
theorem ok_X2_readAll : (tX2_readAll).all (eok mth mX2_readAll) = true := by decide +kernel
theorem cw_X2_readAll : (wdq 2 107 (.code mX2_readAll.1 mX2_readAll.2.1 mX2_readAll.2.2.1 mX2_readAll.2.2.2.1) && plainName mX2_readAll.1.cls) = true := by decide +kernel
set_option maxRecDepth 100000 in
theorem ok_X3_init : (tX3_init).all (eok mth mX3_init) = true := by decide +kernel
theorem cw_X3_init : (wdq 1 152 (.code mX3_init.1 mX3_init.2.1 mX3_init.2.2.1 mX3_init.2.2.2.1) && plainName mX3_init.1.cls) = true := by decide +kernel
set_option maxRecDepth 100000 in
theorem ok_X4_init : (tX4_init).all (eok mth mX4_init) = true := by decide +kernel
theorem cw_X4_init : (wdq 1 134 (.code mX4_init.1 mX4_init.2.1 mX4_init.2.2.1 mX4_init.2.2.2.1) && plainName mX4_init.1.cls) = true := by decide +kernel
set_option maxRecDepth 100000 in
theorem ok_X4_bestDeath : (tX4_bestDeath).all (eok mth mX4_bestDeath) = true := by decide +kernel
theorem cw_X4_bestDeath : (wdq 5 30 (.code mX4_bestDeath.1 mX4_bestDeath.2.1 mX4_bestDeath.2.2.1 mX4_bestDeath.2.2.2.1) && plainName mX4_bestDeath.1.cls) = true := by decide +kernel
set_option maxRecDepth 100000 in
theorem ok_X4_bestKeeper : (tX4_bestKeeper).all (eok mth mX4_bestKeeper) = true := by decide +kernel
theorem cw_X4_bestKeeper : (wdq 5 40 (.code mX4_bestKeeper.1 mX4_bestKeeper.2.1 mX4_bestKeeper.2.2.1 mX4_bestKeeper.2.2.2.1) && plainName mX4_bestKeeper.1.cls) = true := by decide +kernel
set_option maxRecDepth 100000 in
theorem ok_X4_deadCouple : (tX4_deadCouple).all (eok mth mX4_deadCouple) = true := by decide +kernel
theorem cw_X4_deadCouple : (wdq 5 109 (.code mX4_deadCouple.1 mX4_deadCouple.2.1 mX4_deadCouple.2.2.1 mX4_deadCouple.2.2.2.1) && plainName mX4_deadCouple.1.cls) = true := by decide +kernel
set_option maxRecDepth 100000 in
theorem ok_X4_longestRow : (tX4_longestRow).all (eok mth mX4_longestRow) = true := by decide +kernel
theorem cw_X4_longestRow : (wdq 5 148 (.code mX4_longestRow.1 mX4_longestRow.2.1 mX4_longestRow.2.2.1 mX4_longestRow.2.2.2.1) && plainName mX4_longestRow.1.cls) = true := by decide +kernel
set_option maxRecDepth 100000 in
theorem ok_X4_bestThreshold : (tX4_bestThreshold).all (eok mth mX4_bestThreshold) = true := by decide +kernel
theorem cw_X4_bestThreshold : (wdq 5 175 (.code mX4_bestThreshold.1 mX4_bestThreshold.2.1 mX4_bestThreshold.2.2.1 mX4_bestThreshold.2.2.2.1) && plainName mX4_bestThreshold.1.cls) = true := by decide +kernel
set_option maxRecDepth 100000 in
theorem ok_X5_init : (tX5_init).all (eok mth mX5_init) = true := by decide +kernel
theorem cw_X5_init : (wdq 0 145 (.code mX5_init.1 mX5_init.2.1 mX5_init.2.2.1 mX5_init.2.2.2.1) && plainName mX5_init.1.cls) = true := by decide +kernel
set_option maxRecDepth 100000 in
theorem ok_X5_clear : (tX5_clear).all (eok mth mX5_clear) = true := by decide +kernel
theorem cw_X5_clear : (wdq 2 115 (.code mX5_clear.1 mX5_clear.2.1 mX5_clear.2.2.1 mX5_clear.2.2.2.1) && plainName mX5_clear.1.cls) = true := by decide +kernel
set_option maxRecDepth 100000 in
theorem ok_X5_copyFrom : (tX5_copyFrom).all (eok mth mX5_copyFrom) = true := by decide +kernel
theorem cw_X5_copyFrom : (wdq 3 50 (.code mX5_copyFrom.1 mX5_copyFrom.2.1 mX5_copyFrom.2.2.1 mX5_copyFrom.2.2.2.1) && plainName mX5_copyFrom.1.cls) = true := by decide +kernel
set_option maxRecDepth 100000 in
theorem ok_X5_couples : (tX5_couples).all (eok mth mX5_couples) = true := by decide +kernel
theorem cw_X5_couples : (wdq 3 156 (.code mX5_couples.1 mX5_couples.2.1 mX5_couples.2.2.1 mX5_couples.2.2.2.1) && plainName mX5_couples.1.cls) = true := by decide +kernel
set_option maxRecDepth 100000 in
theorem ok_X5_around : (tX5_around).all (eok mth mX5_around) = true := by decide +kernel
theorem cw_X5_around : (wdq 3 34 (.code mX5_around.1 mX5_around.2.1 mX5_around.2.2.1 mX5_around.2.2.2.1) && plainName mX5_around.1.cls) = true := by decide +kernel
set_option maxRecDepth 100000 in
theorem ok_X5_spread : (tX5_spread).all (eok mth mX5_spread) = true := by decide +kernel
theorem cw_X5_spread : (wdq 4 186 (.code mX5_spread.1 mX5_spread.2.1 mX5_spread.2.2.1 mX5_spread.2.2.2.1) && plainName mX5_spread.1.cls) = true := by decide +kernel
set_option maxRecDepth 100000 in
theorem ok_X5_survey : (tX5_survey).all (eok mth mX5_survey) = true := by decide +kernel
theorem cw_X5_survey : (wdq 3 23 (.code mX5_survey.1 mX5_survey.2.1 mX5_survey.2.2.1 mX5_survey.2.2.2.1) && plainName mX5_survey.1.cls) = true := by decide +kernel
set_option maxRecDepth 100000 in
theorem ok_X6_init : (tX6_init).all (eok mth mX6_init) = true := by decide +kernel
theorem cw_X6_init : (wdq 1 119 (.code mX6_init.1 mX6_init.2.1 mX6_init.2.2.1 mX6_init.2.2.2.1) && plainName mX6_init.1.cls) = true := by decide +kernel
set_option maxRecDepth 100000 in
theorem ok_X6_fullestHouse : (tX6_fullestHouse).all (eok mth mX6_fullestHouse) = true := by decide +kernel
theorem cw_X6_fullestHouse : (wdq 4 216 (.code mX6_fullestHouse.1 mX6_fullestHouse.2.1 mX6_fullestHouse.2.2.1 mX6_fullestHouse.2.2.2.1) && plainName mX6_fullestHouse.1.cls) = true := by decide +kernel
set_option maxRecDepth 100000 in
theorem ok_X6_countVisits : (tX6_countVisits).all (eok mth mX6_countVisits) = true := by decide +kernel
theorem cw_X6_countVisits : (wdq 4 221 (.code mX6_countVisits.1 mX6_countVisits.2.1 mX6_countVisits.2.2.1 mX6_countVisits.2.2.2.1) && plainName mX6_countVisits.1.cls) = true := by decide +kernel
set_option maxRecDepth 100000 in
theorem ok_X7_init : (tX7_init).all (eok mth mX7_init) = true := by decide +kernel
theorem cw_X7_init : (wdq 1 41 (.code mX7_init.1 mX7_init.2.1 mX7_init.2.2.1 mX7_init.2.2.2.1) && plainName mX7_init.1.cls) = true := by decide +kernel
set_option maxRecDepth 100000 in
theorem ok_X7_clear : (tX7_clear).all (eok mth mX7_clear) = true := by decide +kernel
theorem cw_X7_clear : (wdq 3 61 (.code mX7_clear.1 mX7_clear.2.1 mX7_clear.2.2.1 mX7_clear.2.2.2.1) && plainName mX7_clear.1.cls) = true := by decide +kernel
set_option maxRecDepth 100000 in
theorem ok_X7_copyFrom : (tX7_copyFrom).all (eok mth mX7_copyFrom) = true := by decide +kernel
theorem cw_X7_copyFrom : (wdq 3 143 (.code mX7_copyFrom.1 mX7_copyFrom.2.1 mX7_copyFrom.2.2.1 mX7_copyFrom.2.2.2.1) && plainName mX7_copyFrom.1.cls) = true := by decide +kernel
set_option maxRecDepth 100000 in
theorem ok_X8_init : (tX8_init).all (eok mth mX8_init) = true := by decide +kernel
theorem cw_X8_init : (wdq 1 97 (.code mX8_init.1 mX8_init.2.1 mX8_init.2.2.1 mX8_init.2.2.2.1) && plainName mX8_init.1.cls) = true := by decide +kernel
set_option maxRecDepth 100000 in
theorem ok_X8_readAll : (tX8_readAll).all (eok mth mX8_readAll) = true := by decide +kernel
theorem cw_X8_readAll : (wdq 3 73 (.code mX8_readAll.1 mX8_readAll.2.1 mX8_readAll.2.2.1 mX8_readAll.2.2.2.1) && plainName mX8_readAll.1.cls) = true := by decide +kernel
set_option maxRecDepth 100000 in
theorem ok_X9_init : (tX9_init).all (eok mth mX9_init) = true := by decide +kernel
theorem cw_X9_init : (wdq 0 36 (.code mX9_init.1 mX9_init.2.1 mX9_init.2.2.1 mX9_init.2.2.2.1) && plainName mX9_init.1.cls) = true := by decide +kernel
set_option maxRecDepth 100000 in
theorem ok_X9_put : (tX9_put).all (eok mth mX9_put) = true := by decide +kernel
theorem cw_X9_put : (wdq 2 99 (.code mX9_put.1 mX9_put.2.1 mX9_put.2.2.1 mX9_put.2.2.2.1) && plainName mX9_put.1.cls) = true := by decide +kernel
set_option maxRecDepth 100000 in
theorem ok_X9_begin : (tX9_begin).all (eok mth mX9_begin) = true := by decide +kernel
theorem cw_X9_begin : (wdq 2 128 (.code mX9_begin.1 mX9_begin.2.1 mX9_begin.2.2.1 mX9_begin.2.2.2.1) && plainName mX9_begin.1.cls) = true := by decide +kernel
set_option maxRecDepth 100000 in
theorem ok_X9_advance : (tX9_advance).all (eok mth mX9_advance) = true := by decide +kernel
theorem cw_X9_advance : (wdq 2 135 (.code mX9_advance.1 mX9_advance.2.1 mX9_advance.2.2.1 mX9_advance.2.2.2.1) && plainName mX9_advance.1.cls) = true := by decide +kernel
set_option maxRecDepth 100000 in
theorem ok_X9_goesOn : (tX9_goesOn).all (eok mth mX9_goesOn) = true := by decide +kernel
theorem cw_X9_goesOn : (wdq 2 159 (.code mX9_goesOn.1 mX9_goesOn.2.1 mX9_goesOn.2.2.1 mX9_goesOn.2.2.2.1) && plainName mX9_goesOn.1.cls) = true := by decide +kernel
set_option maxRecDepth 100000 in
theorem ok_X10_init : (tX10_init).all (eok mth mX10_init) = true := by decide +kernel
theorem cw_X10_init : (wdq 1 194 (.code mX10_init.1 mX10_init.2.1 mX10_init.2.2.1 mX10_init.2.2.2.1) && plainName mX10_init.1.cls) = true := by decide +kernel
set_option maxRecDepth 100000 in
theorem ok_X10_lay : (tX10_lay).all (eok mth mX10_lay) = true := by decide +kernel
theorem cw_X10_lay : (wdq 2 53 (.code mX10_lay.1 mX10_lay.2.1 mX10_lay.2.2.1 mX10_lay.2.2.2.1) && plainName mX10_lay.1.cls) = true := by decide +kernel
set_option maxRecDepth 100000 in
theorem ok_X11_init : (tX11_init).all (eok mth mX11_init) = true := by decide +kernel
theorem cw_X11_init : (wdq 0 26 (.code mX11_init.1 mX11_init.2.1 mX11_init.2.2.1 mX11_init.2.2.2.1) && plainName mX11_init.1.cls) = true := by decide +kernel
set_option maxRecDepth 100000 in
theorem ok_X11_status : (tX11_status).all (eok mth mX11_status) = true := by decide +kernel
theorem cw_X11_status : (wdq 2 30 (.code mX11_status.1 mX11_status.2.1 mX11_status.2.2.1 mX11_status.2.2.2.1) && plainName mX11_status.1.cls) = true := by decide +kernel
set_option maxRecDepth 100000 in
theorem ok_X11_top : (tX11_top).all (eok mth mX11_top) = true := by decide +kernel
theorem cw_X11_top : (wdq 2 34 (.code mX11_top.1 mX11_top.2.1 mX11_top.2.2.1 mX11_top.2.2.2.1) && plainName mX11_top.1.cls) = true := by decide +kernel
set_option maxRecDepth 100000 in
theorem ok_X11_bottom : (tX11_bottom).all (eok mth mX11_bottom) = true := by decide +kernel
theorem cw_X11_bottom : (wdq 2 38 (.code mX11_bottom.1 mX11_bottom.2.1 mX11_bottom.2.2.1 mX11_bottom.2.2.2.1) && plainName mX11_bottom.1.cls) = true := by decide +kernel
set_option maxRecDepth 100000 in
theorem ok_X11_tray : (tX11_tray).all (eok mth mX11_tray) = true := by decide +kernel
theorem cw_X11_tray : (wdq 2 42 (.code mX11_tray.1 mX11_tray.2.1 mX11_tray.2.2.1 mX11_tray.2.2.2.1) && plainName mX11_tray.1.cls) = true := by decide +kernel
set_option maxRecDepth 100000 in
theorem ok_X11_write : (tX11_write).all (eok mth mX11_write) = true := by decide +kernel
theorem cw_X11_write : (wdq 2 64 (.code mX11_write.1 mX11_write.2.1 mX11_write.2.2.1 mX11_write.2.2.2.1) && plainName mX11_write.1.cls) = true := by decide +kernel
set_option maxRecDepth 100000 in
theorem ok_X11_read : (tX11_read).all (eok mth mX11_read) = true := by decide +kernel
theorem cw_X11_read : (wdq 2 80 (.code mX11_read.1 mX11_read.2.1 mX11_read.2.2.1 mX11_read.2.2.2.1) && plainName mX11_read.1.cls) = true := by decide +kernel
set_option maxRecDepth 100000 in
theorem ok_X11_pour : (tX11_pour).all (eok mth mX11_pour) = true := by decide +kernel
theorem cw_X11_pour : (wdq 2 88 (.code mX11_pour.1 mX11_pour.2.1 mX11_pour.2.2.1 mX11_pour.2.2.2.1) && plainName mX11_pour.1.cls) = true := by decide +kernel
set_option maxRecDepth 100000 in
theorem ok_X11_feed : (tX11_feed).all (eok mth mX11_feed) = true := by decide +kernel
theorem cw_X11_feed : (wdq 2 95 (.code mX11_feed.1 mX11_feed.2.1 mX11_feed.2.2.1 mX11_feed.2.2.2.1) && plainName mX11_feed.1.cls) = true := by decide +kernel
set_option maxRecDepth 100000 in
theorem ok_X11_land : (tX11_land).all (eok mth mX11_land) = true := by decide +kernel
theorem cw_X11_land : (wdq 2 103 (.code mX11_land.1 mX11_land.2.1 mX11_land.2.2.1 mX11_land.2.2.2.1) && plainName mX11_land.1.cls) = true := by decide +kernel
set_option maxRecDepth 100000 in
theorem ok_X11_tales : (tX11_tales).all (eok mth mX11_tales) = true := by decide +kernel
theorem cw_X11_tales : (wdq 3 69 (.code mX11_tales.1 mX11_tales.2.1 mX11_tales.2.2.1 mX11_tales.2.2.2.1) && plainName mX11_tales.1.cls) = true := by decide +kernel
set_option maxRecDepth 100000 in
theorem ok_X11_fault : (tX11_fault).all (eok mth mX11_fault) = true := by decide +kernel
theorem cw_X11_fault : (wdq 3 148 (.code mX11_fault.1 mX11_fault.2.1 mX11_fault.2.2.1 mX11_fault.2.2.2.1) && plainName mX11_fault.1.cls) = true := by decide +kernel
set_option maxRecDepth 100000 in
theorem ok_X11_told : (tX11_told).all (eok mth mX11_told) = true := by decide +kernel
theorem cw_X11_told : (wdq 3 152 (.code mX11_told.1 mX11_told.2.1 mX11_told.2.2.1 mX11_told.2.2.2.1) && plainName mX11_told.1.cls) = true := by decide +kernel
set_option maxRecDepth 100000 in
theorem ok_X11_person : (tX11_person).all (eok mth mX11_person) = true := by decide +kernel
theorem cw_X11_person : (wdq 3 179 (.code mX11_person.1 mX11_person.2.1 mX11_person.2.2.1 mX11_person.2.2.2.1) && plainName mX11_person.1.cls) = true := by decide +kernel
set_option maxRecDepth 100000 in
theorem ok_X11_owed : (tX11_owed).all (eok mth mX11_owed) = true := by decide +kernel
theorem cw_X11_owed : (wdq 3 198 (.code mX11_owed.1 mX11_owed.2.1 mX11_owed.2.2.1 mX11_owed.2.2.2.1) && plainName mX11_owed.1.cls) = true := by decide +kernel
set_option maxRecDepth 100000 in
theorem ok_X11_heir : (tX11_heir).all (eok mth mX11_heir) = true := by decide +kernel
theorem cw_X11_heir : (wdq 3 207 (.code mX11_heir.1 mX11_heir.2.1 mX11_heir.2.2.1 mX11_heir.2.2.2.1) && plainName mX11_heir.1.cls) = true := by decide +kernel
set_option maxRecDepth 100000 in
theorem ok_X11_door : (tX11_door).all (eok mth mX11_door) = true := by decide +kernel
theorem cw_X11_door : (wdq 3 211 (.code mX11_door.1 mX11_door.2.1 mX11_door.2.2.1 mX11_door.2.2.2.1) && plainName mX11_door.1.cls) = true := by decide +kernel
set_option maxRecDepth 100000 in
theorem ok_X11_labour : (tX11_labour).all (eok mth mX11_labour) = true := by decide +kernel
theorem cw_X11_labour : (wdq 3 223 (.code mX11_labour.1 mX11_labour.2.1 mX11_labour.2.2.1 mX11_labour.2.2.2.1) && plainName mX11_labour.1.cls) = true := by decide +kernel
set_option maxRecDepth 100000 in
theorem ok_X11_within : (tX11_within).all (eok mth mX11_within) = true := by decide +kernel
theorem cw_X11_within : (wdq 3 227 (.code mX11_within.1 mX11_within.2.1 mX11_within.2.2.1 mX11_within.2.2.2.1) && plainName mX11_within.1.cls) = true := by decide +kernel
set_option maxRecDepth 100000 in
theorem ok_X11_night : (tX11_night).all (eok mth mX11_night) = true := by decide +kernel
theorem cw_X11_night : (wdq 3 235 (.code mX11_night.1 mX11_night.2.1 mX11_night.2.2.1 mX11_night.2.2.2.1) && plainName mX11_night.1.cls) = true := by decide +kernel
set_option maxRecDepth 100000 in
theorem ok_X11_die : (tX11_die).all (eok mth mX11_die) = true := by decide +kernel
theorem cw_X11_die : (wdq 4 22 (.code mX11_die.1 mX11_die.2.1 mX11_die.2.2.1 mX11_die.2.2.2.1) && plainName mX11_die.1.cls) = true := by decide +kernel
set_option maxRecDepth 100000 in
theorem ok_X11_forgive : (tX11_forgive).all (eok mth mX11_forgive) = true := by decide +kernel
theorem cw_X11_forgive : (wdq 4 48 (.code mX11_forgive.1 mX11_forgive.2.1 mX11_forgive.2.2.1 mX11_forgive.2.2.2.1) && plainName mX11_forgive.1.cls) = true := by decide +kernel
set_option maxRecDepth 100000 in
theorem ok_X11_forge : (tX11_forge).all (eok mth mX11_forge) = true := by decide +kernel
theorem cw_X11_forge : (wdq 4 60 (.code mX11_forge.1 mX11_forge.2.1 mX11_forge.2.2.1 mX11_forge.2.2.2.1) && plainName mX11_forge.1.cls) = true := by decide +kernel
set_option maxRecDepth 100000 in
theorem ok_X11_salt : (tX11_salt).all (eok mth mX11_salt) = true := by decide +kernel
theorem cw_X11_salt : (wdq 4 68 (.code mX11_salt.1 mX11_salt.2.1 mX11_salt.2.2.1 mX11_salt.2.2.2.1) && plainName mX11_salt.1.cls) = true := by decide +kernel
set_option maxRecDepth 100000 in
theorem ok_X11_keep : (tX11_keep).all (eok mth mX11_keep) = true := by decide +kernel
theorem cw_X11_keep : (wdq 4 77 (.code mX11_keep.1 mX11_keep.2.1 mX11_keep.2.2.1 mX11_keep.2.2.2.1) && plainName mX11_keep.1.cls) = true := by decide +kernel
set_option maxRecDepth 100000 in
theorem ok_X11_wall : (tX11_wall).all (eok mth mX11_wall) = true := by decide +kernel
theorem cw_X11_wall : (wdq 4 82 (.code mX11_wall.1 mX11_wall.2.1 mX11_wall.2.2.1 mX11_wall.2.2.2.1) && plainName mX11_wall.1.cls) = true := by decide +kernel
set_option maxRecDepth 100000 in
theorem ok_X11_move : (tX11_move).all (eok mth mX11_move) = true := by decide +kernel
theorem cw_X11_move : (wdq 4 88 (.code mX11_move.1 mX11_move.2.1 mX11_move.2.2.1 mX11_move.2.2.2.1) && plainName mX11_move.1.cls) = true := by decide +kernel
set_option maxRecDepth 100000 in
theorem ok_X11_way : (tX11_way).all (eok mth mX11_way) = true := by decide +kernel
theorem cw_X11_way : (wdq 4 93 (.code mX11_way.1 mX11_way.2.1 mX11_way.2.2.1 mX11_way.2.2.2.1) && plainName mX11_way.1.cls) = true := by decide +kernel
set_option maxRecDepth 100000 in
theorem ok_X11_aim : (tX11_aim).all (eok mth mX11_aim) = true := by decide +kernel
theorem cw_X11_aim : (wdq 4 102 (.code mX11_aim.1 mX11_aim.2.1 mX11_aim.2.2.1 mX11_aim.2.2.2.1) && plainName mX11_aim.1.cls) = true := by decide +kernel
set_option maxRecDepth 100000 in
theorem ok_X11_step : (tX11_step).all (eok mth mX11_step) = true := by decide +kernel
theorem cw_X11_step : (wdq 4 108 (.code mX11_step.1 mX11_step.2.1 mX11_step.2.2.1 mX11_step.2.2.2.1) && plainName mX11_step.1.cls) = true := by decide +kernel
set_option maxRecDepth 100000 in
theorem ok_X11_walks : (tX11_walks).all (eok mth mX11_walks) = true := by decide +kernel
theorem cw_X11_walks : (wdq 4 116 (.code mX11_walks.1 mX11_walks.2.1 mX11_walks.2.2.1 mX11_walks.2.2.2.1) && plainName mX11_walks.1.cls) = true := by decide +kernel
set_option maxRecDepth 100000 in
theorem ok_X11_later : (tX11_later).all (eok mth mX11_later) = true := by decide +kernel
theorem cw_X11_later : (wdq 4 126 (.code mX11_later.1 mX11_later.2.1 mX11_later.2.2.1 mX11_later.2.2.2.1) && plainName mX11_later.1.cls) = true := by decide +kernel
set_option maxRecDepth 100000 in
theorem ok_X11_rest : (tX11_rest).all (eok mth mX11_rest) = true := by decide +kernel
theorem cw_X11_rest : (wdq 4 130 (.code mX11_rest.1 mX11_rest.2.1 mX11_rest.2.2.1 mX11_rest.2.2.2.1) && plainName mX11_rest.1.cls) = true := by decide +kernel
set_option maxRecDepth 100000 in
theorem ok_X11_quiet : (tX11_quiet).all (eok mth mX11_quiet) = true := by decide +kernel
theorem cw_X11_quiet : (wdq 4 139 (.code mX11_quiet.1 mX11_quiet.2.1 mX11_quiet.2.2.1 mX11_quiet.2.2.2.1) && plainName mX11_quiet.1.cls) = true := by decide +kernel
set_option maxRecDepth 100000 in
theorem ok_X11_harvest : (tX11_harvest).all (eok mth mX11_harvest) = true := by decide +kernel
theorem cw_X11_harvest : (wdq 4 152 (.code mX11_harvest.1 mX11_harvest.2.1 mX11_harvest.2.2.1 mX11_harvest.2.2.2.1) && plainName mX11_harvest.1.cls) = true := by decide +kernel
set_option maxRecDepth 100000 in
theorem ok_X11_visitors : (tX11_visitors).all (eok mth mX11_visitors) = true := by decide +kernel
theorem cw_X11_visitors : (wdq 4 160 (.code mX11_visitors.1 mX11_visitors.2.1 mX11_visitors.2.2.1 mX11_visitors.2.2.2.1) && plainName mX11_visitors.1.cls) = true := by decide +kernel
set_option maxRecDepth 100000 in
theorem ok_X11_stays : (tX11_stays).all (eok mth mX11_stays) = true := by decide +kernel
theorem cw_X11_stays : (wdq 4 170 (.code mX11_stays.1 mX11_stays.2.1 mX11_stays.2.2.1 mX11_stays.2.2.2.1) && plainName mX11_stays.1.cls) = true := by decide +kernel
set_option maxRecDepth 100000 in
theorem ok_X11_must : (tX11_must).all (eok mth mX11_must) = true := by decide +kernel
theorem cw_X11_must : (wdq 4 178 (.code mX11_must.1 mX11_must.2.1 mX11_must.2.2.1 mX11_must.2.2.2.1) && plainName mX11_must.1.cls) = true := by decide +kernel
set_option maxRecDepth 100000 in
theorem ok_X11_reach : (tX11_reach).all (eok mth mX11_reach) = true := by decide +kernel
theorem cw_X11_reach : (wdq 4 190 (.code mX11_reach.1 mX11_reach.2.1 mX11_reach.2.2.1 mX11_reach.2.2.2.1) && plainName mX11_reach.1.cls) = true := by decide +kernel
set_option maxRecDepth 100000 in
theorem ok_X11_tours : (tX11_tours).all (eok mth mX11_tours) = true := by decide +kernel
theorem cw_X11_tours : (wdq 4 195 (.code mX11_tours.1 mX11_tours.2.1 mX11_tours.2.2.1 mX11_tours.2.2.2.1) && plainName mX11_tours.1.cls) = true := by decide +kernel
set_option maxRecDepth 100000 in
theorem ok_X11_meets : (tX11_meets).all (eok mth mX11_meets) = true := by decide +kernel
theorem cw_X11_meets : (wdq 4 204 (.code mX11_meets.1 mX11_meets.2.1 mX11_meets.2.2.1 mX11_meets.2.2.2.1) && plainName mX11_meets.1.cls) = true := by decide +kernel
set_option maxRecDepth 100000 in
theorem ok_X11_crowd : (tX11_crowd).all (eok mth mX11_crowd) = true := by decide +kernel
theorem cw_X11_crowd : (wdq 4 212 (.code mX11_crowd.1 mX11_crowd.2.1 mX11_crowd.2.2.1 mX11_crowd.2.2.2.1) && plainName mX11_crowd.1.cls) = true := by decide +kernel
set_option maxRecDepth 100000 in
theorem ok_X11_busiest : (tX11_busiest).all (eok mth mX11_busiest) = true := by decide +kernel
theorem cw_X11_busiest : (wdq 4 225 (.code mX11_busiest.1 mX11_busiest.2.1 mX11_busiest.2.2.1 mX11_busiest.2.2.2.1) && plainName mX11_busiest.1.cls) = true := by decide +kernel
set_option maxRecDepth 100000 in
theorem ok_X11_exposed : (tX11_exposed).all (eok mth mX11_exposed) = true := by decide +kernel
theorem cw_X11_exposed : (wdq 4 229 (.code mX11_exposed.1 mX11_exposed.2.1 mX11_exposed.2.2.1 mX11_exposed.2.2.2.1) && plainName mX11_exposed.1.cls) = true := by decide +kernel
set_option maxRecDepth 100000 in
theorem ok_X11_wells : (tX11_wells).all (eok mth mX11_wells) = true := by decide +kernel
theorem cw_X11_wells : (wdq 4 234 (.code mX11_wells.1 mX11_wells.2.1 mX11_wells.2.2.1 mX11_wells.2.2.2.1) && plainName mX11_wells.1.cls) = true := by decide +kernel
set_option maxRecDepth 100000 in
theorem ok_X11_ways : (tX11_ways).all (eok mth mX11_ways) = true := by decide +kernel
theorem cw_X11_ways : (wdq 4 238 (.code mX11_ways.1 mX11_ways.2.1 mX11_ways.2.2.1 mX11_ways.2.2.2.1) && plainName mX11_ways.1.cls) = true := by decide +kernel
set_option maxRecDepth 100000 in
theorem ok_X11_heirs : (tX11_heirs).all (eok mth mX11_heirs) = true := by decide +kernel
theorem cw_X11_heirs : (wdq 5 10 (.code mX11_heirs.1 mX11_heirs.2.1 mX11_heirs.2.2.1 mX11_heirs.2.2.2.1) && plainName mX11_heirs.1.cls) = true := by decide +kernel
set_option maxRecDepth 100000 in
theorem ok_X11_loss : (tX11_loss).all (eok mth mX11_loss) = true := by decide +kernel
theorem cw_X11_loss : (wdq 5 15 (.code mX11_loss.1 mX11_loss.2.1 mX11_loss.2.2.1 mX11_loss.2.2.2.1) && plainName mX11_loss.1.cls) = true := by decide +kernel
set_option maxRecDepth 100000 in
theorem ok_X11_saint : (tX11_saint).all (eok mth mX11_saint) = true := by decide +kernel
theorem cw_X11_saint : (wdq 5 26 (.code mX11_saint.1 mX11_saint.2.1 mX11_saint.2.2.1 mX11_saint.2.2.2.1) && plainName mX11_saint.1.cls) = true := by decide +kernel
set_option maxRecDepth 100000 in
theorem ok_X11_keeper : (tX11_keeper).all (eok mth mX11_keeper) = true := by decide +kernel
theorem cw_X11_keeper : (wdq 5 36 (.code mX11_keeper.1 mX11_keeper.2.1 mX11_keeper.2.2.1 mX11_keeper.2.2.2.1) && plainName mX11_keeper.1.cls) = true := by decide +kernel
set_option maxRecDepth 100000 in
theorem ok_X11_lonely : (tX11_lonely).all (eok mth mX11_lonely) = true := by decide +kernel
theorem cw_X11_lonely : (wdq 5 50 (.code mX11_lonely.1 mX11_lonely.2.1 mX11_lonely.2.2.1 mX11_lonely.2.2.2.1) && plainName mX11_lonely.1.cls) = true := by decide +kernel
set_option maxRecDepth 100000 in
theorem ok_X11_due : (tX11_due).all (eok mth mX11_due) = true := by decide +kernel
theorem cw_X11_due : (wdq 5 54 (.code mX11_due.1 mX11_due.2.1 mX11_due.2.2.1 mX11_due.2.2.2.1) && plainName mX11_due.1.cls) = true := by decide +kernel
set_option maxRecDepth 100000 in
theorem ok_X11_net : (tX11_net).all (eok mth mX11_net) = true := by decide +kernel
theorem cw_X11_net : (wdq 5 58 (.code mX11_net.1 mX11_net.2.1 mX11_net.2.2.1 mX11_net.2.2.2.1) && plainName mX11_net.1.cls) = true := by decide +kernel
set_option maxRecDepth 100000 in
theorem ok_X11_wedding : (tX11_wedding).all (eok mth mX11_wedding) = true := by decide +kernel
theorem cw_X11_wedding : (wdq 5 62 (.code mX11_wedding.1 mX11_wedding.2.1 mX11_wedding.2.2.1 mX11_wedding.2.2.2.1) && plainName mX11_wedding.1.cls) = true := by decide +kernel
set_option maxRecDepth 100000 in
theorem ok_X11_weddingSet : (tX11_weddingSet).all (eok mth mX11_weddingSet) = true := by decide +kernel
theorem cw_X11_weddingSet : (wdq 5 77 (.code mX11_weddingSet.1 mX11_weddingSet.2.1 mX11_weddingSet.2.2.1 mX11_weddingSet.2.2.2.1) && plainName mX11_weddingSet.1.cls) = true := by decide +kernel
set_option maxRecDepth 100000 in
theorem ok_X11_pardon : (tX11_pardon).all (eok mth mX11_pardon) = true := by decide +kernel
theorem cw_X11_pardon : (wdq 5 81 (.code mX11_pardon.1 mX11_pardon.2.1 mX11_pardon.2.2.1 mX11_pardon.2.2.2.1) && plainName mX11_pardon.1.cls) = true := by decide +kernel
set_option maxRecDepth 100000 in
theorem ok_X11_pardonSet : (tX11_pardonSet).all (eok mth mX11_pardonSet) = true := by decide +kernel
theorem cw_X11_pardonSet : (wdq 5 101 (.code mX11_pardonSet.1 mX11_pardonSet.2.1 mX11_pardonSet.2.2.1 mX11_pardonSet.2.2.2.1) && plainName mX11_pardonSet.1.cls) = true := by decide +kernel
set_option maxRecDepth 100000 in
theorem ok_X11_pair : (tX11_pair).all (eok mth mX11_pair) = true := by decide +kernel
theorem cw_X11_pair : (wdq 5 105 (.code mX11_pair.1 mX11_pair.2.1 mX11_pair.2.2.1 mX11_pair.2.2.2.1) && plainName mX11_pair.1.cls) = true := by decide +kernel
set_option maxRecDepth 100000 in
theorem ok_X11_share : (tX11_share).all (eok mth mX11_share) = true := by decide +kernel
theorem cw_X11_share : (wdq 5 118 (.code mX11_share.1 mX11_share.2.1 mX11_share.2.2.1 mX11_share.2.2.2.1) && plainName mX11_share.1.cls) = true := by decide +kernel
set_option maxRecDepth 100000 in
theorem ok_X11_gracious : (tX11_gracious).all (eok mth mX11_gracious) = true := by decide +kernel
theorem cw_X11_gracious : (wdq 5 123 (.code mX11_gracious.1 mX11_gracious.2.1 mX11_gracious.2.2.1 mX11_gracious.2.2.2.1) && plainName mX11_gracious.1.cls) = true := by decide +kernel
set_option maxRecDepth 100000 in
theorem ok_X11_deepest : (tX11_deepest).all (eok mth mX11_deepest) = true := by decide +kernel
theorem cw_X11_deepest : (wdq 5 127 (.code mX11_deepest.1 mX11_deepest.2.1 mX11_deepest.2.2.1 mX11_deepest.2.2.2.1) && plainName mX11_deepest.1.cls) = true := by decide +kernel
set_option maxRecDepth 100000 in
theorem ok_X11_weight : (tX11_weight).all (eok mth mX11_weight) = true := by decide +kernel
theorem cw_X11_weight : (wdq 5 131 (.code mX11_weight.1 mX11_weight.2.1 mX11_weight.2.2.1 mX11_weight.2.2.2.1) && plainName mX11_weight.1.cls) = true := by decide +kernel
set_option maxRecDepth 100000 in
theorem ok_X11_mutual : (tX11_mutual).all (eok mth mX11_mutual) = true := by decide +kernel
theorem cw_X11_mutual : (wdq 5 139 (.code mX11_mutual.1 mX11_mutual.2.1 mX11_mutual.2.2.1 mX11_mutual.2.2.2.1) && plainName mX11_mutual.1.cls) = true := by decide +kernel
set_option maxRecDepth 100000 in
theorem ok_X11_chain : (tX11_chain).all (eok mth mX11_chain) = true := by decide +kernel
theorem cw_X11_chain : (wdq 5 144 (.code mX11_chain.1 mX11_chain.2.1 mX11_chain.2.2.1 mX11_chain.2.2.2.1) && plainName mX11_chain.1.cls) = true := by decide +kernel
set_option maxRecDepth 100000 in
theorem ok_X11_circle : (tX11_circle).all (eok mth mX11_circle) = true := by decide +kernel
theorem cw_X11_circle : (wdq 5 160 (.code mX11_circle.1 mX11_circle.2.1 mX11_circle.2.2.1 mX11_circle.2.2.2.1) && plainName mX11_circle.1.cls) = true := by decide +kernel
set_option maxRecDepth 100000 in
theorem ok_X11_bestSalt : (tX11_bestSalt).all (eok mth mX11_bestSalt) = true := by decide +kernel
theorem cw_X11_bestSalt : (wdq 5 171 (.code mX11_bestSalt.1 mX11_bestSalt.2.1 mX11_bestSalt.2.2.1 mX11_bestSalt.2.2.2.1) && plainName mX11_bestSalt.1.cls) = true := by decide +kernel
set_option maxRecDepth 100000 in
theorem ok_X11_live : (tX11_live).all (eok mth mX11_live) = true := by decide +kernel
theorem cw_X11_live : (wdq 5 188 (.code mX11_live.1 mX11_live.2.1 mX11_live.2.2.1 mX11_live.2.2.2.1) && plainName mX11_live.1.cls) = true := by decide +kernel
set_option maxRecDepth 100000 in
theorem ok_X11_lived : (tX11_lived).all (eok mth mX11_lived) = true := by decide +kernel
theorem cw_X11_lived : (wdq 5 228 (.code mX11_lived.1 mX11_lived.2.1 mX11_lived.2.2.1 mX11_lived.2.2.2.1) && plainName mX11_lived.1.cls) = true := by decide +kernel
set_option maxRecDepth 100000 in
theorem ok_X11_mean : (tX11_mean).all (eok mth mX11_mean) = true := by decide +kernel
theorem cw_X11_mean : (wdq 5 232 (.code mX11_mean.1 mX11_mean.2.1 mX11_mean.2.2.1 mX11_mean.2.2.2.1) && plainName mX11_mean.1.cls) = true := by decide +kernel
set_option maxRecDepth 100000 in
theorem ok_X11_mark : (tX11_mark).all (eok mth mX11_mark) = true := by decide +kernel
theorem cw_X11_mark : (wdq 5 236 (.code mX11_mark.1 mX11_mark.2.1 mX11_mark.2.2.1 mX11_mark.2.2.2.1) && plainName mX11_mark.1.cls) = true := by decide +kernel
set_option maxRecDepth 100000 in
theorem ok_X11_undo : (tX11_undo).all (eok mth mX11_undo) = true := by decide +kernel
theorem cw_X11_undo : (wdq 6 0 (.code mX11_undo.1 mX11_undo.2.1 mX11_undo.2.2.1 mX11_undo.2.2.2.1) && plainName mX11_undo.1.cls) = true := by decide +kernel
set_option maxRecDepth 100000 in
theorem ok_X11_answer : (tX11_answer).all (eok mth mX11_answer) = true := by decide +kernel
theorem cw_X11_answer : (wdq 3 65 (.code mX11_answer.1 mX11_answer.2.1 mX11_answer.2.2.1 mX11_answer.2.2.2.1) && plainName mX11_answer.1.cls) = true := by decide +kernel
set_option maxRecDepth 100000 in
theorem ok_X11_answerOrNone : (tX11_answerOrNone).all (eok mth mX11_answerOrNone) = true := by decide +kernel
theorem cw_X11_answerOrNone : (wdq 4 98 (.code mX11_answerOrNone.1 mX11_answerOrNone.2.1 mX11_answerOrNone.2.2.1 mX11_answerOrNone.2.2.2.1) && plainName mX11_answerOrNone.1.cls) = true := by decide +kernel
set_option maxRecDepth 100000 in
theorem ok_X11_refuse : (tX11_refuse).all (eok mth mX11_refuse) = true := by decide +kernel
theorem cw_X11_refuse : (wdq 2 84 (.code mX11_refuse.1 mX11_refuse.2.1 mX11_refuse.2.2.1 mX11_refuse.2.2.2.1) && plainName mX11_refuse.1.cls) = true := by decide +kernel
set_option maxRecDepth 100000 in
theorem ok_X11_grant : (tX11_grant).all (eok mth mX11_grant) = true := by decide +kernel
theorem cw_X11_grant : (wdq 2 60 (.code mX11_grant.1 mX11_grant.2.1 mX11_grant.2.2.1 mX11_grant.2.2.2.1) && plainName mX11_grant.1.cls) = true := by decide +kernel
set_option maxRecDepth 100000 in
theorem ok_X11_deny : (tX11_deny).all (eok mth mX11_deny) = true := by decide +kernel
theorem cw_X11_deny : (wdq 2 49 (.code mX11_deny.1 mX11_deny.2.1 mX11_deny.2.2.1 mX11_deny.2.2.2.1) && plainName mX11_deny.1.cls) = true := by decide +kernel
set_option maxRecDepth 100000 in
theorem ok_X11_isHouse : (tX11_isHouse).all (eok mth mX11_isHouse) = true := by decide +kernel
theorem cw_X11_isHouse : (wdq 3 219 (.code mX11_isHouse.1 mX11_isHouse.2.1 mX11_isHouse.2.2.1 mX11_isHouse.2.2.2.1) && plainName mX11_isHouse.1.cls) = true := by decide +kernel
set_option maxRecDepth 100000 in
theorem ok_X11_isPerson : (tX11_isPerson).all (eok mth mX11_isPerson) = true := by decide +kernel
theorem cw_X11_isPerson : (wdq 3 183 (.code mX11_isPerson.1 mX11_isPerson.2.1 mX11_isPerson.2.2.1 mX11_isPerson.2.2.2.1) && plainName mX11_isPerson.1.cls) = true := by decide +kernel
set_option maxRecDepth 100000 in
theorem ok_X11_areTwoHouses : (tX11_areTwoHouses).all (eok mth mX11_areTwoHouses) = true := by decide +kernel
theorem cw_X11_areTwoHouses : (wdq 3 215 (.code mX11_areTwoHouses.1 mX11_areTwoHouses.2.1 mX11_areTwoHouses.2.2.1 mX11_areTwoHouses.2.2.2.1) && plainName mX11_areTwoHouses.1.cls) = true := by decide +kernel
set_option maxRecDepth 100000 in
theorem ok_X11_areTwoPersons : (tX11_areTwoPersons).all (eok mth mX11_areTwoPersons) = true := by decide +kernel
theorem cw_X11_areTwoPersons : (wdq 3 202 (.code mX11_areTwoPersons.1 mX11_areTwoPersons.2.1 mX11_areTwoPersons.2.2.1 mX11_areTwoPersons.2.2.2.1) && plainName mX11_areTwoPersons.1.cls) = true := by decide +kernel
set_option maxRecDepth 100000 in
theorem ok_X11_isWithin : (tX11_isWithin).all (eok mth mX11_isWithin) = true := by decide +kernel
theorem cw_X11_isWithin : (wdq 2 45 (.code mX11_isWithin.1 mX11_isWithin.2.1 mX11_isWithin.2.2.1 mX11_isWithin.2.2.2.1) && plainName mX11_isWithin.1.cls) = true := by decide +kernel
set_option maxRecDepth 100000 in
theorem ok_X11_troubleAt : (tX11_troubleAt).all (eok mth mX11_troubleAt) = true := by decide +kernel
theorem cw_X11_troubleAt : (wdq 2 68 (.code mX11_troubleAt.1 mX11_troubleAt.2.1 mX11_troubleAt.2.2.1 mX11_troubleAt.2.2.2.1) && plainName mX11_troubleAt.1.cls) = true := by decide +kernel
set_option maxRecDepth 100000 in
theorem ok_X12_init : (tX12_init).all (eok mth mX12_init) = true := by decide +kernel
theorem cw_X12_init : (wdq 6 5 (.code mX12_init.1 mX12_init.2.1 mX12_init.2.2.1 mX12_init.2.2.2.1) && plainName mX12_init.1.cls) = true := by decide +kernel
set_option maxRecDepth 100000 in
theorem ok_X12_plain : (tX12_plain).all (eok mth mX12_plain) = true := by decide +kernel
theorem cw_X12_plain : (wdq 6 10 (.code mX12_plain.1 mX12_plain.2.1 mX12_plain.2.2.1 mX12_plain.2.2.2.1) && plainName mX12_plain.1.cls) = true := by decide +kernel
set_option maxRecDepth 100000 in
theorem ok_X12_status : (tX12_status).all (eok mth mX12_status) = true := by decide +kernel
theorem cw_X12_status : (wdq 6 117 (.code mX12_status.1 mX12_status.2.1 mX12_status.2.2.1 mX12_status.2.2.2.1) && plainName mX12_status.1.cls) = true := by decide +kernel
set_option maxRecDepth 100000 in
theorem ok_X12_top : (tX12_top).all (eok mth mX12_top) = true := by decide +kernel
theorem cw_X12_top : (wdq 6 121 (.code mX12_top.1 mX12_top.2.1 mX12_top.2.2.1 mX12_top.2.2.2.1) && plainName mX12_top.1.cls) = true := by decide +kernel
set_option maxRecDepth 100000 in
theorem ok_X12_bottom : (tX12_bottom).all (eok mth mX12_bottom) = true := by decide +kernel
theorem cw_X12_bottom : (wdq 6 125 (.code mX12_bottom.1 mX12_bottom.2.1 mX12_bottom.2.2.1 mX12_bottom.2.2.2.1) && plainName mX12_bottom.1.cls) = true := by decide +kernel
set_option maxRecDepth 100000 in
theorem ok_X12_is : (tX12_is).all (eok mth mX12_is) = true := by decide +kernel
theorem cw_X12_is : (wdq 6 136 (.code mX12_is.1 mX12_is.2.1 mX12_is.2.2.1 mX12_is.2.2.2.1) && plainName mX12_is.1.cls) = true := by decide +kernel
set_option maxRecDepth 100000 in
theorem ok_X12_refuse : (tX12_refuse).all (eok mth mX12_refuse) = true := by decide +kernel
theorem cw_X12_refuse : (wdq 6 196 (.code mX12_refuse.1 mX12_refuse.2.1 mX12_refuse.2.2.1 mX12_refuse.2.2.2.1) && plainName mX12_refuse.1.cls) = true := by decide +kernel
set_option maxRecDepth 100000 in
theorem ok_X12_gives : (tX12_gives).all (eok mth mX12_gives) = true := by decide +kernel
theorem cw_X12_gives : (wdq 7 43 (.code mX12_gives.1 mX12_gives.2.1 mX12_gives.2.2.1 mX12_gives.2.2.2.1) && plainName mX12_gives.1.cls) = true := by decide +kernel
set_option maxRecDepth 100000 in
theorem ok_X12_orNone : (tX12_orNone).all (eok mth mX12_orNone) = true := by decide +kernel
theorem cw_X12_orNone : (wdq 8 25 (.code mX12_orNone.1 mX12_orNone.2.1 mX12_orNone.2.2.1 mX12_orNone.2.2.2.1) && plainName mX12_orNone.1.cls) = true := by decide +kernel
set_option maxRecDepth 100000 in
theorem ok_X12_isTray : (tX12_isTray).all (eok mth mX12_isTray) = true := by decide +kernel
theorem cw_X12_isTray : (wdq 6 132 (.code mX12_isTray.1 mX12_isTray.2.1 mX12_isTray.2.2.1 mX12_isTray.2.2.2.1) && plainName mX12_isTray.1.cls) = true := by decide +kernel
set_option maxRecDepth 100000 in
theorem ok_X12_tray : (tX12_tray).all (eok mth mX12_tray) = true := by decide +kernel
theorem cw_X12_tray : (wdq 6 129 (.code mX12_tray.1 mX12_tray.2.1 mX12_tray.2.2.1 mX12_tray.2.2.2.1) && plainName mX12_tray.1.cls) = true := by decide +kernel
set_option maxRecDepth 100000 in
theorem ok_X12_wrongPlace : (tX12_wrongPlace).all (eok mth mX12_wrongPlace) = true := by decide +kernel
theorem cw_X12_wrongPlace : (wdq 6 144 (.code mX12_wrongPlace.1 mX12_wrongPlace.2.1 mX12_wrongPlace.2.2.1 mX12_wrongPlace.2.2.2.1) && plainName mX12_wrongPlace.1.cls) = true := by decide +kernel
set_option maxRecDepth 100000 in
theorem ok_X12_write : (tX12_write).all (eok mth mX12_write) = true := by decide +kernel
theorem cw_X12_write : (wdq 6 140 (.code mX12_write.1 mX12_write.2.1 mX12_write.2.2.1 mX12_write.2.2.2.1) && plainName mX12_write.1.cls) = true := by decide +kernel
set_option maxRecDepth 100000 in
theorem ok_X12_read : (tX12_read).all (eok mth mX12_read) = true := by decide +kernel
theorem cw_X12_read : (wdq 6 151 (.code mX12_read.1 mX12_read.2.1 mX12_read.2.2.1 mX12_read.2.2.2.1) && plainName mX12_read.1.cls) = true := by decide +kernel
set_option maxRecDepth 100000 in
theorem ok_X12_pour : (tX12_pour).all (eok mth mX12_pour) = true := by decide +kernel
theorem cw_X12_pour : (wdq 6 156 (.code mX12_pour.1 mX12_pour.2.1 mX12_pour.2.2.1 mX12_pour.2.2.2.1) && plainName mX12_pour.1.cls) = true := by decide +kernel
set_option maxRecDepth 100000 in
theorem ok_X12_isFrom : (tX12_isFrom).all (eok mth mX12_isFrom) = true := by decide +kernel
theorem cw_X12_isFrom : (wdq 7 172 (.code mX12_isFrom.1 mX12_isFrom.2.1 mX12_isFrom.2.2.1 mX12_isFrom.2.2.2.1) && plainName mX12_isFrom.1.cls) = true := by decide +kernel
set_option maxRecDepth 100000 in
theorem ok_X12_feed : (tX12_feed).all (eok mth mX12_feed) = true := by decide +kernel
theorem cw_X12_feed : (wdq 6 160 (.code mX12_feed.1 mX12_feed.2.1 mX12_feed.2.2.1 mX12_feed.2.2.2.1) && plainName mX12_feed.1.cls) = true := by decide +kernel
set_option maxRecDepth 100000 in
theorem ok_X12_four : (tX12_four).all (eok mth mX12_four) = true := by decide +kernel
theorem cw_X12_four : (wdq 6 164 (.code mX12_four.1 mX12_four.2.1 mX12_four.2.2.1 mX12_four.2.2.2.1) && plainName mX12_four.1.cls) = true := by decide +kernel
set_option maxRecDepth 100000 in
theorem ok_X12_byteAt : (tX12_byteAt).all (eok mth mX12_byteAt) = true := by decide +kernel
theorem cw_X12_byteAt : (wdq 6 184 (.code mX12_byteAt.1 mX12_byteAt.2.1 mX12_byteAt.2.2.1 mX12_byteAt.2.2.2.1) && plainName mX12_byteAt.1.cls) = true := by decide +kernel
set_option maxRecDepth 100000 in
theorem ok_X12_ahead : (tX12_ahead).all (eok mth mX12_ahead) = true := by decide +kernel
theorem cw_X12_ahead : (wdq 6 180 (.code mX12_ahead.1 mX12_ahead.2.1 mX12_ahead.2.2.1 mX12_ahead.2.2.2.1) && plainName mX12_ahead.1.cls) = true := by decide +kernel
set_option maxRecDepth 100000 in
theorem ok_X12_begins : (tX12_begins).all (eok mth mX12_begins) = true := by decide +kernel
theorem cw_X12_begins : (wdq 6 176 (.code mX12_begins.1 mX12_begins.2.1 mX12_begins.2.2.1 mX12_begins.2.2.2.1) && plainName mX12_begins.1.cls) = true := by decide +kernel
set_option maxRecDepth 100000 in
theorem ok_X12_fault : (tX12_fault).all (eok mth mX12_fault) = true := by decide +kernel
theorem cw_X12_fault : (wdq 6 168 (.code mX12_fault.1 mX12_fault.2.1 mX12_fault.2.2.1 mX12_fault.2.2.2.1) && plainName mX12_fault.1.cls) = true := by decide +kernel
set_option maxRecDepth 100000 in
theorem ok_X12_taken : (tX12_taken).all (eok mth mX12_taken) = true := by decide +kernel
theorem cw_X12_taken : (wdq 7 39 (.code mX12_taken.1 mX12_taken.2.1 mX12_taken.2.2.1 mX12_taken.2.2.2.1) && plainName mX12_taken.1.cls) = true := by decide +kernel
set_option maxRecDepth 100000 in
theorem ok_X12_land : (tX12_land).all (eok mth mX12_land) = true := by decide +kernel
theorem cw_X12_land : (wdq 6 172 (.code mX12_land.1 mX12_land.2.1 mX12_land.2.2.1 mX12_land.2.2.2.1) && plainName mX12_land.1.cls) = true := by decide +kernel
set_option maxRecDepth 100000 in
theorem ok_X12_tales : (tX12_tales).all (eok mth mX12_tales) = true := by decide +kernel
theorem cw_X12_tales : (wdq 7 47 (.code mX12_tales.1 mX12_tales.2.1 mX12_tales.2.2.1 mX12_tales.2.2.2.1) && plainName mX12_tales.1.cls) = true := by decide +kernel
set_option maxRecDepth 100000 in
theorem ok_X12_isHouse : (tX12_isHouse).all (eok mth mX12_isHouse) = true := by decide +kernel
theorem cw_X12_isHouse : (wdq 7 140 (.code mX12_isHouse.1 mX12_isHouse.2.1 mX12_isHouse.2.2.1 mX12_isHouse.2.2.2.1) && plainName mX12_isHouse.1.cls) = true := by decide +kernel
set_option maxRecDepth 100000 in
theorem ok_X12_isPerson : (tX12_isPerson).all (eok mth mX12_isPerson) = true := by decide +kernel
theorem cw_X12_isPerson : (wdq 7 116 (.code mX12_isPerson.1 mX12_isPerson.2.1 mX12_isPerson.2.2.1 mX12_isPerson.2.2.2.1) && plainName mX12_isPerson.1.cls) = true := by decide +kernel
set_option maxRecDepth 100000 in
theorem ok_X12_areTwo : (tX12_areTwo).all (eok mth mX12_areTwo) = true := by decide +kernel
theorem cw_X12_areTwo : (wdq 7 128 (.code mX12_areTwo.1 mX12_areTwo.2.1 mX12_areTwo.2.2.1 mX12_areTwo.2.2.2.1) && plainName mX12_areTwo.1.cls) = true := by decide +kernel
set_option maxRecDepth 100000 in
theorem ok_X12_sorrow : (tX12_sorrow).all (eok mth mX12_sorrow) = true := by decide +kernel
theorem cw_X12_sorrow : (wdq 7 81 (.code mX12_sorrow.1 mX12_sorrow.2.1 mX12_sorrow.2.2.1 mX12_sorrow.2.2.2.1) && plainName mX12_sorrow.1.cls) = true := by decide +kernel
set_option maxRecDepth 100000 in
theorem ok_X12_setOf : (tX12_setOf).all (eok mth mX12_setOf) = true := by decide +kernel
theorem cw_X12_setOf : (wdq 7 97 (.code mX12_setOf.1 mX12_setOf.2.1 mX12_setOf.2.2.1 mX12_setOf.2.2.2.1) && plainName mX12_setOf.1.cls) = true := by decide +kernel
set_option maxRecDepth 100000 in
theorem ok_X12_told : (tX12_told).all (eok mth mX12_told) = true := by decide +kernel
theorem cw_X12_told : (wdq 7 71 (.code mX12_told.1 mX12_told.2.1 mX12_told.2.2.1 mX12_told.2.2.2.1) && plainName mX12_told.1.cls) = true := by decide +kernel
set_option maxRecDepth 100000 in
theorem ok_X12_person : (tX12_person).all (eok mth mX12_person) = true := by decide +kernel
theorem cw_X12_person : (wdq 7 112 (.code mX12_person.1 mX12_person.2.1 mX12_person.2.2.1 mX12_person.2.2.2.1) && plainName mX12_person.1.cls) = true := by decide +kernel
set_option maxRecDepth 100000 in
theorem ok_X12_owed : (tX12_owed).all (eok mth mX12_owed) = true := by decide +kernel
theorem cw_X12_owed : (wdq 7 124 (.code mX12_owed.1 mX12_owed.2.1 mX12_owed.2.2.1 mX12_owed.2.2.2.1) && plainName mX12_owed.1.cls) = true := by decide +kernel
set_option maxRecDepth 100000 in
theorem ok_X12_heir : (tX12_heir).all (eok mth mX12_heir) = true := by decide +kernel
theorem cw_X12_heir : (wdq 7 132 (.code mX12_heir.1 mX12_heir.2.1 mX12_heir.2.2.1 mX12_heir.2.2.2.1) && plainName mX12_heir.1.cls) = true := by decide +kernel
set_option maxRecDepth 100000 in
theorem ok_X12_door : (tX12_door).all (eok mth mX12_door) = true := by decide +kernel
theorem cw_X12_door : (wdq 7 136 (.code mX12_door.1 mX12_door.2.1 mX12_door.2.2.1 mX12_door.2.2.2.1) && plainName mX12_door.1.cls) = true := by decide +kernel
set_option maxRecDepth 100000 in
theorem ok_X12_labour : (tX12_labour).all (eok mth mX12_labour) = true := by decide +kernel
theorem cw_X12_labour : (wdq 7 152 (.code mX12_labour.1 mX12_labour.2.1 mX12_labour.2.2.1 mX12_labour.2.2.2.1) && plainName mX12_labour.1.cls) = true := by decide +kernel
set_option maxRecDepth 100000 in
theorem ok_X12_within : (tX12_within).all (eok mth mX12_within) = true := by decide +kernel
theorem cw_X12_within : (wdq 7 156 (.code mX12_within.1 mX12_within.2.1 mX12_within.2.2.1 mX12_within.2.2.2.1) && plainName mX12_within.1.cls) = true := by decide +kernel
set_option maxRecDepth 100000 in
theorem ok_X12_night0 : (tX12_night0).all (eok mth mX12_night0) = true := by decide +kernel
theorem cw_X12_night0 : (wdq 7 176 (.code mX12_night0.1 mX12_night0.2.1 mX12_night0.2.2.1 mX12_night0.2.2.2.1) && plainName mX12_night0.1.cls) = true := by decide +kernel
set_option maxRecDepth 100000 in
theorem ok_X12_night : (tX12_night).all (eok mth mX12_night) = true := by decide +kernel
theorem cw_X12_night : (wdq 7 168 (.code mX12_night.1 mX12_night.2.1 mX12_night.2.2.1 mX12_night.2.2.2.1) && plainName mX12_night.1.cls) = true := by decide +kernel
set_option maxRecDepth 100000 in
theorem ok_X12_die : (tX12_die).all (eok mth mX12_die) = true := by decide +kernel
theorem cw_X12_die : (wdq 7 201 (.code mX12_die.1 mX12_die.2.1 mX12_die.2.2.1 mX12_die.2.2.2.1) && plainName mX12_die.1.cls) = true := by decide +kernel
set_option maxRecDepth 100000 in
theorem ok_X12_forgive : (tX12_forgive).all (eok mth mX12_forgive) = true := by decide +kernel
theorem cw_X12_forgive : (wdq 7 221 (.code mX12_forgive.1 mX12_forgive.2.1 mX12_forgive.2.2.1 mX12_forgive.2.2.2.1) && plainName mX12_forgive.1.cls) = true := by decide +kernel
set_option maxRecDepth 100000 in
theorem ok_X12_forge : (tX12_forge).all (eok mth mX12_forge) = true := by decide +kernel
theorem cw_X12_forge : (wdq 7 229 (.code mX12_forge.1 mX12_forge.2.1 mX12_forge.2.2.1 mX12_forge.2.2.2.1) && plainName mX12_forge.1.cls) = true := by decide +kernel
set_option maxRecDepth 100000 in
theorem ok_X12_salt : (tX12_salt).all (eok mth mX12_salt) = true := by decide +kernel
theorem cw_X12_salt : (wdq 7 237 (.code mX12_salt.1 mX12_salt.2.1 mX12_salt.2.2.1 mX12_salt.2.2.2.1) && plainName mX12_salt.1.cls) = true := by decide +kernel
set_option maxRecDepth 100000 in
theorem ok_X12_keep : (tX12_keep).all (eok mth mX12_keep) = true := by decide +kernel
theorem cw_X12_keep : (wdq 8 5 (.code mX12_keep.1 mX12_keep.2.1 mX12_keep.2.2.1 mX12_keep.2.2.2.1) && plainName mX12_keep.1.cls) = true := by decide +kernel
set_option maxRecDepth 100000 in
theorem ok_X12_wall : (tX12_wall).all (eok mth mX12_wall) = true := by decide +kernel
theorem cw_X12_wall : (wdq 8 9 (.code mX12_wall.1 mX12_wall.2.1 mX12_wall.2.2.1 mX12_wall.2.2.2.1) && plainName mX12_wall.1.cls) = true := by decide +kernel
set_option maxRecDepth 100000 in
theorem ok_X12_move : (tX12_move).all (eok mth mX12_move) = true := by decide +kernel
theorem cw_X12_move : (wdq 8 13 (.code mX12_move.1 mX12_move.2.1 mX12_move.2.2.1 mX12_move.2.2.2.1) && plainName mX12_move.1.cls) = true := by decide +kernel
set_option maxRecDepth 100000 in
theorem ok_X12_way : (tX12_way).all (eok mth mX12_way) = true := by decide +kernel
theorem cw_X12_way : (wdq 8 17 (.code mX12_way.1 mX12_way.2.1 mX12_way.2.2.1 mX12_way.2.2.2.1) && plainName mX12_way.1.cls) = true := by decide +kernel
set_option maxRecDepth 100000 in
theorem ok_X12_aim : (tX12_aim).all (eok mth mX12_aim) = true := by decide +kernel
theorem cw_X12_aim : (wdq 8 21 (.code mX12_aim.1 mX12_aim.2.1 mX12_aim.2.2.1 mX12_aim.2.2.2.1) && plainName mX12_aim.1.cls) = true := by decide +kernel
set_option maxRecDepth 100000 in
theorem ok_X12_step : (tX12_step).all (eok mth mX12_step) = true := by decide +kernel
theorem cw_X12_step : (wdq 8 29 (.code mX12_step.1 mX12_step.2.1 mX12_step.2.2.1 mX12_step.2.2.2.1) && plainName mX12_step.1.cls) = true := by decide +kernel
set_option maxRecDepth 100000 in
theorem ok_X12_keeps : (tX12_keeps).all (eok mth mX12_keeps) = true := by decide +kernel
theorem cw_X12_keeps : (wdq 8 46 (.code mX12_keeps.1 mX12_keeps.2.1 mX12_keeps.2.2.1 mX12_keeps.2.2.2.1) && plainName mX12_keeps.1.cls) = true := by decide +kernel
set_option maxRecDepth 100000 in
theorem ok_X12_restores : (tX12_restores).all (eok mth mX12_restores) = true := by decide +kernel
theorem cw_X12_restores : (wdq 8 54 (.code mX12_restores.1 mX12_restores.2.1 mX12_restores.2.2.1 mX12_restores.2.2.2.1) && plainName mX12_restores.1.cls) = true := by decide +kernel
set_option maxRecDepth 100000 in
theorem ok_X12_walks : (tX12_walks).all (eok mth mX12_walks) = true := by decide +kernel
theorem cw_X12_walks : (wdq 8 37 (.code mX12_walks.1 mX12_walks.2.1 mX12_walks.2.2.1 mX12_walks.2.2.2.1) && plainName mX12_walks.1.cls) = true := by decide +kernel
set_option maxRecDepth 100000 in
theorem ok_X12_later : (tX12_later).all (eok mth mX12_later) = true := by decide +kernel
theorem cw_X12_later : (wdq 8 58 (.code mX12_later.1 mX12_later.2.1 mX12_later.2.2.1 mX12_later.2.2.2.1) && plainName mX12_later.1.cls) = true := by decide +kernel
set_option maxRecDepth 100000 in
theorem ok_X12_rest : (tX12_rest).all (eok mth mX12_rest) = true := by decide +kernel
theorem cw_X12_rest : (wdq 8 62 (.code mX12_rest.1 mX12_rest.2.1 mX12_rest.2.2.1 mX12_rest.2.2.2.1) && plainName mX12_rest.1.cls) = true := by decide +kernel
set_option maxRecDepth 100000 in
theorem ok_X12_quiet : (tX12_quiet).all (eok mth mX12_quiet) = true := by decide +kernel
theorem cw_X12_quiet : (wdq 8 74 (.code mX12_quiet.1 mX12_quiet.2.1 mX12_quiet.2.2.1 mX12_quiet.2.2.2.1) && plainName mX12_quiet.1.cls) = true := by decide +kernel
set_option maxRecDepth 100000 in
theorem ok_X12_harvest : (tX12_harvest).all (eok mth mX12_harvest) = true := by decide +kernel
theorem cw_X12_harvest : (wdq 8 78 (.code mX12_harvest.1 mX12_harvest.2.1 mX12_harvest.2.2.1 mX12_harvest.2.2.2.1) && plainName mX12_harvest.1.cls) = true := by decide +kernel
set_option maxRecDepth 100000 in
theorem ok_X12_visitors : (tX12_visitors).all (eok mth mX12_visitors) = true := by decide +kernel
theorem cw_X12_visitors : (wdq 8 83 (.code mX12_visitors.1 mX12_visitors.2.1 mX12_visitors.2.2.1 mX12_visitors.2.2.2.1) && plainName mX12_visitors.1.cls) = true := by decide +kernel
set_option maxRecDepth 100000 in
theorem ok_X12_stays : (tX12_stays).all (eok mth mX12_stays) = true := by decide +kernel
theorem cw_X12_stays : (wdq 8 87 (.code mX12_stays.1 mX12_stays.2.1 mX12_stays.2.2.1 mX12_stays.2.2.2.1) && plainName mX12_stays.1.cls) = true := by decide +kernel
set_option maxRecDepth 100000 in
theorem ok_X12_must : (tX12_must).all (eok mth mX12_must) = true := by decide +kernel
theorem cw_X12_must : (wdq 8 91 (.code mX12_must.1 mX12_must.2.1 mX12_must.2.2.1 mX12_must.2.2.2.1) && plainName mX12_must.1.cls) = true := by decide +kernel
set_option maxRecDepth 100000 in
theorem ok_X12_reach : (tX12_reach).all (eok mth mX12_reach) = true := by decide +kernel
theorem cw_X12_reach : (wdq 8 95 (.code mX12_reach.1 mX12_reach.2.1 mX12_reach.2.2.1 mX12_reach.2.2.2.1) && plainName mX12_reach.1.cls) = true := by decide +kernel
set_option maxRecDepth 100000 in
theorem ok_X12_tours : (tX12_tours).all (eok mth mX12_tours) = true := by decide +kernel
theorem cw_X12_tours : (wdq 8 99 (.code mX12_tours.1 mX12_tours.2.1 mX12_tours.2.2.1 mX12_tours.2.2.2.1) && plainName mX12_tours.1.cls) = true := by decide +kernel
set_option maxRecDepth 100000 in
theorem ok_X12_meets : (tX12_meets).all (eok mth mX12_meets) = true := by decide +kernel
theorem cw_X12_meets : (wdq 8 103 (.code mX12_meets.1 mX12_meets.2.1 mX12_meets.2.2.1 mX12_meets.2.2.2.1) && plainName mX12_meets.1.cls) = true := by decide +kernel
set_option maxRecDepth 100000 in
theorem ok_X12_mostOf : (tX12_mostOf).all (eok mth mX12_mostOf) = true := by decide +kernel
theorem cw_X12_mostOf : (wdq 8 119 (.code mX12_mostOf.1 mX12_mostOf.2.1 mX12_mostOf.2.2.1 mX12_mostOf.2.2.2.1) && plainName mX12_mostOf.1.cls) = true := by decide +kernel
set_option maxRecDepth 100000 in
theorem ok_X12_counts : (tX12_counts).all (eok mth mX12_counts) = true := by decide +kernel
theorem cw_X12_counts : (wdq 8 115 (.code mX12_counts.1 mX12_counts.2.1 mX12_counts.2.2.1 mX12_counts.2.2.2.1) && plainName mX12_counts.1.cls) = true := by decide +kernel
set_option maxRecDepth 100000 in
theorem ok_X12_clears : (tX12_clears).all (eok mth mX12_clears) = true := by decide +kernel
theorem cw_X12_clears : (wdq 8 111 (.code mX12_clears.1 mX12_clears.2.1 mX12_clears.2.2.1 mX12_clears.2.2.2.1) && plainName mX12_clears.1.cls) = true := by decide +kernel
set_option maxRecDepth 100000 in
theorem ok_X12_crowd : (tX12_crowd).all (eok mth mX12_crowd) = true := by decide +kernel
theorem cw_X12_crowd : (wdq 8 107 (.code mX12_crowd.1 mX12_crowd.2.1 mX12_crowd.2.2.1 mX12_crowd.2.2.2.1) && plainName mX12_crowd.1.cls) = true := by decide +kernel
set_option maxRecDepth 100000 in
theorem ok_X12_busiest : (tX12_busiest).all (eok mth mX12_busiest) = true := by decide +kernel
theorem cw_X12_busiest : (wdq 8 123 (.code mX12_busiest.1 mX12_busiest.2.1 mX12_busiest.2.2.1 mX12_busiest.2.2.2.1) && plainName mX12_busiest.1.cls) = true := by decide +kernel
set_option maxRecDepth 100000 in
theorem ok_X12_exposed : (tX12_exposed).all (eok mth mX12_exposed) = true := by decide +kernel
theorem cw_X12_exposed : (wdq 8 127 (.code mX12_exposed.1 mX12_exposed.2.1 mX12_exposed.2.2.1 mX12_exposed.2.2.2.1) && plainName mX12_exposed.1.cls) = true := by decide +kernel
set_option maxRecDepth 100000 in
theorem ok_X12_wells : (tX12_wells).all (eok mth mX12_wells) = true := by decide +kernel
theorem cw_X12_wells : (wdq 8 131 (.code mX12_wells.1 mX12_wells.2.1 mX12_wells.2.2.1 mX12_wells.2.2.2.1) && plainName mX12_wells.1.cls) = true := by decide +kernel
set_option maxRecDepth 100000 in
theorem ok_X12_ways : (tX12_ways).all (eok mth mX12_ways) = true := by decide +kernel
theorem cw_X12_ways : (wdq 8 135 (.code mX12_ways.1 mX12_ways.2.1 mX12_ways.2.2.1 mX12_ways.2.2.2.1) && plainName mX12_ways.1.cls) = true := by decide +kernel
set_option maxRecDepth 100000 in
theorem ok_X12_heirs : (tX12_heirs).all (eok mth mX12_heirs) = true := by decide +kernel
theorem cw_X12_heirs : (wdq 8 139 (.code mX12_heirs.1 mX12_heirs.2.1 mX12_heirs.2.2.1 mX12_heirs.2.2.2.1) && plainName mX12_heirs.1.cls) = true := by decide +kernel
set_option maxRecDepth 100000 in
theorem ok_X12_loss : (tX12_loss).all (eok mth mX12_loss) = true := by decide +kernel
theorem cw_X12_loss : (wdq 8 143 (.code mX12_loss.1 mX12_loss.2.1 mX12_loss.2.2.1 mX12_loss.2.2.2.1) && plainName mX12_loss.1.cls) = true := by decide +kernel
set_option maxRecDepth 100000 in
theorem ok_X12_saint : (tX12_saint).all (eok mth mX12_saint) = true := by decide +kernel
theorem cw_X12_saint : (wdq 8 151 (.code mX12_saint.1 mX12_saint.2.1 mX12_saint.2.2.1 mX12_saint.2.2.2.1) && plainName mX12_saint.1.cls) = true := by decide +kernel
set_option maxRecDepth 100000 in
theorem ok_X12_keeper : (tX12_keeper).all (eok mth mX12_keeper) = true := by decide +kernel
theorem cw_X12_keeper : (wdq 8 155 (.code mX12_keeper.1 mX12_keeper.2.1 mX12_keeper.2.2.1 mX12_keeper.2.2.2.1) && plainName mX12_keeper.1.cls) = true := by decide +kernel
set_option maxRecDepth 100000 in
theorem ok_X12_lonely : (tX12_lonely).all (eok mth mX12_lonely) = true := by decide +kernel
theorem cw_X12_lonely : (wdq 8 163 (.code mX12_lonely.1 mX12_lonely.2.1 mX12_lonely.2.2.1 mX12_lonely.2.2.2.1) && plainName mX12_lonely.1.cls) = true := by decide +kernel
set_option maxRecDepth 100000 in
theorem ok_X12_due : (tX12_due).all (eok mth mX12_due) = true := by decide +kernel
theorem cw_X12_due : (wdq 8 167 (.code mX12_due.1 mX12_due.2.1 mX12_due.2.2.1 mX12_due.2.2.2.1) && plainName mX12_due.1.cls) = true := by decide +kernel
set_option maxRecDepth 100000 in
theorem ok_X12_net : (tX12_net).all (eok mth mX12_net) = true := by decide +kernel
theorem cw_X12_net : (wdq 8 171 (.code mX12_net.1 mX12_net.2.1 mX12_net.2.2.1 mX12_net.2.2.2.1) && plainName mX12_net.1.cls) = true := by decide +kernel
set_option maxRecDepth 100000 in
theorem ok_X12_wedding : (tX12_wedding).all (eok mth mX12_wedding) = true := by decide +kernel
theorem cw_X12_wedding : (wdq 8 175 (.code mX12_wedding.1 mX12_wedding.2.1 mX12_wedding.2.2.1 mX12_wedding.2.2.2.1) && plainName mX12_wedding.1.cls) = true := by decide +kernel
set_option maxRecDepth 100000 in
theorem ok_X12_weddingSet : (tX12_weddingSet).all (eok mth mX12_weddingSet) = true := by decide +kernel
theorem cw_X12_weddingSet : (wdq 8 187 (.code mX12_weddingSet.1 mX12_weddingSet.2.1 mX12_weddingSet.2.2.1 mX12_weddingSet.2.2.2.1) && plainName mX12_weddingSet.1.cls) = true := by decide +kernel
set_option maxRecDepth 100000 in
theorem ok_X12_isPardon : (tX12_isPardon).all (eok mth mX12_isPardon) = true := by decide +kernel
theorem cw_X12_isPardon : (wdq 8 195 (.code mX12_isPardon.1 mX12_isPardon.2.1 mX12_isPardon.2.2.1 mX12_isPardon.2.2.2.1) && plainName mX12_isPardon.1.cls) = true := by decide +kernel
set_option maxRecDepth 100000 in
theorem ok_X12_pardon : (tX12_pardon).all (eok mth mX12_pardon) = true := by decide +kernel
theorem cw_X12_pardon : (wdq 8 191 (.code mX12_pardon.1 mX12_pardon.2.1 mX12_pardon.2.2.1 mX12_pardon.2.2.2.1) && plainName mX12_pardon.1.cls) = true := by decide +kernel
set_option maxRecDepth 100000 in
theorem ok_X12_pardonSet : (tX12_pardonSet).all (eok mth mX12_pardonSet) = true := by decide +kernel
theorem cw_X12_pardonSet : (wdq 8 204 (.code mX12_pardonSet.1 mX12_pardonSet.2.1 mX12_pardonSet.2.2.1 mX12_pardonSet.2.2.2.1) && plainName mX12_pardonSet.1.cls) = true := by decide +kernel
set_option maxRecDepth 100000 in
theorem ok_X12_pair : (tX12_pair).all (eok mth mX12_pair) = true := by decide +kernel
theorem cw_X12_pair : (wdq 8 208 (.code mX12_pair.1 mX12_pair.2.1 mX12_pair.2.2.1 mX12_pair.2.2.2.1) && plainName mX12_pair.1.cls) = true := by decide +kernel
set_option maxRecDepth 100000 in
theorem ok_X12_share : (tX12_share).all (eok mth mX12_share) = true := by decide +kernel
theorem cw_X12_share : (wdq 8 216 (.code mX12_share.1 mX12_share.2.1 mX12_share.2.2.1 mX12_share.2.2.2.1) && plainName mX12_share.1.cls) = true := by decide +kernel
set_option maxRecDepth 100000 in
theorem ok_X12_gracious : (tX12_gracious).all (eok mth mX12_gracious) = true := by decide +kernel
theorem cw_X12_gracious : (wdq 8 220 (.code mX12_gracious.1 mX12_gracious.2.1 mX12_gracious.2.2.1 mX12_gracious.2.2.2.1) && plainName mX12_gracious.1.cls) = true := by decide +kernel
set_option maxRecDepth 100000 in
theorem ok_X12_deepest : (tX12_deepest).all (eok mth mX12_deepest) = true := by decide +kernel
theorem cw_X12_deepest : (wdq 8 224 (.code mX12_deepest.1 mX12_deepest.2.1 mX12_deepest.2.2.1 mX12_deepest.2.2.2.1) && plainName mX12_deepest.1.cls) = true := by decide +kernel
set_option maxRecDepth 100000 in
theorem ok_X12_weight : (tX12_weight).all (eok mth mX12_weight) = true := by decide +kernel
theorem cw_X12_weight : (wdq 8 228 (.code mX12_weight.1 mX12_weight.2.1 mX12_weight.2.2.1 mX12_weight.2.2.2.1) && plainName mX12_weight.1.cls) = true := by decide +kernel
set_option maxRecDepth 100000 in
theorem ok_X12_mutual : (tX12_mutual).all (eok mth mX12_mutual) = true := by decide +kernel
theorem cw_X12_mutual : (wdq 8 236 (.code mX12_mutual.1 mX12_mutual.2.1 mX12_mutual.2.2.1 mX12_mutual.2.2.2.1) && plainName mX12_mutual.1.cls) = true := by decide +kernel
set_option maxRecDepth 100000 in
theorem ok_X12_chain : (tX12_chain).all (eok mth mX12_chain) = true := by decide +kernel
theorem cw_X12_chain : (wdq 9 0 (.code mX12_chain.1 mX12_chain.2.1 mX12_chain.2.2.1 mX12_chain.2.2.2.1) && plainName mX12_chain.1.cls) = true := by decide +kernel
set_option maxRecDepth 100000 in
theorem ok_X12_circle : (tX12_circle).all (eok mth mX12_circle) = true := by decide +kernel
theorem cw_X12_circle : (wdq 9 7 (.code mX12_circle.1 mX12_circle.2.1 mX12_circle.2.2.1 mX12_circle.2.2.2.1) && plainName mX12_circle.1.cls) = true := by decide +kernel
set_option maxRecDepth 100000 in
theorem ok_X12_bestSalt : (tX12_bestSalt).all (eok mth mX12_bestSalt) = true := by decide +kernel
theorem cw_X12_bestSalt : (wdq 9 11 (.code mX12_bestSalt.1 mX12_bestSalt.2.1 mX12_bestSalt.2.2.1 mX12_bestSalt.2.2.2.1) && plainName mX12_bestSalt.1.cls) = true := by decide +kernel
set_option maxRecDepth 100000 in
theorem ok_X12_live : (tX12_live).all (eok mth mX12_live) = true := by decide +kernel
theorem cw_X12_live : (wdq 9 15 (.code mX12_live.1 mX12_live.2.1 mX12_live.2.2.1 mX12_live.2.2.2.1) && plainName mX12_live.1.cls) = true := by decide +kernel
set_option maxRecDepth 100000 in
theorem ok_X12_lived : (tX12_lived).all (eok mth mX12_lived) = true := by decide +kernel
theorem cw_X12_lived : (wdq 9 52 (.code mX12_lived.1 mX12_lived.2.1 mX12_lived.2.2.1 mX12_lived.2.2.2.1) && plainName mX12_lived.1.cls) = true := by decide +kernel
set_option maxRecDepth 100000 in
theorem ok_X12_mean : (tX12_mean).all (eok mth mX12_mean) = true := by decide +kernel
theorem cw_X12_mean : (wdq 9 56 (.code mX12_mean.1 mX12_mean.2.1 mX12_mean.2.2.1 mX12_mean.2.2.2.1) && plainName mX12_mean.1.cls) = true := by decide +kernel
set_option maxRecDepth 100000 in
theorem ok_X12_copies : (tX12_copies).all (eok mth mX12_copies) = true := by decide +kernel
theorem cw_X12_copies : (wdq 9 64 (.code mX12_copies.1 mX12_copies.2.1 mX12_copies.2.2.1 mX12_copies.2.2.2.1) && plainName mX12_copies.1.cls) = true := by decide +kernel
set_option maxRecDepth 100000 in
theorem ok_X12_mark : (tX12_mark).all (eok mth mX12_mark) = true := by decide +kernel
theorem cw_X12_mark : (wdq 9 60 (.code mX12_mark.1 mX12_mark.2.1 mX12_mark.2.2.1 mX12_mark.2.2.2.1) && plainName mX12_mark.1.cls) = true := by decide +kernel
set_option maxRecDepth 100000 in
theorem ok_X12_undo : (tX12_undo).all (eok mth mX12_undo) = true := by decide +kernel
theorem cw_X12_undo : (wdq 9 68 (.code mX12_undo.1 mX12_undo.2.1 mX12_undo.2.2.1 mX12_undo.2.2.2.1) && plainName mX12_undo.1.cls) = true := by decide +kernel
set_option maxRecDepth 100000 in
theorem ok_J0_length_8abf5 : (tJ0_length_8abf5).all (eok mth mJ0_length_8abf5) = true := by decide +kernel
theorem cw_J0_length_8abf5 : (wdq 0 42 (.code mJ0_length_8abf5.1 mJ0_length_8abf5.2.1 mJ0_length_8abf5.2.2.1 mJ0_length_8abf5.2.2.2.1) && plainName mJ0_length_8abf5.1.cls) = true := by decide +kernel
set_option maxRecDepth 100000 in
theorem ok_J0_charAt_5068e : (tJ0_charAt_5068e).all (eok mth mJ0_charAt_5068e) = true := by decide +kernel
theorem cw_J0_charAt_5068e : (wdq 0 52 (.code mJ0_charAt_5068e.1 mJ0_charAt_5068e.2.1 mJ0_charAt_5068e.2.2.1 mJ0_charAt_5068e.2.2.2.1) && plainName mJ0_charAt_5068e.1.cls) = true := by decide +kernel
set_option maxRecDepth 100000 in
theorem ok_J0_coder_7d493 : (tJ0_coder_7d493).all (eok mth mJ0_coder_7d493) = true := by decide +kernel
theorem cw_J0_coder_7d493 : (wdq 0 46 (.code mJ0_coder_7d493.1 mJ0_coder_7d493.2.1 mJ0_coder_7d493.2.2.1 mJ0_coder_7d493.2.2.2.1) && plainName mJ0_coder_7d493.1.cls) = true := by decide +kernel
set_option maxRecDepth 100000 in
theorem ok_J0_isLatin1_aae02 : (tJ0_isLatin1_aae02).all (eok mth mJ0_isLatin1_aae02) = true := by decide +kernel
theorem cw_J0_isLatin1_aae02 : (wdq 0 56 (.code mJ0_isLatin1_aae02.1 mJ0_isLatin1_aae02.2.1 mJ0_isLatin1_aae02.2.2.1 mJ0_isLatin1_aae02.2.2.2.1) && plainName mJ0_isLatin1_aae02.1.cls) = true := by decide +kernel
set_option maxRecDepth 100000 in
theorem ok_J0_checkIndex_df160 : (tJ0_checkIndex_df160).all (eok mth mJ0_checkIndex_df160) = true := by decide +kernel
theorem cw_J0_checkIndex_df160 : (wdq 0 62 (.code mJ0_checkIndex_df160.1 mJ0_checkIndex_df160.2.1 mJ0_checkIndex_df160.2.2.1 mJ0_checkIndex_df160.2.2.2.1) && plainName mJ0_checkIndex_df160.1.cls) = true := by decide +kernel
set_option maxRecDepth 100000 in
theorem ok_J1_charAt_3b067 : (tJ1_charAt_3b067).all (eok mth mJ1_charAt_3b067) = true := by decide +kernel
theorem cw_J1_charAt_3b067 : (wdq 0 59 (.code mJ1_charAt_3b067.1 mJ1_charAt_3b067.2.1 mJ1_charAt_3b067.2.2.1 mJ1_charAt_3b067.2.2.2.1) && plainName mJ1_charAt_3b067.1.cls) = true := by decide +kernel
set_option maxRecDepth 100000 in
theorem ok_J7_fill_d0a16 : (tJ7_fill_d0a16).all (eok mth mJ7_fill_d0a16) = true := by decide +kernel
theorem cw_J7_fill_d0a16 : (wdq 2 56 (.code mJ7_fill_d0a16.1 mJ7_fill_d0a16.2.1 mJ7_fill_d0a16.2.2.1 mJ7_fill_d0a16.2.2.2.1) && plainName mJ7_fill_d0a16.1.cls) = true := by decide +kernel
set_option maxRecDepth 100000 in
theorem ok_J7_fill_53178 : (tJ7_fill_53178).all (eok mth mJ7_fill_53178) = true := by decide +kernel
theorem cw_J7_fill_53178 : (wdq 2 118 (.code mJ7_fill_53178.1 mJ7_fill_53178.2.1 mJ7_fill_53178.2.2.1 mJ7_fill_53178.2.2.2.1) && plainName mJ7_fill_53178.1.cls) = true := by decide +kernel
set_option maxRecDepth 100000 in
theorem ok_J3_checkIndex_8e157 : (tJ3_checkIndex_8e157).all (eok mth mJ3_checkIndex_8e157) = true := by decide +kernel
theorem cw_J3_checkIndex_8e157 : (wdq 0 67 (.code mJ3_checkIndex_8e157.1 mJ3_checkIndex_8e157.2.1 mJ3_checkIndex_8e157.2.2.1 mJ3_checkIndex_8e157.2.2.2.1) && plainName mJ3_checkIndex_8e157.1.cls) = true := by decide +kernel
end
section
set_option maxRecDepth 100000 in
theorem ok_tL_0 : (tL_0).all (eok mth mL_law) = true := by decide +kernel
set_option maxRecDepth 100000 in
theorem ok_tL_1 : (tL_1).all (eok mth mL_law) = true := by decide +kernel
set_option maxRecDepth 100000 in
theorem ok_tL_2 : (tL_2).all (eok mth mL_law) = true := by decide +kernel
set_option maxRecDepth 100000 in
theorem ok_tL_3 : (tL_3).all (eok mth mL_law) = true := by decide +kernel
set_option maxRecDepth 100000 in
theorem ok_tL_4 : (tL_4).all (eok mth mL_law) = true := by decide +kernel
set_option maxRecDepth 100000 in
theorem ok_tL_5 : (tL_5).all (eok mth mL_law) = true := by decide +kernel
set_option maxRecDepth 100000 in
theorem ok_tL_6 : (tL_6).all (eok mth mL_law) = true := by decide +kernel
set_option maxRecDepth 100000 in
theorem ok_tL_7 : (tL_7).all (eok mth mL_law) = true := by decide +kernel
set_option maxRecDepth 100000 in
theorem ok_tL_8 : (tL_8).all (eok mth mL_law) = true := by decide +kernel
set_option maxRecDepth 100000 in
theorem ok_tL_9 : (tL_9).all (eok mth mL_law) = true := by decide +kernel
set_option maxRecDepth 100000 in
theorem ok_tL_10 : (tL_10).all (eok mth mL_law) = true := by decide +kernel
set_option maxRecDepth 100000 in
theorem ok_tL_11 : (tL_11).all (eok mth mL_law) = true := by decide +kernel
set_option maxRecDepth 100000 in
theorem ok_tL_12 : (tL_12).all (eok mth mL_law) = true := by decide +kernel
set_option maxRecDepth 100000 in
theorem ok_tL_13 : (tL_13).all (eok mth mL_law) = true := by decide +kernel
set_option maxRecDepth 100000 in
theorem ok_tL_14 : (tL_14).all (eok mth mL_law) = true := by decide +kernel
set_option maxRecDepth 100000 in
theorem ok_tL_15 : (tL_15).all (eok mth mL_law) = true := by decide +kernel
set_option maxRecDepth 100000 in
theorem ok_tL_16 : (tL_16).all (eok mth mL_law) = true := by decide +kernel
set_option maxRecDepth 100000 in
theorem ok_tL_17 : (tL_17).all (eok mth mL_law) = true := by decide +kernel
set_option maxRecDepth 100000 in
theorem ok_tL_18 : (tL_18).all (eok mth mL_law) = true := by decide +kernel
set_option maxRecDepth 100000 in
theorem ok_tL_19 : (tL_19).all (eok mth mL_law) = true := by decide +kernel
set_option maxRecDepth 100000 in
theorem ok_tL_20 : (tL_20).all (eok mth mL_law) = true := by decide +kernel
set_option maxRecDepth 100000 in
theorem ok_tL_21 : (tL_21).all (eok mth mL_law) = true := by decide +kernel
set_option maxRecDepth 100000 in
theorem ok_tL_22 : (tL_22).all (eok mth mL_law) = true := by decide +kernel
set_option maxRecDepth 100000 in
theorem ok_tL_23 : (tL_23).all (eok mth mL_law) = true := by decide +kernel
set_option maxRecDepth 100000 in
theorem ok_tL_24 : (tL_24).all (eok mth mL_law) = true := by decide +kernel
set_option maxRecDepth 100000 in
theorem ok_tL_25 : (tL_25).all (eok mth mL_law) = true := by decide +kernel
set_option maxRecDepth 100000 in
theorem ok_tL_26 : (tL_26).all (eok mth mL_law) = true := by decide +kernel
set_option maxRecDepth 100000 in
theorem ok_tL_27 : (tL_27).all (eok mth mL_law) = true := by decide +kernel
set_option maxRecDepth 100000 in
theorem ok_tL_28 : (tL_28).all (eok mth mL_law) = true := by decide +kernel
set_option maxRecDepth 100000 in
theorem ok_tL_29 : (tL_29).all (eok mth mL_law) = true := by decide +kernel
set_option maxRecDepth 100000 in
theorem ok_tL_30 : (tL_30).all (eok mth mL_law) = true := by decide +kernel
set_option maxRecDepth 100000 in
theorem ok_tL_31 : (tL_31).all (eok mth mL_law) = true := by decide +kernel
set_option maxRecDepth 100000 in
theorem ok_tL_32 : (tL_32).all (eok mth mL_law) = true := by decide +kernel
set_option maxRecDepth 100000 in
theorem ok_tL_33 : (tL_33).all (eok mth mL_law) = true := by decide +kernel
set_option maxRecDepth 100000 in
theorem ok_tL_34 : (tL_34).all (eok mth mL_law) = true := by decide +kernel
set_option maxRecDepth 100000 in
theorem ok_tL_35 : (tL_35).all (eok mth mL_law) = true := by decide +kernel
end
section
def MO (M : MR) : Prop := Mok mth M ∧ Mcw M
theorem mo_of {M : MR} {i j : Nat} (h1 : M.2.2.2.2.2.2.all (eok mth M) = true) (h2 : (wdq i j (.code M.1 M.2.1 M.2.2.1 M.2.2.2.1) && plainName M.1.cls) = true) : MO M := ⟨fun e he => List.all_eq_true.mp h1 e he, wdq_in (bb_and h2).1, (bb_and h2).2⟩
theorem mo_0 : ∀ M ∈ mt0, MO M := List.forall_mem_cons.mpr ⟨mo_of ok_X0_init cw_X0_init, List.forall_mem_cons.mpr ⟨mo_of ok_X0_clear cw_X0_clear, List.forall_mem_cons.mpr ⟨mo_of ok_X0_copyFrom cw_X0_copyFrom, List.forall_mem_cons.mpr ⟨mo_of ok_X0_of cw_X0_of, List.forall_mem_cons.mpr ⟨mo_of ok_X0_sorrow cw_X0_sorrow, List.forall_mem_cons.mpr ⟨mo_of ok_X0_debtorsOf cw_X0_debtorsOf, List.forall_mem_cons.mpr ⟨mo_of ok_X1_init cw_X1_init, List.forall_mem_cons.mpr ⟨mo_of ok_X1_clear cw_X1_clear, List.forall_mem_cons.mpr ⟨mo_of ok_X1_copyFrom cw_X1_copyFrom, List.forall_mem_cons.mpr ⟨mo_of ok_X1_ghosts cw_X1_ghosts, List.forall_mem_cons.mpr ⟨mo_of ok_X1_ghostHouses cw_X1_ghostHouses, List.forall_mem_cons.mpr ⟨mo_of ok_X1_passNights cw_X1_passNights, List.forall_mem_cons.mpr ⟨mo_of ok_X2_init cw_X2_init, List.forall_mem_cons.mpr ⟨mo_of ok_X2_readAll cw_X2_readAll, List.forall_mem_cons.mpr ⟨mo_of ok_X3_init cw_X3_init, List.forall_mem_cons.mpr ⟨mo_of ok_X4_init cw_X4_init, List.forall_mem_cons.mpr ⟨mo_of ok_X4_bestDeath cw_X4_bestDeath, List.forall_mem_cons.mpr ⟨mo_of ok_X4_bestKeeper cw_X4_bestKeeper, List.forall_mem_cons.mpr ⟨mo_of ok_X4_deadCouple cw_X4_deadCouple, List.forall_mem_cons.mpr ⟨mo_of ok_X4_longestRow cw_X4_longestRow, fun _ h => absurd h List.not_mem_nil⟩⟩⟩⟩⟩⟩⟩⟩⟩⟩⟩⟩⟩⟩⟩⟩⟩⟩⟩⟩
theorem mo_1 : ∀ M ∈ mt1, MO M := List.forall_mem_cons.mpr ⟨mo_of ok_X4_bestThreshold cw_X4_bestThreshold, List.forall_mem_cons.mpr ⟨mo_of ok_X5_init cw_X5_init, List.forall_mem_cons.mpr ⟨mo_of ok_X5_clear cw_X5_clear, List.forall_mem_cons.mpr ⟨mo_of ok_X5_copyFrom cw_X5_copyFrom, List.forall_mem_cons.mpr ⟨mo_of ok_X5_couples cw_X5_couples, List.forall_mem_cons.mpr ⟨mo_of ok_X5_around cw_X5_around, List.forall_mem_cons.mpr ⟨mo_of ok_X5_spread cw_X5_spread, List.forall_mem_cons.mpr ⟨mo_of ok_X5_survey cw_X5_survey, List.forall_mem_cons.mpr ⟨mo_of ok_X6_init cw_X6_init, List.forall_mem_cons.mpr ⟨mo_of ok_X6_fullestHouse cw_X6_fullestHouse, List.forall_mem_cons.mpr ⟨mo_of ok_X6_countVisits cw_X6_countVisits, List.forall_mem_cons.mpr ⟨mo_of ok_X7_init cw_X7_init, List.forall_mem_cons.mpr ⟨mo_of ok_X7_clear cw_X7_clear, List.forall_mem_cons.mpr ⟨mo_of ok_X7_copyFrom cw_X7_copyFrom, List.forall_mem_cons.mpr ⟨mo_of ok_X8_init cw_X8_init, List.forall_mem_cons.mpr ⟨mo_of ok_X8_readAll cw_X8_readAll, List.forall_mem_cons.mpr ⟨mo_of ok_X9_init cw_X9_init, List.forall_mem_cons.mpr ⟨mo_of ok_X9_put cw_X9_put, List.forall_mem_cons.mpr ⟨mo_of ok_X9_begin cw_X9_begin, List.forall_mem_cons.mpr ⟨mo_of ok_X9_advance cw_X9_advance, fun _ h => absurd h List.not_mem_nil⟩⟩⟩⟩⟩⟩⟩⟩⟩⟩⟩⟩⟩⟩⟩⟩⟩⟩⟩⟩
theorem mo_2 : ∀ M ∈ mt2, MO M := List.forall_mem_cons.mpr ⟨mo_of ok_X9_goesOn cw_X9_goesOn, List.forall_mem_cons.mpr ⟨mo_of ok_X10_init cw_X10_init, List.forall_mem_cons.mpr ⟨mo_of ok_X10_lay cw_X10_lay, List.forall_mem_cons.mpr ⟨mo_of ok_X11_init cw_X11_init, List.forall_mem_cons.mpr ⟨mo_of ok_X11_status cw_X11_status, List.forall_mem_cons.mpr ⟨mo_of ok_X11_top cw_X11_top, List.forall_mem_cons.mpr ⟨mo_of ok_X11_bottom cw_X11_bottom, List.forall_mem_cons.mpr ⟨mo_of ok_X11_tray cw_X11_tray, List.forall_mem_cons.mpr ⟨mo_of ok_X11_write cw_X11_write, List.forall_mem_cons.mpr ⟨mo_of ok_X11_read cw_X11_read, List.forall_mem_cons.mpr ⟨mo_of ok_X11_pour cw_X11_pour, List.forall_mem_cons.mpr ⟨mo_of ok_X11_feed cw_X11_feed, List.forall_mem_cons.mpr ⟨mo_of ok_X11_land cw_X11_land, List.forall_mem_cons.mpr ⟨mo_of ok_X11_tales cw_X11_tales, List.forall_mem_cons.mpr ⟨mo_of ok_X11_fault cw_X11_fault, List.forall_mem_cons.mpr ⟨mo_of ok_X11_told cw_X11_told, List.forall_mem_cons.mpr ⟨mo_of ok_X11_person cw_X11_person, List.forall_mem_cons.mpr ⟨mo_of ok_X11_owed cw_X11_owed, List.forall_mem_cons.mpr ⟨mo_of ok_X11_heir cw_X11_heir, List.forall_mem_cons.mpr ⟨mo_of ok_X11_door cw_X11_door, fun _ h => absurd h List.not_mem_nil⟩⟩⟩⟩⟩⟩⟩⟩⟩⟩⟩⟩⟩⟩⟩⟩⟩⟩⟩⟩
theorem mo_3 : ∀ M ∈ mt3, MO M := List.forall_mem_cons.mpr ⟨mo_of ok_X11_labour cw_X11_labour, List.forall_mem_cons.mpr ⟨mo_of ok_X11_within cw_X11_within, List.forall_mem_cons.mpr ⟨mo_of ok_X11_night cw_X11_night, List.forall_mem_cons.mpr ⟨mo_of ok_X11_die cw_X11_die, List.forall_mem_cons.mpr ⟨mo_of ok_X11_forgive cw_X11_forgive, List.forall_mem_cons.mpr ⟨mo_of ok_X11_forge cw_X11_forge, List.forall_mem_cons.mpr ⟨mo_of ok_X11_salt cw_X11_salt, List.forall_mem_cons.mpr ⟨mo_of ok_X11_keep cw_X11_keep, List.forall_mem_cons.mpr ⟨mo_of ok_X11_wall cw_X11_wall, List.forall_mem_cons.mpr ⟨mo_of ok_X11_move cw_X11_move, List.forall_mem_cons.mpr ⟨mo_of ok_X11_way cw_X11_way, List.forall_mem_cons.mpr ⟨mo_of ok_X11_aim cw_X11_aim, List.forall_mem_cons.mpr ⟨mo_of ok_X11_step cw_X11_step, List.forall_mem_cons.mpr ⟨mo_of ok_X11_walks cw_X11_walks, List.forall_mem_cons.mpr ⟨mo_of ok_X11_later cw_X11_later, List.forall_mem_cons.mpr ⟨mo_of ok_X11_rest cw_X11_rest, List.forall_mem_cons.mpr ⟨mo_of ok_X11_quiet cw_X11_quiet, List.forall_mem_cons.mpr ⟨mo_of ok_X11_harvest cw_X11_harvest, List.forall_mem_cons.mpr ⟨mo_of ok_X11_visitors cw_X11_visitors, List.forall_mem_cons.mpr ⟨mo_of ok_X11_stays cw_X11_stays, fun _ h => absurd h List.not_mem_nil⟩⟩⟩⟩⟩⟩⟩⟩⟩⟩⟩⟩⟩⟩⟩⟩⟩⟩⟩⟩
theorem mo_4 : ∀ M ∈ mt4, MO M := List.forall_mem_cons.mpr ⟨mo_of ok_X11_must cw_X11_must, List.forall_mem_cons.mpr ⟨mo_of ok_X11_reach cw_X11_reach, List.forall_mem_cons.mpr ⟨mo_of ok_X11_tours cw_X11_tours, List.forall_mem_cons.mpr ⟨mo_of ok_X11_meets cw_X11_meets, List.forall_mem_cons.mpr ⟨mo_of ok_X11_crowd cw_X11_crowd, List.forall_mem_cons.mpr ⟨mo_of ok_X11_busiest cw_X11_busiest, List.forall_mem_cons.mpr ⟨mo_of ok_X11_exposed cw_X11_exposed, List.forall_mem_cons.mpr ⟨mo_of ok_X11_wells cw_X11_wells, List.forall_mem_cons.mpr ⟨mo_of ok_X11_ways cw_X11_ways, List.forall_mem_cons.mpr ⟨mo_of ok_X11_heirs cw_X11_heirs, List.forall_mem_cons.mpr ⟨mo_of ok_X11_loss cw_X11_loss, List.forall_mem_cons.mpr ⟨mo_of ok_X11_saint cw_X11_saint, List.forall_mem_cons.mpr ⟨mo_of ok_X11_keeper cw_X11_keeper, List.forall_mem_cons.mpr ⟨mo_of ok_X11_lonely cw_X11_lonely, List.forall_mem_cons.mpr ⟨mo_of ok_X11_due cw_X11_due, List.forall_mem_cons.mpr ⟨mo_of ok_X11_net cw_X11_net, List.forall_mem_cons.mpr ⟨mo_of ok_X11_wedding cw_X11_wedding, List.forall_mem_cons.mpr ⟨mo_of ok_X11_weddingSet cw_X11_weddingSet, List.forall_mem_cons.mpr ⟨mo_of ok_X11_pardon cw_X11_pardon, List.forall_mem_cons.mpr ⟨mo_of ok_X11_pardonSet cw_X11_pardonSet, fun _ h => absurd h List.not_mem_nil⟩⟩⟩⟩⟩⟩⟩⟩⟩⟩⟩⟩⟩⟩⟩⟩⟩⟩⟩⟩
theorem mo_5 : ∀ M ∈ mt5, MO M := List.forall_mem_cons.mpr ⟨mo_of ok_X11_pair cw_X11_pair, List.forall_mem_cons.mpr ⟨mo_of ok_X11_share cw_X11_share, List.forall_mem_cons.mpr ⟨mo_of ok_X11_gracious cw_X11_gracious, List.forall_mem_cons.mpr ⟨mo_of ok_X11_deepest cw_X11_deepest, List.forall_mem_cons.mpr ⟨mo_of ok_X11_weight cw_X11_weight, List.forall_mem_cons.mpr ⟨mo_of ok_X11_mutual cw_X11_mutual, List.forall_mem_cons.mpr ⟨mo_of ok_X11_chain cw_X11_chain, List.forall_mem_cons.mpr ⟨mo_of ok_X11_circle cw_X11_circle, List.forall_mem_cons.mpr ⟨mo_of ok_X11_bestSalt cw_X11_bestSalt, List.forall_mem_cons.mpr ⟨mo_of ok_X11_live cw_X11_live, List.forall_mem_cons.mpr ⟨mo_of ok_X11_lived cw_X11_lived, List.forall_mem_cons.mpr ⟨mo_of ok_X11_mean cw_X11_mean, List.forall_mem_cons.mpr ⟨mo_of ok_X11_mark cw_X11_mark, List.forall_mem_cons.mpr ⟨mo_of ok_X11_undo cw_X11_undo, List.forall_mem_cons.mpr ⟨mo_of ok_X11_answer cw_X11_answer, List.forall_mem_cons.mpr ⟨mo_of ok_X11_answerOrNone cw_X11_answerOrNone, List.forall_mem_cons.mpr ⟨mo_of ok_X11_refuse cw_X11_refuse, List.forall_mem_cons.mpr ⟨mo_of ok_X11_grant cw_X11_grant, List.forall_mem_cons.mpr ⟨mo_of ok_X11_deny cw_X11_deny, List.forall_mem_cons.mpr ⟨mo_of ok_X11_isHouse cw_X11_isHouse, fun _ h => absurd h List.not_mem_nil⟩⟩⟩⟩⟩⟩⟩⟩⟩⟩⟩⟩⟩⟩⟩⟩⟩⟩⟩⟩
theorem mo_6 : ∀ M ∈ mt6, MO M := List.forall_mem_cons.mpr ⟨mo_of ok_X11_isPerson cw_X11_isPerson, List.forall_mem_cons.mpr ⟨mo_of ok_X11_areTwoHouses cw_X11_areTwoHouses, List.forall_mem_cons.mpr ⟨mo_of ok_X11_areTwoPersons cw_X11_areTwoPersons, List.forall_mem_cons.mpr ⟨mo_of ok_X11_isWithin cw_X11_isWithin, List.forall_mem_cons.mpr ⟨mo_of ok_X11_troubleAt cw_X11_troubleAt, List.forall_mem_cons.mpr ⟨mo_of ok_X12_init cw_X12_init, List.forall_mem_cons.mpr ⟨mo_of ok_X12_plain cw_X12_plain, List.forall_mem_cons.mpr ⟨mo_of ok_X12_status cw_X12_status, List.forall_mem_cons.mpr ⟨mo_of ok_X12_top cw_X12_top, List.forall_mem_cons.mpr ⟨mo_of ok_X12_bottom cw_X12_bottom, List.forall_mem_cons.mpr ⟨mo_of ok_X12_is cw_X12_is, List.forall_mem_cons.mpr ⟨mo_of ok_X12_refuse cw_X12_refuse, List.forall_mem_cons.mpr ⟨mo_of ok_X12_gives cw_X12_gives, List.forall_mem_cons.mpr ⟨mo_of ok_X12_orNone cw_X12_orNone, List.forall_mem_cons.mpr ⟨mo_of ok_X12_isTray cw_X12_isTray, List.forall_mem_cons.mpr ⟨mo_of ok_X12_tray cw_X12_tray, List.forall_mem_cons.mpr ⟨mo_of ok_X12_wrongPlace cw_X12_wrongPlace, List.forall_mem_cons.mpr ⟨mo_of ok_X12_write cw_X12_write, List.forall_mem_cons.mpr ⟨mo_of ok_X12_read cw_X12_read, List.forall_mem_cons.mpr ⟨mo_of ok_X12_pour cw_X12_pour, fun _ h => absurd h List.not_mem_nil⟩⟩⟩⟩⟩⟩⟩⟩⟩⟩⟩⟩⟩⟩⟩⟩⟩⟩⟩⟩
theorem mo_7 : ∀ M ∈ mt7, MO M := List.forall_mem_cons.mpr ⟨mo_of ok_X12_isFrom cw_X12_isFrom, List.forall_mem_cons.mpr ⟨mo_of ok_X12_feed cw_X12_feed, List.forall_mem_cons.mpr ⟨mo_of ok_X12_four cw_X12_four, List.forall_mem_cons.mpr ⟨mo_of ok_X12_byteAt cw_X12_byteAt, List.forall_mem_cons.mpr ⟨mo_of ok_X12_ahead cw_X12_ahead, List.forall_mem_cons.mpr ⟨mo_of ok_X12_begins cw_X12_begins, List.forall_mem_cons.mpr ⟨mo_of ok_X12_fault cw_X12_fault, List.forall_mem_cons.mpr ⟨mo_of ok_X12_taken cw_X12_taken, List.forall_mem_cons.mpr ⟨mo_of ok_X12_land cw_X12_land, List.forall_mem_cons.mpr ⟨mo_of ok_X12_tales cw_X12_tales, List.forall_mem_cons.mpr ⟨mo_of ok_X12_isHouse cw_X12_isHouse, List.forall_mem_cons.mpr ⟨mo_of ok_X12_isPerson cw_X12_isPerson, List.forall_mem_cons.mpr ⟨mo_of ok_X12_areTwo cw_X12_areTwo, List.forall_mem_cons.mpr ⟨mo_of ok_X12_sorrow cw_X12_sorrow, List.forall_mem_cons.mpr ⟨mo_of ok_X12_setOf cw_X12_setOf, List.forall_mem_cons.mpr ⟨mo_of ok_X12_told cw_X12_told, List.forall_mem_cons.mpr ⟨mo_of ok_X12_person cw_X12_person, List.forall_mem_cons.mpr ⟨mo_of ok_X12_owed cw_X12_owed, List.forall_mem_cons.mpr ⟨mo_of ok_X12_heir cw_X12_heir, List.forall_mem_cons.mpr ⟨mo_of ok_X12_door cw_X12_door, fun _ h => absurd h List.not_mem_nil⟩⟩⟩⟩⟩⟩⟩⟩⟩⟩⟩⟩⟩⟩⟩⟩⟩⟩⟩⟩
theorem mo_8 : ∀ M ∈ mt8, MO M := List.forall_mem_cons.mpr ⟨mo_of ok_X12_labour cw_X12_labour, List.forall_mem_cons.mpr ⟨mo_of ok_X12_within cw_X12_within, List.forall_mem_cons.mpr ⟨mo_of ok_X12_night0 cw_X12_night0, List.forall_mem_cons.mpr ⟨mo_of ok_X12_night cw_X12_night, List.forall_mem_cons.mpr ⟨mo_of ok_X12_die cw_X12_die, List.forall_mem_cons.mpr ⟨mo_of ok_X12_forgive cw_X12_forgive, List.forall_mem_cons.mpr ⟨mo_of ok_X12_forge cw_X12_forge, List.forall_mem_cons.mpr ⟨mo_of ok_X12_salt cw_X12_salt, List.forall_mem_cons.mpr ⟨mo_of ok_X12_keep cw_X12_keep, List.forall_mem_cons.mpr ⟨mo_of ok_X12_wall cw_X12_wall, List.forall_mem_cons.mpr ⟨mo_of ok_X12_move cw_X12_move, List.forall_mem_cons.mpr ⟨mo_of ok_X12_way cw_X12_way, List.forall_mem_cons.mpr ⟨mo_of ok_X12_aim cw_X12_aim, List.forall_mem_cons.mpr ⟨mo_of ok_X12_step cw_X12_step, List.forall_mem_cons.mpr ⟨mo_of ok_X12_keeps cw_X12_keeps, List.forall_mem_cons.mpr ⟨mo_of ok_X12_restores cw_X12_restores, List.forall_mem_cons.mpr ⟨mo_of ok_X12_walks cw_X12_walks, List.forall_mem_cons.mpr ⟨mo_of ok_X12_later cw_X12_later, List.forall_mem_cons.mpr ⟨mo_of ok_X12_rest cw_X12_rest, List.forall_mem_cons.mpr ⟨mo_of ok_X12_quiet cw_X12_quiet, fun _ h => absurd h List.not_mem_nil⟩⟩⟩⟩⟩⟩⟩⟩⟩⟩⟩⟩⟩⟩⟩⟩⟩⟩⟩⟩
theorem mo_9 : ∀ M ∈ mt9, MO M := List.forall_mem_cons.mpr ⟨mo_of ok_X12_harvest cw_X12_harvest, List.forall_mem_cons.mpr ⟨mo_of ok_X12_visitors cw_X12_visitors, List.forall_mem_cons.mpr ⟨mo_of ok_X12_stays cw_X12_stays, List.forall_mem_cons.mpr ⟨mo_of ok_X12_must cw_X12_must, List.forall_mem_cons.mpr ⟨mo_of ok_X12_reach cw_X12_reach, List.forall_mem_cons.mpr ⟨mo_of ok_X12_tours cw_X12_tours, List.forall_mem_cons.mpr ⟨mo_of ok_X12_meets cw_X12_meets, List.forall_mem_cons.mpr ⟨mo_of ok_X12_mostOf cw_X12_mostOf, List.forall_mem_cons.mpr ⟨mo_of ok_X12_counts cw_X12_counts, List.forall_mem_cons.mpr ⟨mo_of ok_X12_clears cw_X12_clears, List.forall_mem_cons.mpr ⟨mo_of ok_X12_crowd cw_X12_crowd, List.forall_mem_cons.mpr ⟨mo_of ok_X12_busiest cw_X12_busiest, List.forall_mem_cons.mpr ⟨mo_of ok_X12_exposed cw_X12_exposed, List.forall_mem_cons.mpr ⟨mo_of ok_X12_wells cw_X12_wells, List.forall_mem_cons.mpr ⟨mo_of ok_X12_ways cw_X12_ways, List.forall_mem_cons.mpr ⟨mo_of ok_X12_heirs cw_X12_heirs, List.forall_mem_cons.mpr ⟨mo_of ok_X12_loss cw_X12_loss, List.forall_mem_cons.mpr ⟨mo_of ok_X12_saint cw_X12_saint, List.forall_mem_cons.mpr ⟨mo_of ok_X12_keeper cw_X12_keeper, List.forall_mem_cons.mpr ⟨mo_of ok_X12_lonely cw_X12_lonely, fun _ h => absurd h List.not_mem_nil⟩⟩⟩⟩⟩⟩⟩⟩⟩⟩⟩⟩⟩⟩⟩⟩⟩⟩⟩⟩
theorem mo_10 : ∀ M ∈ mt10, MO M := List.forall_mem_cons.mpr ⟨mo_of ok_X12_due cw_X12_due, List.forall_mem_cons.mpr ⟨mo_of ok_X12_net cw_X12_net, List.forall_mem_cons.mpr ⟨mo_of ok_X12_wedding cw_X12_wedding, List.forall_mem_cons.mpr ⟨mo_of ok_X12_weddingSet cw_X12_weddingSet, List.forall_mem_cons.mpr ⟨mo_of ok_X12_isPardon cw_X12_isPardon, List.forall_mem_cons.mpr ⟨mo_of ok_X12_pardon cw_X12_pardon, List.forall_mem_cons.mpr ⟨mo_of ok_X12_pardonSet cw_X12_pardonSet, List.forall_mem_cons.mpr ⟨mo_of ok_X12_pair cw_X12_pair, List.forall_mem_cons.mpr ⟨mo_of ok_X12_share cw_X12_share, List.forall_mem_cons.mpr ⟨mo_of ok_X12_gracious cw_X12_gracious, List.forall_mem_cons.mpr ⟨mo_of ok_X12_deepest cw_X12_deepest, List.forall_mem_cons.mpr ⟨mo_of ok_X12_weight cw_X12_weight, List.forall_mem_cons.mpr ⟨mo_of ok_X12_mutual cw_X12_mutual, List.forall_mem_cons.mpr ⟨mo_of ok_X12_chain cw_X12_chain, List.forall_mem_cons.mpr ⟨mo_of ok_X12_circle cw_X12_circle, List.forall_mem_cons.mpr ⟨mo_of ok_X12_bestSalt cw_X12_bestSalt, List.forall_mem_cons.mpr ⟨mo_of ok_X12_live cw_X12_live, List.forall_mem_cons.mpr ⟨mo_of ok_X12_lived cw_X12_lived, List.forall_mem_cons.mpr ⟨mo_of ok_X12_mean cw_X12_mean, List.forall_mem_cons.mpr ⟨mo_of ok_X12_copies cw_X12_copies, fun _ h => absurd h List.not_mem_nil⟩⟩⟩⟩⟩⟩⟩⟩⟩⟩⟩⟩⟩⟩⟩⟩⟩⟩⟩⟩
theorem mo_11 : ∀ M ∈ mt11, MO M := List.forall_mem_cons.mpr ⟨mo_of ok_X12_mark cw_X12_mark, List.forall_mem_cons.mpr ⟨mo_of ok_X12_undo cw_X12_undo, List.forall_mem_cons.mpr ⟨mo_of ok_J0_length_8abf5 cw_J0_length_8abf5, List.forall_mem_cons.mpr ⟨mo_of ok_J0_charAt_5068e cw_J0_charAt_5068e, List.forall_mem_cons.mpr ⟨mo_of ok_J0_coder_7d493 cw_J0_coder_7d493, List.forall_mem_cons.mpr ⟨mo_of ok_J0_isLatin1_aae02 cw_J0_isLatin1_aae02, List.forall_mem_cons.mpr ⟨mo_of ok_J0_checkIndex_df160 cw_J0_checkIndex_df160, List.forall_mem_cons.mpr ⟨mo_of ok_J1_charAt_3b067 cw_J1_charAt_3b067, List.forall_mem_cons.mpr ⟨mo_of ok_J7_fill_d0a16 cw_J7_fill_d0a16, List.forall_mem_cons.mpr ⟨mo_of ok_J7_fill_53178 cw_J7_fill_53178, List.forall_mem_cons.mpr ⟨mo_of ok_J3_checkIndex_8e157 cw_J3_checkIndex_8e157, fun _ h => absurd h List.not_mem_nil⟩⟩⟩⟩⟩⟩⟩⟩⟩⟩⟩
theorem mo_all : ∀ r ∈ mtt, ∀ M ∈ r, MO M := List.forall_mem_cons.mpr ⟨mo_0, List.forall_mem_cons.mpr ⟨mo_1, List.forall_mem_cons.mpr ⟨mo_2, List.forall_mem_cons.mpr ⟨mo_3, List.forall_mem_cons.mpr ⟨mo_4, List.forall_mem_cons.mpr ⟨mo_5, List.forall_mem_cons.mpr ⟨mo_6, List.forall_mem_cons.mpr ⟨mo_7, List.forall_mem_cons.mpr ⟨mo_8, List.forall_mem_cons.mpr ⟨mo_9, List.forall_mem_cons.mpr ⟨mo_10, List.forall_mem_cons.mpr ⟨mo_11, fun _ h => absurd h List.not_mem_nil⟩⟩⟩⟩⟩⟩⟩⟩⟩⟩⟩⟩
theorem mth_ok : ∀ a b C, mth a b = some C → Mok mth C ∧ Mcw C := fun a b C h => by
  obtain ⟨r, e1, e2⟩ := ob_s h
  rw [ax_nth_eq] at e1 e2
  exact mo_all r (List.mem_of_getElem? e1) C (List.mem_of_getElem? e2)
theorem law_ok : Mok mth mL_law := fun e he => by
  have he : e ∈ tL_law := he
  unfold tL_law at he
  rcases List.mem_append.mp he with h | he
  · exact List.all_eq_true.mp ok_tL_0 e h
  rcases List.mem_append.mp he with h | he
  · exact List.all_eq_true.mp ok_tL_1 e h
  rcases List.mem_append.mp he with h | he
  · exact List.all_eq_true.mp ok_tL_2 e h
  rcases List.mem_append.mp he with h | he
  · exact List.all_eq_true.mp ok_tL_3 e h
  rcases List.mem_append.mp he with h | he
  · exact List.all_eq_true.mp ok_tL_4 e h
  rcases List.mem_append.mp he with h | he
  · exact List.all_eq_true.mp ok_tL_5 e h
  rcases List.mem_append.mp he with h | he
  · exact List.all_eq_true.mp ok_tL_6 e h
  rcases List.mem_append.mp he with h | he
  · exact List.all_eq_true.mp ok_tL_7 e h
  rcases List.mem_append.mp he with h | he
  · exact List.all_eq_true.mp ok_tL_8 e h
  rcases List.mem_append.mp he with h | he
  · exact List.all_eq_true.mp ok_tL_9 e h
  rcases List.mem_append.mp he with h | he
  · exact List.all_eq_true.mp ok_tL_10 e h
  rcases List.mem_append.mp he with h | he
  · exact List.all_eq_true.mp ok_tL_11 e h
  rcases List.mem_append.mp he with h | he
  · exact List.all_eq_true.mp ok_tL_12 e h
  rcases List.mem_append.mp he with h | he
  · exact List.all_eq_true.mp ok_tL_13 e h
  rcases List.mem_append.mp he with h | he
  · exact List.all_eq_true.mp ok_tL_14 e h
  rcases List.mem_append.mp he with h | he
  · exact List.all_eq_true.mp ok_tL_15 e h
  rcases List.mem_append.mp he with h | he
  · exact List.all_eq_true.mp ok_tL_16 e h
  rcases List.mem_append.mp he with h | he
  · exact List.all_eq_true.mp ok_tL_17 e h
  rcases List.mem_append.mp he with h | he
  · exact List.all_eq_true.mp ok_tL_18 e h
  rcases List.mem_append.mp he with h | he
  · exact List.all_eq_true.mp ok_tL_19 e h
  rcases List.mem_append.mp he with h | he
  · exact List.all_eq_true.mp ok_tL_20 e h
  rcases List.mem_append.mp he with h | he
  · exact List.all_eq_true.mp ok_tL_21 e h
  rcases List.mem_append.mp he with h | he
  · exact List.all_eq_true.mp ok_tL_22 e h
  rcases List.mem_append.mp he with h | he
  · exact List.all_eq_true.mp ok_tL_23 e h
  rcases List.mem_append.mp he with h | he
  · exact List.all_eq_true.mp ok_tL_24 e h
  rcases List.mem_append.mp he with h | he
  · exact List.all_eq_true.mp ok_tL_25 e h
  rcases List.mem_append.mp he with h | he
  · exact List.all_eq_true.mp ok_tL_26 e h
  rcases List.mem_append.mp he with h | he
  · exact List.all_eq_true.mp ok_tL_27 e h
  rcases List.mem_append.mp he with h | he
  · exact List.all_eq_true.mp ok_tL_28 e h
  rcases List.mem_append.mp he with h | he
  · exact List.all_eq_true.mp ok_tL_29 e h
  rcases List.mem_append.mp he with h | he
  · exact List.all_eq_true.mp ok_tL_30 e h
  rcases List.mem_append.mp he with h | he
  · exact List.all_eq_true.mp ok_tL_31 e h
  rcases List.mem_append.mp he with h | he
  · exact List.all_eq_true.mp ok_tL_32 e h
  rcases List.mem_append.mp he with h | he
  · exact List.all_eq_true.mp ok_tL_33 e h
  rcases List.mem_append.mp he with h | he
  · exact List.all_eq_true.mp ok_tL_34 e h
  exact List.all_eq_true.mp ok_tL_35 e he
theorem sbs_ok : ∀ x, (sbs x).length ≤ 1000 := fun x => by
  unfold sbs
  split <;> decide +kernel
end
section
def dAC : DecidableEq AC := inferInstance
def dLAC : DecidableEq (List AC) := letI : DecidableEq AC := dAC; inferInstance
def dLLAC : DecidableEq (List (List AC)) := letI : DecidableEq (List AC) := dLAC; inferInstance
def dAH : DecidableEq AH := letI : DecidableEq (List (List AC)) := dLLAC; inferInstance
def dAL : DecidableEq AL := inferInstance
def dSt : DecidableEq (List AV) := inferInstance
def dO1 : DecidableEq (AL × List AV) := letI : DecidableEq AL := dAL; letI : DecidableEq (List AV) := dSt; inferInstance
def dO2 : DecidableEq (Nat × AL × List AV) := letI : DecidableEq (AL × List AV) := dO1; inferInstance
def dO3 : DecidableEq (Nat × Nat × AL × List AV) := letI : DecidableEq (Nat × AL × List AV) := dO2; inferInstance
def dO4 : DecidableEq (Nat × Nat × Nat × AL × List AV) := letI : DecidableEq (Nat × Nat × AL × List AV) := dO3; inferInstance
def dO5 : DecidableEq (Nat × Nat × Nat × Nat × AL × List AV) := letI : DecidableEq (Nat × Nat × Nat × AL × List AV) := dO4; inferInstance
def dO6 : DecidableEq (AH × Nat × Nat × Nat × Nat × AL × List AV) := letI : DecidableEq AH := dAH; letI : DecidableEq (Nat × Nat × Nat × Nat × AL × List AV) := dO5; inferInstance
def dAS : DecidableEq AS := inferInstance
def dAO : DecidableEq AO := letI : DecidableEq AS := dAS; letI : DecidableEq (AH × Nat × Nat × Nat × Nat × AL × List AV) := dO6; inferInstance
def dLO : DecidableEq (List AO) := letI : DecidableEq AO := dAO; inferInstance
def dRS : DecidableEq RS := letI : DecidableEq (List AO) := dLO; inferInstance

noncomputable def hA_0 : List AC := [(11, 18, [[(0, 0), (1, 0), (1, 1), (2, 1), (2, 2), (2, 5), (2, 21), (2, 27), (2, 43), (2, 49), (2, 50), (2, 52), (2, 70), (2, 89), (2, 91), (2, 93), (2, 94), (0, 0)]]), (103, 4, [[(2, 95), (2, 97), (2, 99), (2, 101)]]), (9, 12, [[(2, 3), (0, 0), (2, 4), (0, 0), (0, 0), (0, 0), (0, 0), (1, 0), (0, 4294967295), (0, 0), (0, 4294967295), (0, 4294967295)]]), (100, 900, [List.replicate 64 (0, 0), List.replicate 64 (0, 0), List.replicate 64 (0, 0), List.replicate 64 (0, 0), List.replicate 64 (0, 0), List.replicate 64 (0, 0), List.replicate 64 (0, 0), List.replicate 64 (0, 0), List.replicate 64 (0, 0), List.replicate 64 (0, 0), List.replicate 64 (0, 0), List.replicate 64 (0, 0), List.replicate 64 (0, 0), List.replicate 64 (0, 0), List.replicate 4 (0, 0)]), (101, 24, [[(1, 8902245), (1, 624020), (1, 146930), (1, 542723566), (1, 302), (1, 136228), (1, 136230), (1, 11703827), (1, 515251), (1, 267570), (1, 14982420), (1, 4389), (1, 6964881093), (1, 20681904), (1, 6801637), (1, 655), (1, 1497), (1, 762030), (1, 403783346), (1, 595572), (1, 52), (1, 409072), (1, 5572), (1, 643568)]]), (1, 15, [[(2, 6), (2, 11), (2, 14), (2, 15), (0, 0), (2, 16), (2, 17), (0, 0), (0, 0), (0, 0), (2, 18), (2, 19), (0, 0), (0, 0), (2, 20)]]), (5, 6, [[(0, 0), (0, 0), (2, 7), (2, 8), (2, 9), (2, 10)]]), (100, 7, [List.replicate 7 (0, 0)]), (100, 49, [List.replicate 49 (0, 0)]), (100, 49, [List.replicate 49 (0, 0)]), (100, 7, [List.replicate 7 (0, 0)]), (0, 2, [[(2, 12), (2, 13)]]), (100, 64, [List.replicate 64 (0, 0), []]), (100, 8, [List.replicate 8 (0, 0)]), (101, 7, [List.replicate 7 (1, 0)]), (101, 8, [List.replicate 8 (1, 0)])]
noncomputable def hA_1 : List AC := [(100, 8, [List.replicate 8 (0, 0)]), (100, 8, [List.replicate 8 (0, 0)]), (100, 24, [List.replicate 24 (0, 0)]), (100, 8, [List.replicate 8 (0, 0)]), (100, 7, [List.replicate 7 (0, 0)]), (7, 8, [[(0, 0), (0, 0), (0, 0), (2, 22), (2, 23), (2, 24), (2, 25), (2, 26)]]), (100, 60, [List.replicate 60 (0, 0)]), (100, 60, [List.replicate 60 (0, 0)]), (100, 60, [List.replicate 60 (0, 0)]), (100, 60, [List.replicate 60 (0, 0)]), (100, 60, [List.replicate 60 (0, 0)]), (1, 15, [[(2, 28), (2, 33), (2, 36), (2, 37), (0, 0), (2, 38), (2, 39), (0, 0), (0, 0), (0, 0), (2, 40), (2, 41), (0, 0), (0, 0), (2, 42)]]), (5, 6, [[(0, 0), (0, 0), (2, 29), (2, 30), (2, 31), (2, 32)]]), (100, 7, [List.replicate 7 (0, 0)]), (100, 49, [List.replicate 49 (0, 0)]), (100, 49, [List.replicate 49 (0, 0)])]
noncomputable def hA_2 : List AC := [(100, 7, [List.replicate 7 (0, 0)]), (0, 2, [[(2, 34), (2, 35)]]), (100, 64, [List.replicate 64 (0, 0), []]), (100, 8, [List.replicate 8 (0, 0)]), (101, 7, [List.replicate 7 (1, 0)]), (101, 8, [List.replicate 8 (1, 0)]), (100, 8, [List.replicate 8 (0, 0)]), (100, 8, [List.replicate 8 (0, 0)]), (100, 24, [List.replicate 24 (0, 0)]), (100, 8, [List.replicate 8 (0, 0)]), (100, 7, [List.replicate 7 (0, 0)]), (7, 8, [[(0, 0), (0, 0), (0, 0), (2, 44), (2, 45), (2, 46), (2, 47), (2, 48)]]), (100, 60, [List.replicate 60 (0, 0)]), (100, 60, [List.replicate 60 (0, 0)]), (100, 60, [List.replicate 60 (0, 0)]), (100, 60, [List.replicate 60 (0, 0)])]
noncomputable def hA_3 : List AC := [(100, 60, [List.replicate 60 (0, 0)]), (2, 2, [[(2, 2), (2, 27)]]), (8, 5, [[(2, 2), (2, 5), (2, 43), (2, 51), (0, 0)]]), (100, 3, [List.replicate 3 (0, 0)]), (6, 2, [[(2, 53), (2, 69)]]), (1, 15, [[(2, 54), (2, 59), (2, 62), (2, 63), (0, 0), (2, 64), (2, 65), (0, 0), (0, 0), (0, 0), (2, 66), (2, 67), (0, 0), (0, 0), (2, 68)]]), (5, 6, [[(0, 0), (0, 0), (2, 55), (2, 56), (2, 57), (2, 58)]]), (100, 7, [List.replicate 7 (0, 0)]), (100, 49, [List.replicate 49 (0, 0)]), (100, 49, [List.replicate 49 (0, 0)]), (100, 7, [List.replicate 7 (0, 0)]), (0, 2, [[(2, 60), (2, 61)]]), (100, 64, [List.replicate 64 (0, 0), []]), (100, 8, [List.replicate 8 (0, 0)]), (101, 7, [List.replicate 7 (1, 0)]), (101, 8, [List.replicate 8 (1, 0)])]
noncomputable def hA_4 : List AC := [(100, 8, [List.replicate 8 (0, 0)]), (100, 8, [List.replicate 8 (0, 0)]), (100, 24, [List.replicate 24 (0, 0)]), (100, 8, [List.replicate 8 (0, 0)]), (100, 7, [List.replicate 7 (0, 0)]), (100, 7, [List.replicate 7 (0, 0)]), (4, 3, [[(2, 71), (2, 87), (2, 88)]]), (1, 15, [[(2, 72), (2, 77), (2, 80), (2, 81), (0, 0), (2, 82), (2, 83), (0, 0), (0, 0), (0, 0), (2, 84), (2, 85), (0, 0), (0, 0), (2, 86)]]), (5, 6, [[(0, 0), (0, 0), (2, 73), (2, 74), (2, 75), (2, 76)]]), (100, 7, [List.replicate 7 (0, 0)]), (100, 49, [List.replicate 49 (0, 0)]), (100, 49, [List.replicate 49 (0, 0)]), (100, 7, [List.replicate 7 (0, 0)]), (0, 2, [[(2, 78), (2, 79)]]), (100, 64, [List.replicate 64 (0, 0), []]), (100, 8, [List.replicate 8 (0, 0)])]
noncomputable def hA_5 : List AC := [(101, 7, [List.replicate 7 (1, 0)]), (101, 8, [List.replicate 8 (1, 0)]), (100, 8, [List.replicate 8 (0, 0)]), (100, 8, [List.replicate 8 (0, 0)]), (100, 24, [List.replicate 24 (0, 0)]), (100, 8, [List.replicate 8 (0, 0)]), (100, 7, [List.replicate 7 (0, 0)]), (100, 256, [List.replicate 64 (0, 0), List.replicate 64 (0, 0), List.replicate 64 (0, 0), List.replicate 64 (0, 0), []]), (100, 8, [List.replicate 8 (0, 0)]), (3, 9, [[(0, 0), (0, 0), (0, 0), (0, 0), (0, 0), (0, 0), (0, 0), (0, 0), (2, 90)]]), (100, 60, [List.replicate 60 (0, 0)]), (3, 9, [[(0, 0), (0, 0), (0, 0), (0, 0), (0, 0), (0, 0), (0, 0), (0, 0), (2, 92)]]), (100, 60, [List.replicate 60 (0, 0)]), (104, 3, [[(2, 103), (2, 125), (2, 147)]]), (105, 3, [[(2, 119), (2, 141), (2, 163)]]), (10, 4, [[(0, 0), (0, 0), (0, 0), (2, 96)]])]
noncomputable def hA_6 : List AC := [(101, 60, [List.replicate 60 (1, 0)]), (10, 4, [[(0, 0), (0, 0), (0, 0), (2, 98)]]), (101, 60, [List.replicate 60 (1, 0)]), (10, 4, [[(0, 0), (0, 0), (0, 0), (2, 100)]]), (101, 60, [List.replicate 60 (1, 0)]), (10, 4, [[(0, 0), (0, 0), (0, 0), (2, 102)]]), (101, 60, [List.replicate 60 (1, 0)]), (1, 15, [[(2, 104), (2, 109), (2, 112), (2, 113), (0, 0), (2, 114), (2, 115), (0, 0), (0, 0), (0, 0), (2, 116), (2, 117), (0, 0), (0, 0), (2, 118)]]), (5, 6, [[(0, 0), (0, 0), (2, 105), (2, 106), (2, 107), (2, 108)]]), (100, 7, [List.replicate 7 (0, 0)]), (100, 49, [List.replicate 49 (0, 0)]), (100, 49, [List.replicate 49 (0, 0)]), (100, 7, [List.replicate 7 (0, 0)]), (0, 2, [[(2, 110), (2, 111)]]), (100, 64, [List.replicate 64 (0, 0), []]), (100, 8, [List.replicate 8 (0, 0)])]
noncomputable def hA_7 : List AC := [(101, 7, [List.replicate 7 (1, 0)]), (101, 8, [List.replicate 8 (1, 0)]), (100, 8, [List.replicate 8 (0, 0)]), (100, 8, [List.replicate 8 (0, 0)]), (100, 24, [List.replicate 24 (0, 0)]), (100, 8, [List.replicate 8 (0, 0)]), (100, 7, [List.replicate 7 (0, 0)]), (7, 8, [[(0, 0), (0, 0), (0, 0), (2, 120), (2, 121), (2, 122), (2, 123), (2, 124)]]), (100, 60, [List.replicate 60 (0, 0)]), (100, 60, [List.replicate 60 (0, 0)]), (100, 60, [List.replicate 60 (0, 0)]), (100, 60, [List.replicate 60 (0, 0)]), (100, 60, [List.replicate 60 (0, 0)]), (1, 15, [[(2, 126), (2, 131), (2, 134), (2, 135), (0, 0), (2, 136), (2, 137), (0, 0), (0, 0), (0, 0), (2, 138), (2, 139), (0, 0), (0, 0), (2, 140)]]), (5, 6, [[(0, 0), (0, 0), (2, 127), (2, 128), (2, 129), (2, 130)]]), (100, 7, [List.replicate 7 (0, 0)])]
noncomputable def hA_8 : List AC := [(100, 49, [List.replicate 49 (0, 0)]), (100, 49, [List.replicate 49 (0, 0)]), (100, 7, [List.replicate 7 (0, 0)]), (0, 2, [[(2, 132), (2, 133)]]), (100, 64, [List.replicate 64 (0, 0), []]), (100, 8, [List.replicate 8 (0, 0)]), (101, 7, [List.replicate 7 (1, 0)]), (101, 8, [List.replicate 8 (1, 0)]), (100, 8, [List.replicate 8 (0, 0)]), (100, 8, [List.replicate 8 (0, 0)]), (100, 24, [List.replicate 24 (0, 0)]), (100, 8, [List.replicate 8 (0, 0)]), (100, 7, [List.replicate 7 (0, 0)]), (7, 8, [[(0, 0), (0, 0), (0, 0), (2, 142), (2, 143), (2, 144), (2, 145), (2, 146)]]), (100, 60, [List.replicate 60 (0, 0)]), (100, 60, [List.replicate 60 (0, 0)])]
noncomputable def hA_9 : List AC := [(100, 60, [List.replicate 60 (0, 0)]), (100, 60, [List.replicate 60 (0, 0)]), (100, 60, [List.replicate 60 (0, 0)]), (1, 15, [[(2, 148), (2, 153), (2, 156), (2, 157), (0, 0), (2, 158), (2, 159), (0, 0), (0, 0), (0, 0), (2, 160), (2, 161), (0, 0), (0, 0), (2, 162)]]), (5, 6, [[(0, 0), (0, 0), (2, 149), (2, 150), (2, 151), (2, 152)]]), (100, 7, [List.replicate 7 (0, 0)]), (100, 49, [List.replicate 49 (0, 0)]), (100, 49, [List.replicate 49 (0, 0)]), (100, 7, [List.replicate 7 (0, 0)]), (0, 2, [[(2, 154), (2, 155)]]), (100, 64, [List.replicate 64 (0, 0), []]), (100, 8, [List.replicate 8 (0, 0)]), (101, 7, [List.replicate 7 (1, 0)]), (101, 8, [List.replicate 8 (1, 0)]), (100, 8, [List.replicate 8 (0, 0)]), (100, 8, [List.replicate 8 (0, 0)])]
noncomputable def hA_10 : List AC := [(100, 24, [List.replicate 24 (0, 0)]), (100, 8, [List.replicate 8 (0, 0)]), (100, 7, [List.replicate 7 (0, 0)]), (7, 8, [[(0, 0), (0, 0), (0, 0), (2, 164), (2, 165), (2, 166), (2, 167), (2, 168)]]), (100, 60, [List.replicate 60 (0, 0)]), (100, 60, [List.replicate 60 (0, 0)]), (100, 60, [List.replicate 60 (0, 0)]), (100, 60, [List.replicate 60 (0, 0)]), (100, 60, [List.replicate 60 (0, 0)]), (12, 34, [[(2, 170), (2, 171), (0, 0), (1, 0), (1, 1), (2, 172), (2, 173), (2, 174), (2, 175), (2, 176), (0, 0), (0, 0), (0, 0), (0, 0), (0, 0), (0, 0), (0, 4294967295), (0, 4294967295), (0, 0), (0, 0), (2, 177), (0, 0), (0, 0), (2, 178), (2, 179), (2, 180), (2, 181), (0, 0), (0, 0), (2, 182), (2, 183), (2, 184), (0, 0), (0, 0)]]), (100, 3696, [[(0, 0), (0, 0), (0, 0), (0, 0), (0, 4294967295), (0, 0), (0, 0), (0, 0), (0, 0), (0, 0), (0, 0), (0, 0), (0, 0), (0, 0), (0, 0), (0, 0), (0, 0), (0, 0), (0, 0), (0, 0), (0, 0), (0, 0), (0, 0), (0, 0), (0, 0), (0, 0), (0, 0), (0, 0), (0, 0), (0, 0), (0, 0), (0, 0), (0, 0), (0, 0), (0, 0), (0, 0), (0, 0), (0, 0), (0, 0), (0, 0), (0, 0), (0, 0), (0, 0), (0, 0), (0, 0), (0, 0), (0, 0), (0, 0), (0, 0), (0, 0), (0, 0), (0, 0), (0, 0), (0, 0), (0, 0), (0, 0), (0, 0), (0, 0), (0, 0), (0, 0), (0, 0), (0, 0), (0, 0), (0, 0)], List.replicate 64 (0, 0), List.replicate 64 (0, 0), List.replicate 64 (0, 0), List.replicate 64 (0, 0), List.replicate 64 (0, 0), List.replicate 64 (0, 0), List.replicate 64 (0, 0), List.replicate 64 (0, 0), List.replicate 64 (0, 0), List.replicate 64 (0, 0), List.replicate 64 (0, 0), List.replicate 64 (0, 0), List.replicate 64 (0, 0), List.replicate 64 (0, 0), List.replicate 64 (0, 0), List.replicate 64 (0, 0), List.replicate 64 (0, 0), List.replicate 64 (0, 0), List.replicate 64 (0, 0), List.replicate 64 (0, 0), List.replicate 64 (0, 0), List.replicate 64 (0, 0), List.replicate 64 (0, 0), List.replicate 64 (0, 0), List.replicate 64 (0, 0), List.replicate 64 (0, 0), List.replicate 64 (0, 0), List.replicate 64 (0, 0), List.replicate 64 (0, 0), List.replicate 64 (0, 0), List.replicate 64 (0, 0), List.replicate 64 (0, 0), List.replicate 64 (0, 0), List.replicate 64 (0, 0), List.replicate 64 (0, 0), List.replicate 64 (0, 0), List.replicate 64 (0, 0), List.replicate 64 (0, 0), List.replicate 64 (0, 0), List.replicate 64 (0, 0), List.replicate 64 (0, 0), List.replicate 64 (0, 0), List.replicate 64 (0, 0), List.replicate 64 (0, 0), List.replicate 64 (0, 0), List.replicate 64 (0, 0), List.replicate 64 (0, 0), List.replicate 64 (0, 0), List.replicate 64 (0, 0), List.replicate 64 (0, 0), List.replicate 64 (0, 0), List.replicate 64 (0, 0), List.replicate 64 (0, 0), List.replicate 64 (0, 0), List.replicate 64 (0, 0), List.replicate 64 (0, 0), List.replicate 48 (0, 0)]), (101, 90, [List.replicate 64 (1, 0), List.replicate 26 (1, 0)]), (100, 4, [List.replicate 4 (0, 0)]), (100, 4, [List.replicate 4 (0, 4294967295)]), (101, 240, [List.replicate 64 (1, 0), List.replicate 64 (1, 0), List.replicate 64 (1, 0), List.replicate 48 (1, 0)]), (102, 900, [List.replicate 64 (0, 0), List.replicate 64 (0, 0), List.replicate 64 (0, 0), List.replicate 64 (0, 0), List.replicate 64 (0, 0), List.replicate 64 (0, 0), List.replicate 64 (0, 0), List.replicate 64 (0, 0), List.replicate 64 (0, 0), List.replicate 64 (0, 0), List.replicate 64 (0, 0), List.replicate 64 (0, 0), List.replicate 64 (0, 0), List.replicate 64 (0, 0), List.replicate 4 (0, 0)])]
noncomputable def hA_11 : List AC := [(102, 900, [List.replicate 64 (0, 0), List.replicate 64 (0, 0), List.replicate 64 (0, 0), List.replicate 64 (0, 0), List.replicate 64 (0, 0), List.replicate 64 (0, 0), List.replicate 64 (0, 0), List.replicate 64 (0, 0), List.replicate 64 (0, 0), List.replicate 64 (0, 0), List.replicate 64 (0, 0), List.replicate 64 (0, 0), List.replicate 64 (0, 0), List.replicate 64 (0, 0), List.replicate 4 (0, 0)]), (100, 3, [List.replicate 3 (0, 0)]), (100, 7, [List.replicate 7 (0, 0)]), (100, 7, [List.replicate 7 (0, 0)]), (100, 7, [List.replicate 7 (0, 0)]), (100, 256, [List.replicate 64 (0, 0), List.replicate 64 (0, 0), List.replicate 64 (0, 0), List.replicate 64 (0, 0), []]), (100, 80, [List.replicate 64 (0, 0), List.replicate 16 (0, 0)]), (100, 5, [List.replicate 5 (0, 0)]), (100, 5, [List.replicate 5 (0, 0)])]
noncomputable def hA : AH := (185, [hA_0, hA_1, hA_2, hA_3, hA_4, hA_5, hA_6, hA_7, hA_8, hA_9, hA_10, hA_11])
def lA : AL := [(3, (0, 0)), (2, (2, 169)), (1, (2, 0)), (0, (6, 0))]
def s6 : AS := [ax_full, ax_full, ax_full, ax_full, ax_full, ax_full, (9223372036854775814, 9223372036854775814)]
def s5 : AS := [ax_full, ax_full, ax_full, ax_full, ax_full, ax_full, (9223372036854775808, 9223372036854775813)]
set_option maxRecDepth 100000 in
theorem stA6 : ax_run sbs mth 100000 mL_law 18 0 tL_law s6 (0, []) 0 0 [(0, (6, 0))] [] = some [(s6, hA, 185, 11361, 18, 99, lA, [])] := @of_decide_eq_true _ (dRS _ _) (by decide +kernel)
set_option maxRecDepth 100000 in
theorem stA5 : ax_run sbs mth 100000 mL_law 18 0 tL_law s5 (0, []) 0 0 [(0, (6, 0))] [] = some [(s5, hA, 185, 11361, 18, 99, lA, [])] := @of_decide_eq_true _ (dRS _ _) (by decide +kernel)
noncomputable def oB6 : List AO := [([ax_full, ax_full, ax_full, ax_full, ax_full, ax_full, (9223372036854775814, 9223372036854775814), (9223372036854775878, 9223372036854775935)], hA, 185, 11361, 2299, 99, lA, []),
  ([ax_full, ax_full, ax_full, ax_full, ax_full, ax_full, (9223372036854775814, 9223372036854775814), (9223372036854775808, 9223372036854775808)], hA, 185, 11361, 328, 99, lA, []),
  ([ax_full, ax_full, ax_full, ax_full, ax_full, ax_full, (9223372036854775814, 9223372036854775814), (9223372036854775809, 9223372036854775809)], hA, 185, 11361, 341, 99, lA, []),
  ([ax_full, ax_full, ax_full, ax_full, ax_full, ax_full, (9223372036854775814, 9223372036854775814), (9223372036854775810, 9223372036854775810)], hA, 185, 11361, 355, 99, lA, []),
  ([ax_full, ax_full, ax_full, ax_full, ax_full, ax_full, (9223372036854775814, 9223372036854775814), (9223372036854775811, 9223372036854775811)], hA, 185, 11361, 369, 99, lA, []),
  ([ax_full, ax_full, ax_full, ax_full, ax_full, ax_full, (9223372036854775814, 9223372036854775814), (9223372036854775812, 9223372036854775812)], hA, 185, 11361, 412, 99, lA, []),
  ([ax_full, ax_full, ax_full, ax_full, ax_full, ax_full, (9223372036854775814, 9223372036854775814), (9223372036854775813, 9223372036854775813)], hA, 185, 11361, 485, 99, lA, []),
  ([ax_full, ax_full, ax_full, ax_full, ax_full, ax_full, (9223372036854775814, 9223372036854775814), (9223372036854775814, 9223372036854775814)], hA, 185, 11361, 519, 99, lA, []),
  ([ax_full, ax_full, ax_full, ax_full, ax_full, ax_full, (9223372036854775814, 9223372036854775814), (9223372036854775815, 9223372036854775815)], hA, 185, 11361, 582, 99, lA, []),
  ([ax_full, ax_full, ax_full, ax_full, ax_full, ax_full, (9223372036854775814, 9223372036854775814), (9223372036854775816, 9223372036854775816)], hA, 185, 11361, 645, 99, lA, []),
  ([ax_full, ax_full, ax_full, ax_full, ax_full, ax_full, (9223372036854775814, 9223372036854775814), (9223372036854775817, 9223372036854775817)], hA, 185, 11361, 668, 99, lA, []),
  ([ax_full, ax_full, ax_full, ax_full, ax_full, ax_full, (9223372036854775814, 9223372036854775814), (9223372036854775818, 9223372036854775818)], hA, 185, 11361, 691, 99, lA, []),
  ([ax_full, ax_full, ax_full, ax_full, ax_full, ax_full, (9223372036854775814, 9223372036854775814), (9223372036854775819, 9223372036854775819)], hA, 185, 11361, 714, 99, lA, []),
  ([ax_full, ax_full, ax_full, ax_full, ax_full, ax_full, (9223372036854775814, 9223372036854775814), (9223372036854775820, 9223372036854775820)], hA, 185, 11361, 737, 99, lA, []),
  ([ax_full, ax_full, ax_full, ax_full, ax_full, ax_full, (9223372036854775814, 9223372036854775814), (9223372036854775821, 9223372036854775821)], hA, 185, 11361, 770, 99, lA, []),
  ([ax_full, ax_full, ax_full, ax_full, ax_full, ax_full, (9223372036854775814, 9223372036854775814), (9223372036854775822, 9223372036854775822)], hA, 185, 11361, 803, 99, lA, []),
  ([ax_full, ax_full, ax_full, ax_full, ax_full, ax_full, (9223372036854775814, 9223372036854775814), (9223372036854775823, 9223372036854775823)], hA, 185, 11361, 836, 99, lA, []),
  ([ax_full, ax_full, ax_full, ax_full, ax_full, ax_full, (9223372036854775814, 9223372036854775814), (9223372036854775824, 9223372036854775824)], hA, 185, 11361, 869, 99, lA, []),
  ([ax_full, ax_full, ax_full, ax_full, ax_full, ax_full, (9223372036854775814, 9223372036854775814), (9223372036854775825, 9223372036854775825)], hA, 185, 11361, 892, 99, lA, []),
  ([ax_full, ax_full, ax_full, ax_full, ax_full, ax_full, (9223372036854775814, 9223372036854775814), (9223372036854775826, 9223372036854775826)], hA, 185, 11361, 925, 99, lA, []),
  ([ax_full, ax_full, ax_full, ax_full, ax_full, ax_full, (9223372036854775814, 9223372036854775814), (9223372036854775827, 9223372036854775827)], hA, 185, 11361, 948, 99, lA, []),
  ([ax_full, ax_full, ax_full, ax_full, ax_full, ax_full, (9223372036854775814, 9223372036854775814), (9223372036854775828, 9223372036854775828)], hA, 185, 11361, 971, 99, lA, []),
  ([ax_full, ax_full, ax_full, ax_full, ax_full, ax_full, (9223372036854775814, 9223372036854775814), (9223372036854775829, 9223372036854775829)], hA, 185, 11361, 1004, 99, lA, []),
  ([ax_full, ax_full, ax_full, ax_full, ax_full, ax_full, (9223372036854775814, 9223372036854775814), (9223372036854775830, 9223372036854775830)], hA, 185, 11361, 1047, 99, lA, []),
  ([ax_full, ax_full, ax_full, ax_full, ax_full, ax_full, (9223372036854775814, 9223372036854775814), (9223372036854775831, 9223372036854775831)], hA, 185, 11361, 1096, 99, lA, []),
  ([ax_full, ax_full, ax_full, ax_full, ax_full, ax_full, (9223372036854775814, 9223372036854775814), (9223372036854775832, 9223372036854775832)], hA, 185, 11361, 1145, 99, lA, []),
  ([ax_full, ax_full, ax_full, ax_full, ax_full, ax_full, (9223372036854775814, 9223372036854775814), (9223372036854775833, 9223372036854775833)], hA, 185, 11361, 1204, 99, lA, []),
  ([ax_full, ax_full, ax_full, ax_full, ax_full, ax_full, (9223372036854775814, 9223372036854775814), (9223372036854775834, 9223372036854775834)], hA, 185, 11361, 1237, 99, lA, []),
  ([ax_full, ax_full, ax_full, ax_full, ax_full, ax_full, (9223372036854775814, 9223372036854775814), (9223372036854775835, 9223372036854775835)], hA, 185, 11361, 1270, 99, lA, []),
  ([ax_full, ax_full, ax_full, ax_full, ax_full, ax_full, (9223372036854775814, 9223372036854775814), (9223372036854775836, 9223372036854775836)], hA, 185, 11361, 1293, 99, lA, []),
  ([ax_full, ax_full, ax_full, ax_full, ax_full, ax_full, (9223372036854775814, 9223372036854775814), (9223372036854775837, 9223372036854775837)], hA, 185, 11361, 1316, 99, lA, []),
  ([ax_full, ax_full, ax_full, ax_full, ax_full, ax_full, (9223372036854775814, 9223372036854775814), (9223372036854775838, 9223372036854775838)], hA, 185, 11361, 1349, 99, lA, []),
  ([ax_full, ax_full, ax_full, ax_full, ax_full, ax_full, (9223372036854775814, 9223372036854775814), (9223372036854775839, 9223372036854775839)], hA, 185, 11361, 1382, 99, lA, []),
  ([ax_full, ax_full, ax_full, ax_full, ax_full, ax_full, (9223372036854775814, 9223372036854775814), (9223372036854775840, 9223372036854775840)], hA, 185, 11361, 1405, 99, lA, []),
  ([ax_full, ax_full, ax_full, ax_full, ax_full, ax_full, (9223372036854775814, 9223372036854775814), (9223372036854775841, 9223372036854775841)], hA, 185, 11361, 1428, 99, lA, []),
  ([ax_full, ax_full, ax_full, ax_full, ax_full, ax_full, (9223372036854775814, 9223372036854775814), (9223372036854775842, 9223372036854775842)], hA, 185, 11361, 1461, 99, lA, []),
  ([ax_full, ax_full, ax_full, ax_full, ax_full, ax_full, (9223372036854775814, 9223372036854775814), (9223372036854775843, 9223372036854775843)], hA, 185, 11361, 1494, 99, lA, []),
  ([ax_full, ax_full, ax_full, ax_full, ax_full, ax_full, (9223372036854775814, 9223372036854775814), (9223372036854775844, 9223372036854775844)], hA, 185, 11361, 1537, 99, lA, []),
  ([ax_full, ax_full, ax_full, ax_full, ax_full, ax_full, (9223372036854775814, 9223372036854775814), (9223372036854775845, 9223372036854775845)], hA, 185, 11361, 1570, 99, lA, []),
  ([ax_full, ax_full, ax_full, ax_full, ax_full, ax_full, (9223372036854775814, 9223372036854775814), (9223372036854775846, 9223372036854775846)], hA, 185, 11361, 1593, 99, lA, []),
  ([ax_full, ax_full, ax_full, ax_full, ax_full, ax_full, (9223372036854775814, 9223372036854775814), (9223372036854775847, 9223372036854775847)], hA, 185, 11361, 1626, 99, lA, []),
  ([ax_full, ax_full, ax_full, ax_full, ax_full, ax_full, (9223372036854775814, 9223372036854775814), (9223372036854775848, 9223372036854775848)], hA, 185, 11361, 1659, 99, lA, []),
  ([ax_full, ax_full, ax_full, ax_full, ax_full, ax_full, (9223372036854775814, 9223372036854775814), (9223372036854775849, 9223372036854775849)], hA, 185, 11361, 1672, 99, lA, []),
  ([ax_full, ax_full, ax_full, ax_full, ax_full, ax_full, (9223372036854775814, 9223372036854775814), (9223372036854775850, 9223372036854775850)], hA, 185, 11361, 1695, 99, lA, []),
  ([ax_full, ax_full, ax_full, ax_full, ax_full, ax_full, (9223372036854775814, 9223372036854775814), (9223372036854775851, 9223372036854775851)], hA, 185, 11361, 1708, 99, lA, []),
  ([ax_full, ax_full, ax_full, ax_full, ax_full, ax_full, (9223372036854775814, 9223372036854775814), (9223372036854775852, 9223372036854775852)], hA, 185, 11361, 1741, 99, lA, []),
  ([ax_full, ax_full, ax_full, ax_full, ax_full, ax_full, (9223372036854775814, 9223372036854775814), (9223372036854775853, 9223372036854775853)], hA, 185, 11361, 1774, 99, lA, []),
  ([ax_full, ax_full, ax_full, ax_full, ax_full, ax_full, (9223372036854775814, 9223372036854775814), (9223372036854775854, 9223372036854775854)], hA, 185, 11361, 1807, 99, lA, []),
  ([ax_full, ax_full, ax_full, ax_full, ax_full, ax_full, (9223372036854775814, 9223372036854775814), (9223372036854775855, 9223372036854775855)], hA, 185, 11361, 1830, 99, lA, []),
  ([ax_full, ax_full, ax_full, ax_full, ax_full, ax_full, (9223372036854775814, 9223372036854775814), (9223372036854775856, 9223372036854775856)], hA, 185, 11361, 1843, 99, lA, []),
  ([ax_full, ax_full, ax_full, ax_full, ax_full, ax_full, (9223372036854775814, 9223372036854775814), (9223372036854775857, 9223372036854775857)], hA, 185, 11361, 1856, 99, lA, []),
  ([ax_full, ax_full, ax_full, ax_full, ax_full, ax_full, (9223372036854775814, 9223372036854775814), (9223372036854775858, 9223372036854775858)], hA, 185, 11361, 1869, 99, lA, []),
  ([ax_full, ax_full, ax_full, ax_full, ax_full, ax_full, (9223372036854775814, 9223372036854775814), (9223372036854775859, 9223372036854775859)], hA, 185, 11361, 1892, 99, lA, []),
  ([ax_full, ax_full, ax_full, ax_full, ax_full, ax_full, (9223372036854775814, 9223372036854775814), (9223372036854775860, 9223372036854775860)], hA, 185, 11361, 1915, 99, lA, []),
  ([ax_full, ax_full, ax_full, ax_full, ax_full, ax_full, (9223372036854775814, 9223372036854775814), (9223372036854775861, 9223372036854775861)], hA, 185, 11361, 1938, 99, lA, []),
  ([ax_full, ax_full, ax_full, ax_full, ax_full, ax_full, (9223372036854775814, 9223372036854775814), (9223372036854775862, 9223372036854775862)], hA, 185, 11361, 1961, 99, lA, []),
  ([ax_full, ax_full, ax_full, ax_full, ax_full, ax_full, (9223372036854775814, 9223372036854775814), (9223372036854775863, 9223372036854775863)], hA, 185, 11361, 1994, 99, lA, []),
  ([ax_full, ax_full, ax_full, ax_full, ax_full, ax_full, (9223372036854775814, 9223372036854775814), (9223372036854775864, 9223372036854775864)], hA, 185, 11361, 2027, 99, lA, []),
  ([ax_full, ax_full, ax_full, ax_full, ax_full, ax_full, (9223372036854775814, 9223372036854775814), (9223372036854775865, 9223372036854775865)], hA, 185, 11361, 2050, 99, lA, []),
  ([ax_full, ax_full, ax_full, ax_full, ax_full, ax_full, (9223372036854775814, 9223372036854775814), (9223372036854775866, 9223372036854775866)], hA, 185, 11361, 2093, 99, lA, []),
  ([ax_full, ax_full, ax_full, ax_full, ax_full, ax_full, (9223372036854775814, 9223372036854775814), (9223372036854775867, 9223372036854775867)], hA, 185, 11361, 2106, 99, lA, []),
  ([ax_full, ax_full, ax_full, ax_full, ax_full, ax_full, (9223372036854775814, 9223372036854775814), (9223372036854775868, 9223372036854775868)], hA, 185, 11361, 2119, 99, lA, []),
  ([ax_full, ax_full, ax_full, ax_full, ax_full, ax_full, (9223372036854775814, 9223372036854775814), (9223372036854775869, 9223372036854775869)], hA, 185, 11361, 2132, 99, lA, []),
  ([ax_full, ax_full, ax_full, ax_full, ax_full, ax_full, (9223372036854775814, 9223372036854775814), (9223372036854775870, 9223372036854775870)], hA, 185, 11361, 2145, 99, lA, []),
  ([ax_full, ax_full, ax_full, ax_full, ax_full, ax_full, (9223372036854775814, 9223372036854775814), (9223372036854775871, 9223372036854775871)], hA, 185, 11361, 2158, 99, lA, []),
  ([ax_full, ax_full, ax_full, ax_full, ax_full, ax_full, (9223372036854775814, 9223372036854775814), (9223372036854775872, 9223372036854775872)], hA, 185, 11361, 2181, 99, lA, []),
  ([ax_full, ax_full, ax_full, ax_full, ax_full, ax_full, (9223372036854775814, 9223372036854775814), (9223372036854775873, 9223372036854775873)], hA, 185, 11361, 2194, 99, lA, []),
  ([ax_full, ax_full, ax_full, ax_full, ax_full, ax_full, (9223372036854775814, 9223372036854775814), (9223372036854775874, 9223372036854775874)], hA, 185, 11361, 2217, 99, lA, []),
  ([ax_full, ax_full, ax_full, ax_full, ax_full, ax_full, (9223372036854775814, 9223372036854775814), (9223372036854775875, 9223372036854775875)], hA, 185, 11361, 2240, 99, lA, []),
  ([ax_full, ax_full, ax_full, ax_full, ax_full, ax_full, (9223372036854775814, 9223372036854775814), (9223372036854775876, 9223372036854775876)], hA, 185, 11361, 2273, 99, lA, []),
  ([ax_full, ax_full, ax_full, ax_full, ax_full, ax_full, (9223372036854775814, 9223372036854775814), (9223372036854775877, 9223372036854775877)], hA, 185, 11361, 2286, 99, lA, [])]
set_option maxRecDepth 100000 in
theorem stB6 : ax_run sbs mth 1000 mL_law 328 18 (ax_jmp tL_law 18) s6 hA 185 11361 lA [] = some oB6 := @of_decide_eq_true _ (dRS _ _) (by decide +kernel)
noncomputable def oB5 : List AO := [([ax_full, ax_full, ax_full, ax_full, ax_full, ax_full, (9223372036854775808, 9223372036854775813), (9223372036854775802, 9223372036854775807)], hA, 185, 11361, 2305, 99, lA, [])]
set_option maxRecDepth 100000 in
theorem stB5 : ax_run sbs mth 1000 mL_law 328 18 (ax_jmp tL_law 18) s5 hA 185 11361 lA [] = some oB5 := @of_decide_eq_true _ (dRS _ _) (by decide +kernel)
noncomputable def ax_ck (r : RS) : Bool := match r with
  | some l => l.all (fun o => Nat.beq o.2.2.2.2.2.1 22 && @decide (o.2.2.2.2.2.2.2 = [(0, 1)]) (dSt _ _))
  | none => false
end
section
set_option maxRecDepth 100000 in
theorem stC6_0 : ax_ck (ax_run sbs mth 1000000 mL_law 999999 2299 (ax_jmp tL_law 2299) [ax_full, ax_full, ax_full, ax_full, ax_full, ax_full, (9223372036854775814, 9223372036854775814), (9223372036854775878, 9223372036854775935)] hA 185 11361 lA []) = true := by decide +kernel
set_option maxRecDepth 100000 in
theorem stC6_1 : ax_ck (ax_run sbs mth 1000000 mL_law 999999 328 (ax_jmp tL_law 328) [ax_full, ax_full, ax_full, ax_full, ax_full, ax_full, (9223372036854775814, 9223372036854775814), (9223372036854775808, 9223372036854775808)] hA 185 11361 lA []) = true := by decide +kernel
set_option maxRecDepth 100000 in
theorem stC6_2 : ax_ck (ax_run sbs mth 1000000 mL_law 999999 341 (ax_jmp tL_law 341) [ax_full, ax_full, ax_full, ax_full, ax_full, ax_full, (9223372036854775814, 9223372036854775814), (9223372036854775809, 9223372036854775809)] hA 185 11361 lA []) = true := by decide +kernel
set_option maxRecDepth 100000 in
theorem stC6_3 : ax_ck (ax_run sbs mth 1000000 mL_law 999999 355 (ax_jmp tL_law 355) [ax_full, ax_full, ax_full, ax_full, ax_full, ax_full, (9223372036854775814, 9223372036854775814), (9223372036854775810, 9223372036854775810)] hA 185 11361 lA []) = true := by decide +kernel
set_option maxRecDepth 100000 in
theorem stC6_4 : ax_ck (ax_run sbs mth 1000000 mL_law 999999 369 (ax_jmp tL_law 369) [ax_full, ax_full, ax_full, ax_full, ax_full, ax_full, (9223372036854775814, 9223372036854775814), (9223372036854775811, 9223372036854775811)] hA 185 11361 lA []) = true := by decide +kernel
set_option maxRecDepth 100000 in
theorem stC6_5 : ax_ck (ax_run sbs mth 1000000 mL_law 999999 412 (ax_jmp tL_law 412) [ax_full, ax_full, ax_full, ax_full, ax_full, ax_full, (9223372036854775814, 9223372036854775814), (9223372036854775812, 9223372036854775812)] hA 185 11361 lA []) = true := by decide +kernel
set_option maxRecDepth 100000 in
theorem stC6_6 : ax_ck (ax_run sbs mth 1000000 mL_law 999999 485 (ax_jmp tL_law 485) [ax_full, ax_full, ax_full, ax_full, ax_full, ax_full, (9223372036854775814, 9223372036854775814), (9223372036854775813, 9223372036854775813)] hA 185 11361 lA []) = true := by decide +kernel
set_option maxRecDepth 100000 in
theorem stC6_7 : ax_ck (ax_run sbs mth 1000000 mL_law 999999 519 (ax_jmp tL_law 519) [ax_full, ax_full, ax_full, ax_full, ax_full, ax_full, (9223372036854775814, 9223372036854775814), (9223372036854775814, 9223372036854775814)] hA 185 11361 lA []) = true := by decide +kernel
set_option maxRecDepth 100000 in
theorem stC6_8 : ax_ck (ax_run sbs mth 1000000 mL_law 999999 582 (ax_jmp tL_law 582) [ax_full, ax_full, ax_full, ax_full, ax_full, ax_full, (9223372036854775814, 9223372036854775814), (9223372036854775815, 9223372036854775815)] hA 185 11361 lA []) = true := by decide +kernel
set_option maxRecDepth 100000 in
theorem stC6_9 : ax_ck (ax_run sbs mth 1000000 mL_law 999999 645 (ax_jmp tL_law 645) [ax_full, ax_full, ax_full, ax_full, ax_full, ax_full, (9223372036854775814, 9223372036854775814), (9223372036854775816, 9223372036854775816)] hA 185 11361 lA []) = true := by decide +kernel
set_option maxRecDepth 100000 in
theorem stC6_10 : ax_ck (ax_run sbs mth 1000000 mL_law 999999 668 (ax_jmp tL_law 668) [ax_full, ax_full, ax_full, ax_full, ax_full, ax_full, (9223372036854775814, 9223372036854775814), (9223372036854775817, 9223372036854775817)] hA 185 11361 lA []) = true := by decide +kernel
set_option maxRecDepth 100000 in
theorem stC6_11 : ax_ck (ax_run sbs mth 1000000 mL_law 999999 691 (ax_jmp tL_law 691) [ax_full, ax_full, ax_full, ax_full, ax_full, ax_full, (9223372036854775814, 9223372036854775814), (9223372036854775818, 9223372036854775818)] hA 185 11361 lA []) = true := by decide +kernel
set_option maxRecDepth 100000 in
theorem stC6_12 : ax_ck (ax_run sbs mth 1000000 mL_law 999999 714 (ax_jmp tL_law 714) [ax_full, ax_full, ax_full, ax_full, ax_full, ax_full, (9223372036854775814, 9223372036854775814), (9223372036854775819, 9223372036854775819)] hA 185 11361 lA []) = true := by decide +kernel
set_option maxRecDepth 100000 in
theorem stC6_13 : ax_ck (ax_run sbs mth 1000000 mL_law 999999 737 (ax_jmp tL_law 737) [ax_full, ax_full, ax_full, ax_full, ax_full, ax_full, (9223372036854775814, 9223372036854775814), (9223372036854775820, 9223372036854775820)] hA 185 11361 lA []) = true := by decide +kernel
set_option maxRecDepth 100000 in
theorem stC6_14 : ax_ck (ax_run sbs mth 1000000 mL_law 999999 770 (ax_jmp tL_law 770) [ax_full, ax_full, ax_full, ax_full, ax_full, ax_full, (9223372036854775814, 9223372036854775814), (9223372036854775821, 9223372036854775821)] hA 185 11361 lA []) = true := by decide +kernel
set_option maxRecDepth 100000 in
theorem stC6_15 : ax_ck (ax_run sbs mth 1000000 mL_law 999999 803 (ax_jmp tL_law 803) [ax_full, ax_full, ax_full, ax_full, ax_full, ax_full, (9223372036854775814, 9223372036854775814), (9223372036854775822, 9223372036854775822)] hA 185 11361 lA []) = true := by decide +kernel
set_option maxRecDepth 100000 in
theorem stC6_16 : ax_ck (ax_run sbs mth 1000000 mL_law 999999 836 (ax_jmp tL_law 836) [ax_full, ax_full, ax_full, ax_full, ax_full, ax_full, (9223372036854775814, 9223372036854775814), (9223372036854775823, 9223372036854775823)] hA 185 11361 lA []) = true := by decide +kernel
set_option maxRecDepth 100000 in
theorem stC6_17 : ax_ck (ax_run sbs mth 1000000 mL_law 999999 869 (ax_jmp tL_law 869) [ax_full, ax_full, ax_full, ax_full, ax_full, ax_full, (9223372036854775814, 9223372036854775814), (9223372036854775824, 9223372036854775824)] hA 185 11361 lA []) = true := by decide +kernel
set_option maxRecDepth 100000 in
theorem stC6_18 : ax_ck (ax_run sbs mth 1000000 mL_law 999999 892 (ax_jmp tL_law 892) [ax_full, ax_full, ax_full, ax_full, ax_full, ax_full, (9223372036854775814, 9223372036854775814), (9223372036854775825, 9223372036854775825)] hA 185 11361 lA []) = true := by decide +kernel
set_option maxRecDepth 100000 in
theorem stC6_19_9223372034707292160 : ax_ck (ax_run sbs mth 1000000 mL_law 999999 925 (ax_jmp tL_law 925) [ax_full, (9223372034707292160, 9223372036854775808), ax_full, ax_full, ax_full, ax_full, (9223372036854775814, 9223372036854775814), (9223372036854775826, 9223372036854775826)] hA 185 11361 lA []) = true := by decide +kernel
set_option maxRecDepth 100000 in
theorem stC6_19_9223372036854775809 : ax_ck (ax_run sbs mth 1000000 mL_law 999999 925 (ax_jmp tL_law 925) [ax_full, (9223372036854775809, 9223372036854775843), ax_full, ax_full, ax_full, ax_full, (9223372036854775814, 9223372036854775814), (9223372036854775826, 9223372036854775826)] hA 185 11361 lA []) = true := by decide +kernel
set_option maxRecDepth 100000 in
theorem stC6_19_9223372036854775844 : ax_ck (ax_run sbs mth 1000000 mL_law 999999 925 (ax_jmp tL_law 925) [ax_full, (9223372036854775844, 9223372036854775863), ax_full, ax_full, ax_full, ax_full, (9223372036854775814, 9223372036854775814), (9223372036854775826, 9223372036854775826)] hA 185 11361 lA []) = true := by decide +kernel
end
section
set_option maxRecDepth 100000 in
theorem stC6_19_9223372036854775864 : ax_ck (ax_run sbs mth 1000000 mL_law 999999 925 (ax_jmp tL_law 925) [ax_full, (9223372036854775864, 9223372036854775879), ax_full, ax_full, ax_full, ax_full, (9223372036854775814, 9223372036854775814), (9223372036854775826, 9223372036854775826)] hA 185 11361 lA []) = true := by decide +kernel
set_option maxRecDepth 100000 in
theorem stC6_19_9223372036854775880 : ax_ck (ax_run sbs mth 1000000 mL_law 999999 925 (ax_jmp tL_law 925) [ax_full, (9223372036854775880, 9223372036854775891), ax_full, ax_full, ax_full, ax_full, (9223372036854775814, 9223372036854775814), (9223372036854775826, 9223372036854775826)] hA 185 11361 lA []) = true := by decide +kernel
set_option maxRecDepth 100000 in
theorem stC6_19_9223372036854775892 : ax_ck (ax_run sbs mth 1000000 mL_law 999999 925 (ax_jmp tL_law 925) [ax_full, (9223372036854775892, 9223372036854775900), ax_full, ax_full, ax_full, ax_full, (9223372036854775814, 9223372036854775814), (9223372036854775826, 9223372036854775826)] hA 185 11361 lA []) = true := by decide +kernel
set_option maxRecDepth 100000 in
theorem stC6_19_9223372036854775901 : ax_ck (ax_run sbs mth 1000000 mL_law 999999 925 (ax_jmp tL_law 925) [ax_full, (9223372036854775901, 9223372036854775907), ax_full, ax_full, ax_full, ax_full, (9223372036854775814, 9223372036854775814), (9223372036854775826, 9223372036854775826)] hA 185 11361 lA []) = true := by decide +kernel
set_option maxRecDepth 100000 in
theorem stC6_19_9223372036854775908 : ax_ck (ax_run sbs mth 1000000 mL_law 999999 925 (ax_jmp tL_law 925) [ax_full, (9223372036854775908, 9223372039002259455), ax_full, ax_full, ax_full, ax_full, (9223372036854775814, 9223372036854775814), (9223372036854775826, 9223372036854775826)] hA 185 11361 lA []) = true := by decide +kernel
set_option maxRecDepth 100000 in
theorem stC6_20 : ax_ck (ax_run sbs mth 1000000 mL_law 999999 948 (ax_jmp tL_law 948) [ax_full, ax_full, ax_full, ax_full, ax_full, ax_full, (9223372036854775814, 9223372036854775814), (9223372036854775827, 9223372036854775827)] hA 185 11361 lA []) = true := by decide +kernel
set_option maxRecDepth 100000 in
theorem stC6_21 : ax_ck (ax_run sbs mth 1000000 mL_law 999999 971 (ax_jmp tL_law 971) [ax_full, ax_full, ax_full, ax_full, ax_full, ax_full, (9223372036854775814, 9223372036854775814), (9223372036854775828, 9223372036854775828)] hA 185 11361 lA []) = true := by decide +kernel
set_option maxRecDepth 100000 in
theorem stC6_22 : ax_ck (ax_run sbs mth 1000000 mL_law 999999 1004 (ax_jmp tL_law 1004) [ax_full, ax_full, ax_full, ax_full, ax_full, ax_full, (9223372036854775814, 9223372036854775814), (9223372036854775829, 9223372036854775829)] hA 185 11361 lA []) = true := by decide +kernel
set_option maxRecDepth 100000 in
theorem stC6_23 : ax_ck (ax_run sbs mth 1000000 mL_law 999999 1047 (ax_jmp tL_law 1047) [ax_full, ax_full, ax_full, ax_full, ax_full, ax_full, (9223372036854775814, 9223372036854775814), (9223372036854775830, 9223372036854775830)] hA 185 11361 lA []) = true := by decide +kernel
set_option maxRecDepth 100000 in
theorem stC6_24 : ax_ck (ax_run sbs mth 1000000 mL_law 999999 1096 (ax_jmp tL_law 1096) [ax_full, ax_full, ax_full, ax_full, ax_full, ax_full, (9223372036854775814, 9223372036854775814), (9223372036854775831, 9223372036854775831)] hA 185 11361 lA []) = true := by decide +kernel
set_option maxRecDepth 100000 in
theorem stC6_25 : ax_ck (ax_run sbs mth 1000000 mL_law 999999 1145 (ax_jmp tL_law 1145) [ax_full, ax_full, ax_full, ax_full, ax_full, ax_full, (9223372036854775814, 9223372036854775814), (9223372036854775832, 9223372036854775832)] hA 185 11361 lA []) = true := by decide +kernel
set_option maxRecDepth 100000 in
theorem stC6_26 : ax_ck (ax_run sbs mth 1000000 mL_law 999999 1204 (ax_jmp tL_law 1204) [ax_full, ax_full, ax_full, ax_full, ax_full, ax_full, (9223372036854775814, 9223372036854775814), (9223372036854775833, 9223372036854775833)] hA 185 11361 lA []) = true := by decide +kernel
set_option maxRecDepth 100000 in
theorem stC6_27 : ax_ck (ax_run sbs mth 1000000 mL_law 999999 1237 (ax_jmp tL_law 1237) [ax_full, ax_full, ax_full, ax_full, ax_full, ax_full, (9223372036854775814, 9223372036854775814), (9223372036854775834, 9223372036854775834)] hA 185 11361 lA []) = true := by decide +kernel
set_option maxRecDepth 100000 in
theorem stC6_28 : ax_ck (ax_run sbs mth 1000000 mL_law 999999 1270 (ax_jmp tL_law 1270) [ax_full, ax_full, ax_full, ax_full, ax_full, ax_full, (9223372036854775814, 9223372036854775814), (9223372036854775835, 9223372036854775835)] hA 185 11361 lA []) = true := by decide +kernel
set_option maxRecDepth 100000 in
theorem stC6_29 : ax_ck (ax_run sbs mth 1000000 mL_law 999999 1293 (ax_jmp tL_law 1293) [ax_full, ax_full, ax_full, ax_full, ax_full, ax_full, (9223372036854775814, 9223372036854775814), (9223372036854775836, 9223372036854775836)] hA 185 11361 lA []) = true := by decide +kernel
set_option maxRecDepth 100000 in
theorem stC6_30 : ax_ck (ax_run sbs mth 1000000 mL_law 999999 1316 (ax_jmp tL_law 1316) [ax_full, ax_full, ax_full, ax_full, ax_full, ax_full, (9223372036854775814, 9223372036854775814), (9223372036854775837, 9223372036854775837)] hA 185 11361 lA []) = true := by decide +kernel
set_option maxRecDepth 100000 in
theorem stC6_31 : ax_ck (ax_run sbs mth 1000000 mL_law 999999 1349 (ax_jmp tL_law 1349) [ax_full, ax_full, ax_full, ax_full, ax_full, ax_full, (9223372036854775814, 9223372036854775814), (9223372036854775838, 9223372036854775838)] hA 185 11361 lA []) = true := by decide +kernel
set_option maxRecDepth 100000 in
theorem stC6_32 : ax_ck (ax_run sbs mth 1000000 mL_law 999999 1382 (ax_jmp tL_law 1382) [ax_full, ax_full, ax_full, ax_full, ax_full, ax_full, (9223372036854775814, 9223372036854775814), (9223372036854775839, 9223372036854775839)] hA 185 11361 lA []) = true := by decide +kernel
set_option maxRecDepth 100000 in
theorem stC6_33 : ax_ck (ax_run sbs mth 1000000 mL_law 999999 1405 (ax_jmp tL_law 1405) [ax_full, ax_full, ax_full, ax_full, ax_full, ax_full, (9223372036854775814, 9223372036854775814), (9223372036854775840, 9223372036854775840)] hA 185 11361 lA []) = true := by decide +kernel
set_option maxRecDepth 100000 in
theorem stC6_34 : ax_ck (ax_run sbs mth 1000000 mL_law 999999 1428 (ax_jmp tL_law 1428) [ax_full, ax_full, ax_full, ax_full, ax_full, ax_full, (9223372036854775814, 9223372036854775814), (9223372036854775841, 9223372036854775841)] hA 185 11361 lA []) = true := by decide +kernel
set_option maxRecDepth 100000 in
theorem stC6_35 : ax_ck (ax_run sbs mth 1000000 mL_law 999999 1461 (ax_jmp tL_law 1461) [ax_full, ax_full, ax_full, ax_full, ax_full, ax_full, (9223372036854775814, 9223372036854775814), (9223372036854775842, 9223372036854775842)] hA 185 11361 lA []) = true := by decide +kernel
set_option maxRecDepth 100000 in
theorem stC6_36 : ax_ck (ax_run sbs mth 1000000 mL_law 999999 1494 (ax_jmp tL_law 1494) [ax_full, ax_full, ax_full, ax_full, ax_full, ax_full, (9223372036854775814, 9223372036854775814), (9223372036854775843, 9223372036854775843)] hA 185 11361 lA []) = true := by decide +kernel
set_option maxRecDepth 100000 in
theorem stC6_37 : ax_ck (ax_run sbs mth 1000000 mL_law 999999 1537 (ax_jmp tL_law 1537) [ax_full, ax_full, ax_full, ax_full, ax_full, ax_full, (9223372036854775814, 9223372036854775814), (9223372036854775844, 9223372036854775844)] hA 185 11361 lA []) = true := by decide +kernel
set_option maxRecDepth 100000 in
theorem stC6_38 : ax_ck (ax_run sbs mth 1000000 mL_law 999999 1570 (ax_jmp tL_law 1570) [ax_full, ax_full, ax_full, ax_full, ax_full, ax_full, (9223372036854775814, 9223372036854775814), (9223372036854775845, 9223372036854775845)] hA 185 11361 lA []) = true := by decide +kernel
set_option maxRecDepth 100000 in
theorem stC6_39 : ax_ck (ax_run sbs mth 1000000 mL_law 999999 1593 (ax_jmp tL_law 1593) [ax_full, ax_full, ax_full, ax_full, ax_full, ax_full, (9223372036854775814, 9223372036854775814), (9223372036854775846, 9223372036854775846)] hA 185 11361 lA []) = true := by decide +kernel
set_option maxRecDepth 100000 in
theorem stC6_40 : ax_ck (ax_run sbs mth 1000000 mL_law 999999 1626 (ax_jmp tL_law 1626) [ax_full, ax_full, ax_full, ax_full, ax_full, ax_full, (9223372036854775814, 9223372036854775814), (9223372036854775847, 9223372036854775847)] hA 185 11361 lA []) = true := by decide +kernel
set_option maxRecDepth 100000 in
theorem stC6_41 : ax_ck (ax_run sbs mth 1000000 mL_law 999999 1659 (ax_jmp tL_law 1659) [ax_full, ax_full, ax_full, ax_full, ax_full, ax_full, (9223372036854775814, 9223372036854775814), (9223372036854775848, 9223372036854775848)] hA 185 11361 lA []) = true := by decide +kernel
set_option maxRecDepth 100000 in
theorem stC6_42_9223372034707292160 : ax_ck (ax_run sbs mth 1000000 mL_law 999999 1672 (ax_jmp tL_law 1672) [ax_full, (9223372034707292160, 9223372036854775808), ax_full, ax_full, ax_full, ax_full, (9223372036854775814, 9223372036854775814), (9223372036854775849, 9223372036854775849)] hA 185 11361 lA []) = true := by decide +kernel
end
section
set_option maxRecDepth 100000 in
theorem stC6_42_9223372036854775809 : ax_ck (ax_run sbs mth 1000000 mL_law 999999 1672 (ax_jmp tL_law 1672) [ax_full, (9223372036854775809, 9223372036854775814), ax_full, ax_full, ax_full, ax_full, (9223372036854775814, 9223372036854775814), (9223372036854775849, 9223372036854775849)] hA 185 11361 lA []) = true := by decide +kernel
set_option maxRecDepth 100000 in
theorem stC6_42_9223372036854775815 : ax_ck (ax_run sbs mth 1000000 mL_law 999999 1672 (ax_jmp tL_law 1672) [ax_full, (9223372036854775815, 9223372036854775820), ax_full, ax_full, ax_full, ax_full, (9223372036854775814, 9223372036854775814), (9223372036854775849, 9223372036854775849)] hA 185 11361 lA []) = true := by decide +kernel
end
section
set_option maxRecDepth 100000 in
theorem stC6_42_9223372036854775821 : ax_ck (ax_run sbs mth 1000000 mL_law 999999 1672 (ax_jmp tL_law 1672) [ax_full, (9223372036854775821, 9223372036854775826), ax_full, ax_full, ax_full, ax_full, (9223372036854775814, 9223372036854775814), (9223372036854775849, 9223372036854775849)] hA 185 11361 lA []) = true := by decide +kernel
set_option maxRecDepth 100000 in
theorem stC6_42_9223372036854775827 : ax_ck (ax_run sbs mth 1000000 mL_law 999999 1672 (ax_jmp tL_law 1672) [ax_full, (9223372036854775827, 9223372036854775831), ax_full, ax_full, ax_full, ax_full, (9223372036854775814, 9223372036854775814), (9223372036854775849, 9223372036854775849)] hA 185 11361 lA []) = true := by decide +kernel
set_option maxRecDepth 100000 in
theorem stC6_42_9223372036854775832 : ax_ck (ax_run sbs mth 1000000 mL_law 999999 1672 (ax_jmp tL_law 1672) [ax_full, (9223372036854775832, 9223372036854775836), ax_full, ax_full, ax_full, ax_full, (9223372036854775814, 9223372036854775814), (9223372036854775849, 9223372036854775849)] hA 185 11361 lA []) = true := by decide +kernel
end
section
set_option maxRecDepth 100000 in
theorem stC6_42_9223372036854775837 : ax_ck (ax_run sbs mth 1000000 mL_law 999999 1672 (ax_jmp tL_law 1672) [ax_full, (9223372036854775837, 9223372036854775841), ax_full, ax_full, ax_full, ax_full, (9223372036854775814, 9223372036854775814), (9223372036854775849, 9223372036854775849)] hA 185 11361 lA []) = true := by decide +kernel
set_option maxRecDepth 100000 in
theorem stC6_42_9223372036854775842 : ax_ck (ax_run sbs mth 1000000 mL_law 999999 1672 (ax_jmp tL_law 1672) [ax_full, (9223372036854775842, 9223372036854775846), ax_full, ax_full, ax_full, ax_full, (9223372036854775814, 9223372036854775814), (9223372036854775849, 9223372036854775849)] hA 185 11361 lA []) = true := by decide +kernel
set_option maxRecDepth 100000 in
theorem stC6_42_9223372036854775847 : ax_ck (ax_run sbs mth 1000000 mL_law 999999 1672 (ax_jmp tL_law 1672) [ax_full, (9223372036854775847, 9223372036854775850), ax_full, ax_full, ax_full, ax_full, (9223372036854775814, 9223372036854775814), (9223372036854775849, 9223372036854775849)] hA 185 11361 lA []) = true := by decide +kernel
end
section
set_option maxRecDepth 100000 in
theorem stC6_42_9223372036854775851 : ax_ck (ax_run sbs mth 1000000 mL_law 999999 1672 (ax_jmp tL_law 1672) [ax_full, (9223372036854775851, 9223372036854775854), ax_full, ax_full, ax_full, ax_full, (9223372036854775814, 9223372036854775814), (9223372036854775849, 9223372036854775849)] hA 185 11361 lA []) = true := by decide +kernel
set_option maxRecDepth 100000 in
theorem stC6_42_9223372036854775855 : ax_ck (ax_run sbs mth 1000000 mL_law 999999 1672 (ax_jmp tL_law 1672) [ax_full, (9223372036854775855, 9223372036854775858), ax_full, ax_full, ax_full, ax_full, (9223372036854775814, 9223372036854775814), (9223372036854775849, 9223372036854775849)] hA 185 11361 lA []) = true := by decide +kernel
set_option maxRecDepth 100000 in
theorem stC6_42_9223372036854775859 : ax_ck (ax_run sbs mth 1000000 mL_law 999999 1672 (ax_jmp tL_law 1672) [ax_full, (9223372036854775859, 9223372036854775862), ax_full, ax_full, ax_full, ax_full, (9223372036854775814, 9223372036854775814), (9223372036854775849, 9223372036854775849)] hA 185 11361 lA []) = true := by decide +kernel
end
section
set_option maxRecDepth 100000 in
theorem stC6_42_9223372036854775863 : ax_ck (ax_run sbs mth 1000000 mL_law 999999 1672 (ax_jmp tL_law 1672) [ax_full, (9223372036854775863, 9223372036854775866), ax_full, ax_full, ax_full, ax_full, (9223372036854775814, 9223372036854775814), (9223372036854775849, 9223372036854775849)] hA 185 11361 lA []) = true := by decide +kernel
set_option maxRecDepth 100000 in
theorem stC6_42_9223372036854775867 : ax_ck (ax_run sbs mth 1000000 mL_law 999999 1672 (ax_jmp tL_law 1672) [ax_full, (9223372036854775867, 9223372036854775870), ax_full, ax_full, ax_full, ax_full, (9223372036854775814, 9223372036854775814), (9223372036854775849, 9223372036854775849)] hA 185 11361 lA []) = true := by decide +kernel
set_option maxRecDepth 100000 in
theorem stC6_42_9223372036854775871 : ax_ck (ax_run sbs mth 1000000 mL_law 999999 1672 (ax_jmp tL_law 1672) [ax_full, (9223372036854775871, 9223372036854775874), ax_full, ax_full, ax_full, ax_full, (9223372036854775814, 9223372036854775814), (9223372036854775849, 9223372036854775849)] hA 185 11361 lA []) = true := by decide +kernel
end
section
set_option maxRecDepth 100000 in
theorem stC6_42_9223372036854775875 : ax_ck (ax_run sbs mth 1000000 mL_law 999999 1672 (ax_jmp tL_law 1672) [ax_full, (9223372036854775875, 9223372036854775877), ax_full, ax_full, ax_full, ax_full, (9223372036854775814, 9223372036854775814), (9223372036854775849, 9223372036854775849)] hA 185 11361 lA []) = true := by decide +kernel
set_option maxRecDepth 100000 in
theorem stC6_42_9223372036854775878 : ax_ck (ax_run sbs mth 1000000 mL_law 999999 1672 (ax_jmp tL_law 1672) [ax_full, (9223372036854775878, 9223372036854775880), ax_full, ax_full, ax_full, ax_full, (9223372036854775814, 9223372036854775814), (9223372036854775849, 9223372036854775849)] hA 185 11361 lA []) = true := by decide +kernel
set_option maxRecDepth 100000 in
theorem stC6_42_9223372036854775881 : ax_ck (ax_run sbs mth 1000000 mL_law 999999 1672 (ax_jmp tL_law 1672) [ax_full, (9223372036854775881, 9223372036854775883), ax_full, ax_full, ax_full, ax_full, (9223372036854775814, 9223372036854775814), (9223372036854775849, 9223372036854775849)] hA 185 11361 lA []) = true := by decide +kernel
end
section
set_option maxRecDepth 100000 in
theorem stC6_42_9223372036854775884 : ax_ck (ax_run sbs mth 1000000 mL_law 999999 1672 (ax_jmp tL_law 1672) [ax_full, (9223372036854775884, 9223372036854775886), ax_full, ax_full, ax_full, ax_full, (9223372036854775814, 9223372036854775814), (9223372036854775849, 9223372036854775849)] hA 185 11361 lA []) = true := by decide +kernel
set_option maxRecDepth 100000 in
theorem stC6_42_9223372036854775887 : ax_ck (ax_run sbs mth 1000000 mL_law 999999 1672 (ax_jmp tL_law 1672) [ax_full, (9223372036854775887, 9223372036854775889), ax_full, ax_full, ax_full, ax_full, (9223372036854775814, 9223372036854775814), (9223372036854775849, 9223372036854775849)] hA 185 11361 lA []) = true := by decide +kernel
set_option maxRecDepth 100000 in
theorem stC6_42_9223372036854775890 : ax_ck (ax_run sbs mth 1000000 mL_law 999999 1672 (ax_jmp tL_law 1672) [ax_full, (9223372036854775890, 9223372036854775892), ax_full, ax_full, ax_full, ax_full, (9223372036854775814, 9223372036854775814), (9223372036854775849, 9223372036854775849)] hA 185 11361 lA []) = true := by decide +kernel
end
section
set_option maxRecDepth 100000 in
theorem stC6_42_9223372036854775893 : ax_ck (ax_run sbs mth 1000000 mL_law 999999 1672 (ax_jmp tL_law 1672) [ax_full, (9223372036854775893, 9223372036854775895), ax_full, ax_full, ax_full, ax_full, (9223372036854775814, 9223372036854775814), (9223372036854775849, 9223372036854775849)] hA 185 11361 lA []) = true := by decide +kernel
set_option maxRecDepth 100000 in
theorem stC6_42_9223372036854775896 : ax_ck (ax_run sbs mth 1000000 mL_law 999999 1672 (ax_jmp tL_law 1672) [ax_full, (9223372036854775896, 9223372036854775898), ax_full, ax_full, ax_full, ax_full, (9223372036854775814, 9223372036854775814), (9223372036854775849, 9223372036854775849)] hA 185 11361 lA []) = true := by decide +kernel
set_option maxRecDepth 100000 in
theorem stC6_42_9223372036854775899 : ax_ck (ax_run sbs mth 1000000 mL_law 999999 1672 (ax_jmp tL_law 1672) [ax_full, (9223372036854775899, 9223372036854775901), ax_full, ax_full, ax_full, ax_full, (9223372036854775814, 9223372036854775814), (9223372036854775849, 9223372036854775849)] hA 185 11361 lA []) = true := by decide +kernel
end
section
set_option maxRecDepth 100000 in
theorem stC6_42_9223372036854775902 : ax_ck (ax_run sbs mth 1000000 mL_law 999999 1672 (ax_jmp tL_law 1672) [ax_full, (9223372036854775902, 9223372036854775904), ax_full, ax_full, ax_full, ax_full, (9223372036854775814, 9223372036854775814), (9223372036854775849, 9223372036854775849)] hA 185 11361 lA []) = true := by decide +kernel
set_option maxRecDepth 100000 in
theorem stC6_42_9223372036854775905 : ax_ck (ax_run sbs mth 1000000 mL_law 999999 1672 (ax_jmp tL_law 1672) [ax_full, (9223372036854775905, 9223372036854775907), ax_full, ax_full, ax_full, ax_full, (9223372036854775814, 9223372036854775814), (9223372036854775849, 9223372036854775849)] hA 185 11361 lA []) = true := by decide +kernel
set_option maxRecDepth 100000 in
theorem stC6_42_9223372036854775908 : ax_ck (ax_run sbs mth 1000000 mL_law 999999 1672 (ax_jmp tL_law 1672) [ax_full, (9223372036854775908, 9223372039002259455), ax_full, ax_full, ax_full, ax_full, (9223372036854775814, 9223372036854775814), (9223372036854775849, 9223372036854775849)] hA 185 11361 lA []) = true := by decide +kernel
set_option maxRecDepth 100000 in
theorem stC6_43 : ax_ck (ax_run sbs mth 1000000 mL_law 999999 1695 (ax_jmp tL_law 1695) [ax_full, ax_full, ax_full, ax_full, ax_full, ax_full, (9223372036854775814, 9223372036854775814), (9223372036854775850, 9223372036854775850)] hA 185 11361 lA []) = true := by decide +kernel
set_option maxRecDepth 100000 in
theorem stC6_44 : ax_ck (ax_run sbs mth 1000000 mL_law 999999 1708 (ax_jmp tL_law 1708) [ax_full, ax_full, ax_full, ax_full, ax_full, ax_full, (9223372036854775814, 9223372036854775814), (9223372036854775851, 9223372036854775851)] hA 185 11361 lA []) = true := by decide +kernel
set_option maxRecDepth 100000 in
theorem stC6_45 : ax_ck (ax_run sbs mth 1000000 mL_law 999999 1741 (ax_jmp tL_law 1741) [ax_full, ax_full, ax_full, ax_full, ax_full, ax_full, (9223372036854775814, 9223372036854775814), (9223372036854775852, 9223372036854775852)] hA 185 11361 lA []) = true := by decide +kernel
set_option maxRecDepth 100000 in
theorem stC6_46 : ax_ck (ax_run sbs mth 1000000 mL_law 999999 1774 (ax_jmp tL_law 1774) [ax_full, ax_full, ax_full, ax_full, ax_full, ax_full, (9223372036854775814, 9223372036854775814), (9223372036854775853, 9223372036854775853)] hA 185 11361 lA []) = true := by decide +kernel
set_option maxRecDepth 100000 in
theorem stC6_47 : ax_ck (ax_run sbs mth 1000000 mL_law 999999 1807 (ax_jmp tL_law 1807) [ax_full, ax_full, ax_full, ax_full, ax_full, ax_full, (9223372036854775814, 9223372036854775814), (9223372036854775854, 9223372036854775854)] hA 185 11361 lA []) = true := by decide +kernel
set_option maxRecDepth 100000 in
theorem stC6_48 : ax_ck (ax_run sbs mth 1000000 mL_law 999999 1830 (ax_jmp tL_law 1830) [ax_full, ax_full, ax_full, ax_full, ax_full, ax_full, (9223372036854775814, 9223372036854775814), (9223372036854775855, 9223372036854775855)] hA 185 11361 lA []) = true := by decide +kernel
set_option maxRecDepth 100000 in
theorem stC6_49 : ax_ck (ax_run sbs mth 1000000 mL_law 999999 1843 (ax_jmp tL_law 1843) [ax_full, ax_full, ax_full, ax_full, ax_full, ax_full, (9223372036854775814, 9223372036854775814), (9223372036854775856, 9223372036854775856)] hA 185 11361 lA []) = true := by decide +kernel
set_option maxRecDepth 100000 in
theorem stC6_50 : ax_ck (ax_run sbs mth 1000000 mL_law 999999 1856 (ax_jmp tL_law 1856) [ax_full, ax_full, ax_full, ax_full, ax_full, ax_full, (9223372036854775814, 9223372036854775814), (9223372036854775857, 9223372036854775857)] hA 185 11361 lA []) = true := by decide +kernel
set_option maxRecDepth 100000 in
theorem stC6_51 : ax_ck (ax_run sbs mth 1000000 mL_law 999999 1869 (ax_jmp tL_law 1869) [ax_full, ax_full, ax_full, ax_full, ax_full, ax_full, (9223372036854775814, 9223372036854775814), (9223372036854775858, 9223372036854775858)] hA 185 11361 lA []) = true := by decide +kernel
set_option maxRecDepth 100000 in
theorem stC6_52 : ax_ck (ax_run sbs mth 1000000 mL_law 999999 1892 (ax_jmp tL_law 1892) [ax_full, ax_full, ax_full, ax_full, ax_full, ax_full, (9223372036854775814, 9223372036854775814), (9223372036854775859, 9223372036854775859)] hA 185 11361 lA []) = true := by decide +kernel
set_option maxRecDepth 100000 in
theorem stC6_53 : ax_ck (ax_run sbs mth 1000000 mL_law 999999 1915 (ax_jmp tL_law 1915) [ax_full, ax_full, ax_full, ax_full, ax_full, ax_full, (9223372036854775814, 9223372036854775814), (9223372036854775860, 9223372036854775860)] hA 185 11361 lA []) = true := by decide +kernel
set_option maxRecDepth 100000 in
theorem stC6_54 : ax_ck (ax_run sbs mth 1000000 mL_law 999999 1938 (ax_jmp tL_law 1938) [ax_full, ax_full, ax_full, ax_full, ax_full, ax_full, (9223372036854775814, 9223372036854775814), (9223372036854775861, 9223372036854775861)] hA 185 11361 lA []) = true := by decide +kernel
set_option maxRecDepth 100000 in
theorem stC6_55 : ax_ck (ax_run sbs mth 1000000 mL_law 999999 1961 (ax_jmp tL_law 1961) [ax_full, ax_full, ax_full, ax_full, ax_full, ax_full, (9223372036854775814, 9223372036854775814), (9223372036854775862, 9223372036854775862)] hA 185 11361 lA []) = true := by decide +kernel
set_option maxRecDepth 100000 in
theorem stC6_56 : ax_ck (ax_run sbs mth 1000000 mL_law 999999 1994 (ax_jmp tL_law 1994) [ax_full, ax_full, ax_full, ax_full, ax_full, ax_full, (9223372036854775814, 9223372036854775814), (9223372036854775863, 9223372036854775863)] hA 185 11361 lA []) = true := by decide +kernel
set_option maxRecDepth 100000 in
theorem stC6_57 : ax_ck (ax_run sbs mth 1000000 mL_law 999999 2027 (ax_jmp tL_law 2027) [ax_full, ax_full, ax_full, ax_full, ax_full, ax_full, (9223372036854775814, 9223372036854775814), (9223372036854775864, 9223372036854775864)] hA 185 11361 lA []) = true := by decide +kernel
set_option maxRecDepth 100000 in
theorem stC6_58 : ax_ck (ax_run sbs mth 1000000 mL_law 999999 2050 (ax_jmp tL_law 2050) [ax_full, ax_full, ax_full, ax_full, ax_full, ax_full, (9223372036854775814, 9223372036854775814), (9223372036854775865, 9223372036854775865)] hA 185 11361 lA []) = true := by decide +kernel
set_option maxRecDepth 100000 in
theorem stC6_59 : ax_ck (ax_run sbs mth 1000000 mL_law 999999 2093 (ax_jmp tL_law 2093) [ax_full, ax_full, ax_full, ax_full, ax_full, ax_full, (9223372036854775814, 9223372036854775814), (9223372036854775866, 9223372036854775866)] hA 185 11361 lA []) = true := by decide +kernel
set_option maxRecDepth 100000 in
theorem stC6_60 : ax_ck (ax_run sbs mth 1000000 mL_law 999999 2106 (ax_jmp tL_law 2106) [ax_full, ax_full, ax_full, ax_full, ax_full, ax_full, (9223372036854775814, 9223372036854775814), (9223372036854775867, 9223372036854775867)] hA 185 11361 lA []) = true := by decide +kernel
set_option maxRecDepth 100000 in
theorem stC6_61 : ax_ck (ax_run sbs mth 1000000 mL_law 999999 2119 (ax_jmp tL_law 2119) [ax_full, ax_full, ax_full, ax_full, ax_full, ax_full, (9223372036854775814, 9223372036854775814), (9223372036854775868, 9223372036854775868)] hA 185 11361 lA []) = true := by decide +kernel
set_option maxRecDepth 100000 in
theorem stC6_62 : ax_ck (ax_run sbs mth 1000000 mL_law 999999 2132 (ax_jmp tL_law 2132) [ax_full, ax_full, ax_full, ax_full, ax_full, ax_full, (9223372036854775814, 9223372036854775814), (9223372036854775869, 9223372036854775869)] hA 185 11361 lA []) = true := by decide +kernel
set_option maxRecDepth 100000 in
theorem stC6_63 : ax_ck (ax_run sbs mth 1000000 mL_law 999999 2145 (ax_jmp tL_law 2145) [ax_full, ax_full, ax_full, ax_full, ax_full, ax_full, (9223372036854775814, 9223372036854775814), (9223372036854775870, 9223372036854775870)] hA 185 11361 lA []) = true := by decide +kernel
set_option maxRecDepth 100000 in
theorem stC6_64 : ax_ck (ax_run sbs mth 1000000 mL_law 999999 2158 (ax_jmp tL_law 2158) [ax_full, ax_full, ax_full, ax_full, ax_full, ax_full, (9223372036854775814, 9223372036854775814), (9223372036854775871, 9223372036854775871)] hA 185 11361 lA []) = true := by decide +kernel
set_option maxRecDepth 100000 in
theorem stC6_65 : ax_ck (ax_run sbs mth 1000000 mL_law 999999 2181 (ax_jmp tL_law 2181) [ax_full, ax_full, ax_full, ax_full, ax_full, ax_full, (9223372036854775814, 9223372036854775814), (9223372036854775872, 9223372036854775872)] hA 185 11361 lA []) = true := by decide +kernel
set_option maxRecDepth 100000 in
theorem stC6_66 : ax_ck (ax_run sbs mth 1000000 mL_law 999999 2194 (ax_jmp tL_law 2194) [ax_full, ax_full, ax_full, ax_full, ax_full, ax_full, (9223372036854775814, 9223372036854775814), (9223372036854775873, 9223372036854775873)] hA 185 11361 lA []) = true := by decide +kernel
set_option maxRecDepth 100000 in
theorem stC6_67 : ax_ck (ax_run sbs mth 1000000 mL_law 999999 2217 (ax_jmp tL_law 2217) [ax_full, ax_full, ax_full, ax_full, ax_full, ax_full, (9223372036854775814, 9223372036854775814), (9223372036854775874, 9223372036854775874)] hA 185 11361 lA []) = true := by decide +kernel
set_option maxRecDepth 100000 in
theorem stC6_68 : ax_ck (ax_run sbs mth 1000000 mL_law 999999 2240 (ax_jmp tL_law 2240) [ax_full, ax_full, ax_full, ax_full, ax_full, ax_full, (9223372036854775814, 9223372036854775814), (9223372036854775875, 9223372036854775875)] hA 185 11361 lA []) = true := by decide +kernel
set_option maxRecDepth 100000 in
theorem stC6_69 : ax_ck (ax_run sbs mth 1000000 mL_law 999999 2273 (ax_jmp tL_law 2273) [ax_full, ax_full, ax_full, ax_full, ax_full, ax_full, (9223372036854775814, 9223372036854775814), (9223372036854775876, 9223372036854775876)] hA 185 11361 lA []) = true := by decide +kernel
set_option maxRecDepth 100000 in
theorem stC6_70 : ax_ck (ax_run sbs mth 1000000 mL_law 999999 2286 (ax_jmp tL_law 2286) [ax_full, ax_full, ax_full, ax_full, ax_full, ax_full, (9223372036854775814, 9223372036854775814), (9223372036854775877, 9223372036854775877)] hA 185 11361 lA []) = true := by decide +kernel
set_option maxRecDepth 100000 in
theorem stC5_0 : ax_ck (ax_run sbs mth 1000000 mL_law 999999 2305 (ax_jmp tL_law 2305) [ax_full, ax_full, ax_full, ax_full, ax_full, ax_full, (9223372036854775808, 9223372036854775813), (9223372036854775802, 9223372036854775807)] hA 185 11361 lA []) = true := by decide +kernel
end
section
/-! THE CLAIM OUT OF ONE WALK OF THE LAW'S BODY. Your part is whole_start (and what it stands on); all else here is the same for every law, but numbers. -/
def R_law : String := "SorryWalkLaw"
def lw_P (b : Addr) (xs : List Int32) (args : Array Value) (s : State) : Prop := args = #[.ref b] ∧ s.IntsAt b xs ∧ xs.length ≤ 6 ∧ (Jvm.Cond.and given_1 narrow_1).before args s = true
def lw_Q (_ : Array Value) (s : State) (o : Outcome) (t : State) : Prop := o = .returned (some (.int 1)) ∧ Framed s o t [] 600000 7302250
def lw_Z (below : List Frame) (a : Array Value) (s : State) : State → Prop := fun t => ∃ o, t.status = .running ∧ Ended t below o ∧ lw_Q a s o t
/-- the law's own end, with 1 on the stack, nothing written that was there before, its room as the claim has it -/
theorem lw_ret {p : Program} {l : Launch} {e : Env} {s : State} {m : MethodId} {below : List Frame} {meth : Method} {c : Code} {b : Nat} (hx : p.tables.exec = Jvm.exec) (hb : c.code = code) (hr : meth.sig.returnType = ret) (hlocks : meth.locks = false) {pc : Nat} {H : Heap} {ls : Array Slot} (hdg : decode code pc = .ok (.ireturn, 1)) : W p l e room_1 s m #[Value.ref b] below meth c H [] 600000 7302250 (lw_Z below #[Value.ref b] s) (F0 m pc ls [.int 1]) := by
  intro T hT X
  obtain ⟨fs, hret, hrun, hended, hW, hframe⟩ := X.leave (v := some (.int 1)) (hlocks := hlocks) (fun h => by rw [hr] at h; cases h)
  have hmeth' : T.vm.method? m = some meth := X.method'
  refine ⟨T.setFrames fs, ?_, .returned (some (.int 1)), hrun, hended, rfl, ⟨_, rfl⟩, hW, hframe⟩
  jvm_step X.here [X.here.top, hx, hb, hdg, hmeth', hr, ret, narrow_b1]
  (try refine ⟨rfl, ?_⟩); (try refine ⟨rfl, ?_⟩)
  first | (intro acts; rw [hret _ acts rfl rfl rfl]) | rw [hret _ _ rfl rfl rfl]
  exact Steps.refl _
/-- what holds at the law's entry: the machine, the code, the tables' words (any of lw_tbl by 'hts w (by decide +kernel)'), the script of L ints xs at the cell b, what the Statement gives of the start (any of its parts by flat_of_before) -/
def lw_At (p : Program) (s : State) (m : MethodId) (meth : Method) (c : Code) (b L : Nat) (xs : Nat → Int32) : Prop :=
  p.tables.exec = Jvm.exec ∧ c.code = code ∧ meth.sig.returnType = ret ∧ c.maxLocals = 4 ∧ s.vm.findClass R_law = some m.cls ∧ (∀ w ∈ lw_tbl, w.before #[Value.ref b] s = true) ∧ va_X b L xs s s.heap ∧ b < s.heap.size ∧ meth.locks = false ∧ (Jvm.Cond.and given_1 narrow_1).before #[Value.ref b] s = true

/-! the start: strings, statics, arrays, classes -/
def tmS (i : Nat) : Term := match i with
  | 0 => Term.string RX9 51
  | _ => Term.string RX12 171
def lenS : List Nat := [123, 124]
def bytS : List (List Int32) := [(sbs 2).map nI, (sbs 4).map nI]
def flS : List Cond := flatC (Jvm.Cond.and given_1 narrow_1)
set_option maxRecDepth 100000 in
theorem fs_ex : (List.range 2).all (fun i => decide (Cond.exactly (tmS i) "java/lang/String" ∈ flS)) = true := by decide +kernel
set_option maxRecDepth 100000 in
theorem fs_co : (List.range 2).all (fun i => decide (Cond.eq (.field (tmS i) "java/lang/String" "coder" "B") (.int 0) ∈ flS)) = true := by decide +kernel
set_option maxRecDepth 100000 in
theorem fs_ar : (List.range 2).all (fun i => decide (Cond.arrayOf (.field (tmS i) "java/lang/String" "value" "[B") .byte ∈ flS)) = true := by decide +kernel
set_option maxRecDepth 100000 in
theorem fs_le : (List.range 2).all (fun i => decide (Cond.eq (.length (.field (tmS i) "java/lang/String" "value" "[B")) (.int (Int32.ofNat (lenS.getD i 0))) ∈ flS)) = true := by decide +kernel
theorem fl_sub {k n : Nat} {f : Nat → Cond} (h : (flS.drop k).take n = (List.range n).map f) {j : Nat} (hj : j < n) : f j ∈ flS := by
  have h1 : f j ∈ (List.range n).map f := List.mem_map.mpr ⟨j, List.mem_range.mpr hj, rfl⟩
  rw [← h] at h1
  exact List.mem_of_mem_drop (List.mem_of_mem_take h1)
set_option maxRecDepth 100000 in
theorem fs_el0 : (flS.drop 52).take 123 = (List.range 123).map (fun j => Cond.eq (.elem (.field (tmS 0) "java/lang/String" "value" "[B") (.int (Int32.ofNat j))) (.int ((bytS.getD 0 []).getD j 0))) := by decide +kernel
set_option maxRecDepth 100000 in
theorem fs_el1 : (flS.drop 179).take 124 = (List.range 124).map (fun j => Cond.eq (.elem (.field (tmS 1) "java/lang/String" "value" "[B") (.int (Int32.ofNat j))) (.int ((bytS.getD 1 []).getD j 0))) := by decide +kernel
set_option maxRecDepth 100000 in
theorem fs_ne : (decide (Cond.not (Cond.eq (tmS 0) (tmS 1)) ∈ flS) || decide (Cond.not (Cond.eq (tmS 1) (tmS 0)) ∈ flS)) = true := by decide +kernel
set_option maxRecDepth 100000 in
theorem fs_cs : Cond.eq (.static sSTR "COMPACT_STRINGS" "Z") (.int 1) ∈ flS := by decide +kernel
set_option maxRecDepth 100000 in
theorem fs_si : Cond.isRef (.static sPRE "SIOOBE_FORMATTER" "Ljava/util/function/BiFunction;") ∈ flS := by decide +kernel
theorem all_d {n : Nat} {P : Nat → Prop} {d : ∀ i, Decidable (P i)} (h : (List.range n).all (fun i => decide (P i)) = true) {i : Nat} (hi : i < n) : P i := of_decide_eq_true (List.all_eq_true.mp h i (List.mem_range.mpr hi))
theorem lt2 {i : Nat} (h : i < 2) : i = 0 ∨ i = 1 := by omega
theorem byt_at (l : List Nat) (j : Nat) : (l.map nI).getD j 0 = nI (l.getD j 0) := by
  rw [List.getD_eq_getElem?_getD, List.getD_eq_getElem?_getD, List.getElem?_map]
  cases l[j]? with
  | none => exact nI_0.symm
  | some x => rfl

theorem w_sr1 : Cond.stringRef RX9 51 tx1 ∈ lw_tbl := wdn_in (i := 0) (j := 38) (w := Cond.stringRef RX9 51 tx1) (by decide +kernel)
theorem w_sr3 : Cond.stringRef RX12 171 tx3 ∈ lw_tbl := wdn_in (i := 6) (j := 201) (w := Cond.stringRef RX12 171 tx3) (by decide +kernel)
theorem w_ls1 : Cond.laysStatic sSTR "COMPACT_STRINGS" "Z" ∈ lw_tbl := wdn_in (i := 0) (j := 48) (w := Cond.laysStatic sSTR "COMPACT_STRINGS" "Z") (by decide +kernel)
theorem w_ls2 : Cond.laysStatic sPRE "SIOOBE_FORMATTER" "Ljava/util/function/BiFunction;" ∈ lw_tbl := wdn_in (i := 0) (j := 64) (w := Cond.laysStatic sPRE "SIOOBE_FORMATTER" "Ljava/util/function/BiFunction;") (by decide +kernel)
theorem w_in1 : Cond.initialized sSTR ∈ lw_tbl := wdn_in (i := 0) (j := 3) (w := Cond.initialized sSTR) (by decide +kernel)
theorem w_in2 : Cond.initialized sPRE ∈ lw_tbl := wdn_in (i := 0) (j := 5) (w := Cond.initialized sPRE) (by decide +kernel)
theorem w_ac_int : Cond.arrayClass .int ∈ lw_tbl := wdn_in (i := 0) (j := 132) (w := Cond.arrayClass .int) (by decide +kernel)
theorem w_ac_long : Cond.arrayClass .long ∈ lw_tbl := wdn_in (i := 0) (j := 133) (w := Cond.arrayClass .long) (by decide +kernel)
theorem w_ac_byte : Cond.arrayClass .byte ∈ lw_tbl := wdn_in (i := 0) (j := 134) (w := Cond.arrayClass .byte) (by decide +kernel)
theorem w_ao_10 : Cond.arrayOver (.object RX10) ∈ lw_tbl := wdn_in (i := 0) (j := 31) (w := Cond.arrayOver (.object RX10)) (by decide +kernel)
theorem w_ao_1 : Cond.arrayOver (.object RX1) ∈ lw_tbl := wdn_in (i := 1) (j := 189) (w := Cond.arrayOver (.object RX1)) (by decide +kernel)
theorem w_ao_7 : Cond.arrayOver (.object RX7) ∈ lw_tbl := wdn_in (i := 1) (j := 190) (w := Cond.arrayOver (.object RX7)) (by decide +kernel)
theorem w_it_0 : Cond.instantiable RX0 2 ∈ lw_tbl := wdn_in (i := 0) (j := 175) (w := Cond.instantiable RX0 2) (by decide +kernel)
theorem w_it_1 : Cond.instantiable RX1 15 ∈ lw_tbl := wdn_in (i := 0) (j := 136) (w := Cond.instantiable RX1 15) (by decide +kernel)
theorem w_it_2 : Cond.instantiable RX2 2 ∈ lw_tbl := wdn_in (i := 1) (j := 81) (w := Cond.instantiable RX2 2) (by decide +kernel)
theorem w_it_3 : Cond.instantiable RX3 9 ∈ lw_tbl := wdn_in (i := 1) (j := 149) (w := Cond.instantiable RX3 9) (by decide +kernel)
theorem w_it_4 : Cond.instantiable RX4 3 ∈ lw_tbl := wdn_in (i := 1) (j := 131) (w := Cond.instantiable RX4 3) (by decide +kernel)
theorem w_it_5 : Cond.instantiable RX5 6 ∈ lw_tbl := wdn_in (i := 0) (j := 142) (w := Cond.instantiable RX5 6) (by decide +kernel)
theorem w_it_6 : Cond.instantiable RX6 2 ∈ lw_tbl := wdn_in (i := 1) (j := 116) (w := Cond.instantiable RX6 2) (by decide +kernel)
theorem w_it_7 : Cond.instantiable RX7 8 ∈ lw_tbl := wdn_in (i := 1) (j := 38) (w := Cond.instantiable RX7 8) (by decide +kernel)
theorem w_it_8 : Cond.instantiable RX8 5 ∈ lw_tbl := wdn_in (i := 1) (j := 94) (w := Cond.instantiable RX8 5) (by decide +kernel)
theorem w_it_9 : Cond.instantiable RX9 12 ∈ lw_tbl := wdn_in (i := 0) (j := 33) (w := Cond.instantiable RX9 12) (by decide +kernel)
theorem w_it_10 : Cond.instantiable RX10 4 ∈ lw_tbl := wdn_in (i := 1) (j := 191) (w := Cond.instantiable RX10 4) (by decide +kernel)
theorem w_it_11 : Cond.instantiable RX11 18 ∈ lw_tbl := wdn_in (i := 0) (j := 23) (w := Cond.instantiable RX11 18) (by decide +kernel)
theorem w_it_12 : Cond.instantiable RX12 34 ∈ lw_tbl := wdn_in (i := 6) (j := 2) (w := Cond.instantiable RX12 34) (by decide +kernel)
theorem GW_tbl {w : Cond} (h : w ∈ GW) : w ∈ lw_tbl := (List.mem_filter.mp h).1
/-- the classes -/
theorem st_cls {args : Array Value} {s : State} (hts : ∀ w ∈ lw_tbl, w.before args s = true) : ∃ (dC : Nat → ClassId) (dI : Nat → Nat → Nat), ∀ (k : Nat) (q : vw_C), vwCl[k]? = some q → u_Kn s q.1 q.2.1 q.2.2 (dC k) (dI k) := by
  obtain ⟨c0, i0, h0⟩ := u_known (C := RX0) (T := TX0) (N := 2) (n := 2) hts (fun w hw => GW_tbl (uwX0 w hw)) (hts _ w_it_0)
  obtain ⟨c1, i1, h1⟩ := u_known (C := RX1) (T := TX1) (N := 15) (n := 15) hts (fun w hw => GW_tbl (uwX1 w hw)) (hts _ w_it_1)
  obtain ⟨c2, i2, h2⟩ := u_known (C := RX2) (T := TX2) (N := 2) (n := 2) hts (fun w hw => GW_tbl (uwX2 w hw)) (hts _ w_it_2)
  obtain ⟨c3, i3, h3⟩ := u_known (C := RX3) (T := TX3) (N := 9) (n := 9) hts (fun w hw => GW_tbl (uwX3 w hw)) (hts _ w_it_3)
  obtain ⟨c4, i4, h4⟩ := u_known (C := RX4) (T := TX4) (N := 3) (n := 3) hts (fun w hw => GW_tbl (uwX4 w hw)) (hts _ w_it_4)
  obtain ⟨c5, i5, h5⟩ := u_known (C := RX5) (T := TX5) (N := 6) (n := 6) hts (fun w hw => GW_tbl (uwX5 w hw)) (hts _ w_it_5)
  obtain ⟨c6, i6, h6⟩ := u_known (C := RX6) (T := TX6) (N := 2) (n := 2) hts (fun w hw => GW_tbl (uwX6 w hw)) (hts _ w_it_6)
  obtain ⟨c7, i7, h7⟩ := u_known (C := RX7) (T := TX7) (N := 8) (n := 8) hts (fun w hw => GW_tbl (uwX7 w hw)) (hts _ w_it_7)
  obtain ⟨c8, i8, h8⟩ := u_known (C := RX8) (T := TX8) (N := 5) (n := 5) hts (fun w hw => GW_tbl (uwX8 w hw)) (hts _ w_it_8)
  obtain ⟨c9, i9, h9⟩ := u_known (C := RX9) (T := TX9) (N := 12) (n := 12) hts (fun w hw => GW_tbl (uwX9 w hw)) (hts _ w_it_9)
  obtain ⟨c10, i10, h10⟩ := u_known (C := RX10) (T := TX10) (N := 4) (n := 4) hts (fun w hw => GW_tbl (uwX10 w hw)) (hts _ w_it_10)
  obtain ⟨c11, i11, h11⟩ := u_known (C := RX11) (T := TX11) (N := 18) (n := 18) hts (fun w hw => GW_tbl (uwX11 w hw)) (hts _ w_it_11)
  obtain ⟨c12, i12, h12⟩ := u_known (C := RX12) (T := TX12) (N := 34) (n := 34) hts (fun w hw => GW_tbl (uwX12 w hw)) (hts _ w_it_12)
  refine ⟨fun k => [c0, c1, c2, c3, c4, c5, c6, c7, c8, c9, c10, c11, c12].getD k c0, fun k => [i0, i1, i2, i3, i4, i5, i6, i7, i8, i9, i10, i11, i12].getD k i0, ?_⟩
  intro k q hq
  match k, hq with
  | 0, hq => cases hq; exact h0
  | 1, hq => cases hq; exact h1
  | 2, hq => cases hq; exact h2
  | 3, hq => cases hq; exact h3
  | 4, hq => cases hq; exact h4
  | 5, hq => cases hq; exact h5
  | 6, hq => cases hq; exact h6
  | 7, hq => cases hq; exact h7
  | 8, hq => cases hq; exact h8
  | 9, hq => cases hq; exact h9
  | 10, hq => cases hq; exact h10
  | 11, hq => cases hq; exact h11
  | 12, hq => cases hq; exact h12
  | n + 13, hq => simp [vwCl] at hq
/-- the array classes -/
theorem st_arr {args : Array Value} {s : State} (hts : ∀ w ∈ lw_tbl, w.before args s = true) : ∃ dA : Nat → ClassId, ∀ (k : Nat) (q : ClassId × FieldType), (ax_tys dA)[k]? = some q → ArrOfT s q.1 q.2 ∧ va_RA s q.1 q.2 := by
  obtain ⟨c0, k0, p0, a0, b0, d0⟩ := Cond.arrayClass_spec (hts _ w_ac_int)
  obtain ⟨c1, k1, p1, a1, b1, d1⟩ := Cond.arrayClass_spec (hts _ w_ac_long)
  obtain ⟨c2, k2, p2, a2, b2, d2⟩ := Cond.arrayClass_spec (hts _ w_ac_byte)
  obtain ⟨p3, c3, k3, a3, -, b3, d3, e3⟩ := Cond.arrayOver_spec (hts _ w_ao_10)
  obtain ⟨p4, c4, k4, a4, -, b4, d4, e4⟩ := Cond.arrayOver_spec (hts _ w_ao_1)
  obtain ⟨p5, c5, k5, a5, -, b5, d5, e5⟩ := Cond.arrayOver_spec (hts _ w_ao_7)
  refine ⟨fun n => [c0, c1, c2, c3, c4, c5].getD (n - 100) c0, ?_⟩
  intro k q hq
  match k, hq with
  | 0, hq => cases hq; exact ⟨fun n z => ⟨fun k h => (by cases h), k0, b0, p0, d0⟩, a0⟩
  | 1, hq => cases hq; exact ⟨fun n z => ⟨fun k h => (by cases h), k1, b1, p1, d1⟩, a1⟩
  | 2, hq => cases hq; exact ⟨fun n z => ⟨fun k h => (by cases h), k2, b2, p2, d2⟩, a2⟩
  | 3, hq => cases hq; exact ⟨fun n z => ⟨fun k h => (by cases h), k3, b3, p3, d3⟩, k3, p3, b3, d3, a3, e3⟩
  | 4, hq => cases hq; exact ⟨fun n z => ⟨fun k h => (by cases h), k4, b4, p4, d4⟩, k4, p4, b4, d4, a4, e4⟩
  | 5, hq => cases hq; exact ⟨fun n z => ⟨fun k h => (by cases h), k5, b5, p5, d5⟩, k5, p5, b5, d5, a5, e5⟩
  | n + 6, hq => simp [ax_tys] at hq
/-- the values of the unknowns at the start -/
def zs (xs : Nat → Int32) (L : Nat) : List Nat := [zI (xs 0), zI (xs 1), zI (xs 2), zI (xs 3), zI (xs 4), zI (xs 5), L + 9223372036854775808]
def spf (b k1 v1 k3 v3 : Nat) (i : Nat) : Nat := match i with
  | 0 => b
  | 1 => k1
  | 2 => v1
  | 3 => k3
  | _ => v3
theorem st_old {s : State} {b L : Nat} {xs : Nat → Int32} (hts : ∀ w ∈ lw_tbl, w.before #[Value.ref b] s = true) (hX : va_X b L xs s s.heap) (hbl : b < s.heap.size) (hL : L ≤ 6) (hgv : (Jvm.Cond.and given_1 narrow_1).before #[Value.ref b] s = true) : ∃ sp, sp 0 = b ∧ OX sp sbs s.heap (zs xs L) s := by
  have hs : ∀ c ∈ flS, c.before #[Value.ref b] s = true := flat_of_before _ hgv
  have hA : ∀ a : Nat, a < s.heap.size → ¬ (aA s.heap) a := fun a h => Nat.not_le.mpr h
  obtain ⟨adK, adV, hS, hE⟩ := vk_Sof (args := #[Value.ref b]) (s := s) (N := 2) (tm := tmS) (len := lenS) (byt := bytS) (A := aA s.heap)
    (fun i hi => by rcases lt2 hi with rfl | rfl <;> decide)
    (fun i hi => hs _ (all_d fs_ex hi)) (fun i hi => hs _ (all_d fs_co hi)) (fun i hi => hs _ (all_d fs_ar hi)) (fun i hi => hs _ (all_d fs_le hi))
    (fun i hi j hj => by
      rcases lt2 hi with rfl | rfl
      · exact hs _ (fl_sub fs_el0 hj)
      · exact hs _ (fl_sub fs_el1 hj))
    (fun i j hi hj hij => by
      rcases (Bool.or_eq_true _ _).mp fs_ne with z | z
      · have z := hs _ (of_decide_eq_true z)
        rcases lt2 hi with rfl | rfl <;> rcases lt2 hj with rfl | rfl <;> first | exact absurd rfl hij | exact Or.inl z | exact Or.inr z
      · have z := hs _ (of_decide_eq_true z)
        rcases lt2 hi with rfl | rfl <;> rcases lt2 hj with rfl | rfl <;> first | exact absurd rfl hij | exact Or.inl z | exact Or.inr z)
    hA
  have h0 := hS.1 0 (by decide)
  have h1 := hS.1 1 (by decide)
  have T0 : va_T .byte (adV 0) (sbs 2).length (fun j => .int (nI ((sbs 2).getD j 0))) (aA s.heap) s s.heap := by
    obtain ⟨cell, a1, a2, a3, a4, a5, a6, a7⟩ := h0.2.2.2
    exact ⟨cell, a1, a2, a3, a4, a5, fun j hj => by rw [a6 j hj]; exact congrArg (fun z => some (Value.int z)) (byt_at (sbs 2) j), a7⟩
  have T1 : va_T .byte (adV 1) (sbs 4).length (fun j => .int (nI ((sbs 4).getD j 0))) (aA s.heap) s s.heap := by
    obtain ⟨cell, a1, a2, a3, a4, a5, a6, a7⟩ := h1.2.2.2
    exact ⟨cell, a1, a2, a3, a4, a5, fun j hj => by rw [a6 j hj]; exact congrArg (fun z => some (Value.int z)) (byt_at (sbs 4) j), a7⟩
  refine ⟨spf b (adK 0) (adV 0) (adK 1) (adV 1), rfl, ⟨L, xs, hX, hbl, by omega, rfl, fun j hj => ?_⟩, ⟨h0.1, h0.2.1, h0.2.2.1, T0⟩, ⟨h1.1, h1.2.1, h1.2.2.1, T1⟩, vk_R.of (hts _ w_sr1) (hE 0 (by decide)), vk_R.of (hts _ w_sr3) (hE 1 (by decide)), va_Zof (hts _ w_ls1) (hts _ w_in1) (va_eqi (hs _ fs_cs)) hA, va_Zqof (hts _ w_ls2) (hts _ w_in2) (hs _ fs_si) hA, va_AO.of (hts _ w_ao_10), va_AO.of (hts _ w_ao_1), va_AO.of (hts _ w_ao_7), fun w hw => ?_⟩
  · match j, hj with
    | 0, _ => rfl
    | 1, _ => rfl
    | 2, _ => rfl
    | 3, _ => rfl
    | 4, _ => rfl
    | 5, _ => rfl
    | n + 6, h => exact absurd h (by omega)
  · have h1 := List.mem_filter.mp hw
    have h2 := h1.2
    split at h2
    · exact va_Nw.of rfl (hts _ h1.1)
    · cases h2
end
section
/-! the law's walk out of the abstract machine's runs -/
section WALK
variable {p : Program} {e : Env} {s : State} {m : MethodId} {below : List Frame} {meth : Method} {c : Code} {l : Launch} {b : Nat} {dC : Nat → ClassId} {dI : Nat → Nat → Nat} {dA : Nat → ClassId} {sp : Nat → Nat} {ρ0 : List Nat}
abbrev GL (p : Program) (e : Env) (s : State) (m : MethodId) (below : List Frame) (meth : Method) (c : Code) (l : Launch) (b : Nat) (dC : Nat → ClassId) (dI : Nat → Nat → Nat) (dA : Nat → ClassId) (sp : Nat → Nat) (ρ0 : List Nat) (pc : Nat) (σ : AS) (h : AH) (nc ns : Nat) (lv : AL) (st : List AV) : Prop := GG dC dI dA sp s.heap l p e room_1 s m #[Value.ref b] below meth c (lw_Z below #[Value.ref b] s) ρ0 [] 4 pc σ h nc ns lv st
theorem gl_end (hX : CX sbs dC dI dA sp s.heap ρ0 mL_law p room_1 s m #[Value.ref b] meth c) {o : AO} (h1 : o.2.2.2.2.2.1 = 22) (h2 : o.2.2.2.2.2.2.2 = [(0, 1)]) : RO dC dI dA sp s.heap l p e room_1 s m #[Value.ref b] below meth c (lw_Z below #[Value.ref b] s) ρ0 [] mL_law o := by
  intro hc
  rcases hc with h9 | ⟨ins, ho, hdg, -, hc1, hc2⟩
  · omega
  · obtain ⟨hx, hb, hml, hown, hts, hK, hlocks, hrt, hin, hRoom, hO⟩ := hX
    intro ρ ad ws H locs ls LV ST q1 q2 q3 q4 q5 q6 q7 q8 q9 q10
    rw [h2] at q10
    obtain ⟨V, ST1, rfl, hV, q11⟩ := q10.cons
    obtain rfl := q11.nil
    have hV : V = .int (nI 1) := hV
    subst hV
    have hins : ins = .ireturn := by
      rw [h1] at ho
      cases ins <;> first | rfl | (exact absurd ho (Nat.ne_of_beq_eq_false rfl))
    subst hins
    refine va_forget (fun q hq => q7.2.2 q hq) ?_
    refine W.widen (k := 600000) (n := 7302250) hc1 hc2 ?_
    exact lw_ret hx hb hrt hlocks hdg
theorem gl_c (hX : CX sbs dC dI dA sp s.heap ρ0 mL_law p room_1 s m #[Value.ref b] meth c) {n pc nc ns : Nat} {σ : AS} {h : AH} {lv : AL} (ck : ax_ck (ax_run sbs mth n mL_law 999999 pc (ax_jmp tL_law pc) σ h nc ns lv []) = true) : GL p e s m below meth c l b dC dI dA sp ρ0 pc σ h nc ns lv [] := by
  unfold ax_ck at ck
  cases hr : ax_run sbs mth n mL_law 999999 pc (ax_jmp tL_law pc) σ h nc ns lv [] with
  | none => rw [hr] at ck; cases ck
  | some outs =>
    rw [hr] at ck
    refine sn_run sbs_ok mth_ok n p e room_1 s m #[Value.ref b] below meth c _ ρ0 [] mL_law 999999 pc _ σ h nc ns lv [] outs law_ok (ax_jmp_in _ _) hX hr (fun o ho => ?_)
    have w := bb_and (List.all_eq_true.mp ck o ho)
    exact gl_end hX (bb_eq w.1) (of_decide_eq_true w.2)
theorem gl_split {pc nc ns k lo hi : Nat} {σ : AS} {h : AH} {lv : AL} (hk : σ[k]? = some (lo, hi)) (qs : List (Nat × Nat)) (hq : ∀ z, lo ≤ z → z ≤ hi → ∃ q ∈ qs, q.1 ≤ z ∧ z ≤ q.2) (hG : ∀ q ∈ qs, GL p e s m below meth c l b dC dI dA sp ρ0 pc (σ.set k q) h nc ns lv []) : GL p e s m below meth c l b dC dI dA sp ρ0 pc σ h nc ns lv [] := by
  intro ρ ad ws H locs ls LV ST q1 q2 q3 q4 q5 q6 q7 q8 q9 q10
  have hlt : k < ρ.length := by rw [q3.1]; exact (List.getElem?_eq_some_iff.mp hk).1
  obtain ⟨q0, e0, e1, e2⟩ := q3.2 k ρ[k] (List.getElem?_eq_getElem hlt)
  cases hk.symm.trans e0
  obtain ⟨q, hm, f1, f2⟩ := hq ρ[k] e1 e2
  refine hG q hm ρ ad ws H locs ls LV ST q1 q2 ?_ q4 q5 q6 q7 q8 q9 q10
  exact q3.cut (fun z hz => by rw [List.getElem?_eq_getElem hlt] at hz; cases hz; exact ⟨f1, f2⟩)

theorem gl6_0 (hX : CX sbs dC dI dA sp s.heap ρ0 mL_law p room_1 s m #[Value.ref b] meth c) : GL p e s m below meth c l b dC dI dA sp ρ0 2299 [ax_full, ax_full, ax_full, ax_full, ax_full, ax_full, (9223372036854775814, 9223372036854775814), (9223372036854775878, 9223372036854775935)] hA 185 11361 lA [] := gl_c hX stC6_0
theorem gl6_1 (hX : CX sbs dC dI dA sp s.heap ρ0 mL_law p room_1 s m #[Value.ref b] meth c) : GL p e s m below meth c l b dC dI dA sp ρ0 328 [ax_full, ax_full, ax_full, ax_full, ax_full, ax_full, (9223372036854775814, 9223372036854775814), (9223372036854775808, 9223372036854775808)] hA 185 11361 lA [] := gl_c hX stC6_1
theorem gl6_2 (hX : CX sbs dC dI dA sp s.heap ρ0 mL_law p room_1 s m #[Value.ref b] meth c) : GL p e s m below meth c l b dC dI dA sp ρ0 341 [ax_full, ax_full, ax_full, ax_full, ax_full, ax_full, (9223372036854775814, 9223372036854775814), (9223372036854775809, 9223372036854775809)] hA 185 11361 lA [] := gl_c hX stC6_2
theorem gl6_3 (hX : CX sbs dC dI dA sp s.heap ρ0 mL_law p room_1 s m #[Value.ref b] meth c) : GL p e s m below meth c l b dC dI dA sp ρ0 355 [ax_full, ax_full, ax_full, ax_full, ax_full, ax_full, (9223372036854775814, 9223372036854775814), (9223372036854775810, 9223372036854775810)] hA 185 11361 lA [] := gl_c hX stC6_3
theorem gl6_4 (hX : CX sbs dC dI dA sp s.heap ρ0 mL_law p room_1 s m #[Value.ref b] meth c) : GL p e s m below meth c l b dC dI dA sp ρ0 369 [ax_full, ax_full, ax_full, ax_full, ax_full, ax_full, (9223372036854775814, 9223372036854775814), (9223372036854775811, 9223372036854775811)] hA 185 11361 lA [] := gl_c hX stC6_4
theorem gl6_5 (hX : CX sbs dC dI dA sp s.heap ρ0 mL_law p room_1 s m #[Value.ref b] meth c) : GL p e s m below meth c l b dC dI dA sp ρ0 412 [ax_full, ax_full, ax_full, ax_full, ax_full, ax_full, (9223372036854775814, 9223372036854775814), (9223372036854775812, 9223372036854775812)] hA 185 11361 lA [] := gl_c hX stC6_5
theorem gl6_6 (hX : CX sbs dC dI dA sp s.heap ρ0 mL_law p room_1 s m #[Value.ref b] meth c) : GL p e s m below meth c l b dC dI dA sp ρ0 485 [ax_full, ax_full, ax_full, ax_full, ax_full, ax_full, (9223372036854775814, 9223372036854775814), (9223372036854775813, 9223372036854775813)] hA 185 11361 lA [] := gl_c hX stC6_6
theorem gl6_7 (hX : CX sbs dC dI dA sp s.heap ρ0 mL_law p room_1 s m #[Value.ref b] meth c) : GL p e s m below meth c l b dC dI dA sp ρ0 519 [ax_full, ax_full, ax_full, ax_full, ax_full, ax_full, (9223372036854775814, 9223372036854775814), (9223372036854775814, 9223372036854775814)] hA 185 11361 lA [] := gl_c hX stC6_7
theorem gl6_8 (hX : CX sbs dC dI dA sp s.heap ρ0 mL_law p room_1 s m #[Value.ref b] meth c) : GL p e s m below meth c l b dC dI dA sp ρ0 582 [ax_full, ax_full, ax_full, ax_full, ax_full, ax_full, (9223372036854775814, 9223372036854775814), (9223372036854775815, 9223372036854775815)] hA 185 11361 lA [] := gl_c hX stC6_8
theorem gl6_9 (hX : CX sbs dC dI dA sp s.heap ρ0 mL_law p room_1 s m #[Value.ref b] meth c) : GL p e s m below meth c l b dC dI dA sp ρ0 645 [ax_full, ax_full, ax_full, ax_full, ax_full, ax_full, (9223372036854775814, 9223372036854775814), (9223372036854775816, 9223372036854775816)] hA 185 11361 lA [] := gl_c hX stC6_9
theorem gl6_10 (hX : CX sbs dC dI dA sp s.heap ρ0 mL_law p room_1 s m #[Value.ref b] meth c) : GL p e s m below meth c l b dC dI dA sp ρ0 668 [ax_full, ax_full, ax_full, ax_full, ax_full, ax_full, (9223372036854775814, 9223372036854775814), (9223372036854775817, 9223372036854775817)] hA 185 11361 lA [] := gl_c hX stC6_10
theorem gl6_11 (hX : CX sbs dC dI dA sp s.heap ρ0 mL_law p room_1 s m #[Value.ref b] meth c) : GL p e s m below meth c l b dC dI dA sp ρ0 691 [ax_full, ax_full, ax_full, ax_full, ax_full, ax_full, (9223372036854775814, 9223372036854775814), (9223372036854775818, 9223372036854775818)] hA 185 11361 lA [] := gl_c hX stC6_11
theorem gl6_12 (hX : CX sbs dC dI dA sp s.heap ρ0 mL_law p room_1 s m #[Value.ref b] meth c) : GL p e s m below meth c l b dC dI dA sp ρ0 714 [ax_full, ax_full, ax_full, ax_full, ax_full, ax_full, (9223372036854775814, 9223372036854775814), (9223372036854775819, 9223372036854775819)] hA 185 11361 lA [] := gl_c hX stC6_12
theorem gl6_13 (hX : CX sbs dC dI dA sp s.heap ρ0 mL_law p room_1 s m #[Value.ref b] meth c) : GL p e s m below meth c l b dC dI dA sp ρ0 737 [ax_full, ax_full, ax_full, ax_full, ax_full, ax_full, (9223372036854775814, 9223372036854775814), (9223372036854775820, 9223372036854775820)] hA 185 11361 lA [] := gl_c hX stC6_13
theorem gl6_14 (hX : CX sbs dC dI dA sp s.heap ρ0 mL_law p room_1 s m #[Value.ref b] meth c) : GL p e s m below meth c l b dC dI dA sp ρ0 770 [ax_full, ax_full, ax_full, ax_full, ax_full, ax_full, (9223372036854775814, 9223372036854775814), (9223372036854775821, 9223372036854775821)] hA 185 11361 lA [] := gl_c hX stC6_14
theorem gl6_15 (hX : CX sbs dC dI dA sp s.heap ρ0 mL_law p room_1 s m #[Value.ref b] meth c) : GL p e s m below meth c l b dC dI dA sp ρ0 803 [ax_full, ax_full, ax_full, ax_full, ax_full, ax_full, (9223372036854775814, 9223372036854775814), (9223372036854775822, 9223372036854775822)] hA 185 11361 lA [] := gl_c hX stC6_15
theorem gl6_16 (hX : CX sbs dC dI dA sp s.heap ρ0 mL_law p room_1 s m #[Value.ref b] meth c) : GL p e s m below meth c l b dC dI dA sp ρ0 836 [ax_full, ax_full, ax_full, ax_full, ax_full, ax_full, (9223372036854775814, 9223372036854775814), (9223372036854775823, 9223372036854775823)] hA 185 11361 lA [] := gl_c hX stC6_16
theorem gl6_17 (hX : CX sbs dC dI dA sp s.heap ρ0 mL_law p room_1 s m #[Value.ref b] meth c) : GL p e s m below meth c l b dC dI dA sp ρ0 869 [ax_full, ax_full, ax_full, ax_full, ax_full, ax_full, (9223372036854775814, 9223372036854775814), (9223372036854775824, 9223372036854775824)] hA 185 11361 lA [] := gl_c hX stC6_17
theorem gl6_18 (hX : CX sbs dC dI dA sp s.heap ρ0 mL_law p room_1 s m #[Value.ref b] meth c) : GL p e s m below meth c l b dC dI dA sp ρ0 892 [ax_full, ax_full, ax_full, ax_full, ax_full, ax_full, (9223372036854775814, 9223372036854775814), (9223372036854775825, 9223372036854775825)] hA 185 11361 lA [] := gl_c hX stC6_18
theorem gl6_19 (hX : CX sbs dC dI dA sp s.heap ρ0 mL_law p room_1 s m #[Value.ref b] meth c) : GL p e s m below meth c l b dC dI dA sp ρ0 925 [ax_full, ax_full, ax_full, ax_full, ax_full, ax_full, (9223372036854775814, 9223372036854775814), (9223372036854775826, 9223372036854775826)] hA 185 11361 lA [] := gl_split (k := 1) (lo := ax_full.1) (hi := ax_full.2) rfl [(9223372034707292160, 9223372036854775808), (9223372036854775809, 9223372036854775843), (9223372036854775844, 9223372036854775863), (9223372036854775864, 9223372036854775879), (9223372036854775880, 9223372036854775891), (9223372036854775892, 9223372036854775900), (9223372036854775901, 9223372036854775907), (9223372036854775908, 9223372039002259455)] (fun z h1 h2 => by
    have h1 : 9223372034707292160 ≤ z := h1
    have h2 : z ≤ 9223372039002259455 := h2
    simp only [List.mem_cons, List.not_mem_nil, or_false, exists_eq_or_imp, exists_eq_left]
    omega) (List.forall_mem_cons.mpr ⟨gl_c hX stC6_19_9223372034707292160, List.forall_mem_cons.mpr ⟨gl_c hX stC6_19_9223372036854775809, List.forall_mem_cons.mpr ⟨gl_c hX stC6_19_9223372036854775844, List.forall_mem_cons.mpr ⟨gl_c hX stC6_19_9223372036854775864, List.forall_mem_cons.mpr ⟨gl_c hX stC6_19_9223372036854775880, List.forall_mem_cons.mpr ⟨gl_c hX stC6_19_9223372036854775892, List.forall_mem_cons.mpr ⟨gl_c hX stC6_19_9223372036854775901, List.forall_mem_cons.mpr ⟨gl_c hX stC6_19_9223372036854775908, fun _ h => absurd h List.not_mem_nil⟩⟩⟩⟩⟩⟩⟩⟩)
theorem gl6_20 (hX : CX sbs dC dI dA sp s.heap ρ0 mL_law p room_1 s m #[Value.ref b] meth c) : GL p e s m below meth c l b dC dI dA sp ρ0 948 [ax_full, ax_full, ax_full, ax_full, ax_full, ax_full, (9223372036854775814, 9223372036854775814), (9223372036854775827, 9223372036854775827)] hA 185 11361 lA [] := gl_c hX stC6_20
theorem gl6_21 (hX : CX sbs dC dI dA sp s.heap ρ0 mL_law p room_1 s m #[Value.ref b] meth c) : GL p e s m below meth c l b dC dI dA sp ρ0 971 [ax_full, ax_full, ax_full, ax_full, ax_full, ax_full, (9223372036854775814, 9223372036854775814), (9223372036854775828, 9223372036854775828)] hA 185 11361 lA [] := gl_c hX stC6_21
theorem gl6_22 (hX : CX sbs dC dI dA sp s.heap ρ0 mL_law p room_1 s m #[Value.ref b] meth c) : GL p e s m below meth c l b dC dI dA sp ρ0 1004 [ax_full, ax_full, ax_full, ax_full, ax_full, ax_full, (9223372036854775814, 9223372036854775814), (9223372036854775829, 9223372036854775829)] hA 185 11361 lA [] := gl_c hX stC6_22
theorem gl6_23 (hX : CX sbs dC dI dA sp s.heap ρ0 mL_law p room_1 s m #[Value.ref b] meth c) : GL p e s m below meth c l b dC dI dA sp ρ0 1047 [ax_full, ax_full, ax_full, ax_full, ax_full, ax_full, (9223372036854775814, 9223372036854775814), (9223372036854775830, 9223372036854775830)] hA 185 11361 lA [] := gl_c hX stC6_23
theorem gl6_24 (hX : CX sbs dC dI dA sp s.heap ρ0 mL_law p room_1 s m #[Value.ref b] meth c) : GL p e s m below meth c l b dC dI dA sp ρ0 1096 [ax_full, ax_full, ax_full, ax_full, ax_full, ax_full, (9223372036854775814, 9223372036854775814), (9223372036854775831, 9223372036854775831)] hA 185 11361 lA [] := gl_c hX stC6_24
theorem gl6_25 (hX : CX sbs dC dI dA sp s.heap ρ0 mL_law p room_1 s m #[Value.ref b] meth c) : GL p e s m below meth c l b dC dI dA sp ρ0 1145 [ax_full, ax_full, ax_full, ax_full, ax_full, ax_full, (9223372036854775814, 9223372036854775814), (9223372036854775832, 9223372036854775832)] hA 185 11361 lA [] := gl_c hX stC6_25
theorem gl6_26 (hX : CX sbs dC dI dA sp s.heap ρ0 mL_law p room_1 s m #[Value.ref b] meth c) : GL p e s m below meth c l b dC dI dA sp ρ0 1204 [ax_full, ax_full, ax_full, ax_full, ax_full, ax_full, (9223372036854775814, 9223372036854775814), (9223372036854775833, 9223372036854775833)] hA 185 11361 lA [] := gl_c hX stC6_26
theorem gl6_27 (hX : CX sbs dC dI dA sp s.heap ρ0 mL_law p room_1 s m #[Value.ref b] meth c) : GL p e s m below meth c l b dC dI dA sp ρ0 1237 [ax_full, ax_full, ax_full, ax_full, ax_full, ax_full, (9223372036854775814, 9223372036854775814), (9223372036854775834, 9223372036854775834)] hA 185 11361 lA [] := gl_c hX stC6_27
theorem gl6_28 (hX : CX sbs dC dI dA sp s.heap ρ0 mL_law p room_1 s m #[Value.ref b] meth c) : GL p e s m below meth c l b dC dI dA sp ρ0 1270 [ax_full, ax_full, ax_full, ax_full, ax_full, ax_full, (9223372036854775814, 9223372036854775814), (9223372036854775835, 9223372036854775835)] hA 185 11361 lA [] := gl_c hX stC6_28
theorem gl6_29 (hX : CX sbs dC dI dA sp s.heap ρ0 mL_law p room_1 s m #[Value.ref b] meth c) : GL p e s m below meth c l b dC dI dA sp ρ0 1293 [ax_full, ax_full, ax_full, ax_full, ax_full, ax_full, (9223372036854775814, 9223372036854775814), (9223372036854775836, 9223372036854775836)] hA 185 11361 lA [] := gl_c hX stC6_29
theorem gl6_30 (hX : CX sbs dC dI dA sp s.heap ρ0 mL_law p room_1 s m #[Value.ref b] meth c) : GL p e s m below meth c l b dC dI dA sp ρ0 1316 [ax_full, ax_full, ax_full, ax_full, ax_full, ax_full, (9223372036854775814, 9223372036854775814), (9223372036854775837, 9223372036854775837)] hA 185 11361 lA [] := gl_c hX stC6_30
theorem gl6_31 (hX : CX sbs dC dI dA sp s.heap ρ0 mL_law p room_1 s m #[Value.ref b] meth c) : GL p e s m below meth c l b dC dI dA sp ρ0 1349 [ax_full, ax_full, ax_full, ax_full, ax_full, ax_full, (9223372036854775814, 9223372036854775814), (9223372036854775838, 9223372036854775838)] hA 185 11361 lA [] := gl_c hX stC6_31
theorem gl6_32 (hX : CX sbs dC dI dA sp s.heap ρ0 mL_law p room_1 s m #[Value.ref b] meth c) : GL p e s m below meth c l b dC dI dA sp ρ0 1382 [ax_full, ax_full, ax_full, ax_full, ax_full, ax_full, (9223372036854775814, 9223372036854775814), (9223372036854775839, 9223372036854775839)] hA 185 11361 lA [] := gl_c hX stC6_32
theorem gl6_33 (hX : CX sbs dC dI dA sp s.heap ρ0 mL_law p room_1 s m #[Value.ref b] meth c) : GL p e s m below meth c l b dC dI dA sp ρ0 1405 [ax_full, ax_full, ax_full, ax_full, ax_full, ax_full, (9223372036854775814, 9223372036854775814), (9223372036854775840, 9223372036854775840)] hA 185 11361 lA [] := gl_c hX stC6_33
theorem gl6_34 (hX : CX sbs dC dI dA sp s.heap ρ0 mL_law p room_1 s m #[Value.ref b] meth c) : GL p e s m below meth c l b dC dI dA sp ρ0 1428 [ax_full, ax_full, ax_full, ax_full, ax_full, ax_full, (9223372036854775814, 9223372036854775814), (9223372036854775841, 9223372036854775841)] hA 185 11361 lA [] := gl_c hX stC6_34
theorem gl6_35 (hX : CX sbs dC dI dA sp s.heap ρ0 mL_law p room_1 s m #[Value.ref b] meth c) : GL p e s m below meth c l b dC dI dA sp ρ0 1461 [ax_full, ax_full, ax_full, ax_full, ax_full, ax_full, (9223372036854775814, 9223372036854775814), (9223372036854775842, 9223372036854775842)] hA 185 11361 lA [] := gl_c hX stC6_35
theorem gl6_36 (hX : CX sbs dC dI dA sp s.heap ρ0 mL_law p room_1 s m #[Value.ref b] meth c) : GL p e s m below meth c l b dC dI dA sp ρ0 1494 [ax_full, ax_full, ax_full, ax_full, ax_full, ax_full, (9223372036854775814, 9223372036854775814), (9223372036854775843, 9223372036854775843)] hA 185 11361 lA [] := gl_c hX stC6_36
theorem gl6_37 (hX : CX sbs dC dI dA sp s.heap ρ0 mL_law p room_1 s m #[Value.ref b] meth c) : GL p e s m below meth c l b dC dI dA sp ρ0 1537 [ax_full, ax_full, ax_full, ax_full, ax_full, ax_full, (9223372036854775814, 9223372036854775814), (9223372036854775844, 9223372036854775844)] hA 185 11361 lA [] := gl_c hX stC6_37
theorem gl6_38 (hX : CX sbs dC dI dA sp s.heap ρ0 mL_law p room_1 s m #[Value.ref b] meth c) : GL p e s m below meth c l b dC dI dA sp ρ0 1570 [ax_full, ax_full, ax_full, ax_full, ax_full, ax_full, (9223372036854775814, 9223372036854775814), (9223372036854775845, 9223372036854775845)] hA 185 11361 lA [] := gl_c hX stC6_38
theorem gl6_39 (hX : CX sbs dC dI dA sp s.heap ρ0 mL_law p room_1 s m #[Value.ref b] meth c) : GL p e s m below meth c l b dC dI dA sp ρ0 1593 [ax_full, ax_full, ax_full, ax_full, ax_full, ax_full, (9223372036854775814, 9223372036854775814), (9223372036854775846, 9223372036854775846)] hA 185 11361 lA [] := gl_c hX stC6_39
theorem gl6_40 (hX : CX sbs dC dI dA sp s.heap ρ0 mL_law p room_1 s m #[Value.ref b] meth c) : GL p e s m below meth c l b dC dI dA sp ρ0 1626 [ax_full, ax_full, ax_full, ax_full, ax_full, ax_full, (9223372036854775814, 9223372036854775814), (9223372036854775847, 9223372036854775847)] hA 185 11361 lA [] := gl_c hX stC6_40
theorem gl6_41 (hX : CX sbs dC dI dA sp s.heap ρ0 mL_law p room_1 s m #[Value.ref b] meth c) : GL p e s m below meth c l b dC dI dA sp ρ0 1659 [ax_full, ax_full, ax_full, ax_full, ax_full, ax_full, (9223372036854775814, 9223372036854775814), (9223372036854775848, 9223372036854775848)] hA 185 11361 lA [] := gl_c hX stC6_41
theorem gl6_42 (hX : CX sbs dC dI dA sp s.heap ρ0 mL_law p room_1 s m #[Value.ref b] meth c) : GL p e s m below meth c l b dC dI dA sp ρ0 1672 [ax_full, ax_full, ax_full, ax_full, ax_full, ax_full, (9223372036854775814, 9223372036854775814), (9223372036854775849, 9223372036854775849)] hA 185 11361 lA [] := gl_split (k := 1) (lo := ax_full.1) (hi := ax_full.2) rfl [(9223372034707292160, 9223372036854775808), (9223372036854775809, 9223372036854775814), (9223372036854775815, 9223372036854775820), (9223372036854775821, 9223372036854775826), (9223372036854775827, 9223372036854775831), (9223372036854775832, 9223372036854775836), (9223372036854775837, 9223372036854775841), (9223372036854775842, 9223372036854775846), (9223372036854775847, 9223372036854775850), (9223372036854775851, 9223372036854775854), (9223372036854775855, 9223372036854775858), (9223372036854775859, 9223372036854775862), (9223372036854775863, 9223372036854775866), (9223372036854775867, 9223372036854775870), (9223372036854775871, 9223372036854775874), (9223372036854775875, 9223372036854775877), (9223372036854775878, 9223372036854775880), (9223372036854775881, 9223372036854775883), (9223372036854775884, 9223372036854775886), (9223372036854775887, 9223372036854775889), (9223372036854775890, 9223372036854775892), (9223372036854775893, 9223372036854775895), (9223372036854775896, 9223372036854775898), (9223372036854775899, 9223372036854775901), (9223372036854775902, 9223372036854775904), (9223372036854775905, 9223372036854775907), (9223372036854775908, 9223372039002259455)] (fun z h1 h2 => by
    have h1 : 9223372034707292160 ≤ z := h1
    have h2 : z ≤ 9223372039002259455 := h2
    simp only [List.mem_cons, List.not_mem_nil, or_false, exists_eq_or_imp, exists_eq_left]
    omega) (List.forall_mem_cons.mpr ⟨gl_c hX stC6_42_9223372034707292160, List.forall_mem_cons.mpr ⟨gl_c hX stC6_42_9223372036854775809, List.forall_mem_cons.mpr ⟨gl_c hX stC6_42_9223372036854775815, List.forall_mem_cons.mpr ⟨gl_c hX stC6_42_9223372036854775821, List.forall_mem_cons.mpr ⟨gl_c hX stC6_42_9223372036854775827, List.forall_mem_cons.mpr ⟨gl_c hX stC6_42_9223372036854775832, List.forall_mem_cons.mpr ⟨gl_c hX stC6_42_9223372036854775837, List.forall_mem_cons.mpr ⟨gl_c hX stC6_42_9223372036854775842, List.forall_mem_cons.mpr ⟨gl_c hX stC6_42_9223372036854775847, List.forall_mem_cons.mpr ⟨gl_c hX stC6_42_9223372036854775851, List.forall_mem_cons.mpr ⟨gl_c hX stC6_42_9223372036854775855, List.forall_mem_cons.mpr ⟨gl_c hX stC6_42_9223372036854775859, List.forall_mem_cons.mpr ⟨gl_c hX stC6_42_9223372036854775863, List.forall_mem_cons.mpr ⟨gl_c hX stC6_42_9223372036854775867, List.forall_mem_cons.mpr ⟨gl_c hX stC6_42_9223372036854775871, List.forall_mem_cons.mpr ⟨gl_c hX stC6_42_9223372036854775875, List.forall_mem_cons.mpr ⟨gl_c hX stC6_42_9223372036854775878, List.forall_mem_cons.mpr ⟨gl_c hX stC6_42_9223372036854775881, List.forall_mem_cons.mpr ⟨gl_c hX stC6_42_9223372036854775884, List.forall_mem_cons.mpr ⟨gl_c hX stC6_42_9223372036854775887, List.forall_mem_cons.mpr ⟨gl_c hX stC6_42_9223372036854775890, List.forall_mem_cons.mpr ⟨gl_c hX stC6_42_9223372036854775893, List.forall_mem_cons.mpr ⟨gl_c hX stC6_42_9223372036854775896, List.forall_mem_cons.mpr ⟨gl_c hX stC6_42_9223372036854775899, List.forall_mem_cons.mpr ⟨gl_c hX stC6_42_9223372036854775902, List.forall_mem_cons.mpr ⟨gl_c hX stC6_42_9223372036854775905, List.forall_mem_cons.mpr ⟨gl_c hX stC6_42_9223372036854775908, fun _ h => absurd h List.not_mem_nil⟩⟩⟩⟩⟩⟩⟩⟩⟩⟩⟩⟩⟩⟩⟩⟩⟩⟩⟩⟩⟩⟩⟩⟩⟩⟩⟩)
theorem gl6_43 (hX : CX sbs dC dI dA sp s.heap ρ0 mL_law p room_1 s m #[Value.ref b] meth c) : GL p e s m below meth c l b dC dI dA sp ρ0 1695 [ax_full, ax_full, ax_full, ax_full, ax_full, ax_full, (9223372036854775814, 9223372036854775814), (9223372036854775850, 9223372036854775850)] hA 185 11361 lA [] := gl_c hX stC6_43
theorem gl6_44 (hX : CX sbs dC dI dA sp s.heap ρ0 mL_law p room_1 s m #[Value.ref b] meth c) : GL p e s m below meth c l b dC dI dA sp ρ0 1708 [ax_full, ax_full, ax_full, ax_full, ax_full, ax_full, (9223372036854775814, 9223372036854775814), (9223372036854775851, 9223372036854775851)] hA 185 11361 lA [] := gl_c hX stC6_44
theorem gl6_45 (hX : CX sbs dC dI dA sp s.heap ρ0 mL_law p room_1 s m #[Value.ref b] meth c) : GL p e s m below meth c l b dC dI dA sp ρ0 1741 [ax_full, ax_full, ax_full, ax_full, ax_full, ax_full, (9223372036854775814, 9223372036854775814), (9223372036854775852, 9223372036854775852)] hA 185 11361 lA [] := gl_c hX stC6_45
theorem gl6_46 (hX : CX sbs dC dI dA sp s.heap ρ0 mL_law p room_1 s m #[Value.ref b] meth c) : GL p e s m below meth c l b dC dI dA sp ρ0 1774 [ax_full, ax_full, ax_full, ax_full, ax_full, ax_full, (9223372036854775814, 9223372036854775814), (9223372036854775853, 9223372036854775853)] hA 185 11361 lA [] := gl_c hX stC6_46
theorem gl6_47 (hX : CX sbs dC dI dA sp s.heap ρ0 mL_law p room_1 s m #[Value.ref b] meth c) : GL p e s m below meth c l b dC dI dA sp ρ0 1807 [ax_full, ax_full, ax_full, ax_full, ax_full, ax_full, (9223372036854775814, 9223372036854775814), (9223372036854775854, 9223372036854775854)] hA 185 11361 lA [] := gl_c hX stC6_47
theorem gl6_48 (hX : CX sbs dC dI dA sp s.heap ρ0 mL_law p room_1 s m #[Value.ref b] meth c) : GL p e s m below meth c l b dC dI dA sp ρ0 1830 [ax_full, ax_full, ax_full, ax_full, ax_full, ax_full, (9223372036854775814, 9223372036854775814), (9223372036854775855, 9223372036854775855)] hA 185 11361 lA [] := gl_c hX stC6_48
theorem gl6_49 (hX : CX sbs dC dI dA sp s.heap ρ0 mL_law p room_1 s m #[Value.ref b] meth c) : GL p e s m below meth c l b dC dI dA sp ρ0 1843 [ax_full, ax_full, ax_full, ax_full, ax_full, ax_full, (9223372036854775814, 9223372036854775814), (9223372036854775856, 9223372036854775856)] hA 185 11361 lA [] := gl_c hX stC6_49
theorem gl6_50 (hX : CX sbs dC dI dA sp s.heap ρ0 mL_law p room_1 s m #[Value.ref b] meth c) : GL p e s m below meth c l b dC dI dA sp ρ0 1856 [ax_full, ax_full, ax_full, ax_full, ax_full, ax_full, (9223372036854775814, 9223372036854775814), (9223372036854775857, 9223372036854775857)] hA 185 11361 lA [] := gl_c hX stC6_50
theorem gl6_51 (hX : CX sbs dC dI dA sp s.heap ρ0 mL_law p room_1 s m #[Value.ref b] meth c) : GL p e s m below meth c l b dC dI dA sp ρ0 1869 [ax_full, ax_full, ax_full, ax_full, ax_full, ax_full, (9223372036854775814, 9223372036854775814), (9223372036854775858, 9223372036854775858)] hA 185 11361 lA [] := gl_c hX stC6_51
theorem gl6_52 (hX : CX sbs dC dI dA sp s.heap ρ0 mL_law p room_1 s m #[Value.ref b] meth c) : GL p e s m below meth c l b dC dI dA sp ρ0 1892 [ax_full, ax_full, ax_full, ax_full, ax_full, ax_full, (9223372036854775814, 9223372036854775814), (9223372036854775859, 9223372036854775859)] hA 185 11361 lA [] := gl_c hX stC6_52
theorem gl6_53 (hX : CX sbs dC dI dA sp s.heap ρ0 mL_law p room_1 s m #[Value.ref b] meth c) : GL p e s m below meth c l b dC dI dA sp ρ0 1915 [ax_full, ax_full, ax_full, ax_full, ax_full, ax_full, (9223372036854775814, 9223372036854775814), (9223372036854775860, 9223372036854775860)] hA 185 11361 lA [] := gl_c hX stC6_53
theorem gl6_54 (hX : CX sbs dC dI dA sp s.heap ρ0 mL_law p room_1 s m #[Value.ref b] meth c) : GL p e s m below meth c l b dC dI dA sp ρ0 1938 [ax_full, ax_full, ax_full, ax_full, ax_full, ax_full, (9223372036854775814, 9223372036854775814), (9223372036854775861, 9223372036854775861)] hA 185 11361 lA [] := gl_c hX stC6_54
theorem gl6_55 (hX : CX sbs dC dI dA sp s.heap ρ0 mL_law p room_1 s m #[Value.ref b] meth c) : GL p e s m below meth c l b dC dI dA sp ρ0 1961 [ax_full, ax_full, ax_full, ax_full, ax_full, ax_full, (9223372036854775814, 9223372036854775814), (9223372036854775862, 9223372036854775862)] hA 185 11361 lA [] := gl_c hX stC6_55
theorem gl6_56 (hX : CX sbs dC dI dA sp s.heap ρ0 mL_law p room_1 s m #[Value.ref b] meth c) : GL p e s m below meth c l b dC dI dA sp ρ0 1994 [ax_full, ax_full, ax_full, ax_full, ax_full, ax_full, (9223372036854775814, 9223372036854775814), (9223372036854775863, 9223372036854775863)] hA 185 11361 lA [] := gl_c hX stC6_56
theorem gl6_57 (hX : CX sbs dC dI dA sp s.heap ρ0 mL_law p room_1 s m #[Value.ref b] meth c) : GL p e s m below meth c l b dC dI dA sp ρ0 2027 [ax_full, ax_full, ax_full, ax_full, ax_full, ax_full, (9223372036854775814, 9223372036854775814), (9223372036854775864, 9223372036854775864)] hA 185 11361 lA [] := gl_c hX stC6_57
theorem gl6_58 (hX : CX sbs dC dI dA sp s.heap ρ0 mL_law p room_1 s m #[Value.ref b] meth c) : GL p e s m below meth c l b dC dI dA sp ρ0 2050 [ax_full, ax_full, ax_full, ax_full, ax_full, ax_full, (9223372036854775814, 9223372036854775814), (9223372036854775865, 9223372036854775865)] hA 185 11361 lA [] := gl_c hX stC6_58
theorem gl6_59 (hX : CX sbs dC dI dA sp s.heap ρ0 mL_law p room_1 s m #[Value.ref b] meth c) : GL p e s m below meth c l b dC dI dA sp ρ0 2093 [ax_full, ax_full, ax_full, ax_full, ax_full, ax_full, (9223372036854775814, 9223372036854775814), (9223372036854775866, 9223372036854775866)] hA 185 11361 lA [] := gl_c hX stC6_59
theorem gl6_60 (hX : CX sbs dC dI dA sp s.heap ρ0 mL_law p room_1 s m #[Value.ref b] meth c) : GL p e s m below meth c l b dC dI dA sp ρ0 2106 [ax_full, ax_full, ax_full, ax_full, ax_full, ax_full, (9223372036854775814, 9223372036854775814), (9223372036854775867, 9223372036854775867)] hA 185 11361 lA [] := gl_c hX stC6_60
theorem gl6_61 (hX : CX sbs dC dI dA sp s.heap ρ0 mL_law p room_1 s m #[Value.ref b] meth c) : GL p e s m below meth c l b dC dI dA sp ρ0 2119 [ax_full, ax_full, ax_full, ax_full, ax_full, ax_full, (9223372036854775814, 9223372036854775814), (9223372036854775868, 9223372036854775868)] hA 185 11361 lA [] := gl_c hX stC6_61
theorem gl6_62 (hX : CX sbs dC dI dA sp s.heap ρ0 mL_law p room_1 s m #[Value.ref b] meth c) : GL p e s m below meth c l b dC dI dA sp ρ0 2132 [ax_full, ax_full, ax_full, ax_full, ax_full, ax_full, (9223372036854775814, 9223372036854775814), (9223372036854775869, 9223372036854775869)] hA 185 11361 lA [] := gl_c hX stC6_62
theorem gl6_63 (hX : CX sbs dC dI dA sp s.heap ρ0 mL_law p room_1 s m #[Value.ref b] meth c) : GL p e s m below meth c l b dC dI dA sp ρ0 2145 [ax_full, ax_full, ax_full, ax_full, ax_full, ax_full, (9223372036854775814, 9223372036854775814), (9223372036854775870, 9223372036854775870)] hA 185 11361 lA [] := gl_c hX stC6_63
theorem gl6_64 (hX : CX sbs dC dI dA sp s.heap ρ0 mL_law p room_1 s m #[Value.ref b] meth c) : GL p e s m below meth c l b dC dI dA sp ρ0 2158 [ax_full, ax_full, ax_full, ax_full, ax_full, ax_full, (9223372036854775814, 9223372036854775814), (9223372036854775871, 9223372036854775871)] hA 185 11361 lA [] := gl_c hX stC6_64
theorem gl6_65 (hX : CX sbs dC dI dA sp s.heap ρ0 mL_law p room_1 s m #[Value.ref b] meth c) : GL p e s m below meth c l b dC dI dA sp ρ0 2181 [ax_full, ax_full, ax_full, ax_full, ax_full, ax_full, (9223372036854775814, 9223372036854775814), (9223372036854775872, 9223372036854775872)] hA 185 11361 lA [] := gl_c hX stC6_65
theorem gl6_66 (hX : CX sbs dC dI dA sp s.heap ρ0 mL_law p room_1 s m #[Value.ref b] meth c) : GL p e s m below meth c l b dC dI dA sp ρ0 2194 [ax_full, ax_full, ax_full, ax_full, ax_full, ax_full, (9223372036854775814, 9223372036854775814), (9223372036854775873, 9223372036854775873)] hA 185 11361 lA [] := gl_c hX stC6_66
theorem gl6_67 (hX : CX sbs dC dI dA sp s.heap ρ0 mL_law p room_1 s m #[Value.ref b] meth c) : GL p e s m below meth c l b dC dI dA sp ρ0 2217 [ax_full, ax_full, ax_full, ax_full, ax_full, ax_full, (9223372036854775814, 9223372036854775814), (9223372036854775874, 9223372036854775874)] hA 185 11361 lA [] := gl_c hX stC6_67
theorem gl6_68 (hX : CX sbs dC dI dA sp s.heap ρ0 mL_law p room_1 s m #[Value.ref b] meth c) : GL p e s m below meth c l b dC dI dA sp ρ0 2240 [ax_full, ax_full, ax_full, ax_full, ax_full, ax_full, (9223372036854775814, 9223372036854775814), (9223372036854775875, 9223372036854775875)] hA 185 11361 lA [] := gl_c hX stC6_68
theorem gl6_69 (hX : CX sbs dC dI dA sp s.heap ρ0 mL_law p room_1 s m #[Value.ref b] meth c) : GL p e s m below meth c l b dC dI dA sp ρ0 2273 [ax_full, ax_full, ax_full, ax_full, ax_full, ax_full, (9223372036854775814, 9223372036854775814), (9223372036854775876, 9223372036854775876)] hA 185 11361 lA [] := gl_c hX stC6_69
theorem gl6_70 (hX : CX sbs dC dI dA sp s.heap ρ0 mL_law p room_1 s m #[Value.ref b] meth c) : GL p e s m below meth c l b dC dI dA sp ρ0 2286 [ax_full, ax_full, ax_full, ax_full, ax_full, ax_full, (9223372036854775814, 9223372036854775814), (9223372036854775877, 9223372036854775877)] hA 185 11361 lA [] := gl_c hX stC6_70
theorem gl5_0 (hX : CX sbs dC dI dA sp s.heap ρ0 mL_law p room_1 s m #[Value.ref b] meth c) : GL p e s m below meth c l b dC dI dA sp ρ0 2305 [ax_full, ax_full, ax_full, ax_full, ax_full, ax_full, (9223372036854775808, 9223372036854775813), (9223372036854775802, 9223372036854775807)] hA 185 11361 lA [] := gl_c hX stC5_0
theorem ro6 (hX : CX sbs dC dI dA sp s.heap ρ0 mL_law p room_1 s m #[Value.ref b] meth c) : ∀ o ∈ oB6, RO dC dI dA sp s.heap l p e room_1 s m #[Value.ref b] below meth c (lw_Z below #[Value.ref b] s) ρ0 [] mL_law o := List.forall_mem_cons.mpr ⟨fun _ => gl6_0 hX, List.forall_mem_cons.mpr ⟨fun _ => gl6_1 hX, List.forall_mem_cons.mpr ⟨fun _ => gl6_2 hX, List.forall_mem_cons.mpr ⟨fun _ => gl6_3 hX, List.forall_mem_cons.mpr ⟨fun _ => gl6_4 hX, List.forall_mem_cons.mpr ⟨fun _ => gl6_5 hX, List.forall_mem_cons.mpr ⟨fun _ => gl6_6 hX, List.forall_mem_cons.mpr ⟨fun _ => gl6_7 hX, List.forall_mem_cons.mpr ⟨fun _ => gl6_8 hX, List.forall_mem_cons.mpr ⟨fun _ => gl6_9 hX, List.forall_mem_cons.mpr ⟨fun _ => gl6_10 hX, List.forall_mem_cons.mpr ⟨fun _ => gl6_11 hX, List.forall_mem_cons.mpr ⟨fun _ => gl6_12 hX, List.forall_mem_cons.mpr ⟨fun _ => gl6_13 hX, List.forall_mem_cons.mpr ⟨fun _ => gl6_14 hX, List.forall_mem_cons.mpr ⟨fun _ => gl6_15 hX, List.forall_mem_cons.mpr ⟨fun _ => gl6_16 hX, List.forall_mem_cons.mpr ⟨fun _ => gl6_17 hX, List.forall_mem_cons.mpr ⟨fun _ => gl6_18 hX, List.forall_mem_cons.mpr ⟨fun _ => gl6_19 hX, List.forall_mem_cons.mpr ⟨fun _ => gl6_20 hX, List.forall_mem_cons.mpr ⟨fun _ => gl6_21 hX, List.forall_mem_cons.mpr ⟨fun _ => gl6_22 hX, List.forall_mem_cons.mpr ⟨fun _ => gl6_23 hX, List.forall_mem_cons.mpr ⟨fun _ => gl6_24 hX, List.forall_mem_cons.mpr ⟨fun _ => gl6_25 hX, List.forall_mem_cons.mpr ⟨fun _ => gl6_26 hX, List.forall_mem_cons.mpr ⟨fun _ => gl6_27 hX, List.forall_mem_cons.mpr ⟨fun _ => gl6_28 hX, List.forall_mem_cons.mpr ⟨fun _ => gl6_29 hX, List.forall_mem_cons.mpr ⟨fun _ => gl6_30 hX, List.forall_mem_cons.mpr ⟨fun _ => gl6_31 hX, List.forall_mem_cons.mpr ⟨fun _ => gl6_32 hX, List.forall_mem_cons.mpr ⟨fun _ => gl6_33 hX, List.forall_mem_cons.mpr ⟨fun _ => gl6_34 hX, List.forall_mem_cons.mpr ⟨fun _ => gl6_35 hX, List.forall_mem_cons.mpr ⟨fun _ => gl6_36 hX, List.forall_mem_cons.mpr ⟨fun _ => gl6_37 hX, List.forall_mem_cons.mpr ⟨fun _ => gl6_38 hX, List.forall_mem_cons.mpr ⟨fun _ => gl6_39 hX, List.forall_mem_cons.mpr ⟨fun _ => gl6_40 hX, List.forall_mem_cons.mpr ⟨fun _ => gl6_41 hX, List.forall_mem_cons.mpr ⟨fun _ => gl6_42 hX, List.forall_mem_cons.mpr ⟨fun _ => gl6_43 hX, List.forall_mem_cons.mpr ⟨fun _ => gl6_44 hX, List.forall_mem_cons.mpr ⟨fun _ => gl6_45 hX, List.forall_mem_cons.mpr ⟨fun _ => gl6_46 hX, List.forall_mem_cons.mpr ⟨fun _ => gl6_47 hX, List.forall_mem_cons.mpr ⟨fun _ => gl6_48 hX, List.forall_mem_cons.mpr ⟨fun _ => gl6_49 hX, List.forall_mem_cons.mpr ⟨fun _ => gl6_50 hX, List.forall_mem_cons.mpr ⟨fun _ => gl6_51 hX, List.forall_mem_cons.mpr ⟨fun _ => gl6_52 hX, List.forall_mem_cons.mpr ⟨fun _ => gl6_53 hX, List.forall_mem_cons.mpr ⟨fun _ => gl6_54 hX, List.forall_mem_cons.mpr ⟨fun _ => gl6_55 hX, List.forall_mem_cons.mpr ⟨fun _ => gl6_56 hX, List.forall_mem_cons.mpr ⟨fun _ => gl6_57 hX, List.forall_mem_cons.mpr ⟨fun _ => gl6_58 hX, List.forall_mem_cons.mpr ⟨fun _ => gl6_59 hX, List.forall_mem_cons.mpr ⟨fun _ => gl6_60 hX, List.forall_mem_cons.mpr ⟨fun _ => gl6_61 hX, List.forall_mem_cons.mpr ⟨fun _ => gl6_62 hX, List.forall_mem_cons.mpr ⟨fun _ => gl6_63 hX, List.forall_mem_cons.mpr ⟨fun _ => gl6_64 hX, List.forall_mem_cons.mpr ⟨fun _ => gl6_65 hX, List.forall_mem_cons.mpr ⟨fun _ => gl6_66 hX, List.forall_mem_cons.mpr ⟨fun _ => gl6_67 hX, List.forall_mem_cons.mpr ⟨fun _ => gl6_68 hX, List.forall_mem_cons.mpr ⟨fun _ => gl6_69 hX, List.forall_mem_cons.mpr ⟨fun _ => gl6_70 hX, fun _ h => absurd h List.not_mem_nil⟩⟩⟩⟩⟩⟩⟩⟩⟩⟩⟩⟩⟩⟩⟩⟩⟩⟩⟩⟩⟩⟩⟩⟩⟩⟩⟩⟩⟩⟩⟩⟩⟩⟩⟩⟩⟩⟩⟩⟩⟩⟩⟩⟩⟩⟩⟩⟩⟩⟩⟩⟩⟩⟩⟩⟩⟩⟩⟩⟩⟩⟩⟩⟩⟩⟩⟩⟩⟩⟩⟩
theorem gh6 (hX : CX sbs dC dI dA sp s.heap ρ0 mL_law p room_1 s m #[Value.ref b] meth c) : GL p e s m below meth c l b dC dI dA sp ρ0 18 s6 hA 185 11361 lA [] :=
  sn_run sbs_ok mth_ok 1000 p e room_1 s m #[Value.ref b] below meth c _ ρ0 [] mL_law 328 18 _ s6 hA 185 11361 lA [] oB6 law_ok (ax_jmp_in _ _) hX stB6 (ro6 hX)
theorem gs6 (hX : CX sbs dC dI dA sp s.heap ρ0 mL_law p room_1 s m #[Value.ref b] meth c) : GL p e s m below meth c l b dC dI dA sp ρ0 0 s6 (0, []) 0 0 [(0, (6, 0))] [] :=
  sn_run sbs_ok mth_ok 100000 p e room_1 s m #[Value.ref b] below meth c _ ρ0 [] mL_law 18 0 _ s6 (0, []) 0 0 _ [] _ law_ok (fun x hx => hx) hX stA6 (List.forall_mem_cons.mpr ⟨fun _ => gh6 hX, fun _ h => absurd h List.not_mem_nil⟩)
theorem ro5 (hX : CX sbs dC dI dA sp s.heap ρ0 mL_law p room_1 s m #[Value.ref b] meth c) : ∀ o ∈ oB5, RO dC dI dA sp s.heap l p e room_1 s m #[Value.ref b] below meth c (lw_Z below #[Value.ref b] s) ρ0 [] mL_law o := List.forall_mem_cons.mpr ⟨fun _ => gl5_0 hX, fun _ h => absurd h List.not_mem_nil⟩
theorem gh5 (hX : CX sbs dC dI dA sp s.heap ρ0 mL_law p room_1 s m #[Value.ref b] meth c) : GL p e s m below meth c l b dC dI dA sp ρ0 18 s5 hA 185 11361 lA [] :=
  sn_run sbs_ok mth_ok 1000 p e room_1 s m #[Value.ref b] below meth c _ ρ0 [] mL_law 328 18 _ s5 hA 185 11361 lA [] oB5 law_ok (ax_jmp_in _ _) hX stB5 (ro5 hX)
theorem gs5 (hX : CX sbs dC dI dA sp s.heap ρ0 mL_law p room_1 s m #[Value.ref b] meth c) : GL p e s m below meth c l b dC dI dA sp ρ0 0 s5 (0, []) 0 0 [(0, (6, 0))] [] :=
  sn_run sbs_ok mth_ok 100000 p e room_1 s m #[Value.ref b] below meth c _ ρ0 [] mL_law 18 0 _ s5 (0, []) 0 0 _ [] _ law_ok (fun x hx => hx) hX stA5 (List.forall_mem_cons.mpr ⟨fun _ => gh5 hX, fun _ h => absurd h List.not_mem_nil⟩)
end WALK
theorem nth_lt {α : Type} {l : List α} {k : Nat} {x : α} (h : l[k]? = some x) : k < l.length := (List.getElem?_eq_some_iff.mp h).1
theorem st_env {xs : Nat → Int32} {L : Nat} (hL : L ≤ 6) : (L = 6 → St (zs xs L) s6) ∧ (¬ L = 6 → St (zs xs L) s5) := by
  have key : ∀ (q6 : Nat × Nat), q6.1 ≤ L + 9223372036854775808 → L + 9223372036854775808 ≤ q6.2 → St (zs xs L) [ax_full, ax_full, ax_full, ax_full, ax_full, ax_full, q6] := fun q6 h1 h2 => ⟨rfl, fun k z hz => by
    match k, hz with
    | 0, hz => cases hz; exact ⟨_, rfl, full_in _⟩
    | 1, hz => cases hz; exact ⟨_, rfl, full_in _⟩
    | 2, hz => cases hz; exact ⟨_, rfl, full_in _⟩
    | 3, hz => cases hz; exact ⟨_, rfl, full_in _⟩
    | 4, hz => cases hz; exact ⟨_, rfl, full_in _⟩
    | 5, hz => cases hz; exact ⟨_, rfl, full_in _⟩
    | 6, hz => cases hz; exact ⟨_, rfl, h1, h2⟩
    | n + 7, hz => simp [zs] at hz⟩
  exact ⟨fun q => key _ (by show 9223372036854775814 ≤ _; omega) (by show _ ≤ 9223372036854775814; omega), fun q => key _ (by show 9223372036854775808 ≤ _; omega) (by show _ ≤ 9223372036854775813; omega)⟩
/-- YOUR PART: from the entry, for every script of at most 6 ints, the law comes to its end with true -/
theorem whole_start {p : Program} {e : Env} {s : State} {m : MethodId} {below : List Frame} {meth : Method} {c : Code} (l : Launch) {b L : Nat} {xs : Nat → Int32} (hL : L ≤ 6) (C0 : lw_At p s m meth c b L xs) : W p l e room_1 s m #[Value.ref b] below meth c s.heap [] 0 0 (lw_Z below #[Value.ref b] s) (entryFrame m ([Value.ref b] : List Value).toArray 4) := by
  obtain ⟨hx, hb, hr, hml, hown, hts, hX, hbl, hlocks, hgv⟩ := C0
  obtain ⟨dC, dI, hKc⟩ := st_cls hts
  obtain ⟨dA, hKa⟩ := st_arr hts
  obtain ⟨sp, hsp, hO⟩ := st_old hts hX hbl hL hgv
  have hCX : CX sbs dC dI dA sp s.heap (zs xs L) mL_law p room_1 s m #[Value.ref b] meth c := ⟨hx, hb, hml, hown, fun w hw => hts w (GW_tbl hw), ⟨hKc, hKa⟩, hlocks, hr, fun h => absurd h (by decide), rfl, hO⟩
  have hl := lv_entry ([.ref b]) (n := 4) (Nat.le_of_ble_eq_true rfl)
  rw [lg_entry_eq]
  generalize (lg_sl ([.ref b]) ++ List.replicate (4 - (lg_sl ([.ref b])).length) Slot.unset).toArray = ls at hl ⊢
  have hP : va_P (dC, dI) vwCl [] s.heap := fun k q h => by simp at h
  have hD : va_D (aA s.heap) [] := ⟨fun i j p q h => by simp at h, fun k q h => by simp at h⟩
  have hH : Hr sp dA (zs xs L) [] (0, []) [] := ⟨rfl, rfl, fun k c h => by
    unfold ax_hn at h
    obtain ⟨r, e1, -⟩ := ob_s h
    rw [ax_nth_eq] at e1
    simp at e1⟩
  have hLv : Rl sp (zs xs L) [] [(0, (6, 0))] (lv_args 0 [.ref b]) := ⟨⟨rfl, by show Value.ref b = Value.ref (sp 0); rw [hsp]⟩, trivial⟩
  by_cases h6 : L = 6
  · exact gs6 hCX (zs xs L) [] [] s.heap [] ls _ [] (Sb.rf _) (Sb.rf _) ((st_env hL).1 h6) hH hP hD va_S.rf hLv hl trivial
  · exact gs5 hCX (zs xs L) [] [] s.heap [] ls _ [] (Sb.rf _) (Sb.rf _) ((st_env hL).2 h6) hH hP hD va_S.rf hLv hl trivial
end
section
set_option maxHeartbeats 4000000 in
theorem lw_walk (l : Launch) (b : Addr) (xs : List Int32) : MetFree l x (headSpec (Jvm.Cond.code x code maxLocals ret :: tables_1) room_1) (lw_P b xs) (fun _ _ _ _ _ => True) lw_Q := by
  refine MetFree.of_bodyS (code := code) (maxLocals := maxLocals) (ret := ret) (by decide) ?_ ?_
  · intro args s m h hn
    obtain ⟨meth, c, h1, h2, h3, h4, h5, h6, -, -⟩ := Cond.code_spec hn (atoms_spec (ws := Jvm.Cond.code x code maxLocals ret :: tables_1) h _ List.mem_cons_self)
    exact ⟨meth, c, h1, h2, h3, h4, h5, h6⟩
  · intro p e s m args below meth c s₁ B hml0 hP _
    obtain ⟨rfl, hx, hbd, hgv⟩ := hP
    obtain ⟨scr, harrAt, hlist, hof, hsmall⟩ := hx
    obtain ⟨hcb, hkn, -, -⟩ := State.arrayAt?_spec harrAt
    have hown : s.vm.findClass R_law = some m.cls := findClass_of_methodNamed B.named
    have hts0 : ∀ c ∈ (Jvm.Cond.code x code maxLocals ret :: tables_1), c.before #[Value.ref b] s = true := atoms_spec (ws := Jvm.Cond.code x code maxLocals ret :: tables_1) B.pre
    have hts : ∀ w ∈ lw_tbl, w.before #[Value.ref b] s = true := k2_hts_sels lw_privs (fun w hw => hts0 w (List.mem_cons_of_mem _ hw)) lw_privs_ok
    have hml : c.maxLocals = 4 := B.maxLocals_eq (hts0 _ List.mem_cons_self)
    have X₀ : Stand p l e room_1 s m #[Value.ref b] below meth c s₁ [] 0 0 := Stand.of_body B
    have hh0 : s₁.heap = s.heap := by rw [B.state]; rfl
    have hsz : scr.slots.size = xs.length := by rw [← Array.length_toList, hlist, List.length_map]
    have hval : ∀ j : Nat, j < xs.length → scr.slots[j]? = some (.int (xs.getD j 0)) := fun j hj => by
      rw [← Array.getElem?_toList, hlist]
      simp [hj]
    have hbl : b < s.heap.size := (Array.getElem?_eq_some_iff.mp hcb).1
    have hX : va_X b xs.length (fun j => xs.getD j 0) s s.heap := ⟨scr, hcb, hof, hkn, hsz, hval⟩
    have K : W p l e room_1 s m #[Value.ref b] below meth c s₁.heap [] 0 0 (lw_Z below #[Value.ref b] s) (entryFrame m ([Value.ref b] : List Value).toArray 4) := by
      rw [hh0]
      exact whole_start l hbd ⟨B.exec, B.bytes, B.returns, hml, hown, hts, hX, hbl, B.notSynchronized, hgv⟩
    obtain ⟨t, a1, o, b1, b2, b3⟩ := K s₁ rfl X₀
    exact ⟨t, o, a1, b1, b2, b3⟩
theorem lw_pre_spec {args : Array Value} {s : State} (h : (Jvm.Cond.and given_1 narrow_1).before args s = true) (hr : rest_1_c.before args s = true) : ∃ (b : Addr) (xs : List Int32), lw_P b xs args s := by
  have hs := flat_of_before _ h
  have hq := flat_of_before _ hr
  have hc : (Cond.count 1).before args s = true := hs _ (by decide +kernel)
  have harr : (Cond.arrayOf (.arg 0) .int).before args s = true := hs _ (by decide +kernel)
  have hle : (Cond.le (.length (.arg 0)) (.int 6)).before args s = true := hs _ (by decide +kernel)
  have hlen : (Cond.isInt (.length (.arg 0))).before args s = true := hq _ (by decide +kernel)
  have hall : (Cond.all (.arg 0) (.isInt (.elem (.arg 0) (.index 0)))).before args s = true := hq _ (by decide +kernel)
  obtain ⟨b, xs, hb, hx⟩ := State.ints_of_pre rfl harr hlen hall
  have hsm : xs.length < 2 ^ 31 := hx.choose_spec.2.2.2
  have hev : (Term.length (.arg 0)).eval args s none [] s = some (.int xs.length.toInt32) := hx.length_eval hb
  have hv := Cond.le_ints hev (show (Term.int 6).eval args s none [] s = some (.int 6) from rfl)
  have hd : xs.length.toInt32 ≤ 6 := by
    simpa [Cond.before, Cond.holds, hv] using hle
  have hN : xs.length ≤ 6 := (Int32.ofNat_le_ofNat hsm (by decide)).mp (show Int32.ofNat xs.length ≤ Int32.ofNat 6 from hd)
  exact ⟨b, xs, Cond.one_arg hc (show args[0]? = some (.ref b) from hb), hx, hN, h⟩
theorem lw_comes (l : Launch) : Comes l x (Jvm.Cond.code x code maxLocals ret :: tables_1) room_1 (fun tb e args s => Calls_1 tb e args s ∧ rest_1 tb e args s ∧ Pre_1 tb e args s)
    (fun _ _ args s o t => lw_Q args s o t) := by
  intro p e ha hc hk s m args below hf hfit hheap happ hpre
  obtain ⟨b, xs, hP⟩ := lw_pre_spec hpre.2.2 hpre.2.1
  obtain ⟨k, o, h1, h2, h3, hQ⟩ := lw_walk l b xs p e ha hc hk s m args below hf ((Spec.applies_iff_loose hf).mp happ).1 hP trivial
  exact ⟨k, o, h1, h2, h3, hQ⟩
theorem lw_frame {s t : State} {o : Outcome} {args : Array Value} (h : Framed s o t [] 600000 7302250) :
    Framed s o t (fieldLocs frame_1_writes args s ++ arrayLocs frame_1_arrays args s ++ staticLocs frame_1_statics s) 600000 7302250 := h
theorem lw_limb (L : Cond) (hL : ∀ (args : Array Value) (s t : State), L.after args s (.returned (some (.int 1))) t = true) :
    ArmFor flags0 classFile x code maxLocals ret World_1 tables_1 room_1 Calls_1 rest_1 Pre_1
      (fun tb e a s o t => postC L tb e a s o t ∧ Framed s o t (fieldLocs frame_1_writes a s ++ arrayLocs frame_1_arrays a s ++ staticLocs frame_1_statics s) 600000 7302250) := by
  intro l _ _ _ p e ha hc hk s m args below hf hfit hheap happ hpre
  obtain ⟨k, o, h1, h2, h3, rfl, hF⟩ := lw_comes l p e ha hc hk s m args below hf hfit hheap happ hpre
  exact ⟨k, _, h1, h2, h3, hL args s _, lw_frame hF⟩
theorem i_vc : Claimed_1_1 ∧ Claimed_1_2 := ⟨lw_limb limb_1_1 (fun args s t => by simp [limb_1_1, Cond.after, Cond.holds, Cond.value]), lw_limb limb_1_2 (fun args s t => Cond.after_iff.mpr (by
  first | (rw [show limb_1_2 = Cond.eq .result (.int 1) from rfl, Cond.eq_ints (x := 1) (y := 1) rfl rfl]; simp; done) | (simp [limb_1_2, Cond.value, Term.eval]; done)))⟩
end
