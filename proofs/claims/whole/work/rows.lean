section
-- ===== PART A: goes FIRST, ahead of the names: the tables' words, and 'selects' of the private methods out of them =====
/-- a private method of a class that the tables say can be made, by its rows of tables_1 -/
def lw_okq (q : MethodName × Nat) : Prop := (q.1.cls ≠ "java/lang/invoke/MethodHandle" ∧ q.1.cls ≠ "java/lang/invoke/VarHandle") ∧ Cond.instantiable q.1.cls q.2 ∈ tables_1 ∧ Cond.privateMethod q.1 ∈ tables_1 ∧ Cond.instanceMethod q.1 ∈ tables_1
theorem lw_p0 : lw_okq (⟨"PantryDoors$Text", "next", "()V"⟩, 8) := ⟨⟨by decide +kernel, by decide +kernel⟩, List.mem_of_getElem? (i := 25) (by decide +kernel), List.mem_of_getElem? (i := 331) (by decide +kernel), List.mem_of_getElem? (i := 332) (by decide +kernel)⟩
theorem lw_p1 : lw_okq (⟨"PantryDoors$Text", "nextLetters", "()V"⟩, 8) := ⟨⟨by decide +kernel, by decide +kernel⟩, List.mem_of_getElem? (i := 25) (by decide +kernel), List.mem_of_getElem? (i := 339) (by decide +kernel), List.mem_of_getElem? (i := 340) (by decide +kernel)⟩
theorem lw_p2 : lw_okq (⟨"PantryDoors$Text", "nextNumber", "()V"⟩, 8) := ⟨⟨by decide +kernel, by decide +kernel⟩, List.mem_of_getElem? (i := 25) (by decide +kernel), List.mem_of_getElem? (i := 346) (by decide +kernel), List.mem_of_getElem? (i := 347) (by decide +kernel)⟩
theorem lw_p3 : lw_okq (⟨"PantryDoors$Text", "readItem", "(LPantryDoors$House;)Z"⟩, 8) := ⟨⟨by decide +kernel, by decide +kernel⟩, List.mem_of_getElem? (i := 25) (by decide +kernel), List.mem_of_getElem? (i := 353) (by decide +kernel), List.mem_of_getElem? (i := 354) (by decide +kernel)⟩
theorem lw_p4 : lw_okq (⟨"PantryDoors$Text", "canBegin", "(LPantryDoors$House;I)Z"⟩, 8) := ⟨⟨by decide +kernel, by decide +kernel⟩, List.mem_of_getElem? (i := 25) (by decide +kernel), List.mem_of_getElem? (i := 357) (by decide +kernel), List.mem_of_getElem? (i := 358) (by decide +kernel)⟩
theorem lw_p5 : lw_okq (⟨"PantryDoors$Text", "put", "(LPantryDoors$House;I)V"⟩, 8) := ⟨⟨by decide +kernel, by decide +kernel⟩, List.mem_of_getElem? (i := 25) (by decide +kernel), List.mem_of_getElem? (i := 370) (by decide +kernel), List.mem_of_getElem? (i := 371) (by decide +kernel)⟩
theorem lw_p6 : lw_okq (⟨"PantryDoors$Text", "putGood", "(LPantryDoors$House;)V"⟩, 8) := ⟨⟨by decide +kernel, by decide +kernel⟩, List.mem_of_getElem? (i := 25) (by decide +kernel), List.mem_of_getElem? (i := 374) (by decide +kernel), List.mem_of_getElem? (i := 375) (by decide +kernel)⟩
theorem lw_p7 : lw_okq (⟨"PantryDoors$Text", "putDoor", "(LPantryDoors$House;)V"⟩, 8) := ⟨⟨by decide +kernel, by decide +kernel⟩, List.mem_of_getElem? (i := 25) (by decide +kernel), List.mem_of_getElem? (i := 378) (by decide +kernel), List.mem_of_getElem? (i := 379) (by decide +kernel)⟩
theorem lw_p8 : lw_okq (⟨"PantryDoors$Life", "loseOldest", "()V"⟩, 3) := ⟨⟨by decide +kernel, by decide +kernel⟩, List.mem_of_getElem? (i := 59) (by decide +kernel), List.mem_of_getElem? (i := 439) (by decide +kernel), List.mem_of_getElem? (i := 440) (by decide +kernel)⟩
theorem lw_p9 : lw_okq (⟨"PantryDoors", "firstLack", "()I"⟩, 15) := ⟨⟨by decide +kernel, by decide +kernel⟩, List.mem_of_getElem? (i := 17) (by decide +kernel), List.mem_of_getElem? (i := 492) (by decide +kernel), List.mem_of_getElem? (i := 493) (by decide +kernel)⟩
theorem lw_p10 : lw_okq (⟨"PantryDoors", "steps", "(I)I"⟩, 15) := ⟨⟨by decide +kernel, by decide +kernel⟩, List.mem_of_getElem? (i := 17) (by decide +kernel), List.mem_of_getElem? (i := 502) (by decide +kernel), List.mem_of_getElem? (i := 503) (by decide +kernel)⟩
theorem lw_p11 : lw_okq (⟨"PantryDoors", "meetings", "(I)I"⟩, 15) := ⟨⟨by decide +kernel, by decide +kernel⟩, List.mem_of_getElem? (i := 17) (by decide +kernel), List.mem_of_getElem? (i := 506) (by decide +kernel), List.mem_of_getElem? (i := 507) (by decide +kernel)⟩
theorem lw_p12 : lw_okq (⟨"PantryDoors$Plan", "growTree", "(LPantryDoors$House;LPantryDoors$State;I)V"⟩, 6) := ⟨⟨by decide +kernel, by decide +kernel⟩, List.mem_of_getElem? (i := 111) (by decide +kernel), List.mem_of_getElem? (i := 525) (by decide +kernel), List.mem_of_getElem? (i := 526) (by decide +kernel)⟩
theorem lw_p13 : lw_okq (⟨"PantryDoors$Plan", "reckonWanted", "(I)V"⟩, 6) := ⟨⟨by decide +kernel, by decide +kernel⟩, List.mem_of_getElem? (i := 111) (by decide +kernel), List.mem_of_getElem? (i := 531) (by decide +kernel), List.mem_of_getElem? (i := 532) (by decide +kernel)⟩
theorem lw_p14 : lw_okq (⟨"PantryDoors$Plan", "allWanted", "()I"⟩, 6) := ⟨⟨by decide +kernel, by decide +kernel⟩, List.mem_of_getElem? (i := 111) (by decide +kernel), List.mem_of_getElem? (i := 538) (by decide +kernel), List.mem_of_getElem? (i := 539) (by decide +kernel)⟩
theorem lw_p15 : lw_okq (⟨"PantryDoors$Plan", "descend", "(I)V"⟩, 6) := ⟨⟨by decide +kernel, by decide +kernel⟩, List.mem_of_getElem? (i := 111) (by decide +kernel), List.mem_of_getElem? (i := 542) (by decide +kernel), List.mem_of_getElem? (i := 543) (by decide +kernel)⟩
def lw_privs_1 : List (MethodName × Nat) := [(⟨"PantryDoors$Text", "next", "()V"⟩, 8), (⟨"PantryDoors$Text", "nextLetters", "()V"⟩, 8), (⟨"PantryDoors$Text", "nextNumber", "()V"⟩, 8), (⟨"PantryDoors$Text", "readItem", "(LPantryDoors$House;)Z"⟩, 8), (⟨"PantryDoors$Text", "canBegin", "(LPantryDoors$House;I)Z"⟩, 8), (⟨"PantryDoors$Text", "put", "(LPantryDoors$House;I)V"⟩, 8), (⟨"PantryDoors$Text", "putGood", "(LPantryDoors$House;)V"⟩, 8), (⟨"PantryDoors$Text", "putDoor", "(LPantryDoors$House;)V"⟩, 8), (⟨"PantryDoors$Life", "loseOldest", "()V"⟩, 3), (⟨"PantryDoors", "firstLack", "()I"⟩, 15), (⟨"PantryDoors", "steps", "(I)I"⟩, 15), (⟨"PantryDoors", "meetings", "(I)I"⟩, 15), (⟨"PantryDoors$Plan", "growTree", "(LPantryDoors$House;LPantryDoors$State;I)V"⟩, 6), (⟨"PantryDoors$Plan", "reckonWanted", "(I)V"⟩, 6), (⟨"PantryDoors$Plan", "allWanted", "()I"⟩, 6), (⟨"PantryDoors$Plan", "descend", "(I)V"⟩, 6)]
theorem lw_r1 : ∀ q ∈ lw_privs_1, lw_okq q := List.forall_mem_cons.mpr ⟨lw_p0, List.forall_mem_cons.mpr ⟨lw_p1, List.forall_mem_cons.mpr ⟨lw_p2, List.forall_mem_cons.mpr ⟨lw_p3, List.forall_mem_cons.mpr ⟨lw_p4, List.forall_mem_cons.mpr ⟨lw_p5, List.forall_mem_cons.mpr ⟨lw_p6, List.forall_mem_cons.mpr ⟨lw_p7, List.forall_mem_cons.mpr ⟨lw_p8, List.forall_mem_cons.mpr ⟨lw_p9, List.forall_mem_cons.mpr ⟨lw_p10, List.forall_mem_cons.mpr ⟨lw_p11, List.forall_mem_cons.mpr ⟨lw_p12, List.forall_mem_cons.mpr ⟨lw_p13, List.forall_mem_cons.mpr ⟨lw_p14, List.forall_mem_cons.mpr ⟨lw_p15, fun _ h => absurd h List.not_mem_nil⟩⟩⟩⟩⟩⟩⟩⟩⟩⟩⟩⟩⟩⟩⟩⟩
theorem lw_p16 : lw_okq (⟨"PantryDoors$Plan", "ascend", "()V"⟩, 6) := ⟨⟨by decide +kernel, by decide +kernel⟩, List.mem_of_getElem? (i := 111) (by decide +kernel), List.mem_of_getElem? (i := 546) (by decide +kernel), List.mem_of_getElem? (i := 547) (by decide +kernel)⟩
theorem lw_p17 : lw_okq (⟨"PantryDoors", "reckonLoads", "(I)V"⟩, 15) := ⟨⟨by decide +kernel, by decide +kernel⟩, List.mem_of_getElem? (i := 17) (by decide +kernel), List.mem_of_getElem? (i := 554) (by decide +kernel), List.mem_of_getElem? (i := 555) (by decide +kernel)⟩
theorem lw_p18 : lw_okq (⟨"PantryDoors", "worthWith", "(III)I"⟩, 15) := ⟨⟨by decide +kernel, by decide +kernel⟩, List.mem_of_getElem? (i := 17) (by decide +kernel), List.mem_of_getElem? (i := 558) (by decide +kernel), List.mem_of_getElem? (i := 559) (by decide +kernel)⟩
theorem lw_p19 : lw_okq (⟨"PantryDoors", "leastCarried", "(II)I"⟩, 15) := ⟨⟨by decide +kernel, by decide +kernel⟩, List.mem_of_getElem? (i := 17) (by decide +kernel), List.mem_of_getElem? (i := 563) (by decide +kernel), List.mem_of_getElem? (i := 564) (by decide +kernel)⟩
theorem lw_p20 : lw_okq (⟨"PantryDoors", "isAsSeen", "(I)Z"⟩, 15) := ⟨⟨by decide +kernel, by decide +kernel⟩, List.mem_of_getElem? (i := 17) (by decide +kernel), List.mem_of_getElem? (i := 586) (by decide +kernel), List.mem_of_getElem? (i := 587) (by decide +kernel)⟩
theorem lw_p21 : lw_okq (⟨"PantryDoors", "mostAlike", "(II)I"⟩, 15) := ⟨⟨by decide +kernel, by decide +kernel⟩, List.mem_of_getElem? (i := 17) (by decide +kernel), List.mem_of_getElem? (i := 595) (by decide +kernel), List.mem_of_getElem? (i := 596) (by decide +kernel)⟩
theorem lw_p22 : lw_okq (⟨"PantryDoors", "alike", "(III)I"⟩, 15) := ⟨⟨by decide +kernel, by decide +kernel⟩, List.mem_of_getElem? (i := 17) (by decide +kernel), List.mem_of_getElem? (i := 599) (by decide +kernel), List.mem_of_getElem? (i := 600) (by decide +kernel)⟩
theorem lw_p23 : lw_okq (⟨"PantryDoors", "isAsGave", "(II)Z"⟩, 15) := ⟨⟨by decide +kernel, by decide +kernel⟩, List.mem_of_getElem? (i := 17) (by decide +kernel), List.mem_of_getElem? (i := 611) (by decide +kernel), List.mem_of_getElem? (i := 612) (by decide +kernel)⟩
theorem lw_p24 : lw_okq (⟨"PantryDoorsModel", "read", "()V"⟩, 32) := ⟨⟨by decide +kernel, by decide +kernel⟩, List.mem_of_getElem? (i := 675) (by decide +kernel), List.mem_of_getElem? (i := 794) (by decide +kernel), List.mem_of_getElem? (i := 795) (by decide +kernel)⟩
theorem lw_p25 : lw_okq (⟨"PantryDoorsModel", "step", "()V"⟩, 32) := ⟨⟨by decide +kernel, by decide +kernel⟩, List.mem_of_getElem? (i := 675) (by decide +kernel), List.mem_of_getElem? (i := 798) (by decide +kernel), List.mem_of_getElem? (i := 799) (by decide +kernel)⟩
theorem lw_p26 : lw_okq (⟨"PantryDoorsModel", "here", "()I"⟩, 32) := ⟨⟨by decide +kernel, by decide +kernel⟩, List.mem_of_getElem? (i := 675) (by decide +kernel), List.mem_of_getElem? (i := 802) (by decide +kernel), List.mem_of_getElem? (i := 803) (by decide +kernel)⟩
theorem lw_p27 : lw_okq (⟨"PantryDoorsModel", "may", "(I)Z"⟩, 32) := ⟨⟨by decide +kernel, by decide +kernel⟩, List.mem_of_getElem? (i := 675) (by decide +kernel), List.mem_of_getElem? (i := 806) (by decide +kernel), List.mem_of_getElem? (i := 807) (by decide +kernel)⟩
theorem lw_p28 : lw_okq (⟨"PantryDoorsModel", "due", "(Z)V"⟩, 32) := ⟨⟨by decide +kernel, by decide +kernel⟩, List.mem_of_getElem? (i := 675) (by decide +kernel), List.mem_of_getElem? (i := 810) (by decide +kernel), List.mem_of_getElem? (i := 811) (by decide +kernel)⟩
theorem lw_p29 : lw_okq (⟨"PantryDoorsModel", "item", "(I)V"⟩, 32) := ⟨⟨by decide +kernel, by decide +kernel⟩, List.mem_of_getElem? (i := 675) (by decide +kernel), List.mem_of_getElem? (i := 814) (by decide +kernel), List.mem_of_getElem? (i := 815) (by decide +kernel)⟩
theorem lw_p30 : lw_okq (⟨"PantryDoorsModel", "readGood", "()V"⟩, 32) := ⟨⟨by decide +kernel, by decide +kernel⟩, List.mem_of_getElem? (i := 675) (by decide +kernel), List.mem_of_getElem? (i := 818) (by decide +kernel), List.mem_of_getElem? (i := 819) (by decide +kernel)⟩
theorem lw_p31 : lw_okq (⟨"PantryDoorsModel", "number", "(II)I"⟩, 32) := ⟨⟨by decide +kernel, by decide +kernel⟩, List.mem_of_getElem? (i := 675) (by decide +kernel), List.mem_of_getElem? (i := 822) (by decide +kernel), List.mem_of_getElem? (i := 823) (by decide +kernel)⟩
def lw_privs_2 : List (MethodName × Nat) := [(⟨"PantryDoors$Plan", "ascend", "()V"⟩, 6), (⟨"PantryDoors", "reckonLoads", "(I)V"⟩, 15), (⟨"PantryDoors", "worthWith", "(III)I"⟩, 15), (⟨"PantryDoors", "leastCarried", "(II)I"⟩, 15), (⟨"PantryDoors", "isAsSeen", "(I)Z"⟩, 15), (⟨"PantryDoors", "mostAlike", "(II)I"⟩, 15), (⟨"PantryDoors", "alike", "(III)I"⟩, 15), (⟨"PantryDoors", "isAsGave", "(II)Z"⟩, 15), (⟨"PantryDoorsModel", "read", "()V"⟩, 32), (⟨"PantryDoorsModel", "step", "()V"⟩, 32), (⟨"PantryDoorsModel", "here", "()I"⟩, 32), (⟨"PantryDoorsModel", "may", "(I)Z"⟩, 32), (⟨"PantryDoorsModel", "due", "(Z)V"⟩, 32), (⟨"PantryDoorsModel", "item", "(I)V"⟩, 32), (⟨"PantryDoorsModel", "readGood", "()V"⟩, 32), (⟨"PantryDoorsModel", "number", "(II)I"⟩, 32)]
theorem lw_r2 : ∀ q ∈ lw_privs_2, lw_okq q := List.forall_mem_cons.mpr ⟨lw_p16, List.forall_mem_cons.mpr ⟨lw_p17, List.forall_mem_cons.mpr ⟨lw_p18, List.forall_mem_cons.mpr ⟨lw_p19, List.forall_mem_cons.mpr ⟨lw_p20, List.forall_mem_cons.mpr ⟨lw_p21, List.forall_mem_cons.mpr ⟨lw_p22, List.forall_mem_cons.mpr ⟨lw_p23, List.forall_mem_cons.mpr ⟨lw_p24, List.forall_mem_cons.mpr ⟨lw_p25, List.forall_mem_cons.mpr ⟨lw_p26, List.forall_mem_cons.mpr ⟨lw_p27, List.forall_mem_cons.mpr ⟨lw_p28, List.forall_mem_cons.mpr ⟨lw_p29, List.forall_mem_cons.mpr ⟨lw_p30, List.forall_mem_cons.mpr ⟨lw_p31, fun _ h => absurd h List.not_mem_nil⟩⟩⟩⟩⟩⟩⟩⟩⟩⟩⟩⟩⟩⟩⟩⟩
theorem lw_p32 : lw_okq (⟨"PantryDoorsModel", "readOf", "([I)V"⟩, 32) := ⟨⟨by decide +kernel, by decide +kernel⟩, List.mem_of_getElem? (i := 675) (by decide +kernel), List.mem_of_getElem? (i := 826) (by decide +kernel), List.mem_of_getElem? (i := 827) (by decide +kernel)⟩
theorem lw_p33 : lw_okq (⟨"PantryDoorsModel", "isGood", "(I)Z"⟩, 32) := ⟨⟨by decide +kernel, by decide +kernel⟩, List.mem_of_getElem? (i := 675) (by decide +kernel), List.mem_of_getElem? (i := 834) (by decide +kernel), List.mem_of_getElem? (i := 835) (by decide +kernel)⟩
theorem lw_p34 : lw_okq (⟨"PantryDoorsModel", "canTake", "([II)I"⟩, 32) := ⟨⟨by decide +kernel, by decide +kernel⟩, List.mem_of_getElem? (i := 675) (by decide +kernel), List.mem_of_getElem? (i := 838) (by decide +kernel), List.mem_of_getElem? (i := 839) (by decide +kernel)⟩
theorem lw_p35 : lw_okq (⟨"PantryDoorsModel", "opens", "([I)I"⟩, 32) := ⟨⟨by decide +kernel, by decide +kernel⟩, List.mem_of_getElem? (i := 675) (by decide +kernel), List.mem_of_getElem? (i := 842) (by decide +kernel), List.mem_of_getElem? (i := 843) (by decide +kernel)⟩
theorem lw_p36 : lw_okq (⟨"PantryDoorsModel", "givesOn", "(I)I"⟩, 32) := ⟨⟨by decide +kernel, by decide +kernel⟩, List.mem_of_getElem? (i := 675) (by decide +kernel), List.mem_of_getElem? (i := 846) (by decide +kernel), List.mem_of_getElem? (i := 847) (by decide +kernel)⟩
theorem lw_p37 : lw_okq (⟨"PantryDoorsModel", "know", "()V"⟩, 32) := ⟨⟨by decide +kernel, by decide +kernel⟩, List.mem_of_getElem? (i := 675) (by decide +kernel), List.mem_of_getElem? (i := 864) (by decide +kernel), List.mem_of_getElem? (i := 865) (by decide +kernel)⟩
theorem lw_p38 : lw_okq (⟨"PantryDoorsModel", "passOn", "([I)I"⟩, 32) := ⟨⟨by decide +kernel, by decide +kernel⟩, List.mem_of_getElem? (i := 675) (by decide +kernel), List.mem_of_getElem? (i := 868) (by decide +kernel), List.mem_of_getElem? (i := 869) (by decide +kernel)⟩
theorem lw_p39 : lw_okq (⟨"PantryDoorsModel", "takeOf", "([III)V"⟩, 32) := ⟨⟨by decide +kernel, by decide +kernel⟩, List.mem_of_getElem? (i := 675) (by decide +kernel), List.mem_of_getElem? (i := 879) (by decide +kernel), List.mem_of_getElem? (i := 880) (by decide +kernel)⟩
theorem lw_p40 : lw_okq (⟨"PantryDoorsModel", "firstHungry", "()I"⟩, 32) := ⟨⟨by decide +kernel, by decide +kernel⟩, List.mem_of_getElem? (i := 675) (by decide +kernel), List.mem_of_getElem? (i := 899) (by decide +kernel), List.mem_of_getElem? (i := 900) (by decide +kernel)⟩
theorem lw_p41 : lw_okq (⟨"PantryDoorsModel", "take", "()V"⟩, 32) := ⟨⟨by decide +kernel, by decide +kernel⟩, List.mem_of_getElem? (i := 675) (by decide +kernel), List.mem_of_getElem? (i := 903) (by decide +kernel), List.mem_of_getElem? (i := 904) (by decide +kernel)⟩
theorem lw_p42 : lw_okq (⟨"PantryDoorsModel", "takenBy", "(II)I"⟩, 32) := ⟨⟨by decide +kernel, by decide +kernel⟩, List.mem_of_getElem? (i := 675) (by decide +kernel), List.mem_of_getElem? (i := 919) (by decide +kernel), List.mem_of_getElem? (i := 920) (by decide +kernel)⟩
theorem lw_p43 : lw_okq (⟨"PantryDoorsModel", "tellMost", "()V"⟩, 32) := ⟨⟨by decide +kernel, by decide +kernel⟩, List.mem_of_getElem? (i := 675) (by decide +kernel), List.mem_of_getElem? (i := 927) (by decide +kernel), List.mem_of_getElem? (i := 928) (by decide +kernel)⟩
theorem lw_p44 : lw_okq (⟨"PantryDoorsModel", "storeOf", "(II)I"⟩, 32) := ⟨⟨by decide +kernel, by decide +kernel⟩, List.mem_of_getElem? (i := 675) (by decide +kernel), List.mem_of_getElem? (i := 939) (by decide +kernel), List.mem_of_getElem? (i := 940) (by decide +kernel)⟩
def lw_privs_3 : List (MethodName × Nat) := [(⟨"PantryDoorsModel", "readOf", "([I)V"⟩, 32), (⟨"PantryDoorsModel", "isGood", "(I)Z"⟩, 32), (⟨"PantryDoorsModel", "canTake", "([II)I"⟩, 32), (⟨"PantryDoorsModel", "opens", "([I)I"⟩, 32), (⟨"PantryDoorsModel", "givesOn", "(I)I"⟩, 32), (⟨"PantryDoorsModel", "know", "()V"⟩, 32), (⟨"PantryDoorsModel", "passOn", "([I)I"⟩, 32), (⟨"PantryDoorsModel", "takeOf", "([III)V"⟩, 32), (⟨"PantryDoorsModel", "firstHungry", "()I"⟩, 32), (⟨"PantryDoorsModel", "take", "()V"⟩, 32), (⟨"PantryDoorsModel", "takenBy", "(II)I"⟩, 32), (⟨"PantryDoorsModel", "tellMost", "()V"⟩, 32), (⟨"PantryDoorsModel", "storeOf", "(II)I"⟩, 32)]
theorem lw_r3 : ∀ q ∈ lw_privs_3, lw_okq q := List.forall_mem_cons.mpr ⟨lw_p32, List.forall_mem_cons.mpr ⟨lw_p33, List.forall_mem_cons.mpr ⟨lw_p34, List.forall_mem_cons.mpr ⟨lw_p35, List.forall_mem_cons.mpr ⟨lw_p36, List.forall_mem_cons.mpr ⟨lw_p37, List.forall_mem_cons.mpr ⟨lw_p38, List.forall_mem_cons.mpr ⟨lw_p39, List.forall_mem_cons.mpr ⟨lw_p40, List.forall_mem_cons.mpr ⟨lw_p41, List.forall_mem_cons.mpr ⟨lw_p42, List.forall_mem_cons.mpr ⟨lw_p43, List.forall_mem_cons.mpr ⟨lw_p44, fun _ h => absurd h List.not_mem_nil⟩⟩⟩⟩⟩⟩⟩⟩⟩⟩⟩⟩⟩
def lw_privs : List (MethodName × Nat) := lw_privs_1 ++ (lw_privs_2 ++ (lw_privs_3))
def lw_tbl : List Cond := k2_sels lw_privs ++ tables_1
theorem lw_privs_ok : ∀ q ∈ lw_privs, lw_okq q := by
  show ∀ q ∈ lw_privs_1 ++ (lw_privs_2 ++ (lw_privs_3)), lw_okq q
  exact List.forall_mem_append.mpr ⟨lw_r1, List.forall_mem_append.mpr ⟨lw_r2, lw_r3⟩⟩
def RX0 : String := "PantryDoors$Candle"
def TX0 : u_T := fun k => match k with
  | _ => ("PantryDoors$Good", "traced", "J", false)
def tyX0 : Nat → FieldType := fun k => match k with
  | _ => .long
abbrev wsX00 : List Cond := u_ws RX0 TX0 1
theorem nmX0 : ∀ a, a < 1 → ∀ b, b < 1 → a ≠ b → (TX0 a).2.1 ≠ (TX0 b).2.1 := by decide +kernel
theorem tyX0_ok : ∀ k, k < 1 → parseFieldDescriptor (TX0 k).2.2.1 = some (tyX0 k) := by decide +kernel
def RX1 : String := "PantryDoors$Cone"
def TX1 : u_T := fun k => match k with
  | _ => ("PantryDoors$Good", "traced", "J", false)
def tyX1 : Nat → FieldType := fun k => match k with
  | _ => .long
abbrev wsX10 : List Cond := u_ws RX1 TX1 1
theorem nmX1 : ∀ a, a < 1 → ∀ b, b < 1 → a ≠ b → (TX1 a).2.1 ≠ (TX1 b).2.1 := by decide +kernel
theorem tyX1_ok : ∀ k, k < 1 → parseFieldDescriptor (TX1 k).2.2.1 = some (tyX1 k) := by decide +kernel
def RX2 : String := "PantryDoors$Good"
def TX2 : u_T := fun k => match k with
  | _ => ("PantryDoors$Good", "traced", "J", false)
def tyX2 : Nat → FieldType := fun k => match k with
  | _ => .long
abbrev wsX20 : List Cond := u_ws RX2 TX2 1
theorem nmX2 : ∀ a, a < 1 → ∀ b, b < 1 → a ≠ b → (TX2 a).2.1 ≠ (TX2 b).2.1 := by decide +kernel
theorem tyX2_ok : ∀ k, k < 1 → parseFieldDescriptor (TX2 k).2.2.1 = some (tyX2 k) := by decide +kernel
def RX3 : String := "PantryDoors$Ham"
def TX3 : u_T := fun k => match k with
  | _ => ("PantryDoors$Good", "traced", "J", false)
def tyX3 : Nat → FieldType := fun k => match k with
  | _ => .long
abbrev wsX30 : List Cond := u_ws RX3 TX3 1
theorem nmX3 : ∀ a, a < 1 → ∀ b, b < 1 → a ≠ b → (TX3 a).2.1 ≠ (TX3 b).2.1 := by decide +kernel
theorem tyX3_ok : ∀ k, k < 1 → parseFieldDescriptor (TX3 k).2.2.1 = some (tyX3 k) := by decide +kernel
def RX4 : String := "PantryDoors$House"
def TX4 : u_T := fun k => match k with
  | 0 => ("PantryDoors$House", "first", "[I", true)
  | 1 => ("PantryDoors$House", "use", "[I", true)
  | 2 => ("PantryDoors$House", "weight", "[I", true)
  | 3 => ("PantryDoors$House", "worth", "[I", true)
  | 4 => ("PantryDoors$House", "brought", "[I", true)
  | 5 => ("PantryDoors$House", "missed", "[I", true)
  | 6 => ("PantryDoors$House", "stores", "[I", true)
  | 7 => ("PantryDoors$House", "goods", "I", false)
  | 8 => ("PantryDoors$House", "every", "I", false)
  | _ => ("PantryDoors$House", "back", "I", false)
def tyX4 : Nat → FieldType := fun k => match k with
  | 0 => .array .int
  | 1 => .array .int
  | 2 => .array .int
  | 3 => .array .int
  | 4 => .array .int
  | 5 => .array .int
  | 6 => .array .int
  | 7 => .int
  | 8 => .int
  | _ => .int
abbrev wsX40 : List Cond := u_ws RX4 TX4 10
theorem nmX4 : ∀ a, a < 10 → ∀ b, b < 10 → a ≠ b → (TX4 a).2.1 ≠ (TX4 b).2.1 := by decide +kernel
theorem tyX4_ok : ∀ k, k < 10 → parseFieldDescriptor (TX4 k).2.2.1 = some (tyX4 k) := by decide +kernel
def RX5 : String := "PantryDoors$Jelly"
def TX5 : u_T := fun k => match k with
  | _ => ("PantryDoors$Good", "traced", "J", false)
def tyX5 : Nat → FieldType := fun k => match k with
  | _ => .long
abbrev wsX50 : List Cond := u_ws RX5 TX5 1
theorem nmX5 : ∀ a, a < 1 → ∀ b, b < 1 → a ≠ b → (TX5 a).2.1 ≠ (TX5 b).2.1 := by decide +kernel
theorem tyX5_ok : ∀ k, k < 1 → parseFieldDescriptor (TX5 k).2.2.1 = some (tyX5 k) := by decide +kernel
def RX6 : String := "PantryDoors$Life"
def TX6 : u_T := fun k => match k with
  | 0 => ("PantryDoors$Life", "now", "LPantryDoors$State;", true)
  | 1 => ("PantryDoors$Life", "past", "[LPantryDoors$State;", true)
  | _ => ("PantryDoors$Life", "known", "I", false)
def tyX6 : Nat → FieldType := fun k => match k with
  | 0 => .object "PantryDoors$State"
  | 1 => .array (.object "PantryDoors$State")
  | _ => .int
abbrev wsX60 : List Cond := u_ws RX6 TX6 3
theorem nmX6 : ∀ a, a < 3 → ∀ b, b < 3 → a ≠ b → (TX6 a).2.1 ≠ (TX6 b).2.1 := by decide +kernel
theorem tyX6_ok : ∀ k, k < 3 → parseFieldDescriptor (TX6 k).2.2.1 = some (tyX6 k) := by decide +kernel
def RX7 : String := "PantryDoors$Plan"
def TX7 : u_T := fun k => match k with
  | 0 => ("PantryDoors$Plan", "choice", "[I", true)
  | 1 => ("PantryDoors$Plan", "length", "I", false)
  | 2 => ("PantryDoors$Plan", "there", "[I", true)
  | 3 => ("PantryDoors$Plan", "wanted", "[I", true)
  | 4 => ("PantryDoors$Plan", "node", "[I", true)
  | _ => ("PantryDoors$Plan", "goods", "I", false)
def tyX7 : Nat → FieldType := fun k => match k with
  | 0 => .array .int
  | 1 => .int
  | 2 => .array .int
  | 3 => .array .int
  | 4 => .array .int
  | _ => .int
abbrev wsX70 : List Cond := u_ws RX7 TX7 6
theorem nmX7 : ∀ a, a < 6 → ∀ b, b < 6 → a ≠ b → (TX7 a).2.1 ≠ (TX7 b).2.1 := by decide +kernel
theorem tyX7_ok : ∀ k, k < 6 → parseFieldDescriptor (TX7 k).2.2.1 = some (tyX7 k) := by decide +kernel
def RX8 : String := "PantryDoors$State"
def TX8 : u_T := fun k => match k with
  | 0 => ("PantryDoors$State", "there", "[I", true)
  | 1 => ("PantryDoors$State", "lacked", "[I", true)
  | 2 => ("PantryDoors$State", "taken", "[I", true)
  | 3 => ("PantryDoors$State", "day", "I", false)
  | _ => ("PantryDoors$State", "held", "Z", false)
def tyX8 : Nat → FieldType := fun k => match k with
  | 0 => .array .int
  | 1 => .array .int
  | 2 => .array .int
  | 3 => .int
  | _ => .boolean
abbrev wsX80 : List Cond := u_ws RX8 TX8 5
theorem nmX8 : ∀ a, a < 5 → ∀ b, b < 5 → a ≠ b → (TX8 a).2.1 ≠ (TX8 b).2.1 := by decide +kernel
theorem tyX8_ok : ∀ k, k < 5 → parseFieldDescriptor (TX8 k).2.2.1 = some (tyX8 k) := by decide +kernel
def RX9 : String := "PantryDoors$Sugar"
def TX9 : u_T := fun k => match k with
  | _ => ("PantryDoors$Good", "traced", "J", false)
def tyX9 : Nat → FieldType := fun k => match k with
  | _ => .long
abbrev wsX90 : List Cond := u_ws RX9 TX9 1
theorem nmX9 : ∀ a, a < 1 → ∀ b, b < 1 → a ≠ b → (TX9 a).2.1 ≠ (TX9 b).2.1 := by decide +kernel
theorem tyX9_ok : ∀ k, k < 1 → parseFieldDescriptor (TX9 k).2.2.1 = some (tyX9 k) := by decide +kernel
def RX10 : String := "PantryDoors$Text"
def TX10 : u_T := fun k => match k with
  | 0 => ("PantryDoors$Text", "bytes", "[I", true)
  | 1 => ("PantryDoors$Text", "length", "I", false)
  | 2 => ("PantryDoors$Text", "numbers", "[I", true)
  | 3 => ("PantryDoors$Text", "at", "I", false)
  | 4 => ("PantryDoors$Text", "place", "I", false)
  | 5 => ("PantryDoors$Text", "token", "I", false)
  | 6 => ("PantryDoors$Text", "value", "I", false)
  | _ => ("PantryDoors$Text", "doorTold", "Z", false)
def tyX10 : Nat → FieldType := fun k => match k with
  | 0 => .array .int
  | 1 => .int
  | 2 => .array .int
  | 3 => .int
  | 4 => .int
  | 5 => .int
  | 6 => .int
  | _ => .boolean
abbrev wsX100 : List Cond := u_ws RX10 TX10 8
theorem nmX10 : ∀ a, a < 8 → ∀ b, b < 8 → a ≠ b → (TX10 a).2.1 ≠ (TX10 b).2.1 := by decide +kernel
theorem tyX10_ok : ∀ k, k < 8 → parseFieldDescriptor (TX10 k).2.2.1 = some (tyX10 k) := by decide +kernel
def RX11 : String := "PantryDoors"
def TX11 : u_T := fun k => match k with
  | 0 => ("PantryDoors", "text", "LPantryDoors$Text;", true)
  | 1 => ("PantryDoors", "life", "LPantryDoors$Life;", true)
  | 2 => ("PantryDoors", "images", "[LPantryDoors$Life;", true)
  | 3 => ("PantryDoors", "kept", "[Z", true)
  | 4 => ("PantryDoors", "seenGood", "[I", true)
  | 5 => ("PantryDoors", "seenThere", "[I", true)
  | 6 => ("PantryDoors", "gaveDay", "[I", true)
  | 7 => ("PantryDoors", "gaveTo", "[I", true)
  | 8 => ("PantryDoors", "best", "[I", true)
  | 9 => ("PantryDoors", "plan", "LPantryDoors$Plan;", true)
  | 10 => ("PantryDoors", "kinds", "[LPantryDoors$Good;", true)
  | 11 => ("PantryDoors", "told", "LPantryDoors$House;", false)
  | 12 => ("PantryDoors", "draft", "LPantryDoors$House;", false)
  | 13 => ("PantryDoors", "seen", "I", false)
  | _ => ("PantryDoors", "gaves", "I", false)
def tyX11 : Nat → FieldType := fun k => match k with
  | 0 => .object "PantryDoors$Text"
  | 1 => .object "PantryDoors$Life"
  | 2 => .array (.object "PantryDoors$Life")
  | 3 => .array .boolean
  | 4 => .array .int
  | 5 => .array .int
  | 6 => .array .int
  | 7 => .array .int
  | 8 => .array .int
  | 9 => .object "PantryDoors$Plan"
  | 10 => .array (.object "PantryDoors$Good")
  | 11 => .object "PantryDoors$House"
  | 12 => .object "PantryDoors$House"
  | 13 => .int
  | _ => .int
abbrev wsX110 : List Cond := u_ws RX11 TX11 15
theorem nmX11 : ∀ a, a < 15 → ∀ b, b < 15 → a ≠ b → (TX11 a).2.1 ≠ (TX11 b).2.1 := by decide +kernel
theorem tyX11_ok : ∀ k, k < 15 → parseFieldDescriptor (TX11 k).2.2.1 = some (tyX11 k) := by decide +kernel
def RX12 : String := "PantryDoorsModel"
def TX12 : u_T := fun k => match k with
  | 0 => ("PantryDoorsModel", "text", "[B", true)
  | 1 => ("PantryDoorsModel", "typed", "I", false)
  | 2 => ("PantryDoorsModel", "door", "[I", true)
  | 3 => ("PantryDoorsModel", "goods", "[I", true)
  | 4 => ("PantryDoorsModel", "first", "[I", true)
  | 5 => ("PantryDoorsModel", "use", "[I", true)
  | 6 => ("PantryDoorsModel", "weight", "[I", true)
  | 7 => ("PantryDoorsModel", "worth", "[I", true)
  | 8 => ("PantryDoorsModel", "brought", "[I", true)
  | 9 => ("PantryDoorsModel", "missed", "[I", true)
  | 10 => ("PantryDoorsModel", "at", "I", false)
  | 11 => ("PantryDoorsModel", "place", "I", false)
  | 12 => ("PantryDoorsModel", "sort", "I", false)
  | 13 => ("PantryDoorsModel", "value", "I", false)
  | 14 => ("PantryDoorsModel", "isWrong", "Z", false)
  | 15 => ("PantryDoorsModel", "items", "I", false)
  | 16 => ("PantryDoorsModel", "isHung", "Z", false)
  | 17 => ("PantryDoorsModel", "now", "[I", true)
  | 18 => ("PantryDoorsModel", "known", "[I", true)
  | 19 => ("PantryDoorsModel", "before", "[I", true)
  | 20 => ("PantryDoorsModel", "store", "[I", true)
  | 21 => ("PantryDoorsModel", "isKept", "[Z", true)
  | 22 => ("PantryDoorsModel", "tried", "[I", true)
  | 23 => ("PantryDoorsModel", "most", "[I", true)
  | 24 => ("PantryDoorsModel", "sightOf", "[I", true)
  | 25 => ("PantryDoorsModel", "sightIs", "[I", true)
  | 26 => ("PantryDoorsModel", "sights", "I", false)
  | 27 => ("PantryDoorsModel", "markOf", "[I", true)
  | 28 => ("PantryDoorsModel", "markTo", "[I", true)
  | 29 => ("PantryDoorsModel", "marks", "I", false)
  | 30 => ("PantryDoorsModel", "stores", "[I", true)
  | _ => ("PantryDoorsModel", "trace", "J", false)
def tyX12 : Nat → FieldType := fun k => match k with
  | 0 => .array .byte
  | 1 => .int
  | 2 => .array .int
  | 3 => .array .int
  | 4 => .array .int
  | 5 => .array .int
  | 6 => .array .int
  | 7 => .array .int
  | 8 => .array .int
  | 9 => .array .int
  | 10 => .int
  | 11 => .int
  | 12 => .int
  | 13 => .int
  | 14 => .boolean
  | 15 => .int
  | 16 => .boolean
  | 17 => .array .int
  | 18 => .array .int
  | 19 => .array .int
  | 20 => .array .int
  | 21 => .array .boolean
  | 22 => .array .int
  | 23 => .array .int
  | 24 => .array .int
  | 25 => .array .int
  | 26 => .int
  | 27 => .array .int
  | 28 => .array .int
  | 29 => .int
  | 30 => .array .int
  | _ => .long
abbrev wsX120 : List Cond := u_ws RX12 TX12 32
theorem nmX12 : ∀ a, a < 32 → ∀ b, b < 32 → a ≠ b → (TX12 a).2.1 ≠ (TX12 b).2.1 := by decide +kernel
theorem tyX12_ok : ∀ k, k < 32 → parseFieldDescriptor (TX12 k).2.2.1 = some (tyX12 k) := by decide +kernel
abbrev pd_cl : List vw_C := [(RX0, TX0, 1), (RX1, TX1, 1), (RX2, TX2, 1), (RX3, TX3, 1), (RX4, TX4, 10), (RX5, TX5, 1), (RX6, TX6, 3), (RX7, TX7, 6), (RX8, TX8, 5), (RX9, TX9, 1), (RX10, TX10, 8), (RX11, TX11, 15), (RX12, TX12, 32)]
def pd_tbl : List Cond := lw_tbl.filter goodWord
theorem pd_m {w : Cond} (i : Nat) (h : lw_tbl[i]? = some w) (hg : goodWord w = true) : w ∈ pd_tbl := List.mem_filter.mpr ⟨List.mem_of_getElem? h, hg⟩
theorem pd_all : ∀ {l : List Cond} {P : Cond → Prop}, (∀ w ∈ l, P w) → ∀ w ∈ l, P w := fun h => h
theorem iw0_0 : u_lay RX0 TX0 0 ∈ pd_tbl := pd_m 243 (by decide +kernel) (by decide +kernel)
theorem iw0 : ∀ w ∈ u_ws RX0 TX0 1, w ∈ pd_tbl := by
  show ∀ w ∈ [u_lay RX0 TX0 0], w ∈ pd_tbl
  exact List.forall_mem_cons.mpr ⟨iw0_0, fun _ h => absurd h List.not_mem_nil⟩
theorem iw1_0 : u_lay RX1 TX1 0 ∈ pd_tbl := pd_m 227 (by decide +kernel) (by decide +kernel)
theorem iw1 : ∀ w ∈ u_ws RX1 TX1 1, w ∈ pd_tbl := by
  show ∀ w ∈ [u_lay RX1 TX1 0], w ∈ pd_tbl
  exact List.forall_mem_cons.mpr ⟨iw1_0, fun _ h => absurd h List.not_mem_nil⟩
theorem iw2_0 : u_lay RX2 TX2 0 ∈ pd_tbl := pd_m 202 (by decide +kernel) (by decide +kernel)
theorem iw2 : ∀ w ∈ u_ws RX2 TX2 1, w ∈ pd_tbl := by
  show ∀ w ∈ [u_lay RX2 TX2 0], w ∈ pd_tbl
  exact List.forall_mem_cons.mpr ⟨iw2_0, fun _ h => absurd h List.not_mem_nil⟩
theorem iw3_0 : u_lay RX3 TX3 0 ∈ pd_tbl := pd_m 219 (by decide +kernel) (by decide +kernel)
theorem iw3 : ∀ w ∈ u_ws RX3 TX3 1, w ∈ pd_tbl := by
  show ∀ w ∈ [u_lay RX3 TX3 0], w ∈ pd_tbl
  exact List.forall_mem_cons.mpr ⟨iw3_0, fun _ h => absurd h List.not_mem_nil⟩
theorem iw4_0 : u_lay RX4 TX4 0 ∈ pd_tbl := pd_m 285 (by decide +kernel) (by decide +kernel)
theorem iw4_1 : u_lay RX4 TX4 1 ∈ pd_tbl := pd_m 287 (by decide +kernel) (by decide +kernel)
theorem iw4_2 : u_lay RX4 TX4 2 ∈ pd_tbl := pd_m 289 (by decide +kernel) (by decide +kernel)
theorem iw4_3 : u_lay RX4 TX4 3 ∈ pd_tbl := pd_m 291 (by decide +kernel) (by decide +kernel)
theorem iw4_4 : u_lay RX4 TX4 4 ∈ pd_tbl := pd_m 293 (by decide +kernel) (by decide +kernel)
theorem iw4_5 : u_lay RX4 TX4 5 ∈ pd_tbl := pd_m 295 (by decide +kernel) (by decide +kernel)
theorem iw4_6 : u_lay RX4 TX4 6 ∈ pd_tbl := pd_m 297 (by decide +kernel) (by decide +kernel)
theorem iw4_7 : u_lay RX4 TX4 7 ∈ pd_tbl := pd_m 299 (by decide +kernel) (by decide +kernel)
theorem iw4_8 : u_lay RX4 TX4 8 ∈ pd_tbl := pd_m 301 (by decide +kernel) (by decide +kernel)
theorem iw4_9 : u_lay RX4 TX4 9 ∈ pd_tbl := pd_m 303 (by decide +kernel) (by decide +kernel)
theorem iw4 : ∀ w ∈ u_ws RX4 TX4 10, w ∈ pd_tbl := by
  show ∀ w ∈ [u_lay RX4 TX4 0, u_lay RX4 TX4 1, u_lay RX4 TX4 2, u_lay RX4 TX4 3, u_lay RX4 TX4 4, u_lay RX4 TX4 5, u_lay RX4 TX4 6, u_lay RX4 TX4 7, u_lay RX4 TX4 8, u_lay RX4 TX4 9], w ∈ pd_tbl
  exact List.forall_mem_cons.mpr ⟨iw4_0, List.forall_mem_cons.mpr ⟨iw4_1, List.forall_mem_cons.mpr ⟨iw4_2, List.forall_mem_cons.mpr ⟨iw4_3, List.forall_mem_cons.mpr ⟨iw4_4, List.forall_mem_cons.mpr ⟨iw4_5, List.forall_mem_cons.mpr ⟨iw4_6, List.forall_mem_cons.mpr ⟨iw4_7, List.forall_mem_cons.mpr ⟨iw4_8, List.forall_mem_cons.mpr ⟨iw4_9, fun _ h => absurd h List.not_mem_nil⟩⟩⟩⟩⟩⟩⟩⟩⟩⟩
theorem iw5_0 : u_lay RX5 TX5 0 ∈ pd_tbl := pd_m 235 (by decide +kernel) (by decide +kernel)
theorem iw5 : ∀ w ∈ u_ws RX5 TX5 1, w ∈ pd_tbl := by
  show ∀ w ∈ [u_lay RX5 TX5 0], w ∈ pd_tbl
  exact List.forall_mem_cons.mpr ⟨iw5_0, fun _ h => absurd h List.not_mem_nil⟩
theorem iw6_0 : u_lay RX6 TX6 0 ∈ pd_tbl := pd_m 147 (by decide +kernel) (by decide +kernel)
theorem iw6_1 : u_lay RX6 TX6 1 ∈ pd_tbl := pd_m 149 (by decide +kernel) (by decide +kernel)
theorem iw6_2 : u_lay RX6 TX6 2 ∈ pd_tbl := pd_m 151 (by decide +kernel) (by decide +kernel)
theorem iw6 : ∀ w ∈ u_ws RX6 TX6 3, w ∈ pd_tbl := by
  show ∀ w ∈ [u_lay RX6 TX6 0, u_lay RX6 TX6 1, u_lay RX6 TX6 2], w ∈ pd_tbl
  exact List.forall_mem_cons.mpr ⟨iw6_0, List.forall_mem_cons.mpr ⟨iw6_1, List.forall_mem_cons.mpr ⟨iw6_2, fun _ h => absurd h List.not_mem_nil⟩⟩⟩
theorem iw7_0 : u_lay RX7 TX7 0 ∈ pd_tbl := pd_m 169 (by decide +kernel) (by decide +kernel)
theorem iw7_1 : u_lay RX7 TX7 1 ∈ pd_tbl := pd_m 171 (by decide +kernel) (by decide +kernel)
theorem iw7_2 : u_lay RX7 TX7 2 ∈ pd_tbl := pd_m 173 (by decide +kernel) (by decide +kernel)
theorem iw7_3 : u_lay RX7 TX7 3 ∈ pd_tbl := pd_m 175 (by decide +kernel) (by decide +kernel)
theorem iw7_4 : u_lay RX7 TX7 4 ∈ pd_tbl := pd_m 177 (by decide +kernel) (by decide +kernel)
theorem iw7_5 : u_lay RX7 TX7 5 ∈ pd_tbl := pd_m 179 (by decide +kernel) (by decide +kernel)
theorem iw7 : ∀ w ∈ u_ws RX7 TX7 6, w ∈ pd_tbl := by
  show ∀ w ∈ [u_lay RX7 TX7 0, u_lay RX7 TX7 1, u_lay RX7 TX7 2, u_lay RX7 TX7 3, u_lay RX7 TX7 4, u_lay RX7 TX7 5], w ∈ pd_tbl
  exact List.forall_mem_cons.mpr ⟨iw7_0, List.forall_mem_cons.mpr ⟨iw7_1, List.forall_mem_cons.mpr ⟨iw7_2, List.forall_mem_cons.mpr ⟨iw7_3, List.forall_mem_cons.mpr ⟨iw7_4, List.forall_mem_cons.mpr ⟨iw7_5, fun _ h => absurd h List.not_mem_nil⟩⟩⟩⟩⟩⟩
theorem iw8_0 : u_lay RX8 TX8 0 ∈ pd_tbl := pd_m 130 (by decide +kernel) (by decide +kernel)
theorem iw8_1 : u_lay RX8 TX8 1 ∈ pd_tbl := pd_m 132 (by decide +kernel) (by decide +kernel)
theorem iw8_2 : u_lay RX8 TX8 2 ∈ pd_tbl := pd_m 134 (by decide +kernel) (by decide +kernel)
theorem iw8_3 : u_lay RX8 TX8 3 ∈ pd_tbl := pd_m 136 (by decide +kernel) (by decide +kernel)
theorem iw8_4 : u_lay RX8 TX8 4 ∈ pd_tbl := pd_m 138 (by decide +kernel) (by decide +kernel)
theorem iw8 : ∀ w ∈ u_ws RX8 TX8 5, w ∈ pd_tbl := by
  show ∀ w ∈ [u_lay RX8 TX8 0, u_lay RX8 TX8 1, u_lay RX8 TX8 2, u_lay RX8 TX8 3, u_lay RX8 TX8 4], w ∈ pd_tbl
  exact List.forall_mem_cons.mpr ⟨iw8_0, List.forall_mem_cons.mpr ⟨iw8_1, List.forall_mem_cons.mpr ⟨iw8_2, List.forall_mem_cons.mpr ⟨iw8_3, List.forall_mem_cons.mpr ⟨iw8_4, fun _ h => absurd h List.not_mem_nil⟩⟩⟩⟩⟩
theorem iw9_0 : u_lay RX9 TX9 0 ∈ pd_tbl := pd_m 211 (by decide +kernel) (by decide +kernel)
theorem iw9 : ∀ w ∈ u_ws RX9 TX9 1, w ∈ pd_tbl := by
  show ∀ w ∈ [u_lay RX9 TX9 0], w ∈ pd_tbl
  exact List.forall_mem_cons.mpr ⟨iw9_0, fun _ h => absurd h List.not_mem_nil⟩
theorem iw10_0 : u_lay RX10 TX10 0 ∈ pd_tbl := pd_m 85 (by decide +kernel) (by decide +kernel)
theorem iw10_1 : u_lay RX10 TX10 1 ∈ pd_tbl := pd_m 87 (by decide +kernel) (by decide +kernel)
theorem iw10_2 : u_lay RX10 TX10 2 ∈ pd_tbl := pd_m 89 (by decide +kernel) (by decide +kernel)
theorem iw10_3 : u_lay RX10 TX10 3 ∈ pd_tbl := pd_m 91 (by decide +kernel) (by decide +kernel)
theorem iw10_4 : u_lay RX10 TX10 4 ∈ pd_tbl := pd_m 93 (by decide +kernel) (by decide +kernel)
theorem iw10_5 : u_lay RX10 TX10 5 ∈ pd_tbl := pd_m 95 (by decide +kernel) (by decide +kernel)
theorem iw10_6 : u_lay RX10 TX10 6 ∈ pd_tbl := pd_m 97 (by decide +kernel) (by decide +kernel)
theorem iw10_7 : u_lay RX10 TX10 7 ∈ pd_tbl := pd_m 99 (by decide +kernel) (by decide +kernel)
theorem iw10 : ∀ w ∈ u_ws RX10 TX10 8, w ∈ pd_tbl := by
  show ∀ w ∈ [u_lay RX10 TX10 0, u_lay RX10 TX10 1, u_lay RX10 TX10 2, u_lay RX10 TX10 3, u_lay RX10 TX10 4, u_lay RX10 TX10 5, u_lay RX10 TX10 6, u_lay RX10 TX10 7], w ∈ pd_tbl
  exact List.forall_mem_cons.mpr ⟨iw10_0, List.forall_mem_cons.mpr ⟨iw10_1, List.forall_mem_cons.mpr ⟨iw10_2, List.forall_mem_cons.mpr ⟨iw10_3, List.forall_mem_cons.mpr ⟨iw10_4, List.forall_mem_cons.mpr ⟨iw10_5, List.forall_mem_cons.mpr ⟨iw10_6, List.forall_mem_cons.mpr ⟨iw10_7, fun _ h => absurd h List.not_mem_nil⟩⟩⟩⟩⟩⟩⟩⟩
theorem iw11_0 : u_lay RX11 TX11 0 ∈ pd_tbl := pd_m 321 (by decide +kernel) (by decide +kernel)
theorem iw11_1 : u_lay RX11 TX11 1 ∈ pd_tbl := pd_m 323 (by decide +kernel) (by decide +kernel)
theorem iw11_2 : u_lay RX11 TX11 2 ∈ pd_tbl := pd_m 325 (by decide +kernel) (by decide +kernel)
theorem iw11_3 : u_lay RX11 TX11 3 ∈ pd_tbl := pd_m 327 (by decide +kernel) (by decide +kernel)
theorem iw11_4 : u_lay RX11 TX11 4 ∈ pd_tbl := pd_m 329 (by decide +kernel) (by decide +kernel)
theorem iw11_5 : u_lay RX11 TX11 5 ∈ pd_tbl := pd_m 331 (by decide +kernel) (by decide +kernel)
theorem iw11_6 : u_lay RX11 TX11 6 ∈ pd_tbl := pd_m 333 (by decide +kernel) (by decide +kernel)
theorem iw11_7 : u_lay RX11 TX11 7 ∈ pd_tbl := pd_m 335 (by decide +kernel) (by decide +kernel)
theorem iw11_8 : u_lay RX11 TX11 8 ∈ pd_tbl := pd_m 337 (by decide +kernel) (by decide +kernel)
theorem iw11_9 : u_lay RX11 TX11 9 ∈ pd_tbl := pd_m 339 (by decide +kernel) (by decide +kernel)
theorem iw11_10 : u_lay RX11 TX11 10 ∈ pd_tbl := pd_m 341 (by decide +kernel) (by decide +kernel)
theorem iw11_11 : u_lay RX11 TX11 11 ∈ pd_tbl := pd_m 343 (by decide +kernel) (by decide +kernel)
theorem iw11_12 : u_lay RX11 TX11 12 ∈ pd_tbl := pd_m 345 (by decide +kernel) (by decide +kernel)
theorem iw11_13 : u_lay RX11 TX11 13 ∈ pd_tbl := pd_m 347 (by decide +kernel) (by decide +kernel)
theorem iw11_14 : u_lay RX11 TX11 14 ∈ pd_tbl := pd_m 349 (by decide +kernel) (by decide +kernel)
theorem iw11 : ∀ w ∈ u_ws RX11 TX11 15, w ∈ pd_tbl := by
  show ∀ w ∈ [u_lay RX11 TX11 0, u_lay RX11 TX11 1, u_lay RX11 TX11 2, u_lay RX11 TX11 3, u_lay RX11 TX11 4, u_lay RX11 TX11 5, u_lay RX11 TX11 6, u_lay RX11 TX11 7, u_lay RX11 TX11 8, u_lay RX11 TX11 9, u_lay RX11 TX11 10, u_lay RX11 TX11 11, u_lay RX11 TX11 12, u_lay RX11 TX11 13, u_lay RX11 TX11 14], w ∈ pd_tbl
  exact List.forall_mem_cons.mpr ⟨iw11_0, List.forall_mem_cons.mpr ⟨iw11_1, List.forall_mem_cons.mpr ⟨iw11_2, List.forall_mem_cons.mpr ⟨iw11_3, List.forall_mem_cons.mpr ⟨iw11_4, List.forall_mem_cons.mpr ⟨iw11_5, List.forall_mem_cons.mpr ⟨iw11_6, List.forall_mem_cons.mpr ⟨iw11_7, List.forall_mem_cons.mpr ⟨iw11_8, List.forall_mem_cons.mpr ⟨iw11_9, List.forall_mem_cons.mpr ⟨iw11_10, List.forall_mem_cons.mpr ⟨iw11_11, List.forall_mem_cons.mpr ⟨iw11_12, List.forall_mem_cons.mpr ⟨iw11_13, List.forall_mem_cons.mpr ⟨iw11_14, fun _ h => absurd h List.not_mem_nil⟩⟩⟩⟩⟩⟩⟩⟩⟩⟩⟩⟩⟩⟩⟩
theorem iw12_0 : u_lay RX12 TX12 0 ∈ pd_tbl := pd_m 757 (by decide +kernel) (by decide +kernel)
theorem iw12_1 : u_lay RX12 TX12 1 ∈ pd_tbl := pd_m 759 (by decide +kernel) (by decide +kernel)
theorem iw12_2 : u_lay RX12 TX12 2 ∈ pd_tbl := pd_m 761 (by decide +kernel) (by decide +kernel)
theorem iw12_3 : u_lay RX12 TX12 3 ∈ pd_tbl := pd_m 763 (by decide +kernel) (by decide +kernel)
theorem iw12_4 : u_lay RX12 TX12 4 ∈ pd_tbl := pd_m 765 (by decide +kernel) (by decide +kernel)
theorem iw12_5 : u_lay RX12 TX12 5 ∈ pd_tbl := pd_m 767 (by decide +kernel) (by decide +kernel)
theorem iw12_6 : u_lay RX12 TX12 6 ∈ pd_tbl := pd_m 769 (by decide +kernel) (by decide +kernel)
theorem iw12_7 : u_lay RX12 TX12 7 ∈ pd_tbl := pd_m 771 (by decide +kernel) (by decide +kernel)
theorem iw12_8 : u_lay RX12 TX12 8 ∈ pd_tbl := pd_m 773 (by decide +kernel) (by decide +kernel)
theorem iw12_9 : u_lay RX12 TX12 9 ∈ pd_tbl := pd_m 775 (by decide +kernel) (by decide +kernel)
theorem iw12_10 : u_lay RX12 TX12 10 ∈ pd_tbl := pd_m 777 (by decide +kernel) (by decide +kernel)
theorem iw12_11 : u_lay RX12 TX12 11 ∈ pd_tbl := pd_m 779 (by decide +kernel) (by decide +kernel)
theorem iw12_12 : u_lay RX12 TX12 12 ∈ pd_tbl := pd_m 781 (by decide +kernel) (by decide +kernel)
theorem iw12_13 : u_lay RX12 TX12 13 ∈ pd_tbl := pd_m 783 (by decide +kernel) (by decide +kernel)
theorem iw12_14 : u_lay RX12 TX12 14 ∈ pd_tbl := pd_m 785 (by decide +kernel) (by decide +kernel)
theorem iw12_15 : u_lay RX12 TX12 15 ∈ pd_tbl := pd_m 787 (by decide +kernel) (by decide +kernel)
theorem iw12_16 : u_lay RX12 TX12 16 ∈ pd_tbl := pd_m 789 (by decide +kernel) (by decide +kernel)
theorem iw12_17 : u_lay RX12 TX12 17 ∈ pd_tbl := pd_m 791 (by decide +kernel) (by decide +kernel)
theorem iw12_18 : u_lay RX12 TX12 18 ∈ pd_tbl := pd_m 793 (by decide +kernel) (by decide +kernel)
theorem iw12_19 : u_lay RX12 TX12 19 ∈ pd_tbl := pd_m 795 (by decide +kernel) (by decide +kernel)
theorem iw12_20 : u_lay RX12 TX12 20 ∈ pd_tbl := pd_m 797 (by decide +kernel) (by decide +kernel)
theorem iw12_21 : u_lay RX12 TX12 21 ∈ pd_tbl := pd_m 799 (by decide +kernel) (by decide +kernel)
theorem iw12_22 : u_lay RX12 TX12 22 ∈ pd_tbl := pd_m 801 (by decide +kernel) (by decide +kernel)
theorem iw12_23 : u_lay RX12 TX12 23 ∈ pd_tbl := pd_m 803 (by decide +kernel) (by decide +kernel)
theorem iw12_24 : u_lay RX12 TX12 24 ∈ pd_tbl := pd_m 805 (by decide +kernel) (by decide +kernel)
theorem iw12_25 : u_lay RX12 TX12 25 ∈ pd_tbl := pd_m 807 (by decide +kernel) (by decide +kernel)
theorem iw12_26 : u_lay RX12 TX12 26 ∈ pd_tbl := pd_m 809 (by decide +kernel) (by decide +kernel)
theorem iw12_27 : u_lay RX12 TX12 27 ∈ pd_tbl := pd_m 811 (by decide +kernel) (by decide +kernel)
theorem iw12_28 : u_lay RX12 TX12 28 ∈ pd_tbl := pd_m 813 (by decide +kernel) (by decide +kernel)
theorem iw12_29 : u_lay RX12 TX12 29 ∈ pd_tbl := pd_m 815 (by decide +kernel) (by decide +kernel)
theorem iw12_30 : u_lay RX12 TX12 30 ∈ pd_tbl := pd_m 817 (by decide +kernel) (by decide +kernel)
theorem iw12_31 : u_lay RX12 TX12 31 ∈ pd_tbl := pd_m 819 (by decide +kernel) (by decide +kernel)
theorem iw12 : ∀ w ∈ u_ws RX12 TX12 32, w ∈ pd_tbl := by
  show ∀ w ∈ [u_lay RX12 TX12 0, u_lay RX12 TX12 1, u_lay RX12 TX12 2, u_lay RX12 TX12 3, u_lay RX12 TX12 4, u_lay RX12 TX12 5, u_lay RX12 TX12 6, u_lay RX12 TX12 7, u_lay RX12 TX12 8, u_lay RX12 TX12 9, u_lay RX12 TX12 10, u_lay RX12 TX12 11, u_lay RX12 TX12 12, u_lay RX12 TX12 13, u_lay RX12 TX12 14, u_lay RX12 TX12 15, u_lay RX12 TX12 16, u_lay RX12 TX12 17, u_lay RX12 TX12 18, u_lay RX12 TX12 19, u_lay RX12 TX12 20, u_lay RX12 TX12 21, u_lay RX12 TX12 22, u_lay RX12 TX12 23, u_lay RX12 TX12 24, u_lay RX12 TX12 25, u_lay RX12 TX12 26, u_lay RX12 TX12 27, u_lay RX12 TX12 28, u_lay RX12 TX12 29, u_lay RX12 TX12 30, u_lay RX12 TX12 31], w ∈ pd_tbl
  exact List.forall_mem_cons.mpr ⟨iw12_0, List.forall_mem_cons.mpr ⟨iw12_1, List.forall_mem_cons.mpr ⟨iw12_2, List.forall_mem_cons.mpr ⟨iw12_3, List.forall_mem_cons.mpr ⟨iw12_4, List.forall_mem_cons.mpr ⟨iw12_5, List.forall_mem_cons.mpr ⟨iw12_6, List.forall_mem_cons.mpr ⟨iw12_7, List.forall_mem_cons.mpr ⟨iw12_8, List.forall_mem_cons.mpr ⟨iw12_9, List.forall_mem_cons.mpr ⟨iw12_10, List.forall_mem_cons.mpr ⟨iw12_11, List.forall_mem_cons.mpr ⟨iw12_12, List.forall_mem_cons.mpr ⟨iw12_13, List.forall_mem_cons.mpr ⟨iw12_14, List.forall_mem_cons.mpr ⟨iw12_15, List.forall_mem_cons.mpr ⟨iw12_16, List.forall_mem_cons.mpr ⟨iw12_17, List.forall_mem_cons.mpr ⟨iw12_18, List.forall_mem_cons.mpr ⟨iw12_19, List.forall_mem_cons.mpr ⟨iw12_20, List.forall_mem_cons.mpr ⟨iw12_21, List.forall_mem_cons.mpr ⟨iw12_22, List.forall_mem_cons.mpr ⟨iw12_23, List.forall_mem_cons.mpr ⟨iw12_24, List.forall_mem_cons.mpr ⟨iw12_25, List.forall_mem_cons.mpr ⟨iw12_26, List.forall_mem_cons.mpr ⟨iw12_27, List.forall_mem_cons.mpr ⟨iw12_28, List.forall_mem_cons.mpr ⟨iw12_29, List.forall_mem_cons.mpr ⟨iw12_30, List.forall_mem_cons.mpr ⟨iw12_31, fun _ h => absurd h List.not_mem_nil⟩⟩⟩⟩⟩⟩⟩⟩⟩⟩⟩⟩⟩⟩⟩⟩⟩⟩⟩⟩⟩⟩⟩⟩⟩⟩⟩⟩⟩⟩⟩⟩
end
section
/-! numbers: a Java int is jI z, z an Int -/
def jI (z : Int) : Int32 := Int32.ofInt z
def jL (z : Int) : Int64 := Int64.ofInt z
def jR (z : Int) : Prop := -2147483648 ≤ z ∧ z < 2147483648
theorem jI_add (a b : Int) : jI a + jI b = jI (a + b) := (Int32.ofInt_add a b).symm
theorem jI_sub (a b : Int) : jI a - jI b = jI (a - b) := (Int32.ofInt_sub a b).symm
theorem jI_mul (a b : Int) : jI a * jI b = jI (a * b) := (Int32.ofInt_mul a b).symm
theorem jL_add (a b : Int) : jL a + jL b = jL (a + b) := (Int64.ofInt_add a b).symm
theorem jL_mul (a b : Int) : jL a * jL b = jL (a * b) := (Int64.ofInt_mul a b).symm
theorem jI_toInt {z : Int} (h : jR z) : (jI z).toInt = z := Int32.toInt_ofInt_of_le h.1 h.2
theorem jI_of (x : Int32) : ∃ z : Int, jR z ∧ x = jI z := ⟨x.toInt, ⟨Int32.le_toInt x, Int32.toInt_lt x⟩, (Int32.ofInt_toInt x).symm⟩
theorem jI_lt {a b : Int} (ha : jR a) (hb : jR b) : jI a < jI b ↔ a < b := by
  rw [Int32.lt_iff_toInt_lt, jI_toInt ha, jI_toInt hb]
theorem jI_le {a b : Int} (ha : jR a) (hb : jR b) : jI a ≤ jI b ↔ a ≤ b := by
  rw [Int32.le_iff_toInt_le, jI_toInt ha, jI_toInt hb]
theorem jI_eq {a b : Int} (ha : jR a) (hb : jR b) : jI a = jI b ↔ a = b :=
  ⟨fun h => by have := congrArg Int32.toInt h; rwa [jI_toInt ha, jI_toInt hb] at this, fun h => by rw [h]⟩
theorem jI_0 : (0 : Int32) = jI 0 := rfl
theorem jR_0 : jR 0 := ⟨by decide, by decide⟩
theorem jI_cl {z : Int} {n : Nat} (h0 : 0 ≤ z) (h : z < n) (hn : (n : Int) ≤ 2147483648) : (jI z).toNatClampNeg = z.toNat := by
  have h1 : (jI z).toInt = z := jI_toInt ⟨by omega, by omega⟩
  show (jI z).toInt.toNat = z.toNat
  rw [h1]
theorem jI_in {z : Int} {n : Nat} (h0 : 0 ≤ z) (h : z < n) (hn : (n : Int) ≤ 2147483648) : vp_in (jI z) n := by
  have hc := jI_cl h0 h hn
  intro hh
  rcases hh with hh | hh
  · have : (jI z) < jI 0 := hh
    rw [jI_lt ⟨by omega, by omega⟩ jR_0] at this
    omega
  · rw [hc] at hh
    omega
/-! values: an int, a long, a reference by its place in the world (0: the script) -/
abbrev pv : Type := Int ⊕ (Int ⊕ Option Nat)
abbrev vi (z : Int) : pv := Sum.inl z
abbrev vl (z : Int) : pv := Sum.inr (Sum.inl z)
abbrev vr (k : Nat) : pv := Sum.inr (Sum.inr (some k))
abbrev vn : pv := Sum.inr (Sum.inr none)
abbrev pd_G : Type := Launch × va_G × (Nat → ClassId) × Nat × Nat
def pd_ad (G : pd_G) : Nat → Nat
  | 0 => G.2.2.2.2
  | k + 1 => G.2.2.2.1 + k
def pd_up (G : pd_G) : pv → Value
  | .inl z => .int (jI z)
  | .inr (.inl z) => .long (jL z)
  | .inr (.inr r) => va_rf (r.map (pd_ad G))
abbrev pd_E : Type := (Nat × Nat × ((Int → Int) ⊕ (Int → Option Nat))) ⊕ (Nat × List pv)
abbrev ia (n : Nat) (f : Int → Int) : pd_E := .inl (0, n, .inl f)
abbrev ba (n : Nat) (f : Int → Int) : pd_E := .inl (1, n, .inl f)
abbrev za (n : Nat) (f : Int → Int) : pd_E := .inl (2, n, .inl f)
abbrev ra (k n : Nat) (f : Int → Option Nat) : pd_E := .inl (k, n, .inr f)
abbrev ob (c : Nat) (fs : List pv) : pd_E := .inr (c, fs)
def pd_e (G : pd_G) : pd_E → va_E
  | .inl (k, n, .inl f) => .inl (G.2.2.1 k, n, .inl (fun j : Nat => jI (f j)))
  | .inl (k, n, .inr f) => .inl (G.2.2.1 k, n, .inr (.inr (.inr (.inr (fun j : Nat => (f j).map (pd_ad G))))))
  | .inr (c, fs) => .inr (c, fs.map (pd_up G))
abbrev pd_P : Type := Nat → pd_E
def pd_w (G : pd_G) (sz : Nat) (hp : pd_P) : va_W := (List.range sz).map (fun k => (G.2.2.2.1 + k, pd_e G (hp (k + 1))))
def pd_A (G : pd_G) : Nat → Prop := fun q => G.2.2.2.1 ≤ q
theorem pd_w_get {G : pd_G} {sz : Nat} {hp : pd_P} {k : Nat} (h : k < sz) : (pd_w G sz hp)[k]? = some (G.2.2.2.1 + k, pd_e G (hp (k + 1))) := by
  simp [pd_w, h]
theorem pd_w_of {G : pd_G} {sz : Nat} {hp : pd_P} {k : Nat} {q : Nat × va_E} (h : (pd_w G sz hp)[k]? = some q) : k < sz ∧ q = (G.2.2.2.1 + k, pd_e G (hp (k + 1))) := by
  by_cases hk : k < sz
  · rw [pd_w_get hk] at h
    exact ⟨hk, (Option.some.inj h).symm⟩
  · simp [pd_w, hk] at h
theorem pd_w_D (G : pd_G) (sz : Nat) (hp : pd_P) : va_D (pd_A G) (pd_w G sz hp) := by
  refine ⟨fun i j p q hi hj hpq => ?_, fun k q hk => ?_⟩
  · obtain ⟨-, rfl⟩ := pd_w_of hi
    obtain ⟨-, rfl⟩ := pd_w_of hj
    have : G.2.2.2.1 + i = G.2.2.2.1 + j := hpq
    omega
  · obtain ⟨-, rfl⟩ := pd_w_of hk
    exact Nat.le_add_right _ _
theorem pd_w_set {G : pd_G} {sz : Nat} {hp : pd_P} {k : Nat} {e : pd_E} (h : k < sz) : (pd_w G sz hp).set k (G.2.2.2.1 + k, pd_e G e) = pd_w G sz (va_up hp (k + 1) e) := by
  have hl : k < (pd_w G sz hp).length := by simp [pd_w, h]
  apply List.ext_getElem?
  intro j
  by_cases hj : j = k
  · subst hj
    rw [List.getElem?_set_self hl, pd_w_get h, va_up_self]
  · rw [List.getElem?_set_ne (Ne.symm hj)]
    by_cases hs : j < sz
    · rw [pd_w_get hs, pd_w_get hs, va_up_ne _ _ (by omega)]
    · simp [pd_w, hs]
theorem pd_w_push {G : pd_G} {sz : Nat} {hp : pd_P} {e : pd_E} : pd_w G sz hp ++ [(G.2.2.2.1 + sz, pd_e G e)] = pd_w G (sz + 1) (va_up hp (sz + 1) e) := by
  have hl : (pd_w G sz hp).length = sz := by simp [pd_w]
  apply List.ext_getElem?
  intro j
  by_cases hs : j < sz
  · rw [List.getElem?_append_left (by rw [hl]; exact hs), pd_w_get hs, pd_w_get (by omega), va_up_ne _ _ (by omega)]
  · rw [List.getElem?_append_right (by rw [hl]; omega), hl]
    by_cases hj : j = sz
    · subst hj
      rw [pd_w_get (by omega), va_up_self, Nat.sub_self]
      rfl
    · have h1 : 0 < j - sz := by omega
      rw [List.getElem?_eq_none (by simp; omega), List.getElem?_eq_none (by simp [pd_w]; omega)]
def pd_H (G : pd_G) (sz : Nat) (hp : pd_P) (H : Heap) : Prop := H.size = G.2.2.2.1 + sz ∧ va_P G.2.1 pd_cl (pd_w G sz hp) H ∧ ∀ k, k = 0 ∨ sz < k → hp k = ob 99 []
/-! methods -/
abbrev pd_M : Type := MethodName × ByteArray × Nat × Option FieldType
def pd_ws (M : pd_M) : List Cond := Cond.code M.1 M.2.1 M.2.2.1 M.2.2.2 :: pd_tbl
def pd_ok (M : pd_M) (n : Nat) : Prop := Cond.code M.1 M.2.1 M.2.2.1 M.2.2.2 ∈ pd_tbl ∧ Cond.initialized M.1.cls ∈ pd_tbl ∧ plainName M.1.cls = true ∧ M.1.cls ≠ "java/lang/invoke/MethodHandle" ∧ M.1.cls ≠ "java/lang/invoke/VarHandle" ∧ (parseMethodDescriptor M.1.desc).map (fun d => d.parameters.length) = some n ∧ M.2.2.1 ≤ 45
def pd_ty (G : pd_G) : List (ClassId × FieldType) := [(G.2.2.1 0, .int), (G.2.2.1 1, .byte), (G.2.2.1 2, .boolean), (G.2.2.1 3, .object "PantryDoors$Life"), (G.2.2.1 4, .object "PantryDoors$State"), (G.2.2.1 5, .object "PantryDoors$Good")]
def pd_nest : List (String × Nat × MethodName × String) := [("PantryDoors", 11, ⟨"PantryDoors$Text", "<init>", "()V"⟩, "PantryDoors"), ("PantryDoors$Life", 9, ⟨"PantryDoors$State", "<init>", "()V"⟩, "PantryDoors"), ("PantryDoors", 49, ⟨"PantryDoors$Plan", "<init>", "()V"⟩, "PantryDoors"), ("PantryDoors", 56, ⟨"PantryDoors$Good", "<init>", "()V"⟩, "PantryDoors"), ("PantryDoors", 59, ⟨"PantryDoors$Sugar", "<init>", "()V"⟩, "PantryDoors"), ("PantryDoors$Sugar", 1, ⟨"PantryDoors$Good", "<init>", "()V"⟩, "PantryDoors"), ("PantryDoors", 62, ⟨"PantryDoors$Ham", "<init>", "()V"⟩, "PantryDoors"), ("PantryDoors$Ham", 1, ⟨"PantryDoors$Good", "<init>", "()V"⟩, "PantryDoors"), ("PantryDoors", 65, ⟨"PantryDoors$Cone", "<init>", "()V"⟩, "PantryDoors"), ("PantryDoors$Cone", 1, ⟨"PantryDoors$Sugar", "<init>", "()V"⟩, "PantryDoors"), ("PantryDoors", 68, ⟨"PantryDoors$Jelly", "<init>", "()V"⟩, "PantryDoors"), ("PantryDoors$Jelly", 1, ⟨"PantryDoors$Ham", "<init>", "()V"⟩, "PantryDoors"), ("PantryDoors", 71, ⟨"PantryDoors$Candle", "<init>", "()V"⟩, "PantryDoors"), ("PantryDoors$Candle", 1, ⟨"PantryDoors$Good", "<init>", "()V"⟩, "PantryDoors"), ("PantryDoors", 78, ⟨"PantryDoors$House", "<init>", "()V"⟩, "PantryDoors"), ("PantryDoors$Text", 63, ⟨"PantryDoors", "within", "(III)Z"⟩, "PantryDoors"), ("PantryDoors$House", 43, ⟨"PantryDoors", "within", "(III)Z"⟩, "PantryDoors"), ("PantryDoors$House", 47, ⟨"PantryDoors", "leadsBy", "(III)I"⟩, "PantryDoors")]
end
section
def pd_nw (q : String × Nat × MethodName × String) : Cond := .methodLinkNest q.1 q.2.1 q.2.2.1 q.2.2.2
def pd_K (G : pd_G) (U : State) : Prop := va_K G.2.1 pd_cl (pd_ty G) U ∧ (∀ q ∈ pd_nest, va_Nw (pd_nw q) U) ∧ va_AO "PantryDoors$Life" U ∧ va_AO "PantryDoors$State" U ∧ va_AO "PantryDoors$Good" U
theorem pd_K.warm {G : pd_G} {s U : State} (hW : s.WarmedH U.vm) (h : pd_K G s) : pd_K G U :=
  ⟨va_K.moved hW.alike h.1, fun q hq => va_Nw.warmM hW (h.2.1 q hq), va_AO.moved hW.alike h.2.2.1, va_AO.moved hW.alike h.2.2.2.1, va_AO.moved hW.alike h.2.2.2.2⟩
theorem pd_K.same {G : pd_G} {s U : State} (hv : s.vm = U.vm) (h : pd_K G s) : pd_K G U := by
  have ha : s.vm.Alike U.vm := by rw [hv]; exact Vm.Alike.refl _
  exact ⟨va_K.moved ha h.1, fun q hq => va_Nw.same rfl hv (h.2.1 q hq), va_AO.moved ha h.2.2.1, va_AO.moved ha h.2.2.2.1, va_AO.moved ha h.2.2.2.2⟩
def pd_X (G : pd_G) (X : Option (Nat × (Nat → Int))) (s : State) : Prop := match X with
  | none => True
  | some (L, xs) => va_X G.2.2.2.2 L (fun j => jI (xs j)) s s.heap ∧ G.2.2.2.2 < s.heap.size ∧ G.2.2.2.2 < G.2.2.2.1
/-- what a walk knows of its machine -/
def pd_cx (G : pd_G) (M : pd_M) (d mc ms : Nat) (X : Option (Nat × (Nat → Int))) (p : Program) (Rm : Room) (s : State) (m : MethodId) (args : Array Value) (meth : Method) (c : Code) : Prop :=
  p.tables.exec = Jvm.exec ∧ c.code = M.2.1 ∧ c.maxLocals = M.2.2.1 ∧ s.vm.findClass M.1.cls = some m.cls ∧ (∀ w ∈ pd_tbl, w.before args s = true) ∧ pd_K G s ∧ (d ≤ Rm.frames ∧ 64 * d ≤ Rm.locals ∧ mc ≤ Rm.cells ∧ ms ≤ Rm.slots) ∧ (M.1.name = "<init>" → meth.name = "<init>") ∧ G.2.2.2.1 ≤ s.heap.size ∧ pd_X G X s
/-! locals -/
def pd_nth : List (Option pv) → Nat → Option pv
  | [], _ => none
  | a :: _, 0 => a
  | _ :: l, n + 1 => pd_nth l n
def pd_put : List (Option pv) → Nat → Option pv → List (Option pv)
  | [], _, _ => []
  | _ :: l, 0, v => v :: l
  | a :: l, n + 1, v => a :: pd_put l n v
theorem pd_nth_put : ∀ (l : List (Option pv)) (i j : Nat) (v : Option pv) {w : pv}, pd_nth (pd_put l i v) j = some w → (j = i ∧ v = some w) ∨ (j ≠ i ∧ pd_nth l j = some w)
  | [], _, _, _, _, h => by simp [pd_put, pd_nth] at h
  | a :: l, 0, 0, v, w, h => Or.inl ⟨rfl, h⟩
  | a :: l, 0, j + 1, v, w, h => Or.inr ⟨by omega, h⟩
  | a :: l, i + 1, 0, v, w, h => Or.inr ⟨by omega, h⟩
  | a :: l, i + 1, j + 1, v, w, h => by
    rcases pd_nth_put l i j v h with ⟨h1, h2⟩ | ⟨h1, h2⟩
    · exact Or.inl ⟨by omega, h2⟩
    · exact Or.inr ⟨by omega, h2⟩
def pd_lv (G : pd_G) (ls : Array Slot) (nL : Nat) (lv : List (Option pv)) : Prop := ls.size = nL ∧ lv_wf ls ∧ ∀ (i : Nat) (v : pv), pd_nth lv i = some v → ls[i]? = some (.val (pd_up G v))
/-- the place before i holds no long -/
def pd_o1 (lv : List (Option pv)) : Nat → Bool
  | 0 => true
  | i + 1 => match pd_nth lv i with
    | some (.inr (.inl _)) => false
    | _ => true
def pd_ll (G : pd_G) (lv : List (Option pv)) : List (Nat × Value) := (List.range lv.length).filterMap (fun j => (pd_nth lv j).map (fun v => (j, pd_up G v)))
theorem pd_nth_lt : ∀ (l : List (Option pv)) (i : Nat) {w : pv}, pd_nth l i = some w → i < l.length
  | [], _, _, h => by simp [pd_nth] at h
  | _ :: _, 0, _, _ => by simp
  | _ :: l, i + 1, _, h => by
    have := pd_nth_lt l i h
    simp only [List.length_cons]
    omega
theorem pd_ll_mem {G : pd_G} {lv : List (Option pv)} {j : Nat} {w : pv} (h : pd_nth lv j = some w) : (j, pd_up G w) ∈ pd_ll G lv :=
  List.mem_filterMap.mpr ⟨j, List.mem_range.mpr (pd_nth_lt lv j h), by rw [h]; rfl⟩
theorem pd_lv.has {G : pd_G} {ls : Array Slot} {nL : Nat} {lv : List (Option pv)} (h : pd_lv G ls nL lv) : lv_has ls nL (pd_ll G lv) := by
  refine ⟨h.1, h.2.1, fun q hq => ?_⟩
  obtain ⟨j, -, hj⟩ := List.mem_filterMap.mp hq
  cases hn : pd_nth lv j with
  | none => rw [hn] at hj; cases hj
  | some w =>
    rw [hn] at hj
    cases hj
    exact h.2.2 j w hn
theorem pd_cat (G : pd_G) (v : pv) : (pd_up G v).category = 2 ↔ ∃ z, v = vl z := by
  rcases v with z | z | r
  · simp [pd_up, Value.category]
  · simp [pd_up, Value.category]
  · cases r <;> simp [pd_up, Value.category, va_rf]
theorem pd_lv.st1 {G : pd_G} {ls' : Array Slot} {nL : Nat} {lv : List (Option pv)} {i : Nat} {v : pv} (ho : pd_o1 lv i = true)
    (h : lv_has ls' nL ((i, pd_up G v) :: (pd_ll G lv).filter (fun q => !(q.1 == i) && !(q.1 + 1 == i && q.2.category == 2)))) : pd_lv G ls' nL (pd_put lv i (some v)) := by
  refine ⟨h.1, h.2.1, fun j w hj => ?_⟩
  rcases pd_nth_put lv i j (some v) hj with ⟨rfl, h2⟩ | ⟨h1, h2⟩
  · cases h2
    exact h.2.2 _ List.mem_cons_self
  · refine h.2.2 (j, pd_up G w) (List.mem_cons_of_mem _ (List.mem_filter.mpr ⟨pd_ll_mem h2, ?_⟩))
    simp only [Bool.and_eq_true, Bool.not_eq_true', beq_eq_false_iff_ne, ne_eq, Bool.and_eq_false_iff, h1, not_false_eq_true, true_and]
    by_cases hji : j + 1 = i
    · right
      intro hc
      obtain ⟨z, rfl⟩ := (pd_cat G w).mp hc
      subst hji
      rw [pd_o1, h2] at ho
      cases ho
    · exact Or.inl hji
theorem pd_lv.st2 {G : pd_G} {ls' : Array Slot} {nL : Nat} {lv : List (Option pv)} {i : Nat} {v : pv} (ho : pd_o1 lv i = true)
    (h : lv_has ls' nL ((i, pd_up G v) :: (pd_ll G lv).filter (fun q => !(q.1 == i) && (!(q.1 == i + 1) && !(q.1 + 1 == i && q.2.category == 2))))) : pd_lv G ls' nL (pd_put (pd_put lv (i + 1) none) i (some v)) := by
  refine ⟨h.1, h.2.1, fun j w hj => ?_⟩
  rcases pd_nth_put _ i j (some v) hj with ⟨rfl, h2⟩ | ⟨h1, h2⟩
  · cases h2
    exact h.2.2 _ List.mem_cons_self
  · rcases pd_nth_put lv (i + 1) j none h2 with ⟨-, h3⟩ | ⟨h3, h4⟩
    · cases h3
    · refine h.2.2 (j, pd_up G w) (List.mem_cons_of_mem _ (List.mem_filter.mpr ⟨pd_ll_mem h4, ?_⟩))
      simp only [Bool.and_eq_true, Bool.not_eq_true', beq_eq_false_iff_ne, ne_eq, Bool.and_eq_false_iff, h1, h3, not_false_eq_true, true_and]
      by_cases hji : j + 1 = i
      · right
        intro hc
        obtain ⟨z, rfl⟩ := (pd_cat G w).mp hc
        subst hji
        rw [pd_o1, h4] at ho
        cases ho
      · exact Or.inl hji
/-! the judgement -/
def pd_rd (M : pd_M) (pc : Nat) (v : Option pv) : Prop := match M.2.2.2, v with
  | none, none => decode M.2.1 pc = .ok (.return_, 1)
  | some .int, some (.inl _) => decode M.2.1 pc = .ok (.ireturn, 1)
  | some .boolean, some (.inl z) => decode M.2.1 pc = .ok (.ireturn, 1) ∧ (z = 0 ∨ z = 1)
  | some .long, some (.inr (.inl _)) => decode M.2.1 pc = .ok (.lreturn, 1)
  | _, _ => False
abbrev pd_R : Type := Option pv → Nat → pd_P → Prop
def pd_T (G : pd_G) (M : pd_M) (d mc ms : Nat) (X : Option (Nat × (Nat → Int))) (R : pd_R) (pc : Nat) (lv : List (Option pv)) (st : List pv) (sz ce sl : Nat) (hp : pd_P) : Prop :=
  ∀ (p : Program) (e : Env) (Rm : Room) (s : State) (m : MethodId) (args : Array Value) (below : List Frame) (meth : Method) (c : Code) (Q : State → Prop),
    pd_cx G M d mc ms X p Rm s m args meth c →
    (∀ (pc' : Nat) (H' : Heap) (locs' : List Loc) (ls' : Array Slot) (v : Option pv) (sz' : Nat) (hp' : pd_P), pd_rd M pc' v → R v sz' hp' → pd_H G sz' hp' H' → va_S (pd_A G) s.heap H' locs' →
      W p G.1 e Rm s m args below meth c H' locs' mc ms Q (F0 m pc' ls' (v.toList.map (pd_up G)))) →
    ∀ (H : Heap) (locs : List Loc) (ls : Array Slot), pd_H G sz hp H → va_S (pd_A G) s.heap H locs → pd_lv G ls M.2.2.1 lv →
      W p G.1 e Rm s m args below meth c H locs ce sl Q (F0 m pc ls (st.map (pd_up G)))
def pd_rm (d mc ms : Nat) : Room := { frames := d, cells := mc, slots := ms, locals := 64 * d }
def pd_Pc (G : pd_G) (sz : Nat) (hp : pd_P) (U : State) : Prop := pd_H G sz hp U.heap ∧ pd_K G U
def pd_Qc (G : pd_G) (R : pd_R) : Array Value → State → Outcome → State → Prop := fun _ st o t => (∃ (v : Option pv) (sz' : Nat) (hp' : pd_P), o = .returned (v.map (pd_up G)) ∧ R v sz' hp' ∧ pd_H G sz' hp' t.heap) ∧ va_F (pd_A G) st t
/-- a method's contract: with these arguments, over this world, it returns, and R holds of its answer and of the world then -/
def pd_C (G : pd_G) (M : pd_M) (d mc ms : Nat) (av : List pv) (sz : Nat) (hp : pd_P) (R : pd_R) : Prop :=
  Met G.1 M.1 (pd_ws M) (pd_rm d mc ms) (va_Pc (av.map (pd_up G)) (pd_Pc G sz hp)) (pd_Qc G R) mc ms (pd_A G)
theorem pd_one (G : pd_G) (v : pv) (h : ∀ z, v ≠ vl z) : (pd_up G v).category = 1 := by
  rcases lv_cat (pd_up G v) with h1 | h1
  · exact h1
  · obtain ⟨z, hz⟩ := (pd_cat G v).mp h1
    exact absurd hz (h z)
def pd_sm (av : List pv) : Bool := av.all (fun v => match v with | .inr (.inl _) => false | _ => true)
theorem pd_entry (G : pd_G) : ∀ (av : List pv), pd_sm av = true → lg_sl (av.map (pd_up G)) = (av.map (fun v => Slot.val (pd_up G v)))
  | [], _ => rfl
  | v :: av, h => by
    have h1 : pd_sm av = true := by
      simp only [pd_sm, List.all_cons, Bool.and_eq_true] at h
      exact h.2
    have h0 : ∀ z, v ≠ vl z := by
      intro z hz
      subst hz
      simp [pd_sm] at h
    have hc := pd_one G v h0
    have ih := pd_entry G av h1
    simp only [lg_sl, List.map_cons, List.flatMap_cons] at ih ⊢
    rw [hc, ih]
    rfl
theorem pd_nth_app : ∀ (av : List pv) (k i : Nat) {w : pv}, pd_nth (av.map some ++ List.replicate k none) i = some w → av[i]? = some w
  | [], 0, i, w, h => by simp [pd_nth] at h
  | [], k + 1, 0, w, h => by simp [pd_nth, List.replicate_succ] at h
  | [], k + 1, i + 1, w, h => by
    have h2 : pd_nth (([] : List pv).map some ++ List.replicate k none) i = some w := by simpa [pd_nth, List.replicate_succ] using h
    have := pd_nth_app [] k i h2
    simp at this
  | a :: av, k, 0, w, h => by simpa [pd_nth] using h
  | a :: av, k, i + 1, w, h => by
    have h2 : pd_nth (av.map some ++ List.replicate k none) i = some w := by simpa [pd_nth] using h
    simpa using pd_nth_app av k i h2
/-- a contract out of a walk -/
theorem pd_con {G : pd_G} {M : pd_M} {d mc ms n : Nat} {av : List pv} {sz : Nat} {hp : pd_P} {R : pd_R} (hM : pd_ok M n) (lv : List (Option pv)) (hlv : av.map some ++ List.replicate (M.2.2.1 - av.length) none = lv) (hs : pd_sm av = true) (hle : av.length ≤ M.2.2.1)
    (h : pd_T G M d mc ms none R 0 lv [] sz 0 0 hp) : pd_C G M d mc ms av sz hp R := by
  refine Met.ofW (cc := M.2.1) (maxL := M.2.2.1) (ret := M.2.2.2) hM.2.2.1 rfl ?_
  intro p e s m args below meth c s₁ B hml hv
  obtain ⟨rfl, hH, hK⟩ := hv
  have hts := atoms_spec (ws := pd_ws M) B.pre
  have hlocks := B.notSynchronized
  have hbs : G.2.2.2.1 ≤ s.heap.size := by rw [hH.1]; exact Nat.le_add_right _ _
  have hcx : pd_cx G M d mc ms none p (headSpec (pd_ws M) (pd_rm d mc ms)).room s m (av.map (pd_up G)).toArray meth c :=
    ⟨B.exec, B.bytes, hml, findClass_of_methodNamed B.named, fun w hw => hts w (List.mem_cons_of_mem _ hw), hK, ⟨Nat.le_refl _, Nat.le_refl _, Nat.le_refl _, Nat.le_refl _⟩, fun hn => by rw [← hn]; exact (name_of_methodNamed B.named B.method).1, hbs, trivial⟩
  rw [lg_entry_eq]
  have hlv2 : pd_lv G ((lg_sl (av.map (pd_up G)) ++ List.replicate (M.2.2.1 - (lg_sl (av.map (pd_up G))).length) Slot.unset).toArray) M.2.2.1 lv := by
    have e0 := pd_entry G av hs
    have he := lv_entry (av.map (pd_up G)) (n := M.2.2.1) (by rw [e0]; simpa using hle)
    refine ⟨he.1, he.2.1, fun i w hw => ?_⟩
    rw [← hlv] at hw
    have h1 := pd_nth_app av _ i hw
    have hi : i < av.length := (List.getElem?_eq_some_iff.mp h1).1
    rw [List.getElem?_toArray, e0, List.getElem?_append_left (by simpa using hi), List.getElem?_map, h1]
    rfl
  refine h p e _ s m _ below meth c _ hcx ?_ s.heap [] _ hH va_S.rf hlv2
  intro pc' H' locs' ls' v sz' hp' hrd hR hH' hS'
  have hr := B.returns
  revert hrd
  unfold pd_rd
  split
  · rename_i h1
    intro hd
    exact W.vret B.exec B.bytes (hr.trans h1) (fun t ht hW => ⟨⟨none, sz', hp', rfl, hR, by rw [ht]; exact hH'⟩, hS'.F ht⟩) hS'.2.2 hd
  · rename_i z h1
    intro hd
    exact W.iret (v := jI z) B.exec B.bytes (hr.trans h1) (fun t ht hW => ⟨⟨some (vi z), sz', hp', rfl, hR, by rw [ht]; exact hH'⟩, hS'.F ht⟩) hS'.2.2 hd
  · rename_i z h1
    intro hd
    exact W.zret (v := jI z) B.exec B.bytes (hr.trans h1) (by rcases hd.2 with rfl | rfl <;> rfl) (fun t ht hW => ⟨⟨some (vi z), sz', hp', rfl, hR, by rw [ht]; exact hH'⟩, hS'.F ht⟩) hS'.2.2 hd.1
  · rename_i z h1
    intro hd
    exact W.lret (v := jL z) B.exec B.bytes (hr.trans h1) (fun t ht hW => ⟨⟨some (vl z), sz', hp', rfl, hR, by rw [ht]; exact hH'⟩, hS'.F ht⟩) hS'.2.2 hd
  · intro hd
    exact hd.elim
end
section
/-! rows: an instruction each -/
def pd_i (M : pd_M) (pc : Nat) (i : Instr) (len n : Nat) : Prop := decode M.2.1 pc = .ok (i, len) ∧ n = pc + len
def pd_il (M : pd_M) (pc k n : Nat) : Prop := (∃ f : Fin 4, (f : Nat) = k ∧ pd_i M pc (.iload_n f) 1 n) ∨ pd_i M pc (.iload k) 2 n
def pd_al (M : pd_M) (pc k n : Nat) : Prop := (∃ f : Fin 4, (f : Nat) = k ∧ pd_i M pc (.aload_n f) 1 n) ∨ pd_i M pc (.aload k) 2 n
def pd_jl (M : pd_M) (pc k n : Nat) : Prop := (∃ f : Fin 4, (f : Nat) = k ∧ pd_i M pc (.lload_n f) 1 n) ∨ pd_i M pc (.lload k) 2 n
def pd_is (M : pd_M) (pc k n : Nat) : Prop := k < M.2.2.1 ∧ ((∃ f : Fin 4, (f : Nat) = k ∧ pd_i M pc (.istore_n f) 1 n) ∨ pd_i M pc (.istore k) 2 n)
def pd_as (M : pd_M) (pc k n : Nat) : Prop := k < M.2.2.1 ∧ ((∃ f : Fin 4, (f : Nat) = k ∧ pd_i M pc (.astore_n f) 1 n) ∨ pd_i M pc (.astore k) 2 n)
def pd_js (M : pd_M) (pc k n : Nat) : Prop := k + 1 < M.2.2.1 ∧ ((∃ f : Fin 4, (f : Nat) = k ∧ pd_i M pc (.lstore_n f) 1 n) ∨ pd_i M pc (.lstore k) 2 n)
def pd_ii (M : pd_M) (pc k : Nat) (z : Int) (n : Nat) : Prop := k < M.2.2.1 ∧ pd_i M pc (.iinc k z) 3 n
def pd_ic (M : pd_M) (pc : Nat) (z : Int) (n : Nat) : Prop := pd_i M pc (.iconst z) 1 n ∨ (pd_i M pc (.bipush z) 2 n ∧ (Int8.ofInt z).toInt32 = jI z) ∨ (pd_i M pc (.sipush z) 3 n ∧ (Int16.ofInt z).toInt32 = jI z) ∨ (∃ idx, pd_i M pc (.ldc idx) 2 n ∧ Cond.constant M.1.cls idx (jI z) ∈ pd_tbl) ∨ (∃ idx, pd_i M pc (.ldc_w idx) 3 n ∧ Cond.constant M.1.cls idx (jI z) ∈ pd_tbl)
def pd_jc (M : pd_M) (pc : Nat) (z : Int) (n : Nat) : Prop := (∃ f : Fin 2, pd_i M pc (.lconst f) 1 n ∧ Int64.ofNat (f : Nat) = jL z) ∨ (∃ idx, pd_i M pc (.ldc2_w idx) 3 n ∧ Cond.constantLong M.1.cls idx (jL z) ∈ pd_tbl)
def pd_b1 (M : pd_M) (pc : Nat) (cd : Jvm.ClassFile.Cond) (n t : Nat) : Prop := ∃ off : Int, pd_i M pc (.ifCond cd off) 3 n ∧ (pc : Int) + off = (t : Int)
def pd_b2 (M : pd_M) (pc : Nat) (cd : Jvm.ClassFile.Cond) (n t : Nat) : Prop := ∃ off : Int, pd_i M pc (.if_icmp cd off) 3 n ∧ (pc : Int) + off = (t : Int)
def pd_go (M : pd_M) (pc t : Nat) : Prop := ∃ off : Int, decode M.2.1 pc = .ok (.goto off, 3) ∧ (pc : Int) + off = (t : Int)
def uI {α : Type} (f : Int → α) (z : Int) (x : α) : Int → α := fun i => if i = z then x else f i
theorem uI_s {α : Type} (f : Int → α) (z : Int) (x : α) : uI f z x z = x := by simp [uI]
theorem uI_n {α : Type} (f : Int → α) {z i : Int} (x : α) (h : i ≠ z) : uI f z x i = f i := by simp [uI, h]
section PDROWS
variable {G : pd_G} {M : pd_M} {d mc ms : Nat} {X : Option (Nat × (Nat → Int))} {R : pd_R} {pc n t : Nat} {lv : List (Option pv)} {st : List pv} {sz ce sl : Nat} {hp : pd_P}
theorem pt_iadd {x y : Int} (h : pd_i M pc .iadd 1 n) (k : pd_T G M d mc ms X R n lv (vi (x + y) :: st) sz ce sl hp) : pd_T G M d mc ms X R pc lv (vi y :: vi x :: st) sz ce sl hp := by
  intro p e Rm s m args below meth c Q hx hq H locs ls hH hS hl
  obtain ⟨h1, rfl⟩ := h
  refine lv_iadd hx.1 hx.2.1 h1 ?_
  rw [jI_add]
  exact k p e Rm s m args below meth c Q hx hq H locs ls hH hS hl
theorem pt_isub {x y : Int} (h : pd_i M pc .isub 1 n) (k : pd_T G M d mc ms X R n lv (vi (x - y) :: st) sz ce sl hp) : pd_T G M d mc ms X R pc lv (vi y :: vi x :: st) sz ce sl hp := by
  intro p e Rm s m args below meth c Q hx hq H locs ls hH hS hl
  obtain ⟨h1, rfl⟩ := h
  refine lv_isub hx.1 hx.2.1 h1 ?_
  rw [jI_sub]
  exact k p e Rm s m args below meth c Q hx hq H locs ls hH hS hl
theorem pt_imul {x y : Int} (h : pd_i M pc .imul 1 n) (k : pd_T G M d mc ms X R n lv (vi (x * y) :: st) sz ce sl hp) : pd_T G M d mc ms X R pc lv (vi y :: vi x :: st) sz ce sl hp := by
  intro p e Rm s m args below meth c Q hx hq H locs ls hH hS hl
  obtain ⟨h1, rfl⟩ := h
  refine lv_imul hx.1 hx.2.1 h1 ?_
  rw [jI_mul]
  exact k p e Rm s m args below meth c Q hx hq H locs ls hH hS hl
theorem pt_ladd {x y : Int} (h : pd_i M pc .ladd 1 n) (k : pd_T G M d mc ms X R n lv (vl (x + y) :: st) sz ce sl hp) : pd_T G M d mc ms X R pc lv (vl y :: vl x :: st) sz ce sl hp := by
  intro p e Rm s m args below meth c Q hx hq H locs ls hH hS hl
  obtain ⟨h1, rfl⟩ := h
  refine lv_ladd hx.1 hx.2.1 h1 ?_
  rw [jL_add]
  exact k p e Rm s m args below meth c Q hx hq H locs ls hH hS hl
theorem pt_lmul {x y : Int} (h : pd_i M pc .lmul 1 n) (k : pd_T G M d mc ms X R n lv (vl (x * y) :: st) sz ce sl hp) : pd_T G M d mc ms X R pc lv (vl y :: vl x :: st) sz ce sl hp := by
  intro p e Rm s m args below meth c Q hx hq H locs ls hH hS hl
  obtain ⟨h1, rfl⟩ := h
  refine lv_lmul hx.1 hx.2.1 h1 ?_
  rw [jL_mul]
  exact k p e Rm s m args below meth c Q hx hq H locs ls hH hS hl
theorem pt_ic {z : Int} (h : pd_ic M pc z n) (k : pd_T G M d mc ms X R n lv (vi z :: st) sz ce sl hp) : pd_T G M d mc ms X R pc lv st sz ce sl hp := by
  intro p e Rm s m args below meth c Q hx hq H locs ls hH hS hl
  rcases h with ⟨h1, rfl⟩ | ⟨⟨h1, rfl⟩, h2⟩ | ⟨⟨h1, rfl⟩, h2⟩ | ⟨idx, ⟨h1, rfl⟩, h2⟩ | ⟨idx, ⟨h1, rfl⟩, h2⟩
  · exact lv_iconst (v := jI z) hx.1 hx.2.1 h1 rfl (k p e Rm s m args below meth c Q hx hq H locs ls hH hS hl)
  · exact lv_bipush (v := jI z) hx.1 hx.2.1 h1 h2 (k p e Rm s m args below meth c Q hx hq H locs ls hH hS hl)
  · exact lv_sipush (v := jI z) hx.1 hx.2.1 h1 h2 (k p e Rm s m args below meth c Q hx hq H locs ls hH hS hl)
  · exact lv_ldc (v := jI z) hx.1 hx.2.1 hx.2.2.2.1 (hx.2.2.2.2.1 _ h2) h1 (k p e Rm s m args below meth c Q hx hq H locs ls hH hS hl)
  · exact lv_ldcw (v := jI z) hx.1 hx.2.1 hx.2.2.2.1 (hx.2.2.2.2.1 _ h2) h1 (k p e Rm s m args below meth c Q hx hq H locs ls hH hS hl)
theorem pt_jc {z : Int} (h : pd_jc M pc z n) (k : pd_T G M d mc ms X R n lv (vl z :: st) sz ce sl hp) : pd_T G M d mc ms X R pc lv st sz ce sl hp := by
  intro p e Rm s m args below meth c Q hx hq H locs ls hH hS hl
  rcases h with ⟨f, ⟨h1, rfl⟩, h2⟩ | ⟨idx, ⟨h1, rfl⟩, h2⟩
  · exact lv_lconst (v := jL z) hx.1 hx.2.1 h1 h2 (k p e Rm s m args below meth c Q hx hq H locs ls hH hS hl)
  · exact lv_ldc2 (v := jL z) hx.1 hx.2.1 hx.2.2.2.1 (hx.2.2.2.2.1 _ h2) h1 (k p e Rm s m args below meth c Q hx hq H locs ls hH hS hl)
theorem pt_iload {i : Nat} {z : Int} (h : pd_il M pc i n) (hv : pd_nth lv i = some (vi z)) (k : pd_T G M d mc ms X R n lv (vi z :: st) sz ce sl hp) : pd_T G M d mc ms X R pc lv st sz ce sl hp := by
  intro p e Rm s m args below meth c Q hx hq H locs ls hH hS hl
  have hg := hl.2.2 i _ hv
  rcases h with ⟨f, hf, h1, rfl⟩ | ⟨h1, rfl⟩
  · exact lv_iload_n hx.1 hx.2.1 h1 hf hg (k p e Rm s m args below meth c Q hx hq H locs ls hH hS hl)
  · exact lv_iload hx.1 hx.2.1 h1 hg (k p e Rm s m args below meth c Q hx hq H locs ls hH hS hl)
theorem pt_lload {i : Nat} {z : Int} (h : pd_jl M pc i n) (hv : pd_nth lv i = some (vl z)) (k : pd_T G M d mc ms X R n lv (vl z :: st) sz ce sl hp) : pd_T G M d mc ms X R pc lv st sz ce sl hp := by
  intro p e Rm s m args below meth c Q hx hq H locs ls hH hS hl
  have hg := hl.2.2 i _ hv
  rcases h with ⟨f, hf, h1, rfl⟩ | ⟨h1, rfl⟩
  · exact lv_lload_n hx.1 hx.2.1 h1 hf hg (k p e Rm s m args below meth c Q hx hq H locs ls hH hS hl)
  · exact lv_lload hx.1 hx.2.1 h1 hg (k p e Rm s m args below meth c Q hx hq H locs ls hH hS hl)
theorem pt_aload {i a : Nat} (h : pd_al M pc i n) (hv : pd_nth lv i = some (vr a)) (k : pd_T G M d mc ms X R n lv (vr a :: st) sz ce sl hp) : pd_T G M d mc ms X R pc lv st sz ce sl hp := by
  intro p e Rm s m args below meth c Q hx hq H locs ls hH hS hl
  have hg := hl.2.2 i _ hv
  rcases h with ⟨f, hf, h1, rfl⟩ | ⟨h1, rfl⟩
  · exact lv_aload_n hx.1 hx.2.1 h1 hf hg (k p e Rm s m args below meth c Q hx hq H locs ls hH hS hl)
  · exact lv_aload hx.1 hx.2.1 h1 hg (k p e Rm s m args below meth c Q hx hq H locs ls hH hS hl)
theorem pt_istore {i : Nat} {z : Int} (h : pd_is M pc i n) (ho : pd_o1 lv i = true) (k : pd_T G M d mc ms X R n (pd_put lv i (some (vi z))) st sz ce sl hp) : pd_T G M d mc ms X R pc lv (vi z :: st) sz ce sl hp := by
  intro p e Rm s m args below meth c Q hx hq H locs ls hH hS hl
  obtain ⟨hn, h⟩ := h
  rcases h with ⟨f, hf, h1, rfl⟩ | ⟨h1, rfl⟩
  · exact lv_istore_n hx.1 hx.2.1 h1 hf hl.has hn rfl (fun ls' hl' => k p e Rm s m args below meth c Q hx hq H locs ls' hH hS (pd_lv.st1 ho hl'))
  · exact lv_istore hx.1 hx.2.1 h1 hl.has hn rfl (fun ls' hl' => k p e Rm s m args below meth c Q hx hq H locs ls' hH hS (pd_lv.st1 ho hl'))
theorem pt_astore {i : Nat} {z : Nat} (h : pd_as M pc i n) (ho : pd_o1 lv i = true) (k : pd_T G M d mc ms X R n (pd_put lv i (some (vr z))) st sz ce sl hp) : pd_T G M d mc ms X R pc lv (vr z :: st) sz ce sl hp := by
  intro p e Rm s m args below meth c Q hx hq H locs ls hH hS hl
  obtain ⟨hn, h⟩ := h
  rcases h with ⟨f, hf, h1, rfl⟩ | ⟨h1, rfl⟩
  · exact lv_astore_n hx.1 hx.2.1 h1 hf hl.has hn rfl (fun ls' hl' => k p e Rm s m args below meth c Q hx hq H locs ls' hH hS (pd_lv.st1 ho hl'))
  · exact lv_astore hx.1 hx.2.1 h1 hl.has hn rfl (fun ls' hl' => k p e Rm s m args below meth c Q hx hq H locs ls' hH hS (pd_lv.st1 ho hl'))
theorem pt_lstore {i : Nat} {z : Int} (h : pd_js M pc i n) (ho : pd_o1 lv i = true) (k : pd_T G M d mc ms X R n (pd_put (pd_put lv (i + 1) none) i (some (vl z))) st sz ce sl hp) : pd_T G M d mc ms X R pc lv (vl z :: st) sz ce sl hp := by
  intro p e Rm s m args below meth c Q hx hq H locs ls hH hS hl
  obtain ⟨hn, h⟩ := h
  rcases h with ⟨f, hf, h1, rfl⟩ | ⟨h1, rfl⟩
  · exact lv_lstore_n hx.1 hx.2.1 h1 hf hl.has hn rfl (fun ls' hl' => k p e Rm s m args below meth c Q hx hq H locs ls' hH hS (pd_lv.st2 ho hl'))
  · exact lv_lstore hx.1 hx.2.1 h1 hl.has hn rfl (fun ls' hl' => k p e Rm s m args below meth c Q hx hq H locs ls' hH hS (pd_lv.st2 ho hl'))
theorem pt_iinc {i : Nat} {z c0 : Int} (h : pd_ii M pc i c0 n) (ho : pd_o1 lv i = true) (hv : pd_nth lv i = some (vi z)) (k : pd_T G M d mc ms X R n (pd_put lv i (some (vi (z + c0)))) st sz ce sl hp) : pd_T G M d mc ms X R pc lv st sz ce sl hp := by
  intro p e Rm s m args below meth c Q hx hq H locs ls hH hS hl
  obtain ⟨hn, h1, rfl⟩ := h
  obtain ⟨kk, hk⟩ := List.getElem?_of_mem (pd_ll_mem (G := G) hv)
  refine lv_iinc (v := jI (z + c0)) hx.1 hx.2.1 h1 hl.has hk (jI_add z c0) hn rfl (fun ls' hl' => ?_)
  exact k p e Rm s m args below meth c Q hx hq H locs ls' hH hS (pd_lv.st1 ho hl')
theorem pt_dup {v : pv} (h : pd_i M pc .dup 1 n) (hv : ∀ z, v ≠ vl z) (k : pd_T G M d mc ms X R n lv (v :: v :: st) sz ce sl hp) : pd_T G M d mc ms X R pc lv (v :: st) sz ce sl hp := by
  intro p e Rm s m args below meth c Q hx hq H locs ls hH hS hl
  obtain ⟨h1, rfl⟩ := h
  exact lv_dup hx.1 hx.2.1 h1 (pd_one G v hv) (k p e Rm s m args below meth c Q hx hq H locs ls hH hS hl)
theorem pt_dupr {a : Nat} (h : pd_i M pc .dup 1 n) (k : pd_T G M d mc ms X R n lv (vr a :: vr a :: st) sz ce sl hp) : pd_T G M d mc ms X R pc lv (vr a :: st) sz ce sl hp := pt_dup h (fun z q => by cases q) k
theorem pt_dupi {z : Int} (h : pd_i M pc .dup 1 n) (k : pd_T G M d mc ms X R n lv (vi z :: vi z :: st) sz ce sl hp) : pd_T G M d mc ms X R pc lv (vi z :: st) sz ce sl hp := pt_dup h (fun z q => by cases q) k
theorem pt_popi {z : Int} (h : pd_i M pc .pop 1 n) (k : pd_T G M d mc ms X R n lv st sz ce sl hp) : pd_T G M d mc ms X R pc lv (vi z :: st) sz ce sl hp := by
  intro p e Rm s m args below meth c Q hx hq H locs ls hH hS hl
  obtain ⟨h1, rfl⟩ := h
  exact lv_pop hx.1 hx.2.1 h1 rfl (k p e Rm s m args below meth c Q hx hq H locs ls hH hS hl)
theorem pt_dup2 {z : Int} {a : Nat} (h : pd_i M pc .dup2 1 n) (k : pd_T G M d mc ms X R n lv (vi z :: vr a :: vi z :: vr a :: st) sz ce sl hp) : pd_T G M d mc ms X R pc lv (vi z :: vr a :: st) sz ce sl hp := by
  intro p e Rm s m args below meth c Q hx hq H locs ls hH hS hl
  obtain ⟨h1, rfl⟩ := h
  exact lv_dup2_11 hx.1 hx.2.1 h1 rfl rfl (k p e Rm s m args below meth c Q hx hq H locs ls hH hS hl)
theorem pt_ceq {x y : Int} (h : pd_b2 M pc .eq n t) (hx2 : jR x) (hy : jR y) (k1 : x = y → pd_T G M d mc ms X R t lv st sz ce sl hp) (k2 : ¬ x = y → pd_T G M d mc ms X R n lv st sz ce sl hp) : pd_T G M d mc ms X R pc lv (vi y :: vi x :: st) sz ce sl hp := by
  intro p e Rm s m args below meth c Q hx hq H locs ls hH hS hl
  obtain ⟨off, ⟨h1, rfl⟩, h2⟩ := h
  refine lv_icmp_eq hx.1 hx.2.1 h1 h2 (fun g => ?_) (fun g => ?_)
  · exact k1 ((jI_eq hx2 hy).mp g) p e Rm s m args below meth c Q hx hq H locs ls hH hS hl
  · exact k2 (fun q => g ((jI_eq hx2 hy).mpr q)) p e Rm s m args below meth c Q hx hq H locs ls hH hS hl
theorem pt_zeq {x : Int} (h : pd_b1 M pc .eq n t) (hx2 : jR x) (k1 : x = 0 → pd_T G M d mc ms X R t lv st sz ce sl hp) (k2 : ¬ x = 0 → pd_T G M d mc ms X R n lv st sz ce sl hp) : pd_T G M d mc ms X R pc lv (vi x :: st) sz ce sl hp := by
  intro p e Rm s m args below meth c Q hx hq H locs ls hH hS hl
  obtain ⟨off, ⟨h1, rfl⟩, h2⟩ := h
  refine lv_if_eq hx.1 hx.2.1 h1 h2 (fun g => ?_) (fun g => ?_)
  · exact k1 ((jI_eq hx2 jR_0).mp g) p e Rm s m args below meth c Q hx hq H locs ls hH hS hl
  · exact k2 (fun q => g ((jI_eq hx2 jR_0).mpr q)) p e Rm s m args below meth c Q hx hq H locs ls hH hS hl
theorem pt_cne {x y : Int} (h : pd_b2 M pc .ne n t) (hx2 : jR x) (hy : jR y) (k1 : ¬ x = y → pd_T G M d mc ms X R t lv st sz ce sl hp) (k2 : x = y → pd_T G M d mc ms X R n lv st sz ce sl hp) : pd_T G M d mc ms X R pc lv (vi y :: vi x :: st) sz ce sl hp := by
  intro p e Rm s m args below meth c Q hx hq H locs ls hH hS hl
  obtain ⟨off, ⟨h1, rfl⟩, h2⟩ := h
  refine lv_icmp_ne hx.1 hx.2.1 h1 h2 (fun g => ?_) (fun g => ?_)
  · exact k1 (fun q => g ((jI_eq hx2 hy).mpr q)) p e Rm s m args below meth c Q hx hq H locs ls hH hS hl
  · exact k2 ((jI_eq hx2 hy).mp g) p e Rm s m args below meth c Q hx hq H locs ls hH hS hl
theorem pt_zne {x : Int} (h : pd_b1 M pc .ne n t) (hx2 : jR x) (k1 : ¬ x = 0 → pd_T G M d mc ms X R t lv st sz ce sl hp) (k2 : x = 0 → pd_T G M d mc ms X R n lv st sz ce sl hp) : pd_T G M d mc ms X R pc lv (vi x :: st) sz ce sl hp := by
  intro p e Rm s m args below meth c Q hx hq H locs ls hH hS hl
  obtain ⟨off, ⟨h1, rfl⟩, h2⟩ := h
  refine lv_if_ne hx.1 hx.2.1 h1 h2 (fun g => ?_) (fun g => ?_)
  · exact k1 (fun q => g ((jI_eq hx2 jR_0).mpr q)) p e Rm s m args below meth c Q hx hq H locs ls hH hS hl
  · exact k2 ((jI_eq hx2 jR_0).mp g) p e Rm s m args below meth c Q hx hq H locs ls hH hS hl
theorem pt_clt {x y : Int} (h : pd_b2 M pc .lt n t) (hx2 : jR x) (hy : jR y) (k1 : x < y → pd_T G M d mc ms X R t lv st sz ce sl hp) (k2 : ¬ x < y → pd_T G M d mc ms X R n lv st sz ce sl hp) : pd_T G M d mc ms X R pc lv (vi y :: vi x :: st) sz ce sl hp := by
  intro p e Rm s m args below meth c Q hx hq H locs ls hH hS hl
  obtain ⟨off, ⟨h1, rfl⟩, h2⟩ := h
  refine lv_icmp_lt hx.1 hx.2.1 h1 h2 (fun g => ?_) (fun g => ?_)
  · exact k1 ((jI_lt hx2 hy).mp g) p e Rm s m args below meth c Q hx hq H locs ls hH hS hl
  · exact k2 (fun q => g ((jI_lt hx2 hy).mpr q)) p e Rm s m args below meth c Q hx hq H locs ls hH hS hl
theorem pt_zlt {x : Int} (h : pd_b1 M pc .lt n t) (hx2 : jR x) (k1 : x < 0 → pd_T G M d mc ms X R t lv st sz ce sl hp) (k2 : ¬ x < 0 → pd_T G M d mc ms X R n lv st sz ce sl hp) : pd_T G M d mc ms X R pc lv (vi x :: st) sz ce sl hp := by
  intro p e Rm s m args below meth c Q hx hq H locs ls hH hS hl
  obtain ⟨off, ⟨h1, rfl⟩, h2⟩ := h
  refine lv_if_lt hx.1 hx.2.1 h1 h2 (fun g => ?_) (fun g => ?_)
  · exact k1 ((jI_lt hx2 jR_0).mp g) p e Rm s m args below meth c Q hx hq H locs ls hH hS hl
  · exact k2 (fun q => g ((jI_lt hx2 jR_0).mpr q)) p e Rm s m args below meth c Q hx hq H locs ls hH hS hl
theorem pt_cge {x y : Int} (h : pd_b2 M pc .ge n t) (hx2 : jR x) (hy : jR y) (k1 : y ≤ x → pd_T G M d mc ms X R t lv st sz ce sl hp) (k2 : ¬ y ≤ x → pd_T G M d mc ms X R n lv st sz ce sl hp) : pd_T G M d mc ms X R pc lv (vi y :: vi x :: st) sz ce sl hp := by
  intro p e Rm s m args below meth c Q hx hq H locs ls hH hS hl
  obtain ⟨off, ⟨h1, rfl⟩, h2⟩ := h
  refine lv_icmp_ge hx.1 hx.2.1 h1 h2 (fun g => ?_) (fun g => ?_)
  · exact k1 ((jI_le hy hx2).mp g) p e Rm s m args below meth c Q hx hq H locs ls hH hS hl
  · exact k2 (fun q => g ((jI_le hy hx2).mpr q)) p e Rm s m args below meth c Q hx hq H locs ls hH hS hl
theorem pt_zge {x : Int} (h : pd_b1 M pc .ge n t) (hx2 : jR x) (k1 : 0 ≤ x → pd_T G M d mc ms X R t lv st sz ce sl hp) (k2 : ¬ 0 ≤ x → pd_T G M d mc ms X R n lv st sz ce sl hp) : pd_T G M d mc ms X R pc lv (vi x :: st) sz ce sl hp := by
  intro p e Rm s m args below meth c Q hx hq H locs ls hH hS hl
  obtain ⟨off, ⟨h1, rfl⟩, h2⟩ := h
  refine lv_if_ge hx.1 hx.2.1 h1 h2 (fun g => ?_) (fun g => ?_)
  · exact k1 ((jI_le jR_0 hx2).mp g) p e Rm s m args below meth c Q hx hq H locs ls hH hS hl
  · exact k2 (fun q => g ((jI_le jR_0 hx2).mpr q)) p e Rm s m args below meth c Q hx hq H locs ls hH hS hl
theorem pt_cgt {x y : Int} (h : pd_b2 M pc .gt n t) (hx2 : jR x) (hy : jR y) (k1 : y < x → pd_T G M d mc ms X R t lv st sz ce sl hp) (k2 : ¬ y < x → pd_T G M d mc ms X R n lv st sz ce sl hp) : pd_T G M d mc ms X R pc lv (vi y :: vi x :: st) sz ce sl hp := by
  intro p e Rm s m args below meth c Q hx hq H locs ls hH hS hl
  obtain ⟨off, ⟨h1, rfl⟩, h2⟩ := h
  refine lv_icmp_gt hx.1 hx.2.1 h1 h2 (fun g => ?_) (fun g => ?_)
  · exact k1 ((jI_lt hy hx2).mp g) p e Rm s m args below meth c Q hx hq H locs ls hH hS hl
  · exact k2 (fun q => g ((jI_lt hy hx2).mpr q)) p e Rm s m args below meth c Q hx hq H locs ls hH hS hl
theorem pt_zgt {x : Int} (h : pd_b1 M pc .gt n t) (hx2 : jR x) (k1 : 0 < x → pd_T G M d mc ms X R t lv st sz ce sl hp) (k2 : ¬ 0 < x → pd_T G M d mc ms X R n lv st sz ce sl hp) : pd_T G M d mc ms X R pc lv (vi x :: st) sz ce sl hp := by
  intro p e Rm s m args below meth c Q hx hq H locs ls hH hS hl
  obtain ⟨off, ⟨h1, rfl⟩, h2⟩ := h
  refine lv_if_gt hx.1 hx.2.1 h1 h2 (fun g => ?_) (fun g => ?_)
  · exact k1 ((jI_lt jR_0 hx2).mp g) p e Rm s m args below meth c Q hx hq H locs ls hH hS hl
  · exact k2 (fun q => g ((jI_lt jR_0 hx2).mpr q)) p e Rm s m args below meth c Q hx hq H locs ls hH hS hl
theorem pt_cle {x y : Int} (h : pd_b2 M pc .le n t) (hx2 : jR x) (hy : jR y) (k1 : x ≤ y → pd_T G M d mc ms X R t lv st sz ce sl hp) (k2 : ¬ x ≤ y → pd_T G M d mc ms X R n lv st sz ce sl hp) : pd_T G M d mc ms X R pc lv (vi y :: vi x :: st) sz ce sl hp := by
  intro p e Rm s m args below meth c Q hx hq H locs ls hH hS hl
  obtain ⟨off, ⟨h1, rfl⟩, h2⟩ := h
  refine lv_icmp_le hx.1 hx.2.1 h1 h2 (fun g => ?_) (fun g => ?_)
  · exact k1 ((jI_le hx2 hy).mp g) p e Rm s m args below meth c Q hx hq H locs ls hH hS hl
  · exact k2 (fun q => g ((jI_le hx2 hy).mpr q)) p e Rm s m args below meth c Q hx hq H locs ls hH hS hl
theorem pt_zle {x : Int} (h : pd_b1 M pc .le n t) (hx2 : jR x) (k1 : x ≤ 0 → pd_T G M d mc ms X R t lv st sz ce sl hp) (k2 : ¬ x ≤ 0 → pd_T G M d mc ms X R n lv st sz ce sl hp) : pd_T G M d mc ms X R pc lv (vi x :: st) sz ce sl hp := by
  intro p e Rm s m args below meth c Q hx hq H locs ls hH hS hl
  obtain ⟨off, ⟨h1, rfl⟩, h2⟩ := h
  refine lv_if_le hx.1 hx.2.1 h1 h2 (fun g => ?_) (fun g => ?_)
  · exact k1 ((jI_le hx2 jR_0).mp g) p e Rm s m args below meth c Q hx hq H locs ls hH hS hl
  · exact k2 (fun q => g ((jI_le hx2 jR_0).mpr q)) p e Rm s m args below meth c Q hx hq H locs ls hH hS hl
theorem pt_goto (h : pd_go M pc t) (k : pd_T G M d mc ms X R t lv st sz ce sl hp) : pd_T G M d mc ms X R pc lv st sz ce sl hp := by
  intro p e Rm s m args below meth c Q hx hq H locs ls hH hS hl
  obtain ⟨off, h1, h2⟩ := h
  exact lv_goto hx.1 hx.2.1 h1 h2 (k p e Rm s m args below meth c Q hx hq H locs ls hH hS hl)
theorem pt_tin {dflt lo hi : Int} {offs : Array Int} {len : Nat} {x off : Int} (h : pd_i M pc (.tableswitch dflt lo hi offs) len n) (hr : jR x) (h1 : lo ≤ x) (h2 : x ≤ hi) (ho : offs[(x - lo).toNat]? = some off) (ht : (pc : Int) + off = (t : Int)) (k : pd_T G M d mc ms X R t lv st sz ce sl hp) : pd_T G M d mc ms X R pc lv (vi x :: st) sz ce sl hp := by
  intro p e Rm s m args below meth c Q hx hq H locs ls hH hS hl
  have e0 := jI_toInt hr
  exact lv_tableIn (off := off) hx.1 hx.2.1 h.1 (by rw [e0]; omega) (by rw [e0]; omega) (by rw [e0]; exact ho) ht (k p e Rm s m args below meth c Q hx hq H locs ls hH hS hl)
theorem pt_tout {dflt lo hi : Int} {offs : Array Int} {len : Nat} {x : Int} (h : pd_i M pc (.tableswitch dflt lo hi offs) len n) (hr : jR x) (h1 : x < lo ∨ hi < x) (ht : (pc : Int) + dflt = (t : Int)) (k : pd_T G M d mc ms X R t lv st sz ce sl hp) : pd_T G M d mc ms X R pc lv (vi x :: st) sz ce sl hp := by
  intro p e Rm s m args below meth c Q hx hq H locs ls hH hS hl
  have e0 := jI_toInt hr
  exact lv_tableOut hx.1 hx.2.1 h.1 (by rw [e0]; exact h1) ht (k p e Rm s m args below meth c Q hx hq H locs ls hH hS hl)
theorem pt_lsw {dflt : Int} {ps : Array (Int × Int)} {len : Nat} {x off : Int} (h : pd_i M pc (.lookupswitch dflt ps) len n) (hr : jR x) (hs : (ps.toList.zip (ps.toList.drop 1)).all (fun (a, next) => a.1 < next.1) = true) (ho : Op.lookupswitch.offset ps.toList dflt x = off) (ht : (pc : Int) + off = (t : Int)) (k : pd_T G M d mc ms X R t lv st sz ce sl hp) : pd_T G M d mc ms X R pc lv (vi x :: st) sz ce sl hp := by
  intro p e Rm s m args below meth c Q hx hq H locs ls hH hS hl
  have e0 := jI_toInt hr
  exact lv_lookup (off := off) hx.1 hx.2.1 h.1 hs (by rw [e0]; exact ho) ht (k p e Rm s m args below meth c Q hx hq H locs ls hH hS hl)
theorem pt_ret {v : Option pv} (h : pd_rd M pc v) (hc : ce ≤ mc) (hs : sl ≤ ms) (k : R v sz hp) : pd_T G M d mc ms X R pc lv v.toList sz ce sl hp := by
  intro p e Rm s m args below meth c Q hx hq H locs ls hH hS hl
  exact W.widen hc hs (hq pc H locs ls v sz hp h k hH hS)
theorem pt_iret {z : Int} (h : pd_rd M pc (some (vi z))) (hc : ce ≤ mc) (hs : sl ≤ ms) (k : R (some (vi z)) sz hp) : pd_T G M d mc ms X R pc lv [vi z] sz ce sl hp := pt_ret (v := some (vi z)) h hc hs k
theorem pt_lret {z : Int} (h : pd_rd M pc (some (vl z))) (hc : ce ≤ mc) (hs : sl ≤ ms) (k : R (some (vl z)) sz hp) : pd_T G M d mc ms X R pc lv [vl z] sz ce sl hp := pt_ret (v := some (vl z)) h hc hs k
theorem pt_vret (h : pd_rd M pc none) (hc : ce ≤ mc) (hs : sl ≤ ms) (k : R none sz hp) : pd_T G M d mc ms X R pc lv [] sz ce sl hp := pt_ret (v := none) h hc hs k
end PDROWS
end
section
/-! rows of the heap -/
theorem pd_lt {G : pd_G} {sz : Nat} {hp : pd_P} {H : Heap} {a : Nat} (hH : pd_H G sz hp H) (h : hp a ≠ ob 99 []) : ∃ k, a = k + 1 ∧ k < sz := by
  cases a with
  | zero => exact absurd (hH.2.2 0 (Or.inl rfl)) h
  | succ k =>
    refine ⟨k, rfl, ?_⟩
    rcases Nat.lt_or_ge k sz with h1 | h1
    · exact h1
    · exact absurd (hH.2.2 (k + 1) (Or.inr (by omega))) h
theorem pd_H.set {G : pd_G} {sz : Nat} {hp : pd_P} {H H1 : Heap} {k : Nat} {e : pd_E} (hH : pd_H G sz hp H) (hk : k < sz) (hz : H1.size = H.size) (hP : va_P G.2.1 pd_cl ((pd_w G sz hp).set k (G.2.2.2.1 + k, pd_e G e)) H1) : pd_H G sz (va_up hp (k + 1) e) H1 := by
  refine ⟨hz.trans hH.1, by rw [← pd_w_set hk]; exact hP, fun j hj => ?_⟩
  rw [va_up_ne _ _ (by omega)]
  exact hH.2.2 j hj
/-- an old cell's change keeps the size: what is said of the cells that were there, and no more, bounds it from below; the rows of the kit say 'va_S' alone -/
def pd_fit (ty : FieldType) (v : pv) : Prop := match ty, v with
  | .int, .inl _ => True
  | .boolean, .inl z => z = 0 ∨ z = 1
  | .long, .inr (.inl _) => True
  | .object _, .inr (.inr (some _)) => True
  | .array _, .inr (.inr (some _)) => True
  | _, _ => False
theorem pd_fit.nar {G : pd_G} {ty : FieldType} {v : pv} (h : pd_fit ty v) : narrow ty (pd_up G v) = pd_up G v ∧ fits ty (pd_up G v) = true := by
  unfold pd_fit at h
  split at h
  · exact ⟨rfl, rfl⟩
  · rcases h with rfl | rfl <;> exact ⟨rfl, rfl⟩
  · exact ⟨rfl, rfl⟩
  · exact ⟨rfl, rfl⟩
  · exact ⟨rfl, rfl⟩
  · exact h.elim
/-- a field by its place in a class's pool: of objects of the ci-th class it is the k-th -/
def pd_fl (own : String) (idx ci k : Nat) (ty : FieldType) : Prop := ∃ (C : String) (T : u_T) (N : Nat) (ref : String) (ty0 : Nat → FieldType), pd_cl[ci]? = some (C, T, N) ∧ k < N ∧ (∀ w ∈ u_ws C T N, w ∈ pd_tbl) ∧ Cond.fieldLink own idx ref (T k).2.1 (T k).2.2.1 ∈ pd_tbl ∧ ((T k).1 = ref ∨ Cond.sameField ref (T k).1 (T k).2.1 (T k).2.2.1 ∈ pd_tbl) ∧ (∀ k, k < N → parseFieldDescriptor (T k).2.2.1 = some (ty0 k)) ∧ (∀ a, a < N → ∀ b, b < N → a ≠ b → (T a).2.1 ≠ (T b).2.1) ∧ ty0 k = ty
def pd_fin (ci k : Nat) : Option (Bool × String) := (pd_cl[ci]?).map (fun q => ((q.2.1 k).2.2.2, (q.2.1 k).1))
def pd_gf (M : pd_M) (pc ci k n : Nat) : Prop := ∃ (idx : Nat) (ty : FieldType), pd_i M pc (.getfield idx) 3 n ∧ pd_fl M.1.cls idx ci k ty
def pd_pf (M : pd_M) (pc ci k : Nat) (ty : FieldType) (n : Nat) : Prop := ∃ idx : Nat, pd_i M pc (.putfield idx) 3 n ∧ pd_fl M.1.cls idx ci k ty ∧ ((∃ o, pd_fin ci k = some (false, o)) ∨ (pd_fin ci k = some (true, M.1.cls) ∧ M.1.name = "<init>"))
theorem pd_same {s : State} {args : Array Value} {ref O nm ds : String} (hts : ∀ w ∈ pd_tbl, w.before args s = true) (h : O = ref ∨ Cond.sameField ref O nm ds ∈ pd_tbl) (x : ClassId × Class × Nat × Field) (hx : s.fieldFound? O nm ds = some x) : s.fieldFound? ref nm ds = some x := by
  rcases h with rfl | h
  · exact hx
  · exact u_same (hts _ h) x hx
section PDHEAP
variable {G : pd_G} {M : pd_M} {d mc ms : Nat} {X : Option (Nat × (Nat → Int))} {R : pd_R} {pc n t : Nat} {lv : List (Option pv)} {st : List pv} {sz ce sl : Nat} {hp : pd_P}
theorem pt_get {a ci kf : Nat} {fs : List pv} {v : pv} (h : pd_gf M pc ci kf n) (hc : hp a = ob ci fs) (hv : fs[kf]? = some v) (k : pd_T G M d mc ms X R n lv (v :: st) sz ce sl hp) : pd_T G M d mc ms X R pc lv (vr a :: st) sz ce sl hp := by
  intro p e Rm s m args below meth c Q hx hq H locs ls hH hS hl
  obtain ⟨idx, ty, ⟨h1, rfl⟩, C, T, N, ref, ty0, g1, g2, g3, g4, g5, g6, g7, g8⟩ := h
  have hne : ci ≠ 99 := by rintro rfl; simp at g1
  obtain ⟨k0, rfl, hk0⟩ := pd_lt hH (a := a) (by rw [hc]; intro q; exact hne (congrArg Prod.fst (Sum.inr.inj q)))
  have hw := pd_w_get (G := G) (hp := hp) hk0
  rw [hc] at hw
  refine va_get (ws := pd_w G sz hp) hx.1 hx.2.1 hx.2.2.2.2.1 g3 hx.2.2.2.1 hx.2.2.2.2.2.1.1 hH.2.1 k0 hw g1 kf g2 (hx.2.2.2.2.1 _ g4) (pd_same hx.2.2.2.2.1 g5) (v := pd_up G v) (by rw [List.getElem?_map, hv]; rfl) h1 ?_
  exact k p e Rm s m args below meth c Q hx hq H locs ls hH hS hl
theorem pd_sz {G : pd_G} {sz : Nat} {hp : pd_P} {H : Heap} (h : pd_H G sz hp H) : H.size = G.2.2.2.1 + sz := h.1
theorem pt_put {a ci kf : Nat} {ty : FieldType} {fs : List pv} {v : pv} (h : pd_pf M pc ci kf ty n) (hc : hp a = ob ci fs) (hlen : kf < fs.length) (hf : pd_fit ty v) (k : pd_T G M d mc ms X R n lv st sz ce sl (va_up hp a (ob ci (fs.set kf v)))) : pd_T G M d mc ms X R pc lv (v :: vr a :: st) sz ce sl hp := by
  intro p e Rm s m args below meth c Q hx hq H locs ls hH hS hl
  obtain ⟨idx, ⟨h1, rfl⟩, ⟨C, T, N, ref, ty0, g1, g2, g3, g4, g5, g6, g7, g8⟩, hfin⟩ := h
  have hne : ci ≠ 99 := by rintro rfl; simp at g1
  obtain ⟨k0, rfl, hk0⟩ := pd_lt hH (a := a) (by rw [hc]; intro q; exact hne (congrArg Prod.fst (Sum.inr.inj q)))
  have hw := pd_w_get (G := G) (hp := hp) hk0
  rw [hc] at hw
  have hts := hx.2.2.2.2.1
  have hK := hx.2.2.2.2.2.1.1
  have hP := hH.2.1
  have hap := va_apart (own := M.1.cls) hts g3 ty0 g6 g7 hK g1
  obtain ⟨r, q0, cell, q1, q2, q3, q4⟩ := hP k0 _ hw
  have hr : r = (C, T, N) := Option.some.inj (q0.symm.trans g1)
  subst hr
  obtain ⟨hSl, hfc, kC, hkC, hkind⟩ := hK.1 ci _ g1
  obtain ⟨cf, kf', fi, f, hi, hsl⟩ := hSl kf g2
  have hlay := hts _ (g3 _ (u_in_lay g2))
  have hd : parseFieldDescriptor (T kf).2.2.1 = some ty := by rw [← g8]; exact g6 kf g2
  obtain ⟨n1, n2⟩ := pd_fit.nar (G := G) hf
  have hst := (u_facts hfc hkC (u_lays hts g3 g2) hi).1
  have fine : ∀ H' : Heap, H'[G.2.2.2.1 + k0]? = some (cell.setSlot f.slot (pd_up G v)) → H'.size = H.size → (∀ q, q ≠ G.2.2.2.1 + k0 → H'[q]? = H[q]?) → pd_H G sz (va_up hp (k0 + 1) (ob ci (fs.set kf v))) H' := by
    intro H' e1 e2 e3
    rw [hsl] at e1
    refine pd_H.set hH hk0 e2 (hP.set (pd_w_D G sz hp) hw ?_ e3)
    refine ⟨_, g1, t_OB.to (V := updV (vp_V (fs.map (pd_up G))) kf (pd_up G v)) ⟨_, e1, q2, q3, t_set q4 hap g2 (pd_up G v)⟩ (fun j _ => ?_)⟩
    rw [vp_updV_set (by simpa using hlen) (pd_up G v) j, List.map_set]
  have fineS : ∀ H' : Heap, H'.size = H.size → (∀ q, q ≠ G.2.2.2.1 + k0 → H'[q]? = H[q]?) → va_S (pd_A G) s.heap H' (locs ++ [⟨G.2.2.2.1 + k0, f.slot⟩]) := fun H' e2 e3 => hS.put e2 e3 (Nat.le_add_right _ _)
  unfold u_lay at hlay
  rcases hfin with ⟨o, ho⟩ | ⟨ho, hin⟩
  · have hfn : (T kf).2.2.2 = false := by
      simp only [pd_fin, g1, Option.map_some, Option.some.injEq, Prod.mk.injEq] at ho
      exact ho.1
    rw [if_neg (by rw [hfn]; decide)] at hlay
    have h6 := u_store hfc hkC hkind hlay hi hd n1 n2
    refine W.putK hx.1 hx.2.1 (f := f) ⟨hx.2.2.2.1, hts _ g4, ⟨_, _, _, pd_same hts g5 _ hi⟩, hst⟩ (by rw [q2]; exact h6) q1 q3 (by rw [hsl]; exact k2_hasslot (q4 kf g2)) rfl rfl h1 fun H' e1 e2 e3 => ?_
    exact k p e Rm s m args below meth c Q hx hq H' _ ls (fine H' e1 e2 e3) (fineS H' e2 e3) hl
  · have hfn : (T kf).2.2.2 = true ∧ (T kf).1 = M.1.cls := by
      simp only [pd_fin, g1, Option.map_some, Option.some.injEq, Prod.mk.injEq] at ho
      exact ho
    rw [if_pos hfn.1] at hlay
    have hcf : m.cls = cf := by
      obtain ⟨_, _, c', _, _, _, -, -, hf', -, -, -, hown2, -⟩ := Cond.laysFinal_spec hlay
      have e1 : c' = cf := by have := hi.symm.trans hf'; simp at this; exact this.1.symm
      rw [hfn.2] at hown2
      rw [← e1]; exact Option.some.inj (hx.2.2.2.1.symm.trans hown2)
    have h6 := u_fits hfc hkC hkind (Or.inr hlay) hi hd n1 n2
    refine W.putFinK hx.1 hx.2.1 hx.2.2.2.1 (hts _ g4) (pd_same hts g5 _ hi) hst hcf (hx.2.2.2.2.2.2.2.1 hin) (by rw [q2]; exact h6) q1 q3 (by rw [hsl]; exact k2_hasslot (q4 kf g2)) rfl rfl h1 fun H' e1 e2 e3 => ?_
    exact k p e Rm s m args below meth c Q hx hq H' _ ls (fine H' e1 e2 e3) (fineS H' e2 e3) hl
theorem pt_put0 {a ci : Nat} {ty : FieldType} {a0 : pv} {r : List pv} {v : pv} (h : pd_pf M pc ci 0 ty n) (hc : hp a = ob ci (a0 :: r)) (hf : pd_fit ty v) (k : pd_T G M d mc ms X R n lv st sz ce sl (va_up hp a (ob ci (v :: r)))) : pd_T G M d mc ms X R pc lv (v :: vr a :: st) sz ce sl hp := pt_put h hc (by simp) hf k
theorem pt_put1 {a ci : Nat} {ty : FieldType} {a0 a1 : pv} {r : List pv} {v : pv} (h : pd_pf M pc ci 1 ty n) (hc : hp a = ob ci (a0 :: a1 :: r)) (hf : pd_fit ty v) (k : pd_T G M d mc ms X R n lv st sz ce sl (va_up hp a (ob ci (a0 :: v :: r)))) : pd_T G M d mc ms X R pc lv (v :: vr a :: st) sz ce sl hp := pt_put h hc (by simp) hf k
theorem pt_put2 {a ci : Nat} {ty : FieldType} {a0 a1 a2 : pv} {r : List pv} {v : pv} (h : pd_pf M pc ci 2 ty n) (hc : hp a = ob ci (a0 :: a1 :: a2 :: r)) (hf : pd_fit ty v) (k : pd_T G M d mc ms X R n lv st sz ce sl (va_up hp a (ob ci (a0 :: a1 :: v :: r)))) : pd_T G M d mc ms X R pc lv (v :: vr a :: st) sz ce sl hp := pt_put h hc (by simp) hf k
theorem pt_put3 {a ci : Nat} {ty : FieldType} {a0 a1 a2 a3 : pv} {r : List pv} {v : pv} (h : pd_pf M pc ci 3 ty n) (hc : hp a = ob ci (a0 :: a1 :: a2 :: a3 :: r)) (hf : pd_fit ty v) (k : pd_T G M d mc ms X R n lv st sz ce sl (va_up hp a (ob ci (a0 :: a1 :: a2 :: v :: r)))) : pd_T G M d mc ms X R pc lv (v :: vr a :: st) sz ce sl hp := pt_put h hc (by simp) hf k
theorem pt_put4 {a ci : Nat} {ty : FieldType} {a0 a1 a2 a3 a4 : pv} {r : List pv} {v : pv} (h : pd_pf M pc ci 4 ty n) (hc : hp a = ob ci (a0 :: a1 :: a2 :: a3 :: a4 :: r)) (hf : pd_fit ty v) (k : pd_T G M d mc ms X R n lv st sz ce sl (va_up hp a (ob ci (a0 :: a1 :: a2 :: a3 :: v :: r)))) : pd_T G M d mc ms X R pc lv (v :: vr a :: st) sz ce sl hp := pt_put h hc (by simp) hf k
theorem pt_put5 {a ci : Nat} {ty : FieldType} {a0 a1 a2 a3 a4 a5 : pv} {r : List pv} {v : pv} (h : pd_pf M pc ci 5 ty n) (hc : hp a = ob ci (a0 :: a1 :: a2 :: a3 :: a4 :: a5 :: r)) (hf : pd_fit ty v) (k : pd_T G M d mc ms X R n lv st sz ce sl (va_up hp a (ob ci (a0 :: a1 :: a2 :: a3 :: a4 :: v :: r)))) : pd_T G M d mc ms X R pc lv (v :: vr a :: st) sz ce sl hp := pt_put h hc (by simp) hf k
theorem pt_put6 {a ci : Nat} {ty : FieldType} {a0 a1 a2 a3 a4 a5 a6 : pv} {r : List pv} {v : pv} (h : pd_pf M pc ci 6 ty n) (hc : hp a = ob ci (a0 :: a1 :: a2 :: a3 :: a4 :: a5 :: a6 :: r)) (hf : pd_fit ty v) (k : pd_T G M d mc ms X R n lv st sz ce sl (va_up hp a (ob ci (a0 :: a1 :: a2 :: a3 :: a4 :: a5 :: v :: r)))) : pd_T G M d mc ms X R pc lv (v :: vr a :: st) sz ce sl hp := pt_put h hc (by simp) hf k
theorem pt_put7 {a ci : Nat} {ty : FieldType} {a0 a1 a2 a3 a4 a5 a6 a7 : pv} {r : List pv} {v : pv} (h : pd_pf M pc ci 7 ty n) (hc : hp a = ob ci (a0 :: a1 :: a2 :: a3 :: a4 :: a5 :: a6 :: a7 :: r)) (hf : pd_fit ty v) (k : pd_T G M d mc ms X R n lv st sz ce sl (va_up hp a (ob ci (a0 :: a1 :: a2 :: a3 :: a4 :: a5 :: a6 :: v :: r)))) : pd_T G M d mc ms X R pc lv (v :: vr a :: st) sz ce sl hp := pt_put h hc (by simp) hf k
theorem pt_put8 {a ci : Nat} {ty : FieldType} {a0 a1 a2 a3 a4 a5 a6 a7 a8 : pv} {r : List pv} {v : pv} (h : pd_pf M pc ci 8 ty n) (hc : hp a = ob ci (a0 :: a1 :: a2 :: a3 :: a4 :: a5 :: a6 :: a7 :: a8 :: r)) (hf : pd_fit ty v) (k : pd_T G M d mc ms X R n lv st sz ce sl (va_up hp a (ob ci (a0 :: a1 :: a2 :: a3 :: a4 :: a5 :: a6 :: a7 :: v :: r)))) : pd_T G M d mc ms X R pc lv (v :: vr a :: st) sz ce sl hp := pt_put h hc (by simp) hf k
theorem pt_put9 {a ci : Nat} {ty : FieldType} {a0 a1 a2 a3 a4 a5 a6 a7 a8 a9 : pv} {r : List pv} {v : pv} (h : pd_pf M pc ci 9 ty n) (hc : hp a = ob ci (a0 :: a1 :: a2 :: a3 :: a4 :: a5 :: a6 :: a7 :: a8 :: a9 :: r)) (hf : pd_fit ty v) (k : pd_T G M d mc ms X R n lv st sz ce sl (va_up hp a (ob ci (a0 :: a1 :: a2 :: a3 :: a4 :: a5 :: a6 :: a7 :: a8 :: v :: r)))) : pd_T G M d mc ms X R pc lv (v :: vr a :: st) sz ce sl hp := pt_put h hc (by simp) hf k
theorem pt_put10 {a ci : Nat} {ty : FieldType} {a0 a1 a2 a3 a4 a5 a6 a7 a8 a9 a10 : pv} {r : List pv} {v : pv} (h : pd_pf M pc ci 10 ty n) (hc : hp a = ob ci (a0 :: a1 :: a2 :: a3 :: a4 :: a5 :: a6 :: a7 :: a8 :: a9 :: a10 :: r)) (hf : pd_fit ty v) (k : pd_T G M d mc ms X R n lv st sz ce sl (va_up hp a (ob ci (a0 :: a1 :: a2 :: a3 :: a4 :: a5 :: a6 :: a7 :: a8 :: a9 :: v :: r)))) : pd_T G M d mc ms X R pc lv (v :: vr a :: st) sz ce sl hp := pt_put h hc (by simp) hf k
theorem pt_put11 {a ci : Nat} {ty : FieldType} {a0 a1 a2 a3 a4 a5 a6 a7 a8 a9 a10 a11 : pv} {r : List pv} {v : pv} (h : pd_pf M pc ci 11 ty n) (hc : hp a = ob ci (a0 :: a1 :: a2 :: a3 :: a4 :: a5 :: a6 :: a7 :: a8 :: a9 :: a10 :: a11 :: r)) (hf : pd_fit ty v) (k : pd_T G M d mc ms X R n lv st sz ce sl (va_up hp a (ob ci (a0 :: a1 :: a2 :: a3 :: a4 :: a5 :: a6 :: a7 :: a8 :: a9 :: a10 :: v :: r)))) : pd_T G M d mc ms X R pc lv (v :: vr a :: st) sz ce sl hp := pt_put h hc (by simp) hf k
theorem pt_put12 {a ci : Nat} {ty : FieldType} {a0 a1 a2 a3 a4 a5 a6 a7 a8 a9 a10 a11 a12 : pv} {r : List pv} {v : pv} (h : pd_pf M pc ci 12 ty n) (hc : hp a = ob ci (a0 :: a1 :: a2 :: a3 :: a4 :: a5 :: a6 :: a7 :: a8 :: a9 :: a10 :: a11 :: a12 :: r)) (hf : pd_fit ty v) (k : pd_T G M d mc ms X R n lv st sz ce sl (va_up hp a (ob ci (a0 :: a1 :: a2 :: a3 :: a4 :: a5 :: a6 :: a7 :: a8 :: a9 :: a10 :: a11 :: v :: r)))) : pd_T G M d mc ms X R pc lv (v :: vr a :: st) sz ce sl hp := pt_put h hc (by simp) hf k
theorem pt_put13 {a ci : Nat} {ty : FieldType} {a0 a1 a2 a3 a4 a5 a6 a7 a8 a9 a10 a11 a12 a13 : pv} {r : List pv} {v : pv} (h : pd_pf M pc ci 13 ty n) (hc : hp a = ob ci (a0 :: a1 :: a2 :: a3 :: a4 :: a5 :: a6 :: a7 :: a8 :: a9 :: a10 :: a11 :: a12 :: a13 :: r)) (hf : pd_fit ty v) (k : pd_T G M d mc ms X R n lv st sz ce sl (va_up hp a (ob ci (a0 :: a1 :: a2 :: a3 :: a4 :: a5 :: a6 :: a7 :: a8 :: a9 :: a10 :: a11 :: a12 :: v :: r)))) : pd_T G M d mc ms X R pc lv (v :: vr a :: st) sz ce sl hp := pt_put h hc (by simp) hf k
theorem pt_put14 {a ci : Nat} {ty : FieldType} {a0 a1 a2 a3 a4 a5 a6 a7 a8 a9 a10 a11 a12 a13 a14 : pv} {r : List pv} {v : pv} (h : pd_pf M pc ci 14 ty n) (hc : hp a = ob ci (a0 :: a1 :: a2 :: a3 :: a4 :: a5 :: a6 :: a7 :: a8 :: a9 :: a10 :: a11 :: a12 :: a13 :: a14 :: r)) (hf : pd_fit ty v) (k : pd_T G M d mc ms X R n lv st sz ce sl (va_up hp a (ob ci (a0 :: a1 :: a2 :: a3 :: a4 :: a5 :: a6 :: a7 :: a8 :: a9 :: a10 :: a11 :: a12 :: a13 :: v :: r)))) : pd_T G M d mc ms X R pc lv (v :: vr a :: st) sz ce sl hp := pt_put h hc (by simp) hf k
theorem pt_put15 {a ci : Nat} {ty : FieldType} {a0 a1 a2 a3 a4 a5 a6 a7 a8 a9 a10 a11 a12 a13 a14 a15 : pv} {r : List pv} {v : pv} (h : pd_pf M pc ci 15 ty n) (hc : hp a = ob ci (a0 :: a1 :: a2 :: a3 :: a4 :: a5 :: a6 :: a7 :: a8 :: a9 :: a10 :: a11 :: a12 :: a13 :: a14 :: a15 :: r)) (hf : pd_fit ty v) (k : pd_T G M d mc ms X R n lv st sz ce sl (va_up hp a (ob ci (a0 :: a1 :: a2 :: a3 :: a4 :: a5 :: a6 :: a7 :: a8 :: a9 :: a10 :: a11 :: a12 :: a13 :: a14 :: v :: r)))) : pd_T G M d mc ms X R pc lv (v :: vr a :: st) sz ce sl hp := pt_put h hc (by simp) hf k
theorem pt_put16 {a ci : Nat} {ty : FieldType} {a0 a1 a2 a3 a4 a5 a6 a7 a8 a9 a10 a11 a12 a13 a14 a15 a16 : pv} {r : List pv} {v : pv} (h : pd_pf M pc ci 16 ty n) (hc : hp a = ob ci (a0 :: a1 :: a2 :: a3 :: a4 :: a5 :: a6 :: a7 :: a8 :: a9 :: a10 :: a11 :: a12 :: a13 :: a14 :: a15 :: a16 :: r)) (hf : pd_fit ty v) (k : pd_T G M d mc ms X R n lv st sz ce sl (va_up hp a (ob ci (a0 :: a1 :: a2 :: a3 :: a4 :: a5 :: a6 :: a7 :: a8 :: a9 :: a10 :: a11 :: a12 :: a13 :: a14 :: a15 :: v :: r)))) : pd_T G M d mc ms X R pc lv (v :: vr a :: st) sz ce sl hp := pt_put h hc (by simp) hf k
theorem pt_put17 {a ci : Nat} {ty : FieldType} {a0 a1 a2 a3 a4 a5 a6 a7 a8 a9 a10 a11 a12 a13 a14 a15 a16 a17 : pv} {r : List pv} {v : pv} (h : pd_pf M pc ci 17 ty n) (hc : hp a = ob ci (a0 :: a1 :: a2 :: a3 :: a4 :: a5 :: a6 :: a7 :: a8 :: a9 :: a10 :: a11 :: a12 :: a13 :: a14 :: a15 :: a16 :: a17 :: r)) (hf : pd_fit ty v) (k : pd_T G M d mc ms X R n lv st sz ce sl (va_up hp a (ob ci (a0 :: a1 :: a2 :: a3 :: a4 :: a5 :: a6 :: a7 :: a8 :: a9 :: a10 :: a11 :: a12 :: a13 :: a14 :: a15 :: a16 :: v :: r)))) : pd_T G M d mc ms X R pc lv (v :: vr a :: st) sz ce sl hp := pt_put h hc (by simp) hf k
theorem pt_put18 {a ci : Nat} {ty : FieldType} {a0 a1 a2 a3 a4 a5 a6 a7 a8 a9 a10 a11 a12 a13 a14 a15 a16 a17 a18 : pv} {r : List pv} {v : pv} (h : pd_pf M pc ci 18 ty n) (hc : hp a = ob ci (a0 :: a1 :: a2 :: a3 :: a4 :: a5 :: a6 :: a7 :: a8 :: a9 :: a10 :: a11 :: a12 :: a13 :: a14 :: a15 :: a16 :: a17 :: a18 :: r)) (hf : pd_fit ty v) (k : pd_T G M d mc ms X R n lv st sz ce sl (va_up hp a (ob ci (a0 :: a1 :: a2 :: a3 :: a4 :: a5 :: a6 :: a7 :: a8 :: a9 :: a10 :: a11 :: a12 :: a13 :: a14 :: a15 :: a16 :: a17 :: v :: r)))) : pd_T G M d mc ms X R pc lv (v :: vr a :: st) sz ce sl hp := pt_put h hc (by simp) hf k
theorem pt_put19 {a ci : Nat} {ty : FieldType} {a0 a1 a2 a3 a4 a5 a6 a7 a8 a9 a10 a11 a12 a13 a14 a15 a16 a17 a18 a19 : pv} {r : List pv} {v : pv} (h : pd_pf M pc ci 19 ty n) (hc : hp a = ob ci (a0 :: a1 :: a2 :: a3 :: a4 :: a5 :: a6 :: a7 :: a8 :: a9 :: a10 :: a11 :: a12 :: a13 :: a14 :: a15 :: a16 :: a17 :: a18 :: a19 :: r)) (hf : pd_fit ty v) (k : pd_T G M d mc ms X R n lv st sz ce sl (va_up hp a (ob ci (a0 :: a1 :: a2 :: a3 :: a4 :: a5 :: a6 :: a7 :: a8 :: a9 :: a10 :: a11 :: a12 :: a13 :: a14 :: a15 :: a16 :: a17 :: a18 :: v :: r)))) : pd_T G M d mc ms X R pc lv (v :: vr a :: st) sz ce sl hp := pt_put h hc (by simp) hf k
theorem pt_put20 {a ci : Nat} {ty : FieldType} {a0 a1 a2 a3 a4 a5 a6 a7 a8 a9 a10 a11 a12 a13 a14 a15 a16 a17 a18 a19 a20 : pv} {r : List pv} {v : pv} (h : pd_pf M pc ci 20 ty n) (hc : hp a = ob ci (a0 :: a1 :: a2 :: a3 :: a4 :: a5 :: a6 :: a7 :: a8 :: a9 :: a10 :: a11 :: a12 :: a13 :: a14 :: a15 :: a16 :: a17 :: a18 :: a19 :: a20 :: r)) (hf : pd_fit ty v) (k : pd_T G M d mc ms X R n lv st sz ce sl (va_up hp a (ob ci (a0 :: a1 :: a2 :: a3 :: a4 :: a5 :: a6 :: a7 :: a8 :: a9 :: a10 :: a11 :: a12 :: a13 :: a14 :: a15 :: a16 :: a17 :: a18 :: a19 :: v :: r)))) : pd_T G M d mc ms X R pc lv (v :: vr a :: st) sz ce sl hp := pt_put h hc (by simp) hf k
theorem pt_put21 {a ci : Nat} {ty : FieldType} {a0 a1 a2 a3 a4 a5 a6 a7 a8 a9 a10 a11 a12 a13 a14 a15 a16 a17 a18 a19 a20 a21 : pv} {r : List pv} {v : pv} (h : pd_pf M pc ci 21 ty n) (hc : hp a = ob ci (a0 :: a1 :: a2 :: a3 :: a4 :: a5 :: a6 :: a7 :: a8 :: a9 :: a10 :: a11 :: a12 :: a13 :: a14 :: a15 :: a16 :: a17 :: a18 :: a19 :: a20 :: a21 :: r)) (hf : pd_fit ty v) (k : pd_T G M d mc ms X R n lv st sz ce sl (va_up hp a (ob ci (a0 :: a1 :: a2 :: a3 :: a4 :: a5 :: a6 :: a7 :: a8 :: a9 :: a10 :: a11 :: a12 :: a13 :: a14 :: a15 :: a16 :: a17 :: a18 :: a19 :: a20 :: v :: r)))) : pd_T G M d mc ms X R pc lv (v :: vr a :: st) sz ce sl hp := pt_put h hc (by simp) hf k
theorem pt_put22 {a ci : Nat} {ty : FieldType} {a0 a1 a2 a3 a4 a5 a6 a7 a8 a9 a10 a11 a12 a13 a14 a15 a16 a17 a18 a19 a20 a21 a22 : pv} {r : List pv} {v : pv} (h : pd_pf M pc ci 22 ty n) (hc : hp a = ob ci (a0 :: a1 :: a2 :: a3 :: a4 :: a5 :: a6 :: a7 :: a8 :: a9 :: a10 :: a11 :: a12 :: a13 :: a14 :: a15 :: a16 :: a17 :: a18 :: a19 :: a20 :: a21 :: a22 :: r)) (hf : pd_fit ty v) (k : pd_T G M d mc ms X R n lv st sz ce sl (va_up hp a (ob ci (a0 :: a1 :: a2 :: a3 :: a4 :: a5 :: a6 :: a7 :: a8 :: a9 :: a10 :: a11 :: a12 :: a13 :: a14 :: a15 :: a16 :: a17 :: a18 :: a19 :: a20 :: a21 :: v :: r)))) : pd_T G M d mc ms X R pc lv (v :: vr a :: st) sz ce sl hp := pt_put h hc (by simp) hf k
theorem pt_put23 {a ci : Nat} {ty : FieldType} {a0 a1 a2 a3 a4 a5 a6 a7 a8 a9 a10 a11 a12 a13 a14 a15 a16 a17 a18 a19 a20 a21 a22 a23 : pv} {r : List pv} {v : pv} (h : pd_pf M pc ci 23 ty n) (hc : hp a = ob ci (a0 :: a1 :: a2 :: a3 :: a4 :: a5 :: a6 :: a7 :: a8 :: a9 :: a10 :: a11 :: a12 :: a13 :: a14 :: a15 :: a16 :: a17 :: a18 :: a19 :: a20 :: a21 :: a22 :: a23 :: r)) (hf : pd_fit ty v) (k : pd_T G M d mc ms X R n lv st sz ce sl (va_up hp a (ob ci (a0 :: a1 :: a2 :: a3 :: a4 :: a5 :: a6 :: a7 :: a8 :: a9 :: a10 :: a11 :: a12 :: a13 :: a14 :: a15 :: a16 :: a17 :: a18 :: a19 :: a20 :: a21 :: a22 :: v :: r)))) : pd_T G M d mc ms X R pc lv (v :: vr a :: st) sz ce sl hp := pt_put h hc (by simp) hf k
theorem pt_put24 {a ci : Nat} {ty : FieldType} {a0 a1 a2 a3 a4 a5 a6 a7 a8 a9 a10 a11 a12 a13 a14 a15 a16 a17 a18 a19 a20 a21 a22 a23 a24 : pv} {r : List pv} {v : pv} (h : pd_pf M pc ci 24 ty n) (hc : hp a = ob ci (a0 :: a1 :: a2 :: a3 :: a4 :: a5 :: a6 :: a7 :: a8 :: a9 :: a10 :: a11 :: a12 :: a13 :: a14 :: a15 :: a16 :: a17 :: a18 :: a19 :: a20 :: a21 :: a22 :: a23 :: a24 :: r)) (hf : pd_fit ty v) (k : pd_T G M d mc ms X R n lv st sz ce sl (va_up hp a (ob ci (a0 :: a1 :: a2 :: a3 :: a4 :: a5 :: a6 :: a7 :: a8 :: a9 :: a10 :: a11 :: a12 :: a13 :: a14 :: a15 :: a16 :: a17 :: a18 :: a19 :: a20 :: a21 :: a22 :: a23 :: v :: r)))) : pd_T G M d mc ms X R pc lv (v :: vr a :: st) sz ce sl hp := pt_put h hc (by simp) hf k
theorem pt_put25 {a ci : Nat} {ty : FieldType} {a0 a1 a2 a3 a4 a5 a6 a7 a8 a9 a10 a11 a12 a13 a14 a15 a16 a17 a18 a19 a20 a21 a22 a23 a24 a25 : pv} {r : List pv} {v : pv} (h : pd_pf M pc ci 25 ty n) (hc : hp a = ob ci (a0 :: a1 :: a2 :: a3 :: a4 :: a5 :: a6 :: a7 :: a8 :: a9 :: a10 :: a11 :: a12 :: a13 :: a14 :: a15 :: a16 :: a17 :: a18 :: a19 :: a20 :: a21 :: a22 :: a23 :: a24 :: a25 :: r)) (hf : pd_fit ty v) (k : pd_T G M d mc ms X R n lv st sz ce sl (va_up hp a (ob ci (a0 :: a1 :: a2 :: a3 :: a4 :: a5 :: a6 :: a7 :: a8 :: a9 :: a10 :: a11 :: a12 :: a13 :: a14 :: a15 :: a16 :: a17 :: a18 :: a19 :: a20 :: a21 :: a22 :: a23 :: a24 :: v :: r)))) : pd_T G M d mc ms X R pc lv (v :: vr a :: st) sz ce sl hp := pt_put h hc (by simp) hf k
theorem pt_put26 {a ci : Nat} {ty : FieldType} {a0 a1 a2 a3 a4 a5 a6 a7 a8 a9 a10 a11 a12 a13 a14 a15 a16 a17 a18 a19 a20 a21 a22 a23 a24 a25 a26 : pv} {r : List pv} {v : pv} (h : pd_pf M pc ci 26 ty n) (hc : hp a = ob ci (a0 :: a1 :: a2 :: a3 :: a4 :: a5 :: a6 :: a7 :: a8 :: a9 :: a10 :: a11 :: a12 :: a13 :: a14 :: a15 :: a16 :: a17 :: a18 :: a19 :: a20 :: a21 :: a22 :: a23 :: a24 :: a25 :: a26 :: r)) (hf : pd_fit ty v) (k : pd_T G M d mc ms X R n lv st sz ce sl (va_up hp a (ob ci (a0 :: a1 :: a2 :: a3 :: a4 :: a5 :: a6 :: a7 :: a8 :: a9 :: a10 :: a11 :: a12 :: a13 :: a14 :: a15 :: a16 :: a17 :: a18 :: a19 :: a20 :: a21 :: a22 :: a23 :: a24 :: a25 :: v :: r)))) : pd_T G M d mc ms X R pc lv (v :: vr a :: st) sz ce sl hp := pt_put h hc (by simp) hf k
theorem pt_put27 {a ci : Nat} {ty : FieldType} {a0 a1 a2 a3 a4 a5 a6 a7 a8 a9 a10 a11 a12 a13 a14 a15 a16 a17 a18 a19 a20 a21 a22 a23 a24 a25 a26 a27 : pv} {r : List pv} {v : pv} (h : pd_pf M pc ci 27 ty n) (hc : hp a = ob ci (a0 :: a1 :: a2 :: a3 :: a4 :: a5 :: a6 :: a7 :: a8 :: a9 :: a10 :: a11 :: a12 :: a13 :: a14 :: a15 :: a16 :: a17 :: a18 :: a19 :: a20 :: a21 :: a22 :: a23 :: a24 :: a25 :: a26 :: a27 :: r)) (hf : pd_fit ty v) (k : pd_T G M d mc ms X R n lv st sz ce sl (va_up hp a (ob ci (a0 :: a1 :: a2 :: a3 :: a4 :: a5 :: a6 :: a7 :: a8 :: a9 :: a10 :: a11 :: a12 :: a13 :: a14 :: a15 :: a16 :: a17 :: a18 :: a19 :: a20 :: a21 :: a22 :: a23 :: a24 :: a25 :: a26 :: v :: r)))) : pd_T G M d mc ms X R pc lv (v :: vr a :: st) sz ce sl hp := pt_put h hc (by simp) hf k
theorem pt_put28 {a ci : Nat} {ty : FieldType} {a0 a1 a2 a3 a4 a5 a6 a7 a8 a9 a10 a11 a12 a13 a14 a15 a16 a17 a18 a19 a20 a21 a22 a23 a24 a25 a26 a27 a28 : pv} {r : List pv} {v : pv} (h : pd_pf M pc ci 28 ty n) (hc : hp a = ob ci (a0 :: a1 :: a2 :: a3 :: a4 :: a5 :: a6 :: a7 :: a8 :: a9 :: a10 :: a11 :: a12 :: a13 :: a14 :: a15 :: a16 :: a17 :: a18 :: a19 :: a20 :: a21 :: a22 :: a23 :: a24 :: a25 :: a26 :: a27 :: a28 :: r)) (hf : pd_fit ty v) (k : pd_T G M d mc ms X R n lv st sz ce sl (va_up hp a (ob ci (a0 :: a1 :: a2 :: a3 :: a4 :: a5 :: a6 :: a7 :: a8 :: a9 :: a10 :: a11 :: a12 :: a13 :: a14 :: a15 :: a16 :: a17 :: a18 :: a19 :: a20 :: a21 :: a22 :: a23 :: a24 :: a25 :: a26 :: a27 :: v :: r)))) : pd_T G M d mc ms X R pc lv (v :: vr a :: st) sz ce sl hp := pt_put h hc (by simp) hf k
theorem pt_put29 {a ci : Nat} {ty : FieldType} {a0 a1 a2 a3 a4 a5 a6 a7 a8 a9 a10 a11 a12 a13 a14 a15 a16 a17 a18 a19 a20 a21 a22 a23 a24 a25 a26 a27 a28 a29 : pv} {r : List pv} {v : pv} (h : pd_pf M pc ci 29 ty n) (hc : hp a = ob ci (a0 :: a1 :: a2 :: a3 :: a4 :: a5 :: a6 :: a7 :: a8 :: a9 :: a10 :: a11 :: a12 :: a13 :: a14 :: a15 :: a16 :: a17 :: a18 :: a19 :: a20 :: a21 :: a22 :: a23 :: a24 :: a25 :: a26 :: a27 :: a28 :: a29 :: r)) (hf : pd_fit ty v) (k : pd_T G M d mc ms X R n lv st sz ce sl (va_up hp a (ob ci (a0 :: a1 :: a2 :: a3 :: a4 :: a5 :: a6 :: a7 :: a8 :: a9 :: a10 :: a11 :: a12 :: a13 :: a14 :: a15 :: a16 :: a17 :: a18 :: a19 :: a20 :: a21 :: a22 :: a23 :: a24 :: a25 :: a26 :: a27 :: a28 :: v :: r)))) : pd_T G M d mc ms X R pc lv (v :: vr a :: st) sz ce sl hp := pt_put h hc (by simp) hf k
theorem pt_put30 {a ci : Nat} {ty : FieldType} {a0 a1 a2 a3 a4 a5 a6 a7 a8 a9 a10 a11 a12 a13 a14 a15 a16 a17 a18 a19 a20 a21 a22 a23 a24 a25 a26 a27 a28 a29 a30 : pv} {r : List pv} {v : pv} (h : pd_pf M pc ci 30 ty n) (hc : hp a = ob ci (a0 :: a1 :: a2 :: a3 :: a4 :: a5 :: a6 :: a7 :: a8 :: a9 :: a10 :: a11 :: a12 :: a13 :: a14 :: a15 :: a16 :: a17 :: a18 :: a19 :: a20 :: a21 :: a22 :: a23 :: a24 :: a25 :: a26 :: a27 :: a28 :: a29 :: a30 :: r)) (hf : pd_fit ty v) (k : pd_T G M d mc ms X R n lv st sz ce sl (va_up hp a (ob ci (a0 :: a1 :: a2 :: a3 :: a4 :: a5 :: a6 :: a7 :: a8 :: a9 :: a10 :: a11 :: a12 :: a13 :: a14 :: a15 :: a16 :: a17 :: a18 :: a19 :: a20 :: a21 :: a22 :: a23 :: a24 :: a25 :: a26 :: a27 :: a28 :: a29 :: v :: r)))) : pd_T G M d mc ms X R pc lv (v :: vr a :: st) sz ce sl hp := pt_put h hc (by simp) hf k
theorem pt_put31 {a ci : Nat} {ty : FieldType} {a0 a1 a2 a3 a4 a5 a6 a7 a8 a9 a10 a11 a12 a13 a14 a15 a16 a17 a18 a19 a20 a21 a22 a23 a24 a25 a26 a27 a28 a29 a30 a31 : pv} {r : List pv} {v : pv} (h : pd_pf M pc ci 31 ty n) (hc : hp a = ob ci (a0 :: a1 :: a2 :: a3 :: a4 :: a5 :: a6 :: a7 :: a8 :: a9 :: a10 :: a11 :: a12 :: a13 :: a14 :: a15 :: a16 :: a17 :: a18 :: a19 :: a20 :: a21 :: a22 :: a23 :: a24 :: a25 :: a26 :: a27 :: a28 :: a29 :: a30 :: a31 :: r)) (hf : pd_fit ty v) (k : pd_T G M d mc ms X R n lv st sz ce sl (va_up hp a (ob ci (a0 :: a1 :: a2 :: a3 :: a4 :: a5 :: a6 :: a7 :: a8 :: a9 :: a10 :: a11 :: a12 :: a13 :: a14 :: a15 :: a16 :: a17 :: a18 :: a19 :: a20 :: a21 :: a22 :: a23 :: a24 :: a25 :: a26 :: a27 :: a28 :: a29 :: a30 :: v :: r)))) : pd_T G M d mc ms X R pc lv (v :: vr a :: st) sz ce sl hp := pt_put h hc (by simp) hf k
theorem pt_iald {a N : Nat} {f : Int → Int} {z : Int} (h : pd_i M pc .iaload 1 n) (hc : hp a = ia N f) (h0 : 0 ≤ z) (hz : z < N) (hN : (N : Int) ≤ 2147483648) (k : pd_T G M d mc ms X R n lv (vi (f z) :: st) sz ce sl hp) : pd_T G M d mc ms X R pc lv (vi z :: vr a :: st) sz ce sl hp := by
  intro p e Rm s m args below meth c Q hx hq H locs ls hH hS hl
  obtain ⟨h1, rfl⟩ := h
  obtain ⟨k0, rfl, hk0⟩ := pd_lt hH (a := a) (by rw [hc]; intro q; cases q)
  have hw := pd_w_get (G := G) (hp := hp) hk0
  rw [hc] at hw
  have hcl := jI_cl h0 hz hN
  refine va_iald (ws := pd_w G sz hp) hx.1 hx.2.1 hx.2.2.2.2.2.1.1 hH.2.1 k0 0 hw rfl (jI_in h0 hz hN) h1 ?_
  have e0 : jI (f ((jI z).toNatClampNeg : Int)) = jI (f z) := by rw [hcl, Int.toNat_of_nonneg h0]
  rw [e0]
  exact k p e Rm s m args below meth c Q hx hq H locs ls hH hS hl
theorem pt_bald {a N : Nat} {f : Int → Int} {z : Int} (h : pd_i M pc .baload 1 n) (hc : hp a = ba N f) (h0 : 0 ≤ z) (hz : z < N) (hN : (N : Int) ≤ 2147483648) (k : pd_T G M d mc ms X R n lv (vi (f z) :: st) sz ce sl hp) : pd_T G M d mc ms X R pc lv (vi z :: vr a :: st) sz ce sl hp := by
  intro p e Rm s m args below meth c Q hx hq H locs ls hH hS hl
  obtain ⟨h1, rfl⟩ := h
  obtain ⟨k0, rfl, hk0⟩ := pd_lt hH (a := a) (by rw [hc]; intro q; cases q)
  have hw := pd_w_get (G := G) (hp := hp) hk0
  rw [hc] at hw
  have hcl := jI_cl h0 hz hN
  refine va_bald (ws := pd_w G sz hp) hx.1 hx.2.1 hx.2.2.2.2.2.1.1 hH.2.1 k0 1 hw rfl (jI_in h0 hz hN) h1 ?_
  have e0 : jI (f ((jI z).toNatClampNeg : Int)) = jI (f z) := by rw [hcl, Int.toNat_of_nonneg h0]
  rw [e0]
  exact k p e Rm s m args below meth c Q hx hq H locs ls hH hS hl
theorem pt_zald {a N : Nat} {f : Int → Int} {z : Int} (h : pd_i M pc .baload 1 n) (hc : hp a = za N f) (h0 : 0 ≤ z) (hz : z < N) (hN : (N : Int) ≤ 2147483648) (k : pd_T G M d mc ms X R n lv (vi (f z) :: st) sz ce sl hp) : pd_T G M d mc ms X R pc lv (vi z :: vr a :: st) sz ce sl hp := by
  intro p e Rm s m args below meth c Q hx hq H locs ls hH hS hl
  obtain ⟨h1, rfl⟩ := h
  obtain ⟨k0, rfl, hk0⟩ := pd_lt hH (a := a) (by rw [hc]; intro q; cases q)
  have hw := pd_w_get (G := G) (hp := hp) hk0
  rw [hc] at hw
  have hcl := jI_cl h0 hz hN
  refine va_zald (ws := pd_w G sz hp) hx.1 hx.2.1 hx.2.2.2.2.2.1.1 hH.2.1 k0 2 hw rfl (jI_in h0 hz hN) h1 ?_
  have e0 : jI (f ((jI z).toNatClampNeg : Int)) = jI (f z) := by rw [hcl, Int.toNat_of_nonneg h0]
  rw [e0]
  exact k p e Rm s m args below meth c Q hx hq H locs ls hH hS hl
theorem pt_iast {a N : Nat} {f : Int → Int} {z x : Int} (h : pd_i M pc .iastore 1 n) (hc : hp a = ia N f) (h0 : 0 ≤ z) (hz : z < N) (hN : (N : Int) ≤ 2147483648)  (k : pd_T G M d mc ms X R n lv st sz ce sl (va_up hp a (ia N (uI f z x)))) : pd_T G M d mc ms X R pc lv (vi x :: vi z :: vr a :: st) sz ce sl hp := by
  intro p e Rm s m args below meth c Q hx hq H locs ls hH hS hl
  obtain ⟨h1, rfl⟩ := h
  obtain ⟨k0, rfl, hk0⟩ := pd_lt hH (a := a) (by rw [hc]; intro q; cases q)
  have hw := pd_w_get (G := G) (hp := hp) hk0
  rw [hc] at hw
  have hcl := jI_cl h0 hz hN
  have hin := jI_in h0 hz hN
  refine W.iast hx.1 hx.2.1 (hH.2.1 k0 _ hw) ((hx.2.2.2.2.2.1.1.2 0 _ rfl).1 N (fun j => .int (jI (f j)))) (fun q => by cases q) (by show ¬ (jI z < 0 ∨ (arrV _ _ _).slots.size ≤ _); rw [arrV_size]; exact hin) rfl rfl h1 fun H1 e1 z1 oq => ?_
  refine k p e Rm s m args below meth c Q hx hq H1 _ ls (pd_H.set hH hk0 z1 (hH.2.1.set (pd_w_D G sz hp) hw ?_ oq)) (hS.put z1 oq (Nat.le_add_right _ _)) hl
  show H1[_]? = some (vp_cell _ _)
  rw [e1]
  rw [vp_cell_i, vp_cell_i, arrV_store]
  congr 2
  funext q
  by_cases hqz : q = (jI z).toNatClampNeg
  · subst hqz
    · simp [updV, uI, hcl, Int.toNat_of_nonneg h0]
  · have hq2 : ¬ (q : Int) = z := fun w => hqz (by rw [hcl]; omega)
    simp [updV, uI, hqz, hq2]
theorem pd_byte {x : Int} (h1 : -128 ≤ x) (h2 : x < 128) : (jI x).toInt8.toInt32 = jI x := by
  apply Int32.toInt_inj.mp
  rw [jI_toInt ⟨by omega, by omega⟩, Int8.toInt_toInt32, Int32.toInt_toInt8, jI_toInt ⟨by omega, by omega⟩]
  exact Int.bmod_eq_of_le (by omega) (by omega)
theorem pt_bast {a N : Nat} {f : Int → Int} {z x : Int} (h : pd_i M pc .bastore 1 n) (hc : hp a = ba N f) (h0 : 0 ≤ z) (hz : z < N) (hN : (N : Int) ≤ 2147483648) (hb : -128 ≤ x ∧ x < 128)  (k : pd_T G M d mc ms X R n lv st sz ce sl (va_up hp a (ba N (uI f z x)))) : pd_T G M d mc ms X R pc lv (vi x :: vi z :: vr a :: st) sz ce sl hp := by
  intro p e Rm s m args below meth c Q hx hq H locs ls hH hS hl
  obtain ⟨h1, rfl⟩ := h
  obtain ⟨k0, rfl, hk0⟩ := pd_lt hH (a := a) (by rw [hc]; intro q; cases q)
  have hw := pd_w_get (G := G) (hp := hp) hk0
  rw [hc] at hw
  have hcl := jI_cl h0 hz hN
  have hin := jI_in h0 hz hN
  refine W.bast hx.1 hx.2.1 (hH.2.1 k0 _ hw) ((hx.2.2.2.2.2.1.1.2 1 _ rfl).1 N (fun j => .int (jI (f j)))) (fun q => by cases q) (by show ¬ (jI z < 0 ∨ (arrV _ _ _).slots.size ≤ _); rw [arrV_size]; exact hin) rfl rfl h1 fun H1 e1 z1 oq => ?_
  refine k p e Rm s m args below meth c Q hx hq H1 _ ls (pd_H.set hH hk0 z1 (hH.2.1.set (pd_w_D G sz hp) hw ?_ oq)) (hS.put z1 oq (Nat.le_add_right _ _)) hl
  show H1[_]? = some (vp_cell _ _)
  rw [e1]
  rw [vp_cell_i, vp_cell_i, arrV_store]
  congr 2
  funext q
  by_cases hqz : q = (jI z).toNatClampNeg
  · subst hqz
    · have e9 : (jI x).toInt8.toInt32 = jI x := pd_byte hb.1 hb.2
      simp [updV, uI, hcl, Int.toNat_of_nonneg h0]
      exact congrArg Value.int e9
  · have hq2 : ¬ (q : Int) = z := fun w => hqz (by rw [hcl]; omega)
    simp [updV, uI, hqz, hq2]
theorem pt_zast {a N : Nat} {f : Int → Int} {z x : Int} (h : pd_i M pc .bastore 1 n) (hc : hp a = za N f) (h0 : 0 ≤ z) (hz : z < N) (hN : (N : Int) ≤ 2147483648) (hb : x = 0 ∨ x = 1)  (k : pd_T G M d mc ms X R n lv st sz ce sl (va_up hp a (za N (uI f z x)))) : pd_T G M d mc ms X R pc lv (vi x :: vi z :: vr a :: st) sz ce sl hp := by
  intro p e Rm s m args below meth c Q hx hq H locs ls hH hS hl
  obtain ⟨h1, rfl⟩ := h
  obtain ⟨k0, rfl, hk0⟩ := pd_lt hH (a := a) (by rw [hc]; intro q; cases q)
  have hw := pd_w_get (G := G) (hp := hp) hk0
  rw [hc] at hw
  have hcl := jI_cl h0 hz hN
  have hin := jI_in h0 hz hN
  refine W.zast hx.1 hx.2.1 (hH.2.1 k0 _ hw) ((hx.2.2.2.2.2.1.1.2 2 _ rfl).1 N (fun j => .int (jI (f j)))) (fun q => by cases q) (by show ¬ (jI z < 0 ∨ (arrV _ _ _).slots.size ≤ _); rw [arrV_size]; exact hin) rfl rfl h1 fun H1 e1 z1 oq => ?_
  refine k p e Rm s m args below meth c Q hx hq H1 _ ls (pd_H.set hH hk0 z1 (hH.2.1.set (pd_w_D G sz hp) hw ?_ oq)) (hS.put z1 oq (Nat.le_add_right _ _)) hl
  show H1[_]? = some (vp_cell _ _)
  rw [e1]
  rw [vp_cell_i, vp_cell_i, arrV_store]
  congr 2
  funext q
  by_cases hqz : q = (jI z).toNatClampNeg
  · subst hqz
    · simp [updV, uI, hcl, Int.toNat_of_nonneg h0]
      rcases hb with rfl | rfl <;> rfl
  · have hq2 : ¬ (q : Int) = z := fun w => hqz (by rw [hcl]; omega)
    simp [updV, uI, hqz, hq2]
theorem pt_alen {a kd N : Nat} {x : (Int → Int) ⊕ (Int → Option Nat)} {ty : FieldType} (h : pd_i M pc .arraylength 1 n) (hc : hp a = .inl (kd, N, x)) (hty : (pd_ty G)[kd]? = some (G.2.2.1 kd, ty)) (k : pd_T G M d mc ms X R n lv (vi N :: st) sz ce sl hp) : pd_T G M d mc ms X R pc lv (vr a :: st) sz ce sl hp := by
  intro p e Rm s m args below meth c Q hx hq H locs ls hH hS hl
  obtain ⟨h1, rfl⟩ := h
  obtain ⟨k0, rfl, hk0⟩ := pd_lt hH (a := a) (by rw [hc]; intro q; cases q)
  have hw := pd_w_get (G := G) (hp := hp) hk0
  rw [hc] at hw
  rcases x with f | f
  · exact va_alen (ws := pd_w G sz hp) hx.1 hx.2.1 hx.2.2.2.2.2.1.1 hH.2.1 k0 kd hw hty (v := jI N) Int32.ofInt_eq_ofNat.symm h1 (k p e Rm s m args below meth c Q hx hq H locs ls hH hS hl)
  · exact va_alen (ws := pd_w G sz hp) hx.1 hx.2.1 hx.2.2.2.2.2.1.1 hH.2.1 k0 kd hw hty (v := jI N) Int32.ofInt_eq_ofNat.symm h1 (k p e Rm s m args below meth c Q hx hq H locs ls hH hS hl)
theorem pt_aald {a kd N q : Nat} {C : String} {f : Int → Option Nat} {z : Int} (h : pd_i M pc .aaload 1 n) (hc : hp a = ra kd N f) (hty : (pd_ty G)[kd]? = some (G.2.2.1 kd, .object C)) (h0 : 0 ≤ z) (hz : z < N) (hN : (N : Int) ≤ 2147483648) (hv : f z = some q) (k : pd_T G M d mc ms X R n lv (vr q :: st) sz ce sl hp) : pd_T G M d mc ms X R pc lv (vi z :: vr a :: st) sz ce sl hp := by
  intro p e Rm s m args below meth c Q hx hq H locs ls hH hS hl
  obtain ⟨h1, rfl⟩ := h
  obtain ⟨k0, rfl, hk0⟩ := pd_lt hH (a := a) (by rw [hc]; intro q; cases q)
  have hw := pd_w_get (G := G) (hp := hp) hk0
  rw [hc] at hw
  have hcl := jI_cl h0 hz hN
  refine va_aldq (ws := pd_w G sz hp) hx.1 hx.2.1 hx.2.2.2.2.2.1.1 hH.2.1 k0 kd hw hty (jI_in h0 hz hN) h1 ?_
  have e0 : f ((jI z).toNatClampNeg : Int) = some q := by rw [hcl, Int.toNat_of_nonneg h0]; exact hv
  rw [e0]
  exact k p e Rm s m args below meth c Q hx hq H locs ls hH hS hl
theorem pt_sld {L : Nat} {xs : Nat → Int} {z : Int} (hX : X = some (L, xs)) (h : pd_i M pc .iaload 1 n) (h0 : 0 ≤ z) (hz : z < L) (hN : (L : Int) ≤ 2147483648) (k : pd_T G M d mc ms X R n lv (vi (xs z.toNat) :: st) sz ce sl hp) : pd_T G M d mc ms X R pc lv (vi z :: vr 0 :: st) sz ce sl hp := by
  intro p e Rm s m args below meth c Q hx hq H locs ls hH hS hl
  obtain ⟨h1, rfl⟩ := h
  have hX2 := hx.2.2.2.2.2.2.2.2.2
  rw [hX] at hX2
  have hcl := jI_cl h0 hz hN
  refine va_sld hx.1 hx.2.1 hX2.1 hX2.2.1 (Nat.not_le.mpr hX2.2.2) hS (jI_in h0 hz hN) h1 ?_
  rw [hcl]
  exact k p e Rm s m args below meth c Q hx hq H locs ls hH hS hl
theorem pt_slen {L : Nat} {xs : Nat → Int} (hX : X = some (L, xs)) (h : pd_i M pc .arraylength 1 n) (k : pd_T G M d mc ms X R n lv (vi L :: st) sz ce sl hp) : pd_T G M d mc ms X R pc lv (vr 0 :: st) sz ce sl hp := by
  intro p e Rm s m args below meth c Q hx hq H locs ls hH hS hl
  obtain ⟨h1, rfl⟩ := h
  have hX2 := hx.2.2.2.2.2.2.2.2.2
  rw [hX] at hX2
  refine va_slen hx.1 hx.2.1 hX2.1 hX2.2.1 (Nat.not_le.mpr hX2.2.2) hS h1 ?_
  rw [← Int32.ofInt_eq_ofNat]
  exact k p e Rm s m args below meth c Q hx hq H locs ls hH hS hl
end PDHEAP
end
section
/-! more rows: numbers, Math, arraycopy, references into rows -/
theorem jI_div {x y : Int} (hx : 0 ≤ x) (hx2 : x < 2147483648) (hy : 0 < y) (hy2 : y < 2147483648) : jI x / jI y = jI (x / y) := by
  apply Int32.toInt_inj.mp
  have h1 : 0 ≤ x / y := Int.ediv_nonneg hx (by omega)
  have h2 : x / y ≤ x := Int.ediv_le_self y hx
  have hne : jI y ≠ -1 := by
    intro h
    have h3 : jI y = jI (-1) := h
    rw [jI_eq ⟨by omega, by omega⟩ ⟨by omega, by omega⟩] at h3
    omega
  rw [Int32.toInt_div_of_ne_right _ _ hne, jI_toInt ⟨by omega, by omega⟩, jI_toInt ⟨by omega, by omega⟩, jI_toInt ⟨by omega, by omega⟩, Int.tdiv_eq_ediv_of_nonneg hx]
theorem jI_ne0 {y : Int} (hy : 0 < y) (hy2 : y < 2147483648) : ¬ jI y = 0 := by
  intro h
  have h3 : jI y = jI 0 := h
  rw [jI_eq ⟨by omega, by omega⟩ jR_0] at h3
  omega
theorem jI_rem {x y : Int} (hx : 0 ≤ x) (hx2 : x < 2147483648) (hy : 0 < y) (hy2 : y < 2147483648) : jI x - jI x / jI y * jI y = jI (x % y) := by
  rw [jI_div hx hx2 hy hy2, jI_mul, jI_sub]
  congr 1
  have h1 := Int.emod_add_mul_ediv x y
  have h2 : x / y * y = y * (x / y) := Int.mul_comm _ _
  omega
theorem jI_and_mask (x : Int) (k : Nat) (hk : k ≤ 30) {m : Int} (hm : m = 2 ^ k - 1) : jI x &&& jI m = jI (x % 2 ^ k) := by
  have hp : (0 : Int) < 2 ^ k := Int.pow_pos (by decide)
  have hle : (2 : Int) ^ k ≤ 2 ^ 30 := by
    have := Nat.pow_le_pow_right (show 0 < 2 by decide) hk
    exact_mod_cast this
  have e1 : jI x &&& jI m = nI ((jI x).toBitVec.toNat % 2 ^ k) := by
    refine pk_and (jI x) k ?_
    subst hm
    have h1 : ((2 : Int) ^ k - 1) = (((2 ^ k - 1 : Nat)) : Int) := by
      have h9 : 1 ≤ 2 ^ k := Nat.one_le_two_pow
      rw [Int.natCast_sub h9]
      simp
    show (Int32.ofInt _).toBitVec.toNat = _
    rw [h1, Int32.ofInt_eq_ofNat]
    refine pk_tn ?_
    have : 2 ^ k ≤ 2 ^ 30 := Nat.pow_le_pow_right (by decide) hk
    omega
  rw [e1]
  show Int32.ofNat _ = Int32.ofInt _
  rw [← Int32.ofInt_eq_ofNat]
  congr 1
  have h2 : (((jI x).toBitVec.toNat : Nat) : Int) = x % 2 ^ 32 := by
    show (((BitVec.ofInt 32 x).toNat : Nat) : Int) = _
    rw [BitVec.toNat_ofInt]
    have : (0 : Int) ≤ x % (2 ^ 32 : Nat) := Int.emod_nonneg _ (by decide)
    omega
  rw [Int.natCast_emod, h2]
  have h3 : ((2 ^ k : Nat) : Int) = 2 ^ k := by simp
  rw [h3, Int.emod_emod_of_dvd]
  have hd : (2 ^ k : Nat) ∣ 2 ^ 32 := Nat.pow_dvd_pow 2 (by omega)
  have := Int.natCast_dvd_natCast.mpr hd
  simpa using this
theorem jI_min (x y : Int) (hx : jR x) (hy : jR y) : (if jI y < jI x then jI y else jI x) = jI (min x y) := by
  by_cases h : y < x
  · rw [if_pos ((jI_lt hy hx).mpr h), Int.min_eq_right (by omega)]
  · rw [if_neg (fun q => h ((jI_lt hy hx).mp q)), Int.min_eq_left (by omega)]
theorem jI_max (x y : Int) (hx : jR x) (hy : jR y) : (if jI x < jI y then jI y else jI x) = jI (max x y) := by
  by_cases h : x < y
  · rw [if_pos ((jI_lt hx hy).mpr h), Int.max_eq_right (by omega)]
  · rw [if_neg (fun q => h ((jI_lt hx hy).mp q)), Int.max_eq_left (by omega)]
theorem jI_i2b {x : Int} (hx : 0 ≤ x) (hx2 : x < 256) : (jI x).toInt8.toInt32 = jI (if x < 128 then x else x - 256) := by
  apply Int32.toInt_inj.mp
  rw [Int8.toInt_toInt32, Int32.toInt_toInt8, jI_toInt ⟨by omega, by omega⟩]
  by_cases h : x < 128
  · rw [if_pos h, jI_toInt ⟨by omega, by omega⟩]
    exact Int.bmod_eq_of_le (by omega) (by omega)
  · rw [if_neg h, jI_toInt ⟨by omega, by omega⟩]
    simp only [Int.bmod]
    omega
theorem pd_words (G : pd_G) : ∀ st : List pv, ((st.map (pd_up G)).map fun v => v.category).sum ≤ 2 * st.length
  | [] => by simp
  | v :: st => by
    have ih := pd_words G st
    have hc := lv_cat (pd_up G v)
    simp only [List.map_cons, List.sum_cons, List.length_cons]
    omega
section PDMORE
variable {G : pd_G} {M : pd_M} {d mc ms : Nat} {X : Option (Nat × (Nat → Int))} {R : pd_R} {pc n t : Nat} {lv : List (Option pv)} {st : List pv} {sz ce sl : Nat} {hp : pd_P}
theorem pt_idiv {x y : Int} (h : pd_i M pc .idiv 1 n) (h1 : 0 ≤ x) (h2 : x < 2147483648) (h3 : 0 < y) (h4 : y < 2147483648) (k : pd_T G M d mc ms X R n lv (vi (x / y) :: st) sz ce sl hp) : pd_T G M d mc ms X R pc lv (vi y :: vi x :: st) sz ce sl hp := by
  intro p e Rm s m args below meth c Q hx hq H locs ls hH hS hl
  obtain ⟨g1, rfl⟩ := h
  refine lv_idiv hx.1 hx.2.1 g1 (jI_ne0 h3 h4) ?_
  rw [jI_div h1 h2 h3 h4]
  exact k p e Rm s m args below meth c Q hx hq H locs ls hH hS hl
theorem pt_irem {x y : Int} (h : pd_i M pc .irem 1 n) (h1 : 0 ≤ x) (h2 : x < 2147483648) (h3 : 0 < y) (h4 : y < 2147483648) (k : pd_T G M d mc ms X R n lv (vi (x % y) :: st) sz ce sl hp) : pd_T G M d mc ms X R pc lv (vi y :: vi x :: st) sz ce sl hp := by
  intro p e Rm s m args below meth c Q hx hq H locs ls hH hS hl
  obtain ⟨g1, rfl⟩ := h
  refine lv_irem hx.1 hx.2.1 g1 (jI_ne0 h3 h4) ?_
  rw [jI_rem h1 h2 h3 h4]
  exact k p e Rm s m args below meth c Q hx hq H locs ls hH hS hl
theorem pt_iand {x m0 : Int} (kb : Nat) (h : pd_i M pc .iand 1 n) (hk : kb ≤ 30) (hm : m0 = 2 ^ kb - 1) (k : pd_T G M d mc ms X R n lv (vi (x % 2 ^ kb) :: st) sz ce sl hp) : pd_T G M d mc ms X R pc lv (vi m0 :: vi x :: st) sz ce sl hp := by
  intro p e Rm s m args below meth c Q hx hq H locs ls hH hS hl
  obtain ⟨g1, rfl⟩ := h
  refine lv_iand hx.1 hx.2.1 g1 ?_
  rw [jI_and_mask x kb hk hm]
  exact k p e Rm s m args below meth c Q hx hq H locs ls hH hS hl
theorem pt_i2b {x : Int} (h : pd_i M pc .i2b 1 n) (h1 : 0 ≤ x) (h2 : x < 256) (k : pd_T G M d mc ms X R n lv (vi (if x < 128 then x else x - 256) :: st) sz ce sl hp) : pd_T G M d mc ms X R pc lv (vi x :: st) sz ce sl hp := by
  intro p e Rm s m args below meth c Q hx hq H locs ls hH hS hl
  obtain ⟨g1, rfl⟩ := h
  exact lv_i2b hx.1 hx.2.1 g1 (jI_i2b h1 h2) (k p e Rm s m args below meth c Q hx hq H locs ls hH hS hl)
theorem pt_ior {x y z : Int} (h : pd_i M pc .ior 1 n) (he : jI x ||| jI y = jI z) (k : pd_T G M d mc ms X R n lv (vi z :: st) sz ce sl hp) : pd_T G M d mc ms X R pc lv (vi y :: vi x :: st) sz ce sl hp := by
  intro p e Rm s m args below meth c Q hx hq H locs ls hH hS hl
  obtain ⟨g1, rfl⟩ := h
  refine lv_ior hx.1 hx.2.1 g1 ?_
  rw [he]
  exact k p e Rm s m args below meth c Q hx hq H locs ls hH hS hl
theorem pt_ishl {x y z : Int} (h : pd_i M pc .ishl 1 n) (he : jI x <<< (jI y &&& 31) = jI z) (k : pd_T G M d mc ms X R n lv (vi z :: st) sz ce sl hp) : pd_T G M d mc ms X R pc lv (vi y :: vi x :: st) sz ce sl hp := by
  intro p e Rm s m args below meth c Q hx hq H locs ls hH hS hl
  obtain ⟨g1, rfl⟩ := h
  refine lv_ishl hx.1 hx.2.1 g1 ?_
  rw [he]
  exact k p e Rm s m args below meth c Q hx hq H locs ls hH hS hl
theorem pt_ishr {x y z : Int} (h : pd_i M pc .ishr 1 n) (he : jI x >>> (jI y &&& 31) = jI z) (k : pd_T G M d mc ms X R n lv (vi z :: st) sz ce sl hp) : pd_T G M d mc ms X R pc lv (vi y :: vi x :: st) sz ce sl hp := by
  intro p e Rm s m args below meth c Q hx hq H locs ls hH hS hl
  obtain ⟨g1, rfl⟩ := h
  refine lv_ishr hx.1 hx.2.1 g1 ?_
  rw [he]
  exact k p e Rm s m args below meth c Q hx hq H locs ls hH hS hl
theorem pt_lcmp {x y : Int} (h : pd_i M pc .lcmp 1 n) (he : x = y) (k : pd_T G M d mc ms X R n lv (vi 0 :: st) sz ce sl hp) : pd_T G M d mc ms X R pc lv (vl y :: vl x :: st) sz ce sl hp := by
  intro p e Rm s m args below meth c Q hx hq H locs ls hH hS hl
  obtain ⟨g1, rfl⟩ := h
  refine W.lcmp hx.1 hx.2.1 g1 ?_
  have e0 : lg_cmp (jL x) (jL y) = jI 0 := by
    subst he
    unfold lg_cmp
    rw [if_neg (by simp [Int64.lt_irrefl]), if_pos rfl]
    rfl
  rw [e0]
  exact k p e Rm s m args below meth c Q hx hq H locs ls hH hS hl
theorem mth_min : Cond.static Lib.Math.min.name ∈ pd_tbl ∧ Cond.code Lib.Math.min.name Lib.Math.min.code 2 (some .int) ∈ pd_tbl ∧ Cond.initialized "java/lang/Math" ∈ pd_tbl := ⟨pd_m 395 (by decide +kernel) (by decide +kernel), pd_m 396 (by decide +kernel) (by decide +kernel), pd_m 59 (by decide +kernel) (by decide +kernel)⟩
def pd_min (M : pd_M) (pc n : Nat) : Prop := ∃ idx, pd_i M pc (.invokestatic idx) 3 n ∧ Cond.methodLink M.1.cls idx Lib.Math.min.name ∈ pd_tbl
theorem pt_min {x y : Int} (h : pd_min M pc n) (h1 : jR x) (h2 : jR y) (hd : 1 ≤ d) (hr : st.length ≤ 8) (hce : ce ≤ mc) (hsl : sl ≤ ms) (k : pd_T G M d mc ms X R n lv (vi (min x y) :: st) sz ce sl hp) : pd_T G M d mc ms X R pc lv (vi y :: vi x :: st) sz ce sl hp := by
  intro p e Rm s m args below meth c Q hx hq H locs ls hH hS hl
  obtain ⟨idx, ⟨g1, rfl⟩, g2⟩ := h
  have hts := hx.2.2.2.2.1
  obtain ⟨r1, r2, r3, r4⟩ := hx.2.2.2.2.2.2.1
  have hcat := pd_words G st
  refine va_mmin hx.1 hx.2.1 (hx.2.2.1.trans hl.1.symm) hx.2.2.2.1 (hts _ g2) (hts _ mth_min.1) (hts _ mth_min.2.2) (hts _ mth_min.2.1) (by omega) (by omega) (by omega) (by omega) g1 ?_
  rw [jI_min x y h1 h2]
  exact k p e Rm s m args below meth c Q hx hq H locs ls hH hS hl
theorem mth_max : Cond.static Lib.Math.max.name ∈ pd_tbl ∧ Cond.code Lib.Math.max.name Lib.Math.max.code 2 (some .int) ∈ pd_tbl ∧ Cond.initialized "java/lang/Math" ∈ pd_tbl := ⟨pd_m 436 (by decide +kernel) (by decide +kernel), pd_m 437 (by decide +kernel) (by decide +kernel), pd_m 59 (by decide +kernel) (by decide +kernel)⟩
def pd_max (M : pd_M) (pc n : Nat) : Prop := ∃ idx, pd_i M pc (.invokestatic idx) 3 n ∧ Cond.methodLink M.1.cls idx Lib.Math.max.name ∈ pd_tbl
theorem pt_max {x y : Int} (h : pd_max M pc n) (h1 : jR x) (h2 : jR y) (hd : 1 ≤ d) (hr : st.length ≤ 8) (hce : ce ≤ mc) (hsl : sl ≤ ms) (k : pd_T G M d mc ms X R n lv (vi (max x y) :: st) sz ce sl hp) : pd_T G M d mc ms X R pc lv (vi y :: vi x :: st) sz ce sl hp := by
  intro p e Rm s m args below meth c Q hx hq H locs ls hH hS hl
  obtain ⟨idx, ⟨g1, rfl⟩, g2⟩ := h
  have hts := hx.2.2.2.2.1
  obtain ⟨r1, r2, r3, r4⟩ := hx.2.2.2.2.2.2.1
  have hcat := pd_words G st
  refine va_mmax hx.1 hx.2.1 (hx.2.2.1.trans hl.1.symm) hx.2.2.2.1 (hts _ g2) (hts _ mth_max.1) (hts _ mth_max.2.2) (hts _ mth_max.2.1) (by omega) (by omega) (by omega) (by omega) g1 ?_
  rw [jI_max x y h1 h2]
  exact k p e Rm s m args below meth c Q hx hq H locs ls hH hS hl
end PDMORE
end
section
/-! calls -/
theorem pd_goodin {N : pd_M} {ar : Nat} (h : pd_ok N ar) : GoodIn pd_tbl (pd_ws N) := by
  intro w hw
  have key : ∀ w ∈ pd_tbl, w ∈ pd_tbl ∧ ((w.onTables && w.keeps) = true ∨ ∃ ty, w = .arrayClass ty) := fun w hw => ⟨hw, good_of_word (List.mem_filter.mp hw).2⟩
  rcases List.mem_cons.mp hw with rfl | hw
  · exact key _ h.1
  · exact key w hw
theorem pd_blind (G : pd_G) (sz : Nat) (hp : pd_P) (av : List Value) : FrameBlind (va_Pc av (pd_Pc G sz hp)) := fun a U g mk h => ⟨h.1, h.2.1, h.2.2.same rfl⟩
theorem pd_len {N : pd_M} {ar : Nat} (h : pd_ok N ar) (sig : MethodDescriptor) (hs : parseMethodDescriptor N.1.desc = some sig) : ar = sig.parameters.length := by
  have h2 := h.2.2.2.2.2.1
  rw [hs] at h2
  exact (Option.some.inj h2).symm
section PDCALL
variable {p : Program} {l : Launch} {e : Env} {Rm : Room} {s : State} {m : MethodId} {args : Array Value} {below : List Frame} {meth : Method} {c : Code} {H : Heap} {locs : List Loc} {cells slots mc1 ms1 : Nat} {Q : State → Prop} {G : pd_G} {pc : Nat} {ls : Array Slot} {rest st0 : List Value} {a : Array Value} {Rc : pd_R}
theorem pd_call (hr : va_Run p l e Rm s m args below meth c H locs cells slots mc1 ms1 (F0 m pc ls st0) rest (pd_Qc G Rc a) (pd_A G)) (hS : va_S (pd_A G) s.heap H locs)
    (kk : ∀ (v : Option pv) (sz' : Nat) (hp' : pd_P) (H1 : Heap) (locs1 : List Loc), Rc v sz' hp' → pd_H G sz' hp' H1 → va_S (pd_A G) s.heap H1 locs1 → W p l e Rm s m args below meth c H1 locs1 (cells + mc1) (slots + ms1) Q (F0 m (pc + 3) ls ((v.map (pd_up G)).toList ++ rest))) : W p l e Rm s m args below meth c H locs cells slots Q (F0 m pc ls st0) := by
  intro T hT X
  obtain ⟨v, st₀, t, T', L, h0, X', hL, e1, e2, ⟨⟨v', sz', hp', hv, hR, hH'⟩, hz, hk⟩, st⟩ := hr T hT X
  cases hv
  rw [h0] at hz hk
  obtain ⟨t2, a1, b1⟩ := kk v' sz' hp' T'.heap (locs ++ L) hR (by rw [e1]; exact hH')
    ⟨Nat.le_trans hS.1 (by rw [e1]; exact hz), fun q h1 h2 => by rw [e1, hk q (Nat.lt_of_lt_of_le h1 hS.1) h2]; exact hS.2.1 q h1 h2, fun q hq => by
      rcases List.mem_append.mp hq with h | h
      · exact hS.2.2 q h
      · exact hL q h⟩ T' rfl X'
  exact ⟨t2, st t2 a1, b1⟩
end PDCALL
def pd_kv (M : pd_M) (pc : Nat) (N : pd_M) (ar n : Nat) : Prop := ∃ idx, pd_i M pc (.invokevirtual idx) 3 n ∧ Cond.methodLink M.1.cls idx N.1 ∈ pd_tbl ∧ Cond.instanceMethod N.1 ∈ pd_tbl ∧ Cond.selects N.1.cls N.1 N.1 ∈ pd_tbl ∧ pd_ok N ar
/-- a virtual call of N0 on an object of N's class, which has N in its place -/
def pd_ku (M : pd_M) (pc : Nat) (N0 N : pd_M) (ar n : Nat) : Prop := ∃ idx, pd_i M pc (.invokevirtual idx) 3 n ∧ Cond.methodLink M.1.cls idx N0.1 ∈ pd_tbl ∧ Cond.sameMethod N0.1.cls N0.1.cls N0.1.name N0.1.desc ∈ pd_tbl ∧ Cond.instanceMethod N0.1 ∈ pd_tbl ∧ Cond.selects N.1.cls N0.1 N.1 ∈ pd_tbl ∧ Cond.instanceMethod N.1 ∈ pd_tbl ∧ pd_ok N0 ar ∧ pd_ok N ar ∧ N0.1.desc = N.1.desc
def pd_ks (M : pd_M) (pc : Nat) (N : pd_M) (ar n : Nat) : Prop := ∃ idx, pd_i M pc (.invokestatic idx) 3 n ∧ (Cond.methodLink M.1.cls idx N.1 ∈ pd_tbl ∨ ∃ host, (M.1.cls, idx, N.1, host) ∈ pd_nest) ∧ Cond.static N.1 ∈ pd_tbl ∧ pd_ok N ar
def pd_kI (M : pd_M) (pc : Nat) (N : pd_M) (ar n : Nat) : Prop := ∃ idx, pd_i M pc (.invokespecial idx) 3 n ∧ (Cond.methodLink M.1.cls idx N.1 ∈ pd_tbl ∨ ∃ host, (M.1.cls, idx, N.1, host) ∈ pd_nest) ∧ Cond.instanceMethod N.1 ∈ pd_tbl ∧ N.1.name = "<init>" ∧ N.2.2.2 = none ∧ pd_ok N ar
/-- a call of the method of the class above -/
def pd_kU (M : pd_M) (pc : Nat) (N : pd_M) (ar n : Nat) : Prop := ∃ idx, pd_i M pc (.invokespecial idx) 3 n ∧ Cond.methodLink M.1.cls idx N.1 ∈ pd_tbl ∧ Cond.sameMethod N.1.cls N.1.cls N.1.name N.1.desc ∈ pd_tbl ∧ Cond.superclass M.1.cls N.1.cls ∈ pd_tbl ∧ Cond.instanceMethod N.1 ∈ pd_tbl ∧ N.1.name ≠ "<init>" ∧ pd_ok N ar
def pd_cn (ci : Nat) : Option String := (pd_cl[ci]?).map (fun q => q.1)
section PDK
variable {G : pd_G} {M : pd_M} {d mc ms : Nat} {X : Option (Nat × (Nat → Int))} {R : pd_R} {pc n t : Nat} {lv : List (Option pv)} {st : List pv} {sz ce sl : Nat} {hp : pd_P} {N : pd_M} {d1 mc1 ms1 : Nat} {Rc : pd_R} {As rest : List pv}
theorem pd_back (G : pd_G) {p : Program} {Rm : Room} {s : State} {m : MethodId} {args : Array Value} {meth : Method} {c : Code} (hx : pd_cx G M d mc ms X p Rm s m args meth c) {ar : Nat} (hok : pd_ok N ar) (hd : d1 + 1 ≤ d) :
    (pd_rm d1 mc1 ms1).cells = mc1 ∧ (pd_rm d1 mc1 ms1).slots = ms1 ∧ (pd_rm d1 mc1 ms1).frames + 1 ≤ Rm.frames ∧ 8 + (N.2.2.1 + 11) + (pd_rm d1 mc1 ms1).locals ≤ Rm.locals ∧ (∀ w ∈ pd_ws N, ∀ (a' : Array Value) (U : State), s.WarmedH U.vm → w.before a' U = true) ∧ Cond.code N.1 N.2.1 N.2.2.1 N.2.2.2 ∈ pd_ws N := by
  obtain ⟨r1, r2, r3, r4⟩ := hx.2.2.2.2.2.2.1
  have h45 := hok.2.2.2.2.2.2
  refine ⟨rfl, rfl, by show d1 + 1 ≤ _; omega, by show 8 + (N.2.2.1 + 11) + 64 * d1 ≤ _; omega, pay_in hx.2.2.2.2.1 (pd_goodin hok), List.mem_cons_self⟩
theorem pd_pre (G : pd_G) {s : State} {H : Heap} (hK : pd_K G s) (hH : pd_H G sz hp H) (av : List pv) (U : State) (hU : U.heap = H) (hW : s.WarmedH U.vm) : va_Pc (av.map (pd_up G)) (pd_Pc G sz hp) (av.map (pd_up G)).toArray U := ⟨rfl, by rw [hU]; exact hH, hK.warm hW⟩
theorem pt_kv {a ci : Nat} {fs : List pv} (h : pd_kv M pc N As.length n) (hcon : pd_C G N d1 mc1 ms1 (vr a :: As) sz hp Rc) (hob : hp a = ob ci fs) (hcl : pd_cn ci = some N.1.cls) (hst : st = As.reverse ++ vr a :: rest) (hr : rest.length ≤ 4) (hd : d1 + 1 ≤ d) (hce : ce + mc1 ≤ mc) (hsl : sl + ms1 ≤ ms) (k : ∀ (v : Option pv) (sz' : Nat) (hp' : pd_P), Rc v sz' hp' → pd_T G M d mc ms X R n lv (v.toList ++ rest) sz' (ce + mc1) (sl + ms1) hp') : pd_T G M d mc ms X R pc lv st sz ce sl hp := by
  intro p e Rm s m args below meth c Q hx hq H locs ls hH hS hl
  have hts := hx.2.2.2.2.1
  have hcat := pd_words G rest
  obtain ⟨r1, r2, r3, r4⟩ := hx.2.2.2.2.2.2.1
  obtain ⟨idx, ⟨g1, rfl⟩, g2, g3, g4, g5⟩ := h
  have hne : ci ≠ 99 := by rintro rfl; simp [pd_cn] at hcl
  obtain ⟨k0, rfl, hk0⟩ := pd_lt hH (a := a) (by rw [hob]; intro q; exact hne (congrArg Prod.fst (Sum.inr.inj q)))
  have hw := pd_w_get (G := G) (hp := hp) hk0
  rw [hob] at hw
  obtain ⟨q, hq1, hq2⟩ : ∃ q : vw_C, pd_cl[ci]? = some q ∧ q.1 = N.1.cls := by
    unfold pd_cn at hcl
    cases hz : pd_cl[ci]? with
    | none => rw [hz] at hcl; cases hcl
    | some q => rw [hz] at hcl; exact ⟨q, rfl, Option.some.inj hcl⟩
  have hrec := va_recv (q0 := k0) hx.2.2.2.2.2.1.1 hH.2.1 hq1 hw
  rw [hq2] at hrec
  have hb := pd_back (d1 := d1) (mc1 := mc1) (ms1 := ms1) G hx g5 hd
  have hrun : va_Run p G.1 e Rm s m args below meth c H locs ce sl mc1 ms1 (F0 m pc ls (st.map (pd_up G))) (rest.map (pd_up G)) (pd_Qc G Rc ((vr (k0 + 1) :: As).map (pd_up G)).toArray) (pd_A G) := va_runV (g := F0 m pc ls (st.map (pd_up G))) (b := pd_ad G (k0 + 1)) (As := As.map (pd_up G)) (rest := rest.map (pd_up G)) ⟨hx.1, hx.2.1, hx.2.2.1, hx.2.2.2.1, hts⟩ hcon
    (show CallW Rm s args M.1.cls N.1.cls idx N.1 N.2.1 N.2.2.1 N.2.2.2 (pd_ws N) (pd_rm d1 mc1 ms1) mc1 ms1 As.length from ⟨⟨hb.1, hb.2.1, hb.2.2.1, hb.2.2.2.1, hb.2.2.2.2.1, hb.2.2.2.2.2, hts _ g5.1, hts _ g5.2.1, ⟨g5.2.2.2.1, g5.2.2.2.2.1⟩, pd_len g5, hts _ g2⟩, hts _ g3, hts _ g4⟩)
    ⟨pd_blind G sz hp _, hrec, fun U hU hW => pd_pre G hx.2.2.2.2.2.1 hH (vr (k0 + 1) :: As) U hU hW⟩ rfl (by simp) hl.1 (by
    rw [show (F0 m pc ls (st.map (pd_up G))).stack = st.map (pd_up G) from rfl, hst]; simp [pd_up, va_rf, pd_ad]) (lv_room (by omega)) g1 ⟨by omega, by omega⟩
  refine pd_call hrun hS ?_
  intro v sz' hp' H1 locs1 hR hH1 hS1
  have := k v sz' hp' hR p e Rm s m args below meth c Q hx hq H1 locs1 ls hH1 hS1 hl
  rw [List.map_append] at this
  cases v <;> exact this
theorem pt_ku {N0 : pd_M} {a ci : Nat} {fs : List pv} (h : pd_ku M pc N0 N As.length n) (hcon : pd_C G N d1 mc1 ms1 (vr a :: As) sz hp Rc) (hob : hp a = ob ci fs) (hcl : pd_cn ci = some N.1.cls) (hst : st = As.reverse ++ vr a :: rest) (hr : rest.length ≤ 4) (hd : d1 + 1 ≤ d) (hce : ce + mc1 ≤ mc) (hsl : sl + ms1 ≤ ms) (k : ∀ (v : Option pv) (sz' : Nat) (hp' : pd_P), Rc v sz' hp' → pd_T G M d mc ms X R n lv (v.toList ++ rest) sz' (ce + mc1) (sl + ms1) hp') : pd_T G M d mc ms X R pc lv st sz ce sl hp := by
  intro p e Rm s m args below meth c Q hx hq H locs ls hH hS hl
  have hts := hx.2.2.2.2.1
  have hcat := pd_words G rest
  obtain ⟨r1, r2, r3, r4⟩ := hx.2.2.2.2.2.2.1
  obtain ⟨idx, ⟨g1, rfl⟩, g2, g3, g4, g6, g7, g0, g5, g8⟩ := h
  have hne : ci ≠ 99 := by rintro rfl; simp [pd_cn] at hcl
  obtain ⟨k0, rfl, hk0⟩ := pd_lt hH (a := a) (by rw [hob]; intro q; exact hne (congrArg Prod.fst (Sum.inr.inj q)))
  have hw := pd_w_get (G := G) (hp := hp) hk0
  rw [hob] at hw
  obtain ⟨q, hq1, hq2⟩ : ∃ q : vw_C, pd_cl[ci]? = some q ∧ q.1 = N.1.cls := by
    unfold pd_cn at hcl
    cases hz : pd_cl[ci]? with
    | none => rw [hz] at hcl; cases hcl
    | some q => rw [hz] at hcl; exact ⟨q, rfl, Option.some.inj hcl⟩
  have hrec := va_recv (q0 := k0) hx.2.2.2.2.2.1.1 hH.2.1 hq1 hw
  rw [hq2] at hrec
  have hb := pd_back (d1 := d1) (mc1 := mc1) (ms1 := ms1) G hx g5 hd
  have hrun : va_Run p G.1 e Rm s m args below meth c H locs ce sl mc1 ms1 (F0 m pc ls (st.map (pd_up G))) (rest.map (pd_up G)) (pd_Qc G Rc ((vr (k0 + 1) :: As).map (pd_up G)).toArray) (pd_A G) := va_runU (g := F0 m pc ls (st.map (pd_up G))) (b := pd_ad G (k0 + 1)) (As := As.map (pd_up G)) (rest := rest.map (pd_up G)) ⟨hx.1, hx.2.1, hx.2.2.1, hx.2.2.2.1, hts⟩ hcon
    (show va_CU Rm s args M.1.cls N.1.cls N0.1.cls idx N0.1 N.1 N.2.1 N.2.2.1 N.2.2.2 (pd_ws N) (pd_rm d1 mc1 ms1) mc1 ms1 As.length from ⟨hb, hts _ g5.1, hts _ g5.2.1, ⟨g0.2.2.2.1, g0.2.2.2.2.1⟩, pd_len g0, hts _ g2, hts _ g3, va_Decl.of (hts _ g4) (hts _ g0.1), hts _ g6, hts _ g7⟩)
    ⟨pd_blind G sz hp _, hrec, fun U hU hW => pd_pre G hx.2.2.2.2.2.1 hH (vr (k0 + 1) :: As) U hU hW⟩ rfl (by simp) hl.1 (by
    rw [show (F0 m pc ls (st.map (pd_up G))).stack = st.map (pd_up G) from rfl, hst]; simp [pd_up, va_rf, pd_ad]) (lv_room (by omega)) g1 ⟨by omega, by omega⟩
  refine pd_call hrun hS ?_
  intro v sz' hp' H1 locs1 hR hH1 hS1
  have := k v sz' hp' hR p e Rm s m args below meth c Q hx hq H1 locs1 ls hH1 hS1 hl
  rw [List.map_append] at this
  cases v <;> exact this
theorem pt_ks (h : pd_ks M pc N As.length n) (hcon : pd_C G N d1 mc1 ms1 As sz hp Rc) (hst : st = As.reverse ++ rest) (hr : rest.length ≤ 4) (hd : d1 + 1 ≤ d) (hce : ce + mc1 ≤ mc) (hsl : sl + ms1 ≤ ms) (k : ∀ (v : Option pv) (sz' : Nat) (hp' : pd_P), Rc v sz' hp' → pd_T G M d mc ms X R n lv (v.toList ++ rest) sz' (ce + mc1) (sl + ms1) hp') : pd_T G M d mc ms X R pc lv st sz ce sl hp := by
  intro p e Rm s m args below meth c Q hx hq H locs ls hH hS hl
  have hts := hx.2.2.2.2.1
  have hcat := pd_words G rest
  obtain ⟨r1, r2, r3, r4⟩ := hx.2.2.2.2.2.2.1
  obtain ⟨idx, ⟨g1, rfl⟩, g2, g3, g5⟩ := h
  have hb := pd_back (d1 := d1) (mc1 := mc1) (ms1 := ms1) G hx g5 hd
  have hrun : va_Run p G.1 e Rm s m args below meth c H locs ce sl mc1 ms1 (F0 m pc ls (st.map (pd_up G))) (rest.map (pd_up G)) (pd_Qc G Rc (As.map (pd_up G)).toArray) (pd_A G) := by
    rcases g2 with g2 | ⟨host, g2⟩
    · exact va_runS (g := F0 m pc ls (st.map (pd_up G))) (As := As.map (pd_up G)) (rest := rest.map (pd_up G)) ⟨hx.1, hx.2.1, hx.2.2.1, hx.2.2.2.1, hts⟩ hcon
        (show CallB Rm s args M.1.cls idx N.1 N.2.1 N.2.2.1 N.2.2.2 (pd_ws N) (pd_rm d1 mc1 ms1) mc1 ms1 As.length ∧ (Cond.static N.1).before args s = true from ⟨⟨hb.1, hb.2.1, hb.2.2.1, hb.2.2.2.1, hb.2.2.2.2.1, hb.2.2.2.2.2, hts _ g5.1, hts _ g5.2.1, ⟨g5.2.2.2.1, g5.2.2.2.2.1⟩, pd_len g5, hts _ g2⟩, hts _ g3⟩)
        ⟨pd_blind G sz hp _, fun U hU hW => pd_pre G hx.2.2.2.2.2.1 hH As U hU hW⟩ rfl (by simp) hl.1 (by
        rw [show (F0 m pc ls (st.map (pd_up G))).stack = st.map (pd_up G) from rfl, hst]; simp) (lv_room (by omega)) g1 ⟨by omega, by omega⟩
    · exact va_runSN (g := F0 m pc ls (st.map (pd_up G))) (As := As.map (pd_up G)) (rest := rest.map (pd_up G)) ⟨hx.1, hx.2.1, hx.2.2.1, hx.2.2.2.1, hts⟩ hcon
        (show va_CN Rm s args M.1.cls idx N.1 host N.2.1 N.2.2.1 N.2.2.2 (pd_ws N) (pd_rm d1 mc1 ms1) mc1 ms1 As.length ∧ (Cond.static N.1).before args s = true ∧ True from ⟨⟨hb, hts _ g5.1, hts _ g5.2.1, ⟨g5.2.2.2.1, g5.2.2.2.2.1⟩, pd_len g5, va_Nw.use rfl (hx.2.2.2.2.2.1.2.1 _ g2)⟩, hts _ g3, trivial⟩)
        ⟨pd_blind G sz hp _, fun U hU hW => pd_pre G hx.2.2.2.2.2.1 hH As U hU hW⟩ rfl (by simp) hl.1 (by
        rw [show (F0 m pc ls (st.map (pd_up G))).stack = st.map (pd_up G) from rfl, hst]; simp) (lv_room (by omega)) g1 ⟨by omega, by omega⟩
  refine pd_call hrun hS ?_
  intro v sz' hp' H1 locs1 hR hH1 hS1
  have := k v sz' hp' hR p e Rm s m args below meth c Q hx hq H1 locs1 ls hH1 hS1 hl
  rw [List.map_append] at this
  cases v <;> exact this
theorem pt_kI {a : Nat} (h : pd_kI M pc N As.length n) (hcon : pd_C G N d1 mc1 ms1 (vr (a + 1) :: As) sz hp Rc) (hst : st = As.reverse ++ vr (a + 1) :: rest) (hr : rest.length ≤ 4) (hd : d1 + 1 ≤ d) (hce : ce + mc1 ≤ mc) (hsl : sl + ms1 ≤ ms) (k : ∀ (v : Option pv) (sz' : Nat) (hp' : pd_P), Rc v sz' hp' → pd_T G M d mc ms X R n lv (v.toList ++ rest) sz' (ce + mc1) (sl + ms1) hp') : pd_T G M d mc ms X R pc lv st sz ce sl hp := by
  intro p e Rm s m args below meth c Q hx hq H locs ls hH hS hl
  have hts := hx.2.2.2.2.1
  have hcat := pd_words G rest
  obtain ⟨r1, r2, r3, r4⟩ := hx.2.2.2.2.2.2.1
  obtain ⟨idx, ⟨g1, rfl⟩, g2, g3, g4, g6, g5⟩ := h
  have hb := pd_back (d1 := d1) (mc1 := mc1) (ms1 := ms1) G hx g5 hd
  have hrun : va_Run p G.1 e Rm s m args below meth c H locs ce sl mc1 ms1 (F0 m pc ls (st.map (pd_up G))) (rest.map (pd_up G)) (pd_Qc G Rc ((vr (a + 1) :: As).map (pd_up G)).toArray) (pd_A G) := by
    have hcd : Cond.code N.1 N.2.1 N.2.2.1 none = Cond.code N.1 N.2.1 N.2.2.1 N.2.2.2 := by rw [g6]
    rcases g2 with g2 | ⟨host, g2⟩
    · exact va_runI (g := F0 m pc ls (st.map (pd_up G))) (b := pd_ad G (a + 1)) (As := As.map (pd_up G)) (rest := rest.map (pd_up G)) ⟨hx.1, hx.2.1, hx.2.2.1, hx.2.2.2.1, hts⟩ hcon
        (show CallB Rm s args M.1.cls idx N.1 N.2.1 N.2.2.1 none (pd_ws N) (pd_rm d1 mc1 ms1) mc1 ms1 As.length ∧ N.1.name = "<init>" ∧ (Cond.instanceMethod N.1).before args s = true from ⟨⟨hb.1, hb.2.1, hb.2.2.1, hb.2.2.2.1, hb.2.2.2.2.1, by rw [hcd]; exact hb.2.2.2.2.2, by rw [hcd]; exact hts _ g5.1, hts _ g5.2.1, ⟨g5.2.2.2.1, g5.2.2.2.2.1⟩, pd_len g5, hts _ g2⟩, g4, hts _ g3⟩)
        ⟨pd_blind G sz hp _, fun U hU hW => pd_pre G hx.2.2.2.2.2.1 hH (vr (a + 1) :: As) U hU hW⟩ rfl (by simp) hl.1 (by
        rw [show (F0 m pc ls (st.map (pd_up G))).stack = st.map (pd_up G) from rfl, hst]; simp [pd_up, va_rf, pd_ad]) (lv_room (by omega)) g1 ⟨by omega, by omega⟩
    · exact va_runIN (g := F0 m pc ls (st.map (pd_up G))) (b := pd_ad G (a + 1)) (As := As.map (pd_up G)) (rest := rest.map (pd_up G)) ⟨hx.1, hx.2.1, hx.2.2.1, hx.2.2.2.1, hts⟩ hcon
        (show va_CN Rm s args M.1.cls idx N.1 host N.2.1 N.2.2.1 none (pd_ws N) (pd_rm d1 mc1 ms1) mc1 ms1 As.length ∧ N.1.name = "<init>" ∧ (Cond.instanceMethod N.1).before args s = true from ⟨⟨⟨hb.1, hb.2.1, hb.2.2.1, hb.2.2.2.1, hb.2.2.2.2.1, by rw [hcd]; exact hb.2.2.2.2.2⟩, by rw [hcd]; exact hts _ g5.1, hts _ g5.2.1, ⟨g5.2.2.2.1, g5.2.2.2.2.1⟩, pd_len g5, va_Nw.use rfl (hx.2.2.2.2.2.1.2.1 _ g2)⟩, g4, hts _ g3⟩)
        ⟨pd_blind G sz hp _, fun U hU hW => pd_pre G hx.2.2.2.2.2.1 hH (vr (a + 1) :: As) U hU hW⟩ rfl (by simp) hl.1 (by
        rw [show (F0 m pc ls (st.map (pd_up G))).stack = st.map (pd_up G) from rfl, hst]; simp [pd_up, va_rf, pd_ad]) (lv_room (by omega)) g1 ⟨by omega, by omega⟩
  refine pd_call hrun hS ?_
  intro v sz' hp' H1 locs1 hR hH1 hS1
  have := k v sz' hp' hR p e Rm s m args below meth c Q hx hq H1 locs1 ls hH1 hS1 hl
  rw [List.map_append] at this
  cases v <;> exact this
theorem pt_kU {a ci : Nat} {fs : List pv} {C : String} (h : pd_kU M pc N As.length n) (hcon : pd_C G N d1 mc1 ms1 (vr a :: As) sz hp Rc) (hob : hp a = ob ci fs) (hcl : pd_cn ci = some C) (hst : st = As.reverse ++ vr a :: rest) (hr : rest.length ≤ 4) (hd : d1 + 1 ≤ d) (hce : ce + mc1 ≤ mc) (hsl : sl + ms1 ≤ ms) (k : ∀ (v : Option pv) (sz' : Nat) (hp' : pd_P), Rc v sz' hp' → pd_T G M d mc ms X R n lv (v.toList ++ rest) sz' (ce + mc1) (sl + ms1) hp') : pd_T G M d mc ms X R pc lv st sz ce sl hp := by
  intro p e Rm s m args below meth c Q hx hq H locs ls hH hS hl
  have hts := hx.2.2.2.2.1
  have hcat := pd_words G rest
  obtain ⟨r1, r2, r3, r4⟩ := hx.2.2.2.2.2.2.1
  obtain ⟨idx, ⟨g1, rfl⟩, g2, g3, g4, g6, g7, g5⟩ := h
  have hne : ci ≠ 99 := by rintro rfl; simp [pd_cn] at hcl
  obtain ⟨k0, rfl, hk0⟩ := pd_lt hH (a := a) (by rw [hob]; intro q; exact hne (congrArg Prod.fst (Sum.inr.inj q)))
  have hw := pd_w_get (G := G) (hp := hp) hk0
  rw [hob] at hw
  obtain ⟨q, hq1, hq2⟩ : ∃ q : vw_C, pd_cl[ci]? = some q ∧ q.1 = C := by
    unfold pd_cn at hcl
    cases hz : pd_cl[ci]? with
    | none => rw [hz] at hcl; cases hcl
    | some q => rw [hz] at hcl; exact ⟨q, rfl, Option.some.inj hcl⟩
  have hrec := va_recv (q0 := k0) hx.2.2.2.2.2.1.1 hH.2.1 hq1 hw
  rw [hq2] at hrec
  have hb := pd_back (d1 := d1) (mc1 := mc1) (ms1 := ms1) G hx g5 hd
  have hat := (hx.2.2.2.2.2.1.1.1 ci q hq1).2
  rw [hq2] at hat
  have hrun : va_Run p G.1 e Rm s m args below meth c H locs ce sl mc1 ms1 (F0 m pc ls (st.map (pd_up G))) (rest.map (pd_up G)) (pd_Qc G Rc ((vr (k0 + 1) :: As).map (pd_up G)).toArray) (pd_A G) := va_runSU (g := F0 m pc ls (st.map (pd_up G))) (b := pd_ad G (k0 + 1)) (As := As.map (pd_up G)) (rest := rest.map (pd_up G)) hat ⟨hx.1, hx.2.1, hx.2.2.1, hx.2.2.2.1, hts⟩ hcon
    (show va_CS Rm s args M.1.cls idx N.1 N.2.1 N.2.2.1 N.2.2.2 (pd_ws N) (pd_rm d1 mc1 ms1) mc1 ms1 As.length from ⟨hb, hts _ g2, hts _ g3, hts _ g4, hts _ g6, hts _ g5.2.1, hts _ g5.1, g7, pd_len g5⟩)
    ⟨pd_blind G sz hp _, hrec, fun U hU hW => pd_pre G hx.2.2.2.2.2.1 hH (vr (k0 + 1) :: As) U hU hW⟩ rfl (by simp) hl.1 (by
    rw [show (F0 m pc ls (st.map (pd_up G))).stack = st.map (pd_up G) from rfl, hst]; simp [pd_up, va_rf, pd_ad]) (lv_room (by omega)) g1 ⟨by omega, by omega⟩
  refine pd_call hrun hS ?_
  intro v sz' hp' H1 locs1 hR hH1 hS1
  have := k v sz' hp' hR p e Rm s m args below meth c Q hx hq H1 locs1 ls hH1 hS1 hl
  rw [List.map_append] at this
  cases v <;> exact this
end PDK
end
section
theorem ac_int : Cond.arrayClass .int ∈ pd_tbl := pd_m 102 (by decide +kernel) (by decide +kernel)
theorem ac_byte : Cond.arrayClass .byte ∈ pd_tbl := pd_m 822 (by decide +kernel) (by decide +kernel)
theorem ac_bool : Cond.arrayClass .boolean ∈ pd_tbl := pd_m 182 (by decide +kernel) (by decide +kernel)
theorem oi_inst : Cond.instanceMethod objectInit ∈ pd_tbl := pd_m 67 (by decide +kernel) (by decide +kernel)
theorem oi_code : Cond.code objectInit ⟨#[0xb1]⟩ 1 none ∈ pd_tbl := pd_m 68 (by decide +kernel) (by decide +kernel)
/-! making, copying, references into rows -/
def pd_df (ci : Nat) (fs : List pv) : Prop := ∃ (C : String) (T : u_T) (N : Nat) (ty0 : Nat → FieldType), pd_cl[ci]? = some (C, T, N) ∧ (∀ w ∈ u_ws C T N, w ∈ pd_tbl) ∧ (∀ k, k < N → parseFieldDescriptor (T k).2.2.1 = some (ty0 k)) ∧ fs.length = N ∧ (∀ (G : pd_G) (j : Nat), j < N → defaultValue (ty0 j) = vp_V (fs.map (pd_up G)) j) ∧ Cond.instantiable C N ∈ pd_tbl ∧ Cond.initialized C ∈ pd_tbl
def pd_nwi (M : pd_M) (pc ci n : Nat) : Prop := ∃ idx, pd_i M pc (.new idx) 3 n ∧ ∃ C, pd_cn ci = some C ∧ Cond.classLink M.1.cls idx C ∈ pd_tbl
theorem pd_H.push {G : pd_G} {sz : Nat} {hp : pd_P} {H H1 : Heap} {e : pd_E} (hH : pd_H G sz hp H) (hz : H1.size = H.size + 1) (ho : ∀ q : Nat, q < H.size → H1[q]? = H[q]?) (he : va_at G.2.1 pd_cl (G.2.2.2.1 + sz, pd_e G e) H1) : pd_H G (sz + 1) (va_up hp (sz + 1) e) H1 := by
  refine ⟨by rw [hz, hH.1]; omega, ?_, fun j hj => ?_⟩
  · rw [← pd_w_push]
    refine va_P.app (hH.2.1.kept fun k q hk => ho q.1 ((hH.2.1 k q hk).lt)) (fun k q hk => ?_)
    have hz : k < 1 := (List.getElem?_eq_some_iff.mp hk).1
    rw [show k = 0 by omega] at hk
    cases hk
    exact he
  · rw [va_up_ne _ _ (by omega)]
    exact hH.2.2 j (by omega)
theorem pd_S.push {G : pd_G} {s : State} {H H1 : Heap} {locs : List Loc} (hS : va_S (pd_A G) s.heap H locs) (hz : H1.size = H.size + 1) (ho : ∀ q : Nat, q < H.size → H1[q]? = H[q]?) : va_S (pd_A G) s.heap H1 locs :=
  ⟨Nat.le_trans hS.1 (by omega), fun x h1 h2 => (ho x (Nat.lt_of_lt_of_le h1 hS.1)).trans (hS.2.1 x h1 h2), hS.2.2⟩
section PDNEW
variable {G : pd_G} {M : pd_M} {d mc ms : Nat} {X : Option (Nat × (Nat → Int))} {R : pd_R} {pc n t : Nat} {lv : List (Option pv)} {st : List pv} {sz ce sl : Nat} {hp : pd_P}
theorem pt_new {ci : Nat} {fs : List pv} (h : pd_nwi M pc ci n) (hd0 : pd_df ci fs) (hce : ce + 1 ≤ mc) (hsl : sl + fs.length ≤ ms) (k : pd_T G M d mc ms X R n lv (vr (sz + 1) :: st) (sz + 1) (ce + 1) (sl + fs.length) (va_up hp (sz + 1) (ob ci fs))) : pd_T G M d mc ms X R pc lv st sz ce sl hp := by
  intro p e Rm s m args below meth c Q hx hq H locs ls hH hS hl
  obtain ⟨idx, ⟨g1, rfl⟩, C0, g2, g3⟩ := h
  obtain ⟨C, T, N, ty0, f1, f2, f3, f4, f5, f6, f7⟩ := hd0
  have hC : C0 = C := by
    unfold pd_cn at g2
    rw [f1] at g2
    exact (Option.some.inj g2).symm
  subst hC
  have hts := hx.2.2.2.2.1
  obtain ⟨r1, r2, r3, r4⟩ := hx.2.2.2.2.2.2.1
  have hKn := hx.2.2.2.2.2.1.1.1 ci _ f1
  rw [f4] at hsl k
  refine W.newcK hx.1 hx.2.1 hx.2.2.2.1 (hts _ g3) (hts _ f6) (hts _ f7) rfl g1 (by omega) (by omega) hKn.2.1 hH.1 fun H1 kC hkC e1 z1 o1 => ?_
  have ho : ∀ q : Nat, q < H.size → H1[q]? = H[q]? := fun q hq2 => o1 q (by rw [← hH.1]; exact hq2)
  have hz : H1.size = H.size + 1 := by rw [z1, hH.1]
  refine k p e Rm s m args below meth c Q hx hq H1 locs ls (pd_H.push hH hz ho ?_) (pd_S.push hS hz ho) hl
  exact ⟨_, f1, (u_born ty0 hts f2 hKn hkC e1 f3).to (f5 G)⟩
theorem pt_newa {at0 : ArrayType} {kd N : Nat} {z : Int} (h : pd_i M pc (.newarray at0) 2 n) (hk : (at0 = .int ∧ kd = 0) ∨ (at0 = .byte ∧ kd = 1) ∨ (at0 = .boolean ∧ kd = 2)) (hz : z = (N : Int)) (hN : N ≤ 65536) (hce : ce + 1 ≤ mc) (hsl : sl + N ≤ ms) (k : pd_T G M d mc ms X R n lv (vr (sz + 1) :: st) (sz + 1) (ce + 1) (sl + N) (va_up hp (sz + 1) (.inl (kd, N, .inl (fun _ => 0))))) : pd_T G M d mc ms X R pc lv (vi z :: st) sz ce sl hp := by
  intro p e Rm s m args below meth c Q hx hq H locs ls hH hS hl
  obtain ⟨g1, rfl⟩ := h
  subst hz
  have hts := hx.2.2.2.2.1
  obtain ⟨r1, r2, r3, r4⟩ := hx.2.2.2.2.2.2.1
  have hcl : (jI (N : Int)).toNatClampNeg = N := by
    rw [jI_cl (n := 65537) (by omega) (by omega) (by decide)]
    simp
  have hneg : ¬ jI (N : Int) < 0 := by
    intro hh
    have hh2 : jI (N : Int) < jI 0 := hh
    rw [jI_lt ⟨by omega, by omega⟩ jR_0] at hh2
    omega
  have hcases : (Cond.arrayClass (newarray.typeOf at0)).before args s = true ∧ (pd_ty G)[kd]? = some (G.2.2.1 kd, newarray.typeOf at0) ∧ N * componentBytes (newarray.typeOf at0) ≤ 536870912 ∧ defaultValue (newarray.typeOf at0) = .int (jI 0) := by
    rcases hk with ⟨rfl, rfl⟩ | ⟨rfl, rfl⟩ | ⟨rfl, rfl⟩
    · exact ⟨hts _ ac_int, rfl, by show N * 4 ≤ _; omega, rfl⟩
    · exact ⟨hts _ ac_byte, rfl, by show N * 1 ≤ _; omega, rfl⟩
    · exact ⟨hts _ ac_bool, rfl, by show N * 1 ≤ _; omega, rfl⟩
  obtain ⟨k1, k2, k3, k4⟩ := hcases
  refine va_newaK hx.1 hx.2.1 k1 rfl g1 rfl hneg hcl k3 (by omega) (by omega) hH.1 fun H1 cA e1 z1 o1 hAr hNm => ?_
  have hRA := (hx.2.2.2.2.2.1.1.2 kd _ k2).2
  have hcA : cA = G.2.2.1 kd := by
    rcases hk with ⟨rfl, rfl⟩ | ⟨rfl, rfl⟩ | ⟨rfl, rfl⟩ <;> exact Option.some.inj (hNm.symm.trans hRA)
  subst hcA
  have ho : ∀ q : Nat, q < H.size → H1[q]? = H[q]? := fun q hq2 => o1 q (by rw [← hH.1]; exact hq2)
  have hz : H1.size = H.size + 1 := by rw [z1, hH.1]
  refine k p e Rm s m args below meth c Q hx hq H1 locs ls (pd_H.push hH hz ho ?_) (pd_S.push hS hz ho) hl
  show H1[_]? = some (vp_cell _ _)
  rw [vp_cell_i]
  rw [k4] at e1
  exact e1
theorem pt_newq {kd N : Nat} {C : String} {z : Int} (h : ∃ idx, pd_i M pc (.anewarray idx) 3 n ∧ Cond.classLink M.1.cls idx C ∈ pd_tbl) (hk : (kd = 3 ∧ C = "PantryDoors$Life") ∨ (kd = 4 ∧ C = "PantryDoors$State") ∨ (kd = 5 ∧ C = "PantryDoors$Good")) (hz : z = (N : Int)) (hN : N ≤ 65536) (hce : ce + 1 ≤ mc) (hsl : sl + N ≤ ms) (k : pd_T G M d mc ms X R n lv (vr (sz + 1) :: st) (sz + 1) (ce + 1) (sl + N) (va_up hp (sz + 1) (ra kd N (fun _ => none)))) : pd_T G M d mc ms X R pc lv (vi z :: st) sz ce sl hp := by
  intro p e Rm s m args below meth c Q hx hq H locs ls hH hS hl
  obtain ⟨idx, ⟨g1, rfl⟩, g2⟩ := h
  subst hz
  have hts := hx.2.2.2.2.1
  obtain ⟨r1, r2, r3, r4⟩ := hx.2.2.2.2.2.2.1
  have hcl : (jI (N : Int)).toNatClampNeg = N := by
    rw [jI_cl (n := 65537) (by omega) (by omega) (by decide)]
    simp
  have hneg : ¬ jI (N : Int) < 0 := by
    intro hh
    have hh2 : jI (N : Int) < jI 0 := hh
    rw [jI_lt ⟨by omega, by omega⟩ jR_0] at hh2
    omega
  have hcases : va_AO C s ∧ (pd_ty G)[kd]? = some (G.2.2.1 kd, .object C) := by
    rcases hk with ⟨rfl, rfl⟩ | ⟨rfl, rfl⟩ | ⟨rfl, rfl⟩
    · exact ⟨hx.2.2.2.2.2.1.2.2.1, rfl⟩
    · exact ⟨hx.2.2.2.2.2.1.2.2.2.1, rfl⟩
    · exact ⟨hx.2.2.2.2.2.1.2.2.2.2, rfl⟩
  obtain ⟨k1, k2⟩ := hcases
  refine W.anew hx.1 hx.2.1 hx.2.2.2.1 (hts _ g2) (va_AO.use k1) rfl g1 rfl hneg (by rw [hcl]; omega) (by omega) (by rw [hcl]; omega) fun cA kA comp f1 f2 f3 f4 => ?_
  obtain ⟨kA2, comp2, m1, m2, m3, m4⟩ := (hx.2.2.2.2.2.1.1.2 kd _ k2).2
  have hcA : cA = G.2.2.1 kd := Option.some.inj (f1.symm.trans m4)
  subst hcA
  rw [hcl]
  generalize hH1 : H.push ({ cls := G.2.2.1 kd, slots := Array.replicate N .null, vm := .none } : Cell) = H1
  have z1 : H1.size = H.size + 1 := by rw [← hH1, Array.size_push]
  have e1 : H1[H.size]? = some (arrV (G.2.2.1 kd) N (fun _ => .null)) := by rw [← hH1, Array.getElem?_push_size, ← arrV_new]
  have o1 : ∀ q : Nat, q < H.size → H1[q]? = H[q]? := fun q hq => by rw [← hH1, Array.getElem?_push, if_neg (Nat.ne_of_lt hq)]
  have hadr : (Value.ref H.size : Value) = pd_up G (vr (sz + 1)) := by rw [hH.1]; rfl
  rw [hadr]
  refine k p e Rm s m args below meth c Q hx hq H1 locs ls (pd_H.push hH z1 o1 ?_) (pd_S.push hS z1 o1) hl
  show H1[_]? = some (vp_cell _ _)
  rw [vp_cell_q, ← hH.1]
  exact e1
theorem pt_aast {a kd N v ci : Nat} {C : String} {f : Int → Option Nat} {fs : List pv} {z : Int} (h : pd_i M pc .aastore 1 n) (hc : hp a = ra kd N f) (hty : (pd_ty G)[kd]? = some (G.2.2.1 kd, .object C)) (h0 : 0 ≤ z) (hz : z < N) (hN : (N : Int) ≤ 2147483648) (hv : hp v = ob ci fs) (hcn : ∃ D, pd_cn ci = some D ∧ (D = C ∨ Cond.castable D C ∈ pd_tbl)) (k : pd_T G M d mc ms X R n lv st sz ce sl (va_up hp a (ra kd N (uI f z (some v))))) : pd_T G M d mc ms X R pc lv (vr v :: vi z :: vr a :: st) sz ce sl hp := by
  intro p e Rm s m args below meth c Q hx hq H locs ls hH hS hl
  obtain ⟨h1, rfl⟩ := h
  obtain ⟨k0, rfl, hk0⟩ := pd_lt hH (a := a) (by rw [hc]; intro q; cases q)
  have hw := pd_w_get (G := G) (hp := hp) hk0
  rw [hc] at hw
  obtain ⟨DD, hD1, hD2⟩ := hcn
  have hne : ci ≠ 99 := by rintro rfl; simp [pd_cn] at hD1
  obtain ⟨kv, rfl, hkv⟩ := pd_lt hH (a := v) (by rw [hv]; intro q; exact hne (congrArg Prod.fst (Sum.inr.inj q)))
  have hwv := pd_w_get (G := G) (hp := hp) hkv
  rw [hv] at hwv
  have hcl := jI_cl h0 hz hN
  have hin := jI_in h0 hz hN
  obtain ⟨r', hr', cellV, q1, q2, q3, -⟩ := hH.2.1 kv _ hwv
  have hrn : r'.1 = DD := by
    unfold pd_cn at hD1
    rw [hr'] at hD1
    exact Option.some.inj hD1
  have hcls := (hx.2.2.2.2.2.1.1.1 ci r' hr').2
  rw [hrn] at hcls
  obtain ⟨kA, comp, k1, k2, k3, -⟩ := (hx.2.2.2.2.2.1.1.2 kd _ hty).2
  obtain ⟨kE, hkE, -⟩ := Vm.findClass_spec k3
  have hasg : s.vm.assignable (G.2.1.1 ci) comp = true := by
    rcases hD2 with rfl | hD2
    · have : comp = G.2.1.1 ci := Option.some.inj (k3.symm.trans hcls.1)
      rw [this]
      exact va_assign hcls
    · obtain ⟨c0, t1, f1, f2, f3⟩ := Cond.castable_spec (hx.2.2.2.2.1 _ hD2)
      cases hcls.1.symm.trans f1
      cases k3.symm.trans f2
      exact f3
  obtain ⟨kC, hkC, -⟩ := hcls.2
  refine W.aast hx.1 hx.2.1 (hH.2.1 k0 _ hw) (fun q h => by cases h) (fun h => by cases h) k1 k2 rfl hkE ⟨fun q => hin (Or.inl q), by show _ < (arrV _ _ _).slots.size; rw [arrV_size]; exact Nat.not_le.mp fun q => hin (Or.inr q)⟩ q1 (fun q h => by rw [q3] at h; cases h) (by rw [q2]; exact hkC) (by rw [q2]; exact hasg) rfl rfl h1 fun H1 e1 z1 oq => ?_
  refine k p e Rm s m args below meth c Q hx hq H1 _ ls (pd_H.set hH hk0 z1 (hH.2.1.set (pd_w_D G sz hp) hw ?_ oq)) (hS.put z1 oq (Nat.le_add_right _ _)) hl
  show H1[_]? = some (vp_cell _ _)
  rw [e1]
  rw [vp_cell_q, vp_cell_q, arrV_store]
  congr 2
  funext q
  by_cases hqz : q = (jI z).toNatClampNeg
  · subst hqz
    simp [updV, uI, hcl, Int.toNat_of_nonneg h0, va_rf, pd_ad]
  · have hq2 : ¬ (q : Int) = z := fun w => hqz (by rw [hcl]; omega)
    simp [updV, uI, hqz, hq2]
theorem pt_oinit {a : Nat} (h : ∃ idx, pd_i M pc (.invokespecial idx) 3 n ∧ Cond.methodLink M.1.cls idx objectInit ∈ pd_tbl) (hd : 1 ≤ d) (hr : st.length ≤ 8) (k : pd_T G M d mc ms X R n lv st sz ce sl hp) : pd_T G M d mc ms X R pc lv (vr (a + 1) :: st) sz ce sl hp := by
  intro p e Rm s m args below meth c Q hx hq H locs ls hH hS hl
  obtain ⟨idx, ⟨g1, rfl⟩, g2⟩ := h
  have hts := hx.2.2.2.2.1
  obtain ⟨r1, r2, r3, r4⟩ := hx.2.2.2.2.2.2.1
  have hcat := pd_words G st
  exact W.objInit hx.1 hx.2.1 hx.2.2.2.1 (hts _ g2) (hts _ oi_inst) (hts _ oi_code) rfl (by rw [hx.2.2.1]; exact hl.1) rfl g1 (by omega) (by show 2 * 0 + _ + 12 ≤ _; omega) (k p e Rm s m args below meth c Q hx hq H locs ls hH hS hl)
end PDNEW
end
section
theorem cp_nat : Cond.native arraycopyName ∈ pd_tbl := pd_m 493 (by decide +kernel) (by decide +kernel)
theorem cp_st : Cond.static arraycopyName ∈ pd_tbl := pd_m 492 (by decide +kernel) (by decide +kernel)
theorem cp_in : Cond.initialized "java/lang/System" ∈ pd_tbl := pd_m 60 (by decide +kernel) (by decide +kernel)
theorem pd_arrV {cA : ClassId} {N : Nat} {f g : Nat → Value} (h : ∀ j, j < N → f j = g j) : arrV cA N f = arrV cA N g := by
  unfold arrV
  congr 1
  congr 1
  funext j
  exact h j.1 j.2
/-- a row's numbers count within its bounds alone -/
theorem pd_H.ext {G : pd_G} {sz : Nat} {hp : pd_P} {H : Heap} {a kd N : Nat} {f g : Int → Int} (hH : pd_H G sz hp H) (hc : hp a = .inl (kd, N, .inl f)) (h : ∀ i : Int, 0 ≤ i → i < N → f i = g i) : pd_H G sz (va_up hp a (.inl (kd, N, .inl g))) H := by
  obtain ⟨k0, rfl, hk0⟩ := pd_lt hH (a := a) (by rw [hc]; intro q; cases q)
  have hw := pd_w_get (G := G) (hp := hp) hk0
  rw [hc] at hw
  refine pd_H.set hH hk0 rfl (hH.2.1.set (pd_w_D G sz hp) hw ?_ (fun q _ => rfl))
  have h1 : H[G.2.2.2.1 + k0]? = some (vp_cell (G.2.2.1 kd) (N, .inl (fun j : Nat => jI (f j)))) := hH.2.1 k0 _ hw
  show H[G.2.2.2.1 + k0]? = some (vp_cell (G.2.2.1 kd) (N, .inl (fun j : Nat => jI (g j))))
  rw [h1, vp_cell_i, vp_cell_i]
  congr 1
  exact pd_arrV (fun j hj => by rw [h j (by omega) (by omega)])
section PDCP
variable {G : pd_G} {M : pd_M} {d mc ms : Nat} {X : Option (Nat × (Nat → Int))} {R : pd_R} {pc n t : Nat} {lv : List (Option pv)} {st : List pv} {sz ce sl : Nat} {hp : pd_P}
theorem pt_ext {a kd N : Nat} {f g : Int → Int} (hc : hp a = .inl (kd, N, .inl f)) (h : ∀ i : Int, 0 ≤ i → i < N → f i = g i) (k : pd_T G M d mc ms X R pc lv st sz ce sl (va_up hp a (.inl (kd, N, .inl g)))) : pd_T G M d mc ms X R pc lv st sz ce sl hp := by
  intro p e Rm s m args below meth c Q hx hq H locs ls hH hS hl
  exact k p e Rm s m args below meth c Q hx hq H locs ls (pd_H.ext hH hc h) hS hl
/-- a whole row of ints over another of its length -/
theorem pt_copy {a0 a1 N : Nat} {f g : Int → Int} {z : Int} (h : ∃ idx, pd_i M pc (.invokestatic idx) 3 n ∧ Cond.methodLink M.1.cls idx arraycopyName ∈ pd_tbl) (hc0 : hp a0 = ia N f) (hc1 : hp a1 = ia N g) (hz : z = (N : Int)) (hN : N ≤ 65536) (hd : 1 ≤ d) (hr : st.length ≤ 8) (k : pd_T G M d mc ms X R n lv st sz ce sl (va_up hp a1 (ia N f))) : pd_T G M d mc ms X R pc lv (vi z :: vi 0 :: vr a1 :: vi 0 :: vr a0 :: st) sz ce sl hp := by
  intro p e Rm s m args below meth c Q hx hq H locs ls hH hS hl
  obtain ⟨idx, ⟨g1, rfl⟩, g2⟩ := h
  subst hz
  obtain ⟨k0, rfl, hk0⟩ := pd_lt hH (a := a0) (by rw [hc0]; intro q; cases q)
  obtain ⟨k1, rfl, hk1⟩ := pd_lt hH (a := a1) (by rw [hc1]; intro q; cases q)
  have hw0 := pd_w_get (G := G) (hp := hp) hk0
  rw [hc0] at hw0
  have hw1 := pd_w_get (G := G) (hp := hp) hk1
  rw [hc1] at hw1
  have hts := hx.2.2.2.2.1
  obtain ⟨r1, r2, r3, r4⟩ := hx.2.2.2.2.2.2.1
  have hcat := pd_words G st
  have hcl : (jI (N : Int)).toNatClampNeg = N := by
    rw [jI_cl (n := 65537) (by omega) (by omega) (by decide)]
    simp
  have hti : (jI (N : Int)).toInt = N := jI_toInt ⟨by omega, by omega⟩
  have hneg : ¬ jI (N : Int) < 0 := by
    intro hh
    have hh2 : jI (N : Int) < jI 0 := hh
    rw [jI_lt ⟨by omega, by omega⟩ jR_0] at hh2
    omega
  have hz0 : ¬ jI 0 < 0 := by decide
  have hz1 : (jI 0).toInt = 0 := by decide
  have hz2 : (jI 0).toNatClampNeg = 0 := by decide
  intro T hT Y
  have e0 : H[G.2.2.2.1 + k0]? = some (vp_cell (G.2.2.1 0) (N, .inl (fun j : Nat => jI (f j)))) := hH.2.1 k0 _ hw0
  have e1 : H[G.2.2.2.1 + k1]? = some (vp_cell (G.2.2.1 0) (N, .inl (fun j : Nat => jI (g j)))) := hH.2.1 k1 _ hw1
  obtain ⟨-, kc, hkc, cm, hkk⟩ := (hx.2.2.2.2.2.1.1.2 0 _ rfl).1 N (fun j : Nat => .int (jI (f j)))
  have hsz : ∀ u : Nat → Int32, (vp_cell (G.2.2.1 0) (N, .inl u)).slots.size = N := fun u => by rw [vp_cell_i]; exact arrV_size _ _ _
  obtain ⟨vm', Y', step⟩ := Y.arraycopy hx.1 hx.2.2.2.1 (hts _ g2) (hts _ cp_nat) (hts _ cp_st) (hts _ cp_in) (src := G.2.2.2.1 + k0) (dst := G.2.2.2.1 + k1) (cs := vp_cell (G.2.2.1 0) (N, .inl (fun j : Nat => jI (f j)))) (cd := vp_cell (G.2.2.1 0) (N, .inl (fun j : Nat => jI (g j)))) (srcPos := jI 0) (destPos := jI 0) (n := jI (N : Int)) (by rw [hT]; exact e0) (by rw [hT]; exact e1)
    (fun _ h => by cases h) (fun _ h => by cases h) (fun h => by cases h) (fun h => by cases h) hkc hkc hkk hkk (by rfl) hz0 hz0 hneg
    (by rw [hsz, hz1, hti]; omega) (by rw [hsz, hz1, hti]; omega)
    (fun vm₁ _ i hi => by
      rw [hcl] at hi
      have e9 : (vp_cell (G.2.2.1 0) (N, .inl (fun j : Nat => jI (f j)))).slots.getD ((jI 0).toNatClampNeg + i) .null = .int (jI (f i)) := by
        rw [hz2, Nat.zero_add, vp_cell_i, Array.getD_eq_getD_getElem?, arrV_read _ _ hi]
        rfl
      rw [e9]
      exact ⟨rfl, trivial⟩)
    (g := F0 m pc ls ((vi (N : Int) :: vi 0 :: vr (k1 + 1) :: vi 0 :: vr (k0 + 1) :: st).map (pd_up G))) rfl (by rw [hx.2.2.1]; exact hl.1) (rest := st.map (pd_up G)) rfl (by rw [hx.2.1]; exact g1) (by omega)
    (by show 2 * 0 + _ + (5 + 2 + 11) ≤ _; omega)
  have ec : copied (vp_cell (G.2.2.1 0) (N, .inl (fun j : Nat => jI (f j)))) (vp_cell (G.2.2.1 0) (N, .inl (fun j : Nat => jI (g j)))) (jI 0) (jI 0) (jI (N : Int)) = vp_cell (G.2.2.1 0) (N, .inl (fun j : Nat => jI (f j))) := by
    have h9 := va_copied (fun z => Value.int z) (G.2.2.1 0) (G.2.2.1 0) (n0 := N) (n1 := N) (sp := (jI 0).toNatClampNeg) (dp := (jI 0).toNatClampNeg) (n := (jI (N : Int)).toNatClampNeg) (fun j : Nat => jI (f j)) (fun j : Nat => jI (g j)) (by rw [hz2, hcl]; omega)
    refine Eq.trans h9 ?_
    rw [vp_cell_i]
    refine pd_arrV (fun j hj => ?_)
    rw [hz2, hcl]
    unfold va_cpy
    rw [if_pos ⟨by omega, by omega⟩, Nat.sub_zero, Nat.zero_add]
  rw [ec] at Y' step
  have hl1 : G.2.2.2.1 + k1 < H.size := (Array.getElem?_eq_some_iff.mp e1).1
  have hheap : ((T.setVm vm').setCell (G.2.2.2.1 + k1) (vp_cell (G.2.2.1 0) (N, .inl (fun j : Nat => jI (f j))))).heap = H.setIfInBounds (G.2.2.2.1 + k1) (vp_cell (G.2.2.1 0) (N, .inl (fun j : Nat => jI (f j)))) := by rw [← hT]; rfl
  have oq : ∀ q : Nat, q ≠ G.2.2.2.1 + k1 → (H.setIfInBounds (G.2.2.2.1 + k1) (vp_cell (G.2.2.1 0) (N, .inl (fun j : Nat => jI (f j)))))[q]? = H[q]? := fun q hq => by simp [Array.getElem?_setIfInBounds, Ne.symm hq]
  have hH2 : pd_H G sz (va_up hp (k1 + 1) (ia N f)) (H.setIfInBounds (G.2.2.2.1 + k1) (vp_cell (G.2.2.1 0) (N, .inl (fun j : Nat => jI (f j))))) := by
    refine pd_H.set hH hk1 (by simp) (hH.2.1.set (pd_w_D G sz hp) hw1 ?_ oq)
    show (H.setIfInBounds _ _)[G.2.2.2.1 + k1]? = some _
    simp [Array.getElem?_setIfInBounds, hl1]
  obtain ⟨t, a1, b1⟩ := k p e Rm s m args below meth c Q hx hq _ _ ls hH2 ⟨by simp; exact hS.1, fun q h1 h2 => by
      rw [oq q (fun e => h2 (by rw [e]; exact Nat.le_add_right _ _))]
      exact hS.2.1 q h1 h2, fun q hq => by
      rcases List.mem_append.mp hq with h | h
      · exact hS.2.2 q h
      · obtain ⟨z, -, hz⟩ := List.mem_map.mp h
        rw [← hz]
        exact Nat.le_add_right _ _⟩ hl _ hheap Y'
  exact ⟨t, step t a1, b1⟩
abbrev pd_pure (r : pv) (sz : Nat) (hp : pd_P) : pd_R := fun v sz' hp' => v = some r ∧ sz' = sz ∧ hp' = hp
variable {N : pd_M} {d1 : Nat} {Rc : pd_R} {rest : List pv}
theorem pt_kv0 {a ci : Nat} {fs : List pv} (h : pd_kv M pc N 0 n) (hcon : pd_C G N d1 0 0 [vr a] sz hp Rc) (hob : hp a = ob ci fs) (hcl : pd_cn ci = some N.1.cls) (hr : rest.length ≤ 4) (hd : d1 + 1 ≤ d) (hce : ce ≤ mc) (hsl : sl ≤ ms) (k : ∀ (v : Option pv) (sz' : Nat) (hp' : pd_P), Rc v sz' hp' → pd_T G M d mc ms X R n lv (v.toList ++ rest) sz' ce sl hp') : pd_T G M d mc ms X R pc lv (vr a :: rest) sz ce sl hp := pt_kv (As := []) (rest := rest) h hcon hob hcl rfl hr hd hce hsl k
theorem pt_kv0r {a ci : Nat} {fs : List pv} {r : pv} (h : pd_kv M pc N 0 n) (hcon : pd_C G N d1 0 0 [vr a] sz hp (pd_pure r sz hp)) (hob : hp a = ob ci fs) (hcl : pd_cn ci = some N.1.cls) (hr : rest.length ≤ 4) (hd : d1 + 1 ≤ d) (hce : ce ≤ mc) (hsl : sl ≤ ms) (k : pd_T G M d mc ms X R n lv (r :: rest) sz ce sl hp) : pd_T G M d mc ms X R pc lv (vr a :: rest) sz ce sl hp := pt_kv (As := []) (rest := rest) h hcon hob hcl rfl hr hd hce hsl (fun v sz' hp' q => by obtain ⟨rfl, rfl, rfl⟩ := q; exact k)
theorem pt_kv1 {x1 : pv} {a ci : Nat} {fs : List pv} (h : pd_kv M pc N 1 n) (hcon : pd_C G N d1 0 0 [vr a, x1] sz hp Rc) (hob : hp a = ob ci fs) (hcl : pd_cn ci = some N.1.cls) (hr : rest.length ≤ 4) (hd : d1 + 1 ≤ d) (hce : ce ≤ mc) (hsl : sl ≤ ms) (k : ∀ (v : Option pv) (sz' : Nat) (hp' : pd_P), Rc v sz' hp' → pd_T G M d mc ms X R n lv (v.toList ++ rest) sz' ce sl hp') : pd_T G M d mc ms X R pc lv (x1 :: vr a :: rest) sz ce sl hp := pt_kv (As := [x1]) (rest := rest) h hcon hob hcl rfl hr hd hce hsl k
theorem pt_kv1r {x1 : pv} {a ci : Nat} {fs : List pv} {r : pv} (h : pd_kv M pc N 1 n) (hcon : pd_C G N d1 0 0 [vr a, x1] sz hp (pd_pure r sz hp)) (hob : hp a = ob ci fs) (hcl : pd_cn ci = some N.1.cls) (hr : rest.length ≤ 4) (hd : d1 + 1 ≤ d) (hce : ce ≤ mc) (hsl : sl ≤ ms) (k : pd_T G M d mc ms X R n lv (r :: rest) sz ce sl hp) : pd_T G M d mc ms X R pc lv (x1 :: vr a :: rest) sz ce sl hp := pt_kv (As := [x1]) (rest := rest) h hcon hob hcl rfl hr hd hce hsl (fun v sz' hp' q => by obtain ⟨rfl, rfl, rfl⟩ := q; exact k)
theorem pt_kv2 {x1 x2 : pv} {a ci : Nat} {fs : List pv} (h : pd_kv M pc N 2 n) (hcon : pd_C G N d1 0 0 [vr a, x1, x2] sz hp Rc) (hob : hp a = ob ci fs) (hcl : pd_cn ci = some N.1.cls) (hr : rest.length ≤ 4) (hd : d1 + 1 ≤ d) (hce : ce ≤ mc) (hsl : sl ≤ ms) (k : ∀ (v : Option pv) (sz' : Nat) (hp' : pd_P), Rc v sz' hp' → pd_T G M d mc ms X R n lv (v.toList ++ rest) sz' ce sl hp') : pd_T G M d mc ms X R pc lv (x2 :: x1 :: vr a :: rest) sz ce sl hp := pt_kv (As := [x1, x2]) (rest := rest) h hcon hob hcl rfl hr hd hce hsl k
theorem pt_kv2r {x1 x2 : pv} {a ci : Nat} {fs : List pv} {r : pv} (h : pd_kv M pc N 2 n) (hcon : pd_C G N d1 0 0 [vr a, x1, x2] sz hp (pd_pure r sz hp)) (hob : hp a = ob ci fs) (hcl : pd_cn ci = some N.1.cls) (hr : rest.length ≤ 4) (hd : d1 + 1 ≤ d) (hce : ce ≤ mc) (hsl : sl ≤ ms) (k : pd_T G M d mc ms X R n lv (r :: rest) sz ce sl hp) : pd_T G M d mc ms X R pc lv (x2 :: x1 :: vr a :: rest) sz ce sl hp := pt_kv (As := [x1, x2]) (rest := rest) h hcon hob hcl rfl hr hd hce hsl (fun v sz' hp' q => by obtain ⟨rfl, rfl, rfl⟩ := q; exact k)
theorem pt_kv3 {x1 x2 x3 : pv} {a ci : Nat} {fs : List pv} (h : pd_kv M pc N 3 n) (hcon : pd_C G N d1 0 0 [vr a, x1, x2, x3] sz hp Rc) (hob : hp a = ob ci fs) (hcl : pd_cn ci = some N.1.cls) (hr : rest.length ≤ 4) (hd : d1 + 1 ≤ d) (hce : ce ≤ mc) (hsl : sl ≤ ms) (k : ∀ (v : Option pv) (sz' : Nat) (hp' : pd_P), Rc v sz' hp' → pd_T G M d mc ms X R n lv (v.toList ++ rest) sz' ce sl hp') : pd_T G M d mc ms X R pc lv (x3 :: x2 :: x1 :: vr a :: rest) sz ce sl hp := pt_kv (As := [x1, x2, x3]) (rest := rest) h hcon hob hcl rfl hr hd hce hsl k
theorem pt_kv3r {x1 x2 x3 : pv} {a ci : Nat} {fs : List pv} {r : pv} (h : pd_kv M pc N 3 n) (hcon : pd_C G N d1 0 0 [vr a, x1, x2, x3] sz hp (pd_pure r sz hp)) (hob : hp a = ob ci fs) (hcl : pd_cn ci = some N.1.cls) (hr : rest.length ≤ 4) (hd : d1 + 1 ≤ d) (hce : ce ≤ mc) (hsl : sl ≤ ms) (k : pd_T G M d mc ms X R n lv (r :: rest) sz ce sl hp) : pd_T G M d mc ms X R pc lv (x3 :: x2 :: x1 :: vr a :: rest) sz ce sl hp := pt_kv (As := [x1, x2, x3]) (rest := rest) h hcon hob hcl rfl hr hd hce hsl (fun v sz' hp' q => by obtain ⟨rfl, rfl, rfl⟩ := q; exact k)
theorem pt_ku3 {N0 : pd_M} {x1 x2 x3 : pv} {a ci : Nat} {fs : List pv} (h : pd_ku M pc N0 N 3 n) (hcon : pd_C G N d1 0 0 [vr a, x1, x2, x3] sz hp Rc) (hob : hp a = ob ci fs) (hcl : pd_cn ci = some N.1.cls) (hr : rest.length ≤ 4) (hd : d1 + 1 ≤ d) (hce : ce ≤ mc) (hsl : sl ≤ ms) (k : ∀ (v : Option pv) (sz' : Nat) (hp' : pd_P), Rc v sz' hp' → pd_T G M d mc ms X R n lv (v.toList ++ rest) sz' ce sl hp') : pd_T G M d mc ms X R pc lv (x3 :: x2 :: x1 :: vr a :: rest) sz ce sl hp := pt_ku (As := [x1, x2, x3]) (rest := rest) h hcon hob hcl rfl hr hd hce hsl k
theorem pt_ku3r {N0 : pd_M} {x1 x2 x3 : pv} {a ci : Nat} {fs : List pv} {r : pv} (h : pd_ku M pc N0 N 3 n) (hcon : pd_C G N d1 0 0 [vr a, x1, x2, x3] sz hp (pd_pure r sz hp)) (hob : hp a = ob ci fs) (hcl : pd_cn ci = some N.1.cls) (hr : rest.length ≤ 4) (hd : d1 + 1 ≤ d) (hce : ce ≤ mc) (hsl : sl ≤ ms) (k : pd_T G M d mc ms X R n lv (r :: rest) sz ce sl hp) : pd_T G M d mc ms X R pc lv (x3 :: x2 :: x1 :: vr a :: rest) sz ce sl hp := pt_ku (As := [x1, x2, x3]) (rest := rest) h hcon hob hcl rfl hr hd hce hsl (fun v sz' hp' q => by obtain ⟨rfl, rfl, rfl⟩ := q; exact k)
theorem pt_kU3 {x1 x2 x3 : pv} {a ci : Nat} {fs : List pv} (h : pd_kU M pc N 3 n) (hcon : pd_C G N d1 0 0 [vr a, x1, x2, x3] sz hp Rc) (hob : hp a = ob ci fs) {C : String} (hcl : pd_cn ci = some C) (hr : rest.length ≤ 4) (hd : d1 + 1 ≤ d) (hce : ce ≤ mc) (hsl : sl ≤ ms) (k : ∀ (v : Option pv) (sz' : Nat) (hp' : pd_P), Rc v sz' hp' → pd_T G M d mc ms X R n lv (v.toList ++ rest) sz' ce sl hp') : pd_T G M d mc ms X R pc lv (x3 :: x2 :: x1 :: vr a :: rest) sz ce sl hp := pt_kU (As := [x1, x2, x3]) (rest := rest) h hcon hob hcl rfl hr hd hce hsl k
theorem pt_kU3r {x1 x2 x3 : pv} {a ci : Nat} {fs : List pv} {r : pv} (h : pd_kU M pc N 3 n) (hcon : pd_C G N d1 0 0 [vr a, x1, x2, x3] sz hp (pd_pure r sz hp)) (hob : hp a = ob ci fs) {C : String} (hcl : pd_cn ci = some C) (hr : rest.length ≤ 4) (hd : d1 + 1 ≤ d) (hce : ce ≤ mc) (hsl : sl ≤ ms) (k : pd_T G M d mc ms X R n lv (r :: rest) sz ce sl hp) : pd_T G M d mc ms X R pc lv (x3 :: x2 :: x1 :: vr a :: rest) sz ce sl hp := pt_kU (As := [x1, x2, x3]) (rest := rest) h hcon hob hcl rfl hr hd hce hsl (fun v sz' hp' q => by obtain ⟨rfl, rfl, rfl⟩ := q; exact k)
theorem pt_ks1 {x1 : pv} (h : pd_ks M pc N 1 n) (hcon : pd_C G N d1 0 0 [x1] sz hp Rc) (hr : rest.length ≤ 4) (hd : d1 + 1 ≤ d) (hce : ce ≤ mc) (hsl : sl ≤ ms) (k : ∀ (v : Option pv) (sz' : Nat) (hp' : pd_P), Rc v sz' hp' → pd_T G M d mc ms X R n lv (v.toList ++ rest) sz' ce sl hp') : pd_T G M d mc ms X R pc lv (x1 :: rest) sz ce sl hp := pt_ks (As := [x1]) (rest := rest) h hcon rfl hr hd hce hsl k
theorem pt_ks1r {x1 : pv} {r : pv} (h : pd_ks M pc N 1 n) (hcon : pd_C G N d1 0 0 [x1] sz hp (pd_pure r sz hp)) (hr : rest.length ≤ 4) (hd : d1 + 1 ≤ d) (hce : ce ≤ mc) (hsl : sl ≤ ms) (k : pd_T G M d mc ms X R n lv (r :: rest) sz ce sl hp) : pd_T G M d mc ms X R pc lv (x1 :: rest) sz ce sl hp := pt_ks (As := [x1]) (rest := rest) h hcon rfl hr hd hce hsl (fun v sz' hp' q => by obtain ⟨rfl, rfl, rfl⟩ := q; exact k)
theorem pt_ks2 {x1 x2 : pv} (h : pd_ks M pc N 2 n) (hcon : pd_C G N d1 0 0 [x1, x2] sz hp Rc) (hr : rest.length ≤ 4) (hd : d1 + 1 ≤ d) (hce : ce ≤ mc) (hsl : sl ≤ ms) (k : ∀ (v : Option pv) (sz' : Nat) (hp' : pd_P), Rc v sz' hp' → pd_T G M d mc ms X R n lv (v.toList ++ rest) sz' ce sl hp') : pd_T G M d mc ms X R pc lv (x2 :: x1 :: rest) sz ce sl hp := pt_ks (As := [x1, x2]) (rest := rest) h hcon rfl hr hd hce hsl k
theorem pt_ks2r {x1 x2 : pv} {r : pv} (h : pd_ks M pc N 2 n) (hcon : pd_C G N d1 0 0 [x1, x2] sz hp (pd_pure r sz hp)) (hr : rest.length ≤ 4) (hd : d1 + 1 ≤ d) (hce : ce ≤ mc) (hsl : sl ≤ ms) (k : pd_T G M d mc ms X R n lv (r :: rest) sz ce sl hp) : pd_T G M d mc ms X R pc lv (x2 :: x1 :: rest) sz ce sl hp := pt_ks (As := [x1, x2]) (rest := rest) h hcon rfl hr hd hce hsl (fun v sz' hp' q => by obtain ⟨rfl, rfl, rfl⟩ := q; exact k)
theorem pt_ks3 {x1 x2 x3 : pv} (h : pd_ks M pc N 3 n) (hcon : pd_C G N d1 0 0 [x1, x2, x3] sz hp Rc) (hr : rest.length ≤ 4) (hd : d1 + 1 ≤ d) (hce : ce ≤ mc) (hsl : sl ≤ ms) (k : ∀ (v : Option pv) (sz' : Nat) (hp' : pd_P), Rc v sz' hp' → pd_T G M d mc ms X R n lv (v.toList ++ rest) sz' ce sl hp') : pd_T G M d mc ms X R pc lv (x3 :: x2 :: x1 :: rest) sz ce sl hp := pt_ks (As := [x1, x2, x3]) (rest := rest) h hcon rfl hr hd hce hsl k
theorem pt_ks3r {x1 x2 x3 : pv} {r : pv} (h : pd_ks M pc N 3 n) (hcon : pd_C G N d1 0 0 [x1, x2, x3] sz hp (pd_pure r sz hp)) (hr : rest.length ≤ 4) (hd : d1 + 1 ≤ d) (hce : ce ≤ mc) (hsl : sl ≤ ms) (k : pd_T G M d mc ms X R n lv (r :: rest) sz ce sl hp) : pd_T G M d mc ms X R pc lv (x3 :: x2 :: x1 :: rest) sz ce sl hp := pt_ks (As := [x1, x2, x3]) (rest := rest) h hcon rfl hr hd hce hsl (fun v sz' hp' q => by obtain ⟨rfl, rfl, rfl⟩ := q; exact k)
theorem pt_ks4 {x1 x2 x3 x4 : pv} (h : pd_ks M pc N 4 n) (hcon : pd_C G N d1 0 0 [x1, x2, x3, x4] sz hp Rc) (hr : rest.length ≤ 4) (hd : d1 + 1 ≤ d) (hce : ce ≤ mc) (hsl : sl ≤ ms) (k : ∀ (v : Option pv) (sz' : Nat) (hp' : pd_P), Rc v sz' hp' → pd_T G M d mc ms X R n lv (v.toList ++ rest) sz' ce sl hp') : pd_T G M d mc ms X R pc lv (x4 :: x3 :: x2 :: x1 :: rest) sz ce sl hp := pt_ks (As := [x1, x2, x3, x4]) (rest := rest) h hcon rfl hr hd hce hsl k
theorem pt_ks4r {x1 x2 x3 x4 : pv} {r : pv} (h : pd_ks M pc N 4 n) (hcon : pd_C G N d1 0 0 [x1, x2, x3, x4] sz hp (pd_pure r sz hp)) (hr : rest.length ≤ 4) (hd : d1 + 1 ≤ d) (hce : ce ≤ mc) (hsl : sl ≤ ms) (k : pd_T G M d mc ms X R n lv (r :: rest) sz ce sl hp) : pd_T G M d mc ms X R pc lv (x4 :: x3 :: x2 :: x1 :: rest) sz ce sl hp := pt_ks (As := [x1, x2, x3, x4]) (rest := rest) h hcon rfl hr hd hce hsl (fun v sz' hp' q => by obtain ⟨rfl, rfl, rfl⟩ := q; exact k)
theorem pt_kI0 {a mc1 ms1 : Nat} (h : pd_kI M pc N 0 n) (hcon : pd_C G N d1 mc1 ms1 [vr (a + 1)] sz hp Rc) (hr : rest.length ≤ 4) (hd : d1 + 1 ≤ d) (hce : ce + mc1 ≤ mc) (hsl : sl + ms1 ≤ ms) (k : ∀ (v : Option pv) (sz' : Nat) (hp' : pd_P), Rc v sz' hp' → pd_T G M d mc ms X R n lv (v.toList ++ rest) sz' (ce + mc1) (sl + ms1) hp') : pd_T G M d mc ms X R pc lv (vr (a + 1) :: rest) sz ce sl hp := pt_kI (As := []) (rest := rest) h hcon rfl hr hd hce hsl k
theorem pt_istore0 {a0 : Option pv} {r : List (Option pv)} {z : Int} (h : pd_is M pc 0 n) (ho : pd_o1 (a0 :: r) 0 = true) (k : pd_T G M d mc ms X R n (some (vi z) :: r) st sz ce sl hp) : pd_T G M d mc ms X R pc (a0 :: r) (vi z :: st) sz ce sl hp := pt_istore h ho k
theorem pt_astore0 {a0 : Option pv} {r : List (Option pv)} {z : Nat} (h : pd_as M pc 0 n) (ho : pd_o1 (a0 :: r) 0 = true) (k : pd_T G M d mc ms X R n (some (vr z) :: r) st sz ce sl hp) : pd_T G M d mc ms X R pc (a0 :: r) (vr z :: st) sz ce sl hp := pt_astore h ho k
theorem pt_iinc0 {a0 : Option pv} {r : List (Option pv)} {z c0 : Int} (h : pd_ii M pc 0 c0 n) (ho : pd_o1 (some (vi z) :: r) 0 = true) (k : pd_T G M d mc ms X R n (some (vi (z + c0)) :: r) st sz ce sl hp) : pd_T G M d mc ms X R pc (some (vi z) :: r) st sz ce sl hp := pt_iinc h ho rfl k
theorem pt_lstore0 {a0 b0 : Option pv} {r : List (Option pv)} {z : Int} (h : pd_js M pc 0 n) (ho : pd_o1 (a0 :: b0 :: r) 0 = true) (k : pd_T G M d mc ms X R n (some (vl z) :: none :: r) st sz ce sl hp) : pd_T G M d mc ms X R pc (a0 :: b0 :: r) (vl z :: st) sz ce sl hp := pt_lstore h ho k
theorem pt_istore1 {a0 a1 : Option pv} {r : List (Option pv)} {z : Int} (h : pd_is M pc 1 n) (ho : pd_o1 (a0 :: a1 :: r) 1 = true) (k : pd_T G M d mc ms X R n (a0 :: some (vi z) :: r) st sz ce sl hp) : pd_T G M d mc ms X R pc (a0 :: a1 :: r) (vi z :: st) sz ce sl hp := pt_istore h ho k
theorem pt_astore1 {a0 a1 : Option pv} {r : List (Option pv)} {z : Nat} (h : pd_as M pc 1 n) (ho : pd_o1 (a0 :: a1 :: r) 1 = true) (k : pd_T G M d mc ms X R n (a0 :: some (vr z) :: r) st sz ce sl hp) : pd_T G M d mc ms X R pc (a0 :: a1 :: r) (vr z :: st) sz ce sl hp := pt_astore h ho k
theorem pt_iinc1 {a0 a1 : Option pv} {r : List (Option pv)} {z c0 : Int} (h : pd_ii M pc 1 c0 n) (ho : pd_o1 (a0 :: some (vi z) :: r) 1 = true) (k : pd_T G M d mc ms X R n (a0 :: some (vi (z + c0)) :: r) st sz ce sl hp) : pd_T G M d mc ms X R pc (a0 :: some (vi z) :: r) st sz ce sl hp := pt_iinc h ho rfl k
theorem pt_lstore1 {a0 a1 b0 : Option pv} {r : List (Option pv)} {z : Int} (h : pd_js M pc 1 n) (ho : pd_o1 (a0 :: a1 :: b0 :: r) 1 = true) (k : pd_T G M d mc ms X R n (a0 :: some (vl z) :: none :: r) st sz ce sl hp) : pd_T G M d mc ms X R pc (a0 :: a1 :: b0 :: r) (vl z :: st) sz ce sl hp := pt_lstore h ho k
theorem pt_istore2 {a0 a1 a2 : Option pv} {r : List (Option pv)} {z : Int} (h : pd_is M pc 2 n) (ho : pd_o1 (a0 :: a1 :: a2 :: r) 2 = true) (k : pd_T G M d mc ms X R n (a0 :: a1 :: some (vi z) :: r) st sz ce sl hp) : pd_T G M d mc ms X R pc (a0 :: a1 :: a2 :: r) (vi z :: st) sz ce sl hp := pt_istore h ho k
theorem pt_astore2 {a0 a1 a2 : Option pv} {r : List (Option pv)} {z : Nat} (h : pd_as M pc 2 n) (ho : pd_o1 (a0 :: a1 :: a2 :: r) 2 = true) (k : pd_T G M d mc ms X R n (a0 :: a1 :: some (vr z) :: r) st sz ce sl hp) : pd_T G M d mc ms X R pc (a0 :: a1 :: a2 :: r) (vr z :: st) sz ce sl hp := pt_astore h ho k
theorem pt_iinc2 {a0 a1 a2 : Option pv} {r : List (Option pv)} {z c0 : Int} (h : pd_ii M pc 2 c0 n) (ho : pd_o1 (a0 :: a1 :: some (vi z) :: r) 2 = true) (k : pd_T G M d mc ms X R n (a0 :: a1 :: some (vi (z + c0)) :: r) st sz ce sl hp) : pd_T G M d mc ms X R pc (a0 :: a1 :: some (vi z) :: r) st sz ce sl hp := pt_iinc h ho rfl k
theorem pt_lstore2 {a0 a1 a2 b0 : Option pv} {r : List (Option pv)} {z : Int} (h : pd_js M pc 2 n) (ho : pd_o1 (a0 :: a1 :: a2 :: b0 :: r) 2 = true) (k : pd_T G M d mc ms X R n (a0 :: a1 :: some (vl z) :: none :: r) st sz ce sl hp) : pd_T G M d mc ms X R pc (a0 :: a1 :: a2 :: b0 :: r) (vl z :: st) sz ce sl hp := pt_lstore h ho k
theorem pt_istore3 {a0 a1 a2 a3 : Option pv} {r : List (Option pv)} {z : Int} (h : pd_is M pc 3 n) (ho : pd_o1 (a0 :: a1 :: a2 :: a3 :: r) 3 = true) (k : pd_T G M d mc ms X R n (a0 :: a1 :: a2 :: some (vi z) :: r) st sz ce sl hp) : pd_T G M d mc ms X R pc (a0 :: a1 :: a2 :: a3 :: r) (vi z :: st) sz ce sl hp := pt_istore h ho k
theorem pt_astore3 {a0 a1 a2 a3 : Option pv} {r : List (Option pv)} {z : Nat} (h : pd_as M pc 3 n) (ho : pd_o1 (a0 :: a1 :: a2 :: a3 :: r) 3 = true) (k : pd_T G M d mc ms X R n (a0 :: a1 :: a2 :: some (vr z) :: r) st sz ce sl hp) : pd_T G M d mc ms X R pc (a0 :: a1 :: a2 :: a3 :: r) (vr z :: st) sz ce sl hp := pt_astore h ho k
theorem pt_iinc3 {a0 a1 a2 a3 : Option pv} {r : List (Option pv)} {z c0 : Int} (h : pd_ii M pc 3 c0 n) (ho : pd_o1 (a0 :: a1 :: a2 :: some (vi z) :: r) 3 = true) (k : pd_T G M d mc ms X R n (a0 :: a1 :: a2 :: some (vi (z + c0)) :: r) st sz ce sl hp) : pd_T G M d mc ms X R pc (a0 :: a1 :: a2 :: some (vi z) :: r) st sz ce sl hp := pt_iinc h ho rfl k
theorem pt_lstore3 {a0 a1 a2 a3 b0 : Option pv} {r : List (Option pv)} {z : Int} (h : pd_js M pc 3 n) (ho : pd_o1 (a0 :: a1 :: a2 :: a3 :: b0 :: r) 3 = true) (k : pd_T G M d mc ms X R n (a0 :: a1 :: a2 :: some (vl z) :: none :: r) st sz ce sl hp) : pd_T G M d mc ms X R pc (a0 :: a1 :: a2 :: a3 :: b0 :: r) (vl z :: st) sz ce sl hp := pt_lstore h ho k
theorem pt_istore4 {a0 a1 a2 a3 a4 : Option pv} {r : List (Option pv)} {z : Int} (h : pd_is M pc 4 n) (ho : pd_o1 (a0 :: a1 :: a2 :: a3 :: a4 :: r) 4 = true) (k : pd_T G M d mc ms X R n (a0 :: a1 :: a2 :: a3 :: some (vi z) :: r) st sz ce sl hp) : pd_T G M d mc ms X R pc (a0 :: a1 :: a2 :: a3 :: a4 :: r) (vi z :: st) sz ce sl hp := pt_istore h ho k
theorem pt_astore4 {a0 a1 a2 a3 a4 : Option pv} {r : List (Option pv)} {z : Nat} (h : pd_as M pc 4 n) (ho : pd_o1 (a0 :: a1 :: a2 :: a3 :: a4 :: r) 4 = true) (k : pd_T G M d mc ms X R n (a0 :: a1 :: a2 :: a3 :: some (vr z) :: r) st sz ce sl hp) : pd_T G M d mc ms X R pc (a0 :: a1 :: a2 :: a3 :: a4 :: r) (vr z :: st) sz ce sl hp := pt_astore h ho k
theorem pt_iinc4 {a0 a1 a2 a3 a4 : Option pv} {r : List (Option pv)} {z c0 : Int} (h : pd_ii M pc 4 c0 n) (ho : pd_o1 (a0 :: a1 :: a2 :: a3 :: some (vi z) :: r) 4 = true) (k : pd_T G M d mc ms X R n (a0 :: a1 :: a2 :: a3 :: some (vi (z + c0)) :: r) st sz ce sl hp) : pd_T G M d mc ms X R pc (a0 :: a1 :: a2 :: a3 :: some (vi z) :: r) st sz ce sl hp := pt_iinc h ho rfl k
theorem pt_lstore4 {a0 a1 a2 a3 a4 b0 : Option pv} {r : List (Option pv)} {z : Int} (h : pd_js M pc 4 n) (ho : pd_o1 (a0 :: a1 :: a2 :: a3 :: a4 :: b0 :: r) 4 = true) (k : pd_T G M d mc ms X R n (a0 :: a1 :: a2 :: a3 :: some (vl z) :: none :: r) st sz ce sl hp) : pd_T G M d mc ms X R pc (a0 :: a1 :: a2 :: a3 :: a4 :: b0 :: r) (vl z :: st) sz ce sl hp := pt_lstore h ho k
theorem pt_istore5 {a0 a1 a2 a3 a4 a5 : Option pv} {r : List (Option pv)} {z : Int} (h : pd_is M pc 5 n) (ho : pd_o1 (a0 :: a1 :: a2 :: a3 :: a4 :: a5 :: r) 5 = true) (k : pd_T G M d mc ms X R n (a0 :: a1 :: a2 :: a3 :: a4 :: some (vi z) :: r) st sz ce sl hp) : pd_T G M d mc ms X R pc (a0 :: a1 :: a2 :: a3 :: a4 :: a5 :: r) (vi z :: st) sz ce sl hp := pt_istore h ho k
theorem pt_astore5 {a0 a1 a2 a3 a4 a5 : Option pv} {r : List (Option pv)} {z : Nat} (h : pd_as M pc 5 n) (ho : pd_o1 (a0 :: a1 :: a2 :: a3 :: a4 :: a5 :: r) 5 = true) (k : pd_T G M d mc ms X R n (a0 :: a1 :: a2 :: a3 :: a4 :: some (vr z) :: r) st sz ce sl hp) : pd_T G M d mc ms X R pc (a0 :: a1 :: a2 :: a3 :: a4 :: a5 :: r) (vr z :: st) sz ce sl hp := pt_astore h ho k
theorem pt_iinc5 {a0 a1 a2 a3 a4 a5 : Option pv} {r : List (Option pv)} {z c0 : Int} (h : pd_ii M pc 5 c0 n) (ho : pd_o1 (a0 :: a1 :: a2 :: a3 :: a4 :: some (vi z) :: r) 5 = true) (k : pd_T G M d mc ms X R n (a0 :: a1 :: a2 :: a3 :: a4 :: some (vi (z + c0)) :: r) st sz ce sl hp) : pd_T G M d mc ms X R pc (a0 :: a1 :: a2 :: a3 :: a4 :: some (vi z) :: r) st sz ce sl hp := pt_iinc h ho rfl k
theorem pt_lstore5 {a0 a1 a2 a3 a4 a5 b0 : Option pv} {r : List (Option pv)} {z : Int} (h : pd_js M pc 5 n) (ho : pd_o1 (a0 :: a1 :: a2 :: a3 :: a4 :: a5 :: b0 :: r) 5 = true) (k : pd_T G M d mc ms X R n (a0 :: a1 :: a2 :: a3 :: a4 :: some (vl z) :: none :: r) st sz ce sl hp) : pd_T G M d mc ms X R pc (a0 :: a1 :: a2 :: a3 :: a4 :: a5 :: b0 :: r) (vl z :: st) sz ce sl hp := pt_lstore h ho k
theorem pt_istore6 {a0 a1 a2 a3 a4 a5 a6 : Option pv} {r : List (Option pv)} {z : Int} (h : pd_is M pc 6 n) (ho : pd_o1 (a0 :: a1 :: a2 :: a3 :: a4 :: a5 :: a6 :: r) 6 = true) (k : pd_T G M d mc ms X R n (a0 :: a1 :: a2 :: a3 :: a4 :: a5 :: some (vi z) :: r) st sz ce sl hp) : pd_T G M d mc ms X R pc (a0 :: a1 :: a2 :: a3 :: a4 :: a5 :: a6 :: r) (vi z :: st) sz ce sl hp := pt_istore h ho k
theorem pt_astore6 {a0 a1 a2 a3 a4 a5 a6 : Option pv} {r : List (Option pv)} {z : Nat} (h : pd_as M pc 6 n) (ho : pd_o1 (a0 :: a1 :: a2 :: a3 :: a4 :: a5 :: a6 :: r) 6 = true) (k : pd_T G M d mc ms X R n (a0 :: a1 :: a2 :: a3 :: a4 :: a5 :: some (vr z) :: r) st sz ce sl hp) : pd_T G M d mc ms X R pc (a0 :: a1 :: a2 :: a3 :: a4 :: a5 :: a6 :: r) (vr z :: st) sz ce sl hp := pt_astore h ho k
theorem pt_iinc6 {a0 a1 a2 a3 a4 a5 a6 : Option pv} {r : List (Option pv)} {z c0 : Int} (h : pd_ii M pc 6 c0 n) (ho : pd_o1 (a0 :: a1 :: a2 :: a3 :: a4 :: a5 :: some (vi z) :: r) 6 = true) (k : pd_T G M d mc ms X R n (a0 :: a1 :: a2 :: a3 :: a4 :: a5 :: some (vi (z + c0)) :: r) st sz ce sl hp) : pd_T G M d mc ms X R pc (a0 :: a1 :: a2 :: a3 :: a4 :: a5 :: some (vi z) :: r) st sz ce sl hp := pt_iinc h ho rfl k
theorem pt_lstore6 {a0 a1 a2 a3 a4 a5 a6 b0 : Option pv} {r : List (Option pv)} {z : Int} (h : pd_js M pc 6 n) (ho : pd_o1 (a0 :: a1 :: a2 :: a3 :: a4 :: a5 :: a6 :: b0 :: r) 6 = true) (k : pd_T G M d mc ms X R n (a0 :: a1 :: a2 :: a3 :: a4 :: a5 :: some (vl z) :: none :: r) st sz ce sl hp) : pd_T G M d mc ms X R pc (a0 :: a1 :: a2 :: a3 :: a4 :: a5 :: a6 :: b0 :: r) (vl z :: st) sz ce sl hp := pt_lstore h ho k
theorem pt_istore7 {a0 a1 a2 a3 a4 a5 a6 a7 : Option pv} {r : List (Option pv)} {z : Int} (h : pd_is M pc 7 n) (ho : pd_o1 (a0 :: a1 :: a2 :: a3 :: a4 :: a5 :: a6 :: a7 :: r) 7 = true) (k : pd_T G M d mc ms X R n (a0 :: a1 :: a2 :: a3 :: a4 :: a5 :: a6 :: some (vi z) :: r) st sz ce sl hp) : pd_T G M d mc ms X R pc (a0 :: a1 :: a2 :: a3 :: a4 :: a5 :: a6 :: a7 :: r) (vi z :: st) sz ce sl hp := pt_istore h ho k
theorem pt_astore7 {a0 a1 a2 a3 a4 a5 a6 a7 : Option pv} {r : List (Option pv)} {z : Nat} (h : pd_as M pc 7 n) (ho : pd_o1 (a0 :: a1 :: a2 :: a3 :: a4 :: a5 :: a6 :: a7 :: r) 7 = true) (k : pd_T G M d mc ms X R n (a0 :: a1 :: a2 :: a3 :: a4 :: a5 :: a6 :: some (vr z) :: r) st sz ce sl hp) : pd_T G M d mc ms X R pc (a0 :: a1 :: a2 :: a3 :: a4 :: a5 :: a6 :: a7 :: r) (vr z :: st) sz ce sl hp := pt_astore h ho k
theorem pt_iinc7 {a0 a1 a2 a3 a4 a5 a6 a7 : Option pv} {r : List (Option pv)} {z c0 : Int} (h : pd_ii M pc 7 c0 n) (ho : pd_o1 (a0 :: a1 :: a2 :: a3 :: a4 :: a5 :: a6 :: some (vi z) :: r) 7 = true) (k : pd_T G M d mc ms X R n (a0 :: a1 :: a2 :: a3 :: a4 :: a5 :: a6 :: some (vi (z + c0)) :: r) st sz ce sl hp) : pd_T G M d mc ms X R pc (a0 :: a1 :: a2 :: a3 :: a4 :: a5 :: a6 :: some (vi z) :: r) st sz ce sl hp := pt_iinc h ho rfl k
theorem pt_lstore7 {a0 a1 a2 a3 a4 a5 a6 a7 b0 : Option pv} {r : List (Option pv)} {z : Int} (h : pd_js M pc 7 n) (ho : pd_o1 (a0 :: a1 :: a2 :: a3 :: a4 :: a5 :: a6 :: a7 :: b0 :: r) 7 = true) (k : pd_T G M d mc ms X R n (a0 :: a1 :: a2 :: a3 :: a4 :: a5 :: a6 :: some (vl z) :: none :: r) st sz ce sl hp) : pd_T G M d mc ms X R pc (a0 :: a1 :: a2 :: a3 :: a4 :: a5 :: a6 :: a7 :: b0 :: r) (vl z :: st) sz ce sl hp := pt_lstore h ho k
theorem pt_istore8 {a0 a1 a2 a3 a4 a5 a6 a7 a8 : Option pv} {r : List (Option pv)} {z : Int} (h : pd_is M pc 8 n) (ho : pd_o1 (a0 :: a1 :: a2 :: a3 :: a4 :: a5 :: a6 :: a7 :: a8 :: r) 8 = true) (k : pd_T G M d mc ms X R n (a0 :: a1 :: a2 :: a3 :: a4 :: a5 :: a6 :: a7 :: some (vi z) :: r) st sz ce sl hp) : pd_T G M d mc ms X R pc (a0 :: a1 :: a2 :: a3 :: a4 :: a5 :: a6 :: a7 :: a8 :: r) (vi z :: st) sz ce sl hp := pt_istore h ho k
theorem pt_astore8 {a0 a1 a2 a3 a4 a5 a6 a7 a8 : Option pv} {r : List (Option pv)} {z : Nat} (h : pd_as M pc 8 n) (ho : pd_o1 (a0 :: a1 :: a2 :: a3 :: a4 :: a5 :: a6 :: a7 :: a8 :: r) 8 = true) (k : pd_T G M d mc ms X R n (a0 :: a1 :: a2 :: a3 :: a4 :: a5 :: a6 :: a7 :: some (vr z) :: r) st sz ce sl hp) : pd_T G M d mc ms X R pc (a0 :: a1 :: a2 :: a3 :: a4 :: a5 :: a6 :: a7 :: a8 :: r) (vr z :: st) sz ce sl hp := pt_astore h ho k
theorem pt_iinc8 {a0 a1 a2 a3 a4 a5 a6 a7 a8 : Option pv} {r : List (Option pv)} {z c0 : Int} (h : pd_ii M pc 8 c0 n) (ho : pd_o1 (a0 :: a1 :: a2 :: a3 :: a4 :: a5 :: a6 :: a7 :: some (vi z) :: r) 8 = true) (k : pd_T G M d mc ms X R n (a0 :: a1 :: a2 :: a3 :: a4 :: a5 :: a6 :: a7 :: some (vi (z + c0)) :: r) st sz ce sl hp) : pd_T G M d mc ms X R pc (a0 :: a1 :: a2 :: a3 :: a4 :: a5 :: a6 :: a7 :: some (vi z) :: r) st sz ce sl hp := pt_iinc h ho rfl k
theorem pt_lstore8 {a0 a1 a2 a3 a4 a5 a6 a7 a8 b0 : Option pv} {r : List (Option pv)} {z : Int} (h : pd_js M pc 8 n) (ho : pd_o1 (a0 :: a1 :: a2 :: a3 :: a4 :: a5 :: a6 :: a7 :: a8 :: b0 :: r) 8 = true) (k : pd_T G M d mc ms X R n (a0 :: a1 :: a2 :: a3 :: a4 :: a5 :: a6 :: a7 :: some (vl z) :: none :: r) st sz ce sl hp) : pd_T G M d mc ms X R pc (a0 :: a1 :: a2 :: a3 :: a4 :: a5 :: a6 :: a7 :: a8 :: b0 :: r) (vl z :: st) sz ce sl hp := pt_lstore h ho k
theorem pt_istore9 {a0 a1 a2 a3 a4 a5 a6 a7 a8 a9 : Option pv} {r : List (Option pv)} {z : Int} (h : pd_is M pc 9 n) (ho : pd_o1 (a0 :: a1 :: a2 :: a3 :: a4 :: a5 :: a6 :: a7 :: a8 :: a9 :: r) 9 = true) (k : pd_T G M d mc ms X R n (a0 :: a1 :: a2 :: a3 :: a4 :: a5 :: a6 :: a7 :: a8 :: some (vi z) :: r) st sz ce sl hp) : pd_T G M d mc ms X R pc (a0 :: a1 :: a2 :: a3 :: a4 :: a5 :: a6 :: a7 :: a8 :: a9 :: r) (vi z :: st) sz ce sl hp := pt_istore h ho k
theorem pt_astore9 {a0 a1 a2 a3 a4 a5 a6 a7 a8 a9 : Option pv} {r : List (Option pv)} {z : Nat} (h : pd_as M pc 9 n) (ho : pd_o1 (a0 :: a1 :: a2 :: a3 :: a4 :: a5 :: a6 :: a7 :: a8 :: a9 :: r) 9 = true) (k : pd_T G M d mc ms X R n (a0 :: a1 :: a2 :: a3 :: a4 :: a5 :: a6 :: a7 :: a8 :: some (vr z) :: r) st sz ce sl hp) : pd_T G M d mc ms X R pc (a0 :: a1 :: a2 :: a3 :: a4 :: a5 :: a6 :: a7 :: a8 :: a9 :: r) (vr z :: st) sz ce sl hp := pt_astore h ho k
theorem pt_iinc9 {a0 a1 a2 a3 a4 a5 a6 a7 a8 a9 : Option pv} {r : List (Option pv)} {z c0 : Int} (h : pd_ii M pc 9 c0 n) (ho : pd_o1 (a0 :: a1 :: a2 :: a3 :: a4 :: a5 :: a6 :: a7 :: a8 :: some (vi z) :: r) 9 = true) (k : pd_T G M d mc ms X R n (a0 :: a1 :: a2 :: a3 :: a4 :: a5 :: a6 :: a7 :: a8 :: some (vi (z + c0)) :: r) st sz ce sl hp) : pd_T G M d mc ms X R pc (a0 :: a1 :: a2 :: a3 :: a4 :: a5 :: a6 :: a7 :: a8 :: some (vi z) :: r) st sz ce sl hp := pt_iinc h ho rfl k
theorem pt_lstore9 {a0 a1 a2 a3 a4 a5 a6 a7 a8 a9 b0 : Option pv} {r : List (Option pv)} {z : Int} (h : pd_js M pc 9 n) (ho : pd_o1 (a0 :: a1 :: a2 :: a3 :: a4 :: a5 :: a6 :: a7 :: a8 :: a9 :: b0 :: r) 9 = true) (k : pd_T G M d mc ms X R n (a0 :: a1 :: a2 :: a3 :: a4 :: a5 :: a6 :: a7 :: a8 :: some (vl z) :: none :: r) st sz ce sl hp) : pd_T G M d mc ms X R pc (a0 :: a1 :: a2 :: a3 :: a4 :: a5 :: a6 :: a7 :: a8 :: a9 :: b0 :: r) (vl z :: st) sz ce sl hp := pt_lstore h ho k
theorem pt_istore10 {a0 a1 a2 a3 a4 a5 a6 a7 a8 a9 a10 : Option pv} {r : List (Option pv)} {z : Int} (h : pd_is M pc 10 n) (ho : pd_o1 (a0 :: a1 :: a2 :: a3 :: a4 :: a5 :: a6 :: a7 :: a8 :: a9 :: a10 :: r) 10 = true) (k : pd_T G M d mc ms X R n (a0 :: a1 :: a2 :: a3 :: a4 :: a5 :: a6 :: a7 :: a8 :: a9 :: some (vi z) :: r) st sz ce sl hp) : pd_T G M d mc ms X R pc (a0 :: a1 :: a2 :: a3 :: a4 :: a5 :: a6 :: a7 :: a8 :: a9 :: a10 :: r) (vi z :: st) sz ce sl hp := pt_istore h ho k
theorem pt_astore10 {a0 a1 a2 a3 a4 a5 a6 a7 a8 a9 a10 : Option pv} {r : List (Option pv)} {z : Nat} (h : pd_as M pc 10 n) (ho : pd_o1 (a0 :: a1 :: a2 :: a3 :: a4 :: a5 :: a6 :: a7 :: a8 :: a9 :: a10 :: r) 10 = true) (k : pd_T G M d mc ms X R n (a0 :: a1 :: a2 :: a3 :: a4 :: a5 :: a6 :: a7 :: a8 :: a9 :: some (vr z) :: r) st sz ce sl hp) : pd_T G M d mc ms X R pc (a0 :: a1 :: a2 :: a3 :: a4 :: a5 :: a6 :: a7 :: a8 :: a9 :: a10 :: r) (vr z :: st) sz ce sl hp := pt_astore h ho k
theorem pt_iinc10 {a0 a1 a2 a3 a4 a5 a6 a7 a8 a9 a10 : Option pv} {r : List (Option pv)} {z c0 : Int} (h : pd_ii M pc 10 c0 n) (ho : pd_o1 (a0 :: a1 :: a2 :: a3 :: a4 :: a5 :: a6 :: a7 :: a8 :: a9 :: some (vi z) :: r) 10 = true) (k : pd_T G M d mc ms X R n (a0 :: a1 :: a2 :: a3 :: a4 :: a5 :: a6 :: a7 :: a8 :: a9 :: some (vi (z + c0)) :: r) st sz ce sl hp) : pd_T G M d mc ms X R pc (a0 :: a1 :: a2 :: a3 :: a4 :: a5 :: a6 :: a7 :: a8 :: a9 :: some (vi z) :: r) st sz ce sl hp := pt_iinc h ho rfl k
theorem pt_lstore10 {a0 a1 a2 a3 a4 a5 a6 a7 a8 a9 a10 b0 : Option pv} {r : List (Option pv)} {z : Int} (h : pd_js M pc 10 n) (ho : pd_o1 (a0 :: a1 :: a2 :: a3 :: a4 :: a5 :: a6 :: a7 :: a8 :: a9 :: a10 :: b0 :: r) 10 = true) (k : pd_T G M d mc ms X R n (a0 :: a1 :: a2 :: a3 :: a4 :: a5 :: a6 :: a7 :: a8 :: a9 :: some (vl z) :: none :: r) st sz ce sl hp) : pd_T G M d mc ms X R pc (a0 :: a1 :: a2 :: a3 :: a4 :: a5 :: a6 :: a7 :: a8 :: a9 :: a10 :: b0 :: r) (vl z :: st) sz ce sl hp := pt_lstore h ho k
theorem pt_istore11 {a0 a1 a2 a3 a4 a5 a6 a7 a8 a9 a10 a11 : Option pv} {r : List (Option pv)} {z : Int} (h : pd_is M pc 11 n) (ho : pd_o1 (a0 :: a1 :: a2 :: a3 :: a4 :: a5 :: a6 :: a7 :: a8 :: a9 :: a10 :: a11 :: r) 11 = true) (k : pd_T G M d mc ms X R n (a0 :: a1 :: a2 :: a3 :: a4 :: a5 :: a6 :: a7 :: a8 :: a9 :: a10 :: some (vi z) :: r) st sz ce sl hp) : pd_T G M d mc ms X R pc (a0 :: a1 :: a2 :: a3 :: a4 :: a5 :: a6 :: a7 :: a8 :: a9 :: a10 :: a11 :: r) (vi z :: st) sz ce sl hp := pt_istore h ho k
theorem pt_astore11 {a0 a1 a2 a3 a4 a5 a6 a7 a8 a9 a10 a11 : Option pv} {r : List (Option pv)} {z : Nat} (h : pd_as M pc 11 n) (ho : pd_o1 (a0 :: a1 :: a2 :: a3 :: a4 :: a5 :: a6 :: a7 :: a8 :: a9 :: a10 :: a11 :: r) 11 = true) (k : pd_T G M d mc ms X R n (a0 :: a1 :: a2 :: a3 :: a4 :: a5 :: a6 :: a7 :: a8 :: a9 :: a10 :: some (vr z) :: r) st sz ce sl hp) : pd_T G M d mc ms X R pc (a0 :: a1 :: a2 :: a3 :: a4 :: a5 :: a6 :: a7 :: a8 :: a9 :: a10 :: a11 :: r) (vr z :: st) sz ce sl hp := pt_astore h ho k
theorem pt_iinc11 {a0 a1 a2 a3 a4 a5 a6 a7 a8 a9 a10 a11 : Option pv} {r : List (Option pv)} {z c0 : Int} (h : pd_ii M pc 11 c0 n) (ho : pd_o1 (a0 :: a1 :: a2 :: a3 :: a4 :: a5 :: a6 :: a7 :: a8 :: a9 :: a10 :: some (vi z) :: r) 11 = true) (k : pd_T G M d mc ms X R n (a0 :: a1 :: a2 :: a3 :: a4 :: a5 :: a6 :: a7 :: a8 :: a9 :: a10 :: some (vi (z + c0)) :: r) st sz ce sl hp) : pd_T G M d mc ms X R pc (a0 :: a1 :: a2 :: a3 :: a4 :: a5 :: a6 :: a7 :: a8 :: a9 :: a10 :: some (vi z) :: r) st sz ce sl hp := pt_iinc h ho rfl k
theorem pt_lstore11 {a0 a1 a2 a3 a4 a5 a6 a7 a8 a9 a10 a11 b0 : Option pv} {r : List (Option pv)} {z : Int} (h : pd_js M pc 11 n) (ho : pd_o1 (a0 :: a1 :: a2 :: a3 :: a4 :: a5 :: a6 :: a7 :: a8 :: a9 :: a10 :: a11 :: b0 :: r) 11 = true) (k : pd_T G M d mc ms X R n (a0 :: a1 :: a2 :: a3 :: a4 :: a5 :: a6 :: a7 :: a8 :: a9 :: a10 :: some (vl z) :: none :: r) st sz ce sl hp) : pd_T G M d mc ms X R pc (a0 :: a1 :: a2 :: a3 :: a4 :: a5 :: a6 :: a7 :: a8 :: a9 :: a10 :: a11 :: b0 :: r) (vl z :: st) sz ce sl hp := pt_lstore h ho k
theorem pt_istore12 {a0 a1 a2 a3 a4 a5 a6 a7 a8 a9 a10 a11 a12 : Option pv} {r : List (Option pv)} {z : Int} (h : pd_is M pc 12 n) (ho : pd_o1 (a0 :: a1 :: a2 :: a3 :: a4 :: a5 :: a6 :: a7 :: a8 :: a9 :: a10 :: a11 :: a12 :: r) 12 = true) (k : pd_T G M d mc ms X R n (a0 :: a1 :: a2 :: a3 :: a4 :: a5 :: a6 :: a7 :: a8 :: a9 :: a10 :: a11 :: some (vi z) :: r) st sz ce sl hp) : pd_T G M d mc ms X R pc (a0 :: a1 :: a2 :: a3 :: a4 :: a5 :: a6 :: a7 :: a8 :: a9 :: a10 :: a11 :: a12 :: r) (vi z :: st) sz ce sl hp := pt_istore h ho k
theorem pt_astore12 {a0 a1 a2 a3 a4 a5 a6 a7 a8 a9 a10 a11 a12 : Option pv} {r : List (Option pv)} {z : Nat} (h : pd_as M pc 12 n) (ho : pd_o1 (a0 :: a1 :: a2 :: a3 :: a4 :: a5 :: a6 :: a7 :: a8 :: a9 :: a10 :: a11 :: a12 :: r) 12 = true) (k : pd_T G M d mc ms X R n (a0 :: a1 :: a2 :: a3 :: a4 :: a5 :: a6 :: a7 :: a8 :: a9 :: a10 :: a11 :: some (vr z) :: r) st sz ce sl hp) : pd_T G M d mc ms X R pc (a0 :: a1 :: a2 :: a3 :: a4 :: a5 :: a6 :: a7 :: a8 :: a9 :: a10 :: a11 :: a12 :: r) (vr z :: st) sz ce sl hp := pt_astore h ho k
theorem pt_iinc12 {a0 a1 a2 a3 a4 a5 a6 a7 a8 a9 a10 a11 a12 : Option pv} {r : List (Option pv)} {z c0 : Int} (h : pd_ii M pc 12 c0 n) (ho : pd_o1 (a0 :: a1 :: a2 :: a3 :: a4 :: a5 :: a6 :: a7 :: a8 :: a9 :: a10 :: a11 :: some (vi z) :: r) 12 = true) (k : pd_T G M d mc ms X R n (a0 :: a1 :: a2 :: a3 :: a4 :: a5 :: a6 :: a7 :: a8 :: a9 :: a10 :: a11 :: some (vi (z + c0)) :: r) st sz ce sl hp) : pd_T G M d mc ms X R pc (a0 :: a1 :: a2 :: a3 :: a4 :: a5 :: a6 :: a7 :: a8 :: a9 :: a10 :: a11 :: some (vi z) :: r) st sz ce sl hp := pt_iinc h ho rfl k
theorem pt_lstore12 {a0 a1 a2 a3 a4 a5 a6 a7 a8 a9 a10 a11 a12 b0 : Option pv} {r : List (Option pv)} {z : Int} (h : pd_js M pc 12 n) (ho : pd_o1 (a0 :: a1 :: a2 :: a3 :: a4 :: a5 :: a6 :: a7 :: a8 :: a9 :: a10 :: a11 :: a12 :: b0 :: r) 12 = true) (k : pd_T G M d mc ms X R n (a0 :: a1 :: a2 :: a3 :: a4 :: a5 :: a6 :: a7 :: a8 :: a9 :: a10 :: a11 :: some (vl z) :: none :: r) st sz ce sl hp) : pd_T G M d mc ms X R pc (a0 :: a1 :: a2 :: a3 :: a4 :: a5 :: a6 :: a7 :: a8 :: a9 :: a10 :: a11 :: a12 :: b0 :: r) (vl z :: st) sz ce sl hp := pt_lstore h ho k
theorem pt_istore13 {a0 a1 a2 a3 a4 a5 a6 a7 a8 a9 a10 a11 a12 a13 : Option pv} {r : List (Option pv)} {z : Int} (h : pd_is M pc 13 n) (ho : pd_o1 (a0 :: a1 :: a2 :: a3 :: a4 :: a5 :: a6 :: a7 :: a8 :: a9 :: a10 :: a11 :: a12 :: a13 :: r) 13 = true) (k : pd_T G M d mc ms X R n (a0 :: a1 :: a2 :: a3 :: a4 :: a5 :: a6 :: a7 :: a8 :: a9 :: a10 :: a11 :: a12 :: some (vi z) :: r) st sz ce sl hp) : pd_T G M d mc ms X R pc (a0 :: a1 :: a2 :: a3 :: a4 :: a5 :: a6 :: a7 :: a8 :: a9 :: a10 :: a11 :: a12 :: a13 :: r) (vi z :: st) sz ce sl hp := pt_istore h ho k
theorem pt_astore13 {a0 a1 a2 a3 a4 a5 a6 a7 a8 a9 a10 a11 a12 a13 : Option pv} {r : List (Option pv)} {z : Nat} (h : pd_as M pc 13 n) (ho : pd_o1 (a0 :: a1 :: a2 :: a3 :: a4 :: a5 :: a6 :: a7 :: a8 :: a9 :: a10 :: a11 :: a12 :: a13 :: r) 13 = true) (k : pd_T G M d mc ms X R n (a0 :: a1 :: a2 :: a3 :: a4 :: a5 :: a6 :: a7 :: a8 :: a9 :: a10 :: a11 :: a12 :: some (vr z) :: r) st sz ce sl hp) : pd_T G M d mc ms X R pc (a0 :: a1 :: a2 :: a3 :: a4 :: a5 :: a6 :: a7 :: a8 :: a9 :: a10 :: a11 :: a12 :: a13 :: r) (vr z :: st) sz ce sl hp := pt_astore h ho k
theorem pt_iinc13 {a0 a1 a2 a3 a4 a5 a6 a7 a8 a9 a10 a11 a12 a13 : Option pv} {r : List (Option pv)} {z c0 : Int} (h : pd_ii M pc 13 c0 n) (ho : pd_o1 (a0 :: a1 :: a2 :: a3 :: a4 :: a5 :: a6 :: a7 :: a8 :: a9 :: a10 :: a11 :: a12 :: some (vi z) :: r) 13 = true) (k : pd_T G M d mc ms X R n (a0 :: a1 :: a2 :: a3 :: a4 :: a5 :: a6 :: a7 :: a8 :: a9 :: a10 :: a11 :: a12 :: some (vi (z + c0)) :: r) st sz ce sl hp) : pd_T G M d mc ms X R pc (a0 :: a1 :: a2 :: a3 :: a4 :: a5 :: a6 :: a7 :: a8 :: a9 :: a10 :: a11 :: a12 :: some (vi z) :: r) st sz ce sl hp := pt_iinc h ho rfl k
end PDCP
end
section
def mT_init : pd_M := (⟨"PantryDoors$Text", "<init>", "()V"⟩, prog_12_method_1_code, 1, none)
theorem kT_init : pd_ok mT_init 0 := ⟨(pd_m 73 (by decide +kernel) (by decide +kernel)), (pd_m 47 (by decide +kernel) (by decide +kernel)), by decide +kernel, by decide, by decide, by decide +kernel, by decide⟩
def mT_tell : pd_M := (⟨"PantryDoors$Text", "tell", "(LPantryDoors$House;)I"⟩, prog_12_method_2_code, 3, (some .int))
theorem kT_tell : pd_ok mT_tell 1 := ⟨(pd_m 370 (by decide +kernel) (by decide +kernel)), (pd_m 47 (by decide +kernel) (by decide +kernel)), by decide +kernel, by decide, by decide, by decide +kernel, by decide⟩
def mT_readItem : pd_M := (⟨"PantryDoors$Text", "readItem", "(LPantryDoors$House;)Z"⟩, prog_12_method_3_code, 5, (some .boolean))
theorem kT_readItem : pd_ok mT_readItem 1 := ⟨(pd_m 400 (by decide +kernel) (by decide +kernel)), (pd_m 47 (by decide +kernel) (by decide +kernel)), by decide +kernel, by decide, by decide, by decide +kernel, by decide⟩
def mT_canBegin : pd_M := (⟨"PantryDoors$Text", "canBegin", "(LPantryDoors$House;I)Z"⟩, prog_12_method_4_code, 3, (some .boolean))
theorem kT_canBegin : pd_ok mT_canBegin 2 := ⟨(pd_m 404 (by decide +kernel) (by decide +kernel)), (pd_m 47 (by decide +kernel) (by decide +kernel)), by decide +kernel, by decide, by decide, by decide +kernel, by decide⟩
def mT_numbersOf : pd_M := (⟨"PantryDoors$Text", "numbersOf", "(I)I"⟩, prog_12_method_5_code, 1, (some .int))
theorem kT_numbersOf : pd_ok mT_numbersOf 1 := ⟨(pd_m 407 (by decide +kernel) (by decide +kernel)), (pd_m 47 (by decide +kernel) (by decide +kernel)), by decide +kernel, by decide, by decide, by decide +kernel, by decide⟩
def mT_leastOf : pd_M := (⟨"PantryDoors$Text", "leastOf", "(II)I"⟩, prog_12_method_6_code, 2, (some .int))
theorem kT_leastOf : pd_ok mT_leastOf 2 := ⟨(pd_m 410 (by decide +kernel) (by decide +kernel)), (pd_m 47 (by decide +kernel) (by decide +kernel)), by decide +kernel, by decide, by decide, by decide +kernel, by decide⟩
def mT_mostOf : pd_M := (⟨"PantryDoors$Text", "mostOf", "(LPantryDoors$House;II)I"⟩, prog_12_method_7_code, 3, (some .int))
theorem kT_mostOf : pd_ok mT_mostOf 3 := ⟨(pd_m 413 (by decide +kernel) (by decide +kernel)), (pd_m 47 (by decide +kernel) (by decide +kernel)), by decide +kernel, by decide, by decide, by decide +kernel, by decide⟩
def mT_put : pd_M := (⟨"PantryDoors$Text", "put", "(LPantryDoors$House;I)V"⟩, prog_12_method_8_code, 3, none)
theorem kT_put : pd_ok mT_put 2 := ⟨(pd_m 417 (by decide +kernel) (by decide +kernel)), (pd_m 47 (by decide +kernel) (by decide +kernel)), by decide +kernel, by decide, by decide, by decide +kernel, by decide⟩
def mT_putGood : pd_M := (⟨"PantryDoors$Text", "putGood", "(LPantryDoors$House;)V"⟩, prog_12_method_9_code, 3, none)
theorem kT_putGood : pd_ok mT_putGood 1 := ⟨(pd_m 421 (by decide +kernel) (by decide +kernel)), (pd_m 47 (by decide +kernel) (by decide +kernel)), by decide +kernel, by decide, by decide, by decide +kernel, by decide⟩
def mT_putDoor : pd_M := (⟨"PantryDoors$Text", "putDoor", "(LPantryDoors$House;)V"⟩, prog_12_method_10_code, 2, none)
theorem kT_putDoor : pd_ok mT_putDoor 1 := ⟨(pd_m 425 (by decide +kernel) (by decide +kernel)), (pd_m 47 (by decide +kernel) (by decide +kernel)), by decide +kernel, by decide, by decide, by decide +kernel, by decide⟩
def mT_next : pd_M := (⟨"PantryDoors$Text", "next", "()V"⟩, prog_12_method_11_code, 1, none)
theorem kT_next : pd_ok mT_next 0 := ⟨(pd_m 378 (by decide +kernel) (by decide +kernel)), (pd_m 47 (by decide +kernel) (by decide +kernel)), by decide +kernel, by decide, by decide, by decide +kernel, by decide⟩
def mT_nextLetters : pd_M := (⟨"PantryDoors$Text", "nextLetters", "()V"⟩, prog_12_method_12_code, 1, none)
theorem kT_nextLetters : pd_ok mT_nextLetters 0 := ⟨(pd_m 386 (by decide +kernel) (by decide +kernel)), (pd_m 47 (by decide +kernel) (by decide +kernel)), by decide +kernel, by decide, by decide, by decide +kernel, by decide⟩
def mT_nextNumber : pd_M := (⟨"PantryDoors$Text", "nextNumber", "()V"⟩, prog_12_method_13_code, 2, none)
theorem kT_nextNumber : pd_ok mT_nextNumber 0 := ⟨(pd_m 393 (by decide +kernel) (by decide +kernel)), (pd_m 47 (by decide +kernel) (by decide +kernel)), by decide +kernel, by decide, by decide, by decide +kernel, by decide⟩
def mT_isLetter : pd_M := (⟨"PantryDoors$Text", "isLetter", "(I)Z"⟩, prog_12_method_14_code, 1, (some .boolean))
theorem kT_isLetter : pd_ok mT_isLetter 1 := ⟨(pd_m 381 (by decide +kernel) (by decide +kernel)), (pd_m 47 (by decide +kernel) (by decide +kernel)), by decide +kernel, by decide, by decide, by decide +kernel, by decide⟩
def mT_isDigit : pd_M := (⟨"PantryDoors$Text", "isDigit", "(I)Z"⟩, prog_12_method_15_code, 1, (some .boolean))
theorem kT_isDigit : pd_ok mT_isDigit 1 := ⟨(pd_m 389 (by decide +kernel) (by decide +kernel)), (pd_m 47 (by decide +kernel) (by decide +kernel)), by decide +kernel, by decide, by decide, by decide +kernel, by decide⟩
def mH_init : pd_M := (⟨"PantryDoors$House", "<init>", "()V"⟩, prog_6_method_1_code, 1, none)
theorem kH_init : pd_ok mH_init 0 := ⟨(pd_m 249 (by decide +kernel) (by decide +kernel)), (pd_m 57 (by decide +kernel) (by decide +kernel)), by decide +kernel, by decide, by decide, by decide +kernel, by decide⟩
def mH_empty : pd_M := (⟨"PantryDoors$House", "empty", "()V"⟩, prog_6_method_2_code, 2, none)
theorem kH_empty : pd_ok mH_empty 0 := ⟨(pd_m 374 (by decide +kernel) (by decide +kernel)), (pd_m 57 (by decide +kernel) (by decide +kernel)), by decide +kernel, by decide, by decide, by decide +kernel, by decide⟩
def mH_has : pd_M := (⟨"PantryDoors$House", "has", "(I)Z"⟩, prog_6_method_3_code, 2, (some .boolean))
theorem kH_has : pd_ok mH_has 1 := ⟨(pd_m 449 (by decide +kernel) (by decide +kernel)), (pd_m 57 (by decide +kernel) (by decide +kernel)), by decide +kernel, by decide, by decide, by decide +kernel, by decide⟩
def mH_leads : pd_M := (⟨"PantryDoors$House", "leads", "(I)I"⟩, prog_6_method_4_code, 2, (some .int))
theorem kH_leads : pd_ok mH_leads 1 := ⟨(pd_m 467 (by decide +kernel) (by decide +kernel)), (pd_m 57 (by decide +kernel) (by decide +kernel)), by decide +kernel, by decide, by decide, by decide +kernel, by decide⟩
def mH_rest : pd_M := (⟨"PantryDoors$House", "rest", "(III)I"⟩, prog_6_method_5_code, 5, (some .int))
theorem kH_rest : pd_ok mH_rest 3 := ⟨(pd_m 433 (by decide +kernel) (by decide +kernel)), (pd_m 57 (by decide +kernel) (by decide +kernel)), by decide +kernel, by decide, by decide, by decide +kernel, by decide⟩
def mH_reckonStores : pd_M := (⟨"PantryDoors$House", "reckonStores", "()V"⟩, prog_6_method_6_code, 3, none)
theorem kH_reckonStores : pd_ok mH_reckonStores 0 := ⟨(pd_m 429 (by decide +kernel) (by decide +kernel)), (pd_m 57 (by decide +kernel) (by decide +kernel)), by decide +kernel, by decide, by decide, by decide +kernel, by decide⟩
def mS_init : pd_M := (⟨"PantryDoors$State", "<init>", "()V"⟩, prog_10_method_1_code, 1, none)
theorem kS_init : pd_ok mS_init 0 := ⟨(pd_m 113 (by decide +kernel) (by decide +kernel)), (pd_m 49 (by decide +kernel) (by decide +kernel)), by decide +kernel, by decide, by decide, by decide +kernel, by decide⟩
def mS_begin : pd_M := (⟨"PantryDoors$State", "begin", "(LPantryDoors$House;)V"⟩, prog_10_method_2_code, 3, none)
theorem kS_begin : pd_ok mS_begin 1 := ⟨(pd_m 445 (by decide +kernel) (by decide +kernel)), (pd_m 49 (by decide +kernel) (by decide +kernel)), by decide +kernel, by decide, by decide, by decide +kernel, by decide⟩
def mS_copy : pd_M := (⟨"PantryDoors$State", "copy", "(LPantryDoors$State;)V"⟩, prog_10_method_3_code, 2, none)
theorem kS_copy : pd_ok mS_copy 1 := ⟨(pd_m 490 (by decide +kernel) (by decide +kernel)), (pd_m 49 (by decide +kernel) (by decide +kernel)), by decide +kernel, by decide, by decide, by decide +kernel, by decide⟩
def mS_leads : pd_M := (⟨"PantryDoors$State", "leads", "(LPantryDoors$House;)I"⟩, prog_10_method_4_code, 2, (some .int))
theorem kS_leads : pd_ok mS_leads 1 := ⟨(pd_m 507 (by decide +kernel) (by decide +kernel)), (pd_m 49 (by decide +kernel) (by decide +kernel)), by decide +kernel, by decide, by decide, by decide +kernel, by decide⟩
def mS_open : pd_M := (⟨"PantryDoors$State", "open", "(LPantryDoors$House;I)I"⟩, prog_10_method_5_code, 3, (some .int))
theorem kS_open : pd_ok mS_open 2 := ⟨(pd_m 459 (by decide +kernel) (by decide +kernel)), (pd_m 49 (by decide +kernel) (by decide +kernel)), by decide +kernel, by decide, by decide, by decide +kernel, by decide⟩
def mS_openOn : pd_M := (⟨"PantryDoors$State", "openOn", "(LPantryDoors$House;II)I"⟩, prog_10_method_6_code, 5, (some .int))
theorem kS_openOn : pd_ok mS_openOn 3 := ⟨(pd_m 463 (by decide +kernel) (by decide +kernel)), (pd_m 49 (by decide +kernel) (by decide +kernel)), by decide +kernel, by decide, by decide, by decide +kernel, by decide⟩
def mS_add : pd_M := (⟨"PantryDoors$State", "add", "(II)I"⟩, prog_10_method_7_code, 3, (some .int))
theorem kS_add : pd_ok mS_add 2 := ⟨(pd_m 511 (by decide +kernel) (by decide +kernel)), (pd_m 49 (by decide +kernel) (by decide +kernel)), by decide +kernel, by decide, by decide, by decide +kernel, by decide⟩
def mS_pass : pd_M := (⟨"PantryDoors$State", "pass", "(LPantryDoors$House;)I"⟩, prog_10_method_8_code, 5, (some .int))
theorem kS_pass : pd_ok mS_pass 1 := ⟨(pd_m 497 (by decide +kernel) (by decide +kernel)), (pd_m 49 (by decide +kernel) (by decide +kernel)), by decide +kernel, by decide, by decide, by decide +kernel, by decide⟩
def mL_init : pd_M := (⟨"PantryDoors$Life", "<init>", "()V"⟩, prog_8_method_1_code, 2, none)
theorem kL_init : pd_ok mL_init 0 := ⟨(pd_m 107 (by decide +kernel) (by decide +kernel)), (pd_m 48 (by decide +kernel) (by decide +kernel)), by decide +kernel, by decide, by decide, by decide +kernel, by decide⟩
def mL_begin : pd_M := (⟨"PantryDoors$Life", "begin", "(LPantryDoors$House;)V"⟩, prog_8_method_2_code, 2, none)
theorem kL_begin : pd_ok mL_begin 1 := ⟨(pd_m 441 (by decide +kernel) (by decide +kernel)), (pd_m 48 (by decide +kernel) (by decide +kernel)), by decide +kernel, by decide, by decide, by decide +kernel, by decide⟩
def mL_remember : pd_M := (⟨"PantryDoors$Life", "remember", "()V"⟩, prog_8_method_3_code, 1, none)
theorem kL_remember : pd_ok mL_remember 0 := ⟨(pd_m 482 (by decide +kernel) (by decide +kernel)), (pd_m 48 (by decide +kernel) (by decide +kernel)), by decide +kernel, by decide, by decide, by decide +kernel, by decide⟩
def mL_loseOldest : pd_M := (⟨"PantryDoors$Life", "loseOldest", "()V"⟩, prog_8_method_4_code, 3, none)
theorem kL_loseOldest : pd_ok mL_loseOldest 0 := ⟨(pd_m 486 (by decide +kernel) (by decide +kernel)), (pd_m 48 (by decide +kernel) (by decide +kernel)), by decide +kernel, by decide, by decide, by decide +kernel, by decide⟩
def mL_recall : pd_M := (⟨"PantryDoors$Life", "recall", "()V"⟩, prog_8_method_5_code, 1, none)
theorem kL_recall : pd_ok mL_recall 0 := ⟨(pd_m 528 (by decide +kernel) (by decide +kernel)), (pd_m 48 (by decide +kernel) (by decide +kernel)), by decide +kernel, by decide, by decide, by decide +kernel, by decide⟩
def mL_copy : pd_M := (⟨"PantryDoors$Life", "copy", "(LPantryDoors$Life;)V"⟩, prog_8_method_6_code, 3, none)
theorem kL_copy : pd_ok mL_copy 1 := ⟨(pd_m 706 (by decide +kernel) (by decide +kernel)), (pd_m 48 (by decide +kernel) (by decide +kernel)), by decide +kernel, by decide, by decide, by decide +kernel, by decide⟩
def mP_init : pd_M := (⟨"PantryDoors$Plan", "<init>", "()V"⟩, prog_9_method_1_code, 1, none)
theorem kP_init : pd_ok mP_init 0 := ⟨(pd_m 159 (by decide +kernel) (by decide +kernel)), (pd_m 50 (by decide +kernel) (by decide +kernel)), by decide +kernel, by decide, by decide, by decide +kernel, by decide⟩
def mP_reckon : pd_M := (⟨"PantryDoors$Plan", "reckon", "(LPantryDoors$House;LPantryDoors$State;I)I"⟩, prog_9_method_2_code, 5, (some .int))
theorem kP_reckon : pd_ok mP_reckon 3 := ⟨(pd_m 566 (by decide +kernel) (by decide +kernel)), (pd_m 50 (by decide +kernel) (by decide +kernel)), by decide +kernel, by decide, by decide, by decide +kernel, by decide⟩
def mP_growTree : pd_M := (⟨"PantryDoors$Plan", "growTree", "(LPantryDoors$House;LPantryDoors$State;I)V"⟩, prog_9_method_3_code, 9, none)
theorem kP_growTree : pd_ok mP_growTree 3 := ⟨(pd_m 572 (by decide +kernel) (by decide +kernel)), (pd_m 50 (by decide +kernel) (by decide +kernel)), by decide +kernel, by decide, by decide, by decide +kernel, by decide⟩
def mP_reckonWanted : pd_M := (⟨"PantryDoors$Plan", "reckonWanted", "(I)V"⟩, prog_9_method_4_code, 5, none)
theorem kP_reckonWanted : pd_ok mP_reckonWanted 1 := ⟨(pd_m 578 (by decide +kernel) (by decide +kernel)), (pd_m 50 (by decide +kernel) (by decide +kernel)), by decide +kernel, by decide, by decide, by decide +kernel, by decide⟩
def mP_allWanted : pd_M := (⟨"PantryDoors$Plan", "allWanted", "()I"⟩, prog_9_method_5_code, 3, (some .int))
theorem kP_allWanted : pd_ok mP_allWanted 0 := ⟨(pd_m 585 (by decide +kernel) (by decide +kernel)), (pd_m 50 (by decide +kernel) (by decide +kernel)), by decide +kernel, by decide, by decide, by decide +kernel, by decide⟩
def mP_descend : pd_M := (⟨"PantryDoors$Plan", "descend", "(I)V"⟩, prog_9_method_6_code, 3, none)
theorem kP_descend : pd_ok mP_descend 1 := ⟨(pd_m 589 (by decide +kernel) (by decide +kernel)), (pd_m 50 (by decide +kernel) (by decide +kernel)), by decide +kernel, by decide, by decide, by decide +kernel, by decide⟩
def mP_ascend : pd_M := (⟨"PantryDoors$Plan", "ascend", "()V"⟩, prog_9_method_7_code, 2, none)
theorem kP_ascend : pd_ok mP_ascend 0 := ⟨(pd_m 593 (by decide +kernel) (by decide +kernel)), (pd_m 50 (by decide +kernel) (by decide +kernel)), by decide +kernel, by decide, by decide, by decide +kernel, by decide⟩
def mP_choose : pd_M := (⟨"PantryDoors$Plan", "choose", "(LPantryDoors$Plan;II)Z"⟩, prog_9_method_8_code, 5, (some .boolean))
theorem kP_choose : pd_ok mP_choose 3 := ⟨(pd_m 581 (by decide +kernel) (by decide +kernel)), (pd_m 50 (by decide +kernel) (by decide +kernel)), by decide +kernel, by decide, by decide, by decide +kernel, by decide⟩
def mD_init : pd_M := (⟨"PantryDoors", "<init>", "()V"⟩, prog_1_method_1_code, 2, none)
theorem kD_init : pd_ok mD_init 0 := ⟨(pd_m 65 (by decide +kernel) (by decide +kernel)), (pd_m 46 (by decide +kernel) (by decide +kernel)), by decide +kernel, by decide, by decide, by decide +kernel, by decide⟩
def mD_type : pd_M := (⟨"PantryDoors", "type", "(I)I"⟩, prog_1_method_2_code, 2, (some .int))
theorem kD_type : pd_ok mD_type 1 := ⟨(pd_m 355 (by decide +kernel) (by decide +kernel)), (pd_m 46 (by decide +kernel) (by decide +kernel)), by decide +kernel, by decide, by decide, by decide +kernel, by decide⟩
def mD_clear : pd_M := (⟨"PantryDoors", "clear", "()I"⟩, prog_1_method_3_code, 2, (some .int))
theorem kD_clear : pd_ok mD_clear 0 := ⟨(pd_m 362 (by decide +kernel) (by decide +kernel)), (pd_m 46 (by decide +kernel) (by decide +kernel)), by decide +kernel, by decide, by decide, by decide +kernel, by decide⟩
def mD_house : pd_M := (⟨"PantryDoors", "house", "()I"⟩, prog_1_method_4_code, 4, (some .int))
theorem kD_house : pd_ok mD_house 0 := ⟨(pd_m 366 (by decide +kernel) (by decide +kernel)), (pd_m 46 (by decide +kernel) (by decide +kernel)), by decide +kernel, by decide, by decide, by decide +kernel, by decide⟩
def mD_good : pd_M := (⟨"PantryDoors", "good", "(II)I"⟩, prog_1_method_5_code, 3, (some .int))
theorem kD_good : pd_ok mD_good 2 := ⟨(pd_m 454 (by decide +kernel) (by decide +kernel)), (pd_m 46 (by decide +kernel) (by decide +kernel)), by decide +kernel, by decide, by decide, by decide +kernel, by decide⟩
def mD_day : pd_M := (⟨"PantryDoors", "day", "(III)I"⟩, prog_1_method_6_code, 4, (some .int))
theorem kD_day : pd_ok mD_day 3 := ⟨(pd_m 474 (by decide +kernel) (by decide +kernel)), (pd_m 46 (by decide +kernel) (by decide +kernel)), by decide +kernel, by decide, by decide, by decide +kernel, by decide⟩
def mD_goes : pd_M := (⟨"PantryDoors", "goes", "()I"⟩, prog_1_method_7_code, 1, (some .int))
theorem kD_goes : pd_ok mD_goes 0 := ⟨(pd_m 478 (by decide +kernel) (by decide +kernel)), (pd_m 46 (by decide +kernel) (by decide +kernel)), by decide +kernel, by decide, by decide, by decide +kernel, by decide⟩
def mD_takes : pd_M := (⟨"PantryDoors", "takes", "(II)I"⟩, prog_1_method_8_code, 4, (some .int))
theorem kD_takes : pd_ok mD_takes 2 := ⟨(pd_m 503 (by decide +kernel) (by decide +kernel)), (pd_m 46 (by decide +kernel) (by decide +kernel)), by decide +kernel, by decide, by decide, by decide +kernel, by decide⟩
def mD_buys : pd_M := (⟨"PantryDoors", "buys", "(II)I"⟩, prog_1_method_9_code, 3, (some .int))
theorem kD_buys : pd_ok mD_buys 2 := ⟨(pd_m 516 (by decide +kernel) (by decide +kernel)), (pd_m 46 (by decide +kernel) (by decide +kernel)), by decide +kernel, by decide, by decide, by decide +kernel, by decide⟩
def mD_holds : pd_M := (⟨"PantryDoors", "holds", "(I)I"⟩, prog_1_method_10_code, 2, (some .int))
theorem kD_holds : pd_ok mD_holds 1 := ⟨(pd_m 520 (by decide +kernel) (by decide +kernel)), (pd_m 46 (by decide +kernel) (by decide +kernel)), by decide +kernel, by decide, by decide, by decide +kernel, by decide⟩
def mD_undo : pd_M := (⟨"PantryDoors", "undo", "()I"⟩, prog_1_method_11_code, 1, (some .int))
theorem kD_undo : pd_ok mD_undo 0 := ⟨(pd_m 524 (by decide +kernel) (by decide +kernel)), (pd_m 46 (by decide +kernel) (by decide +kernel)), by decide +kernel, by decide, by decide, by decide +kernel, by decide⟩
def mD_now : pd_M := (⟨"PantryDoors", "now", "(I)I"⟩, prog_1_method_12_code, 2, (some .int))
theorem kD_now : pd_ok mD_now 1 := ⟨(pd_m 532 (by decide +kernel) (by decide +kernel)), (pd_m 46 (by decide +kernel) (by decide +kernel)), by decide +kernel, by decide, by decide, by decide +kernel, by decide⟩
def mD_firstLack : pd_M := (⟨"PantryDoors", "firstLack", "()I"⟩, prog_1_method_13_code, 5, (some .int))
theorem kD_firstLack : pd_ok mD_firstLack 0 := ⟨(pd_m 539 (by decide +kernel) (by decide +kernel)), (pd_m 46 (by decide +kernel) (by decide +kernel)), by decide +kernel, by decide, by decide, by decide +kernel, by decide⟩
def mD_gives : pd_M := (⟨"PantryDoors", "gives", "(II)I"⟩, prog_1_method_14_code, 3, (some .int))
theorem kD_gives : pd_ok mD_gives 2 := ⟨(pd_m 544 (by decide +kernel) (by decide +kernel)), (pd_m 46 (by decide +kernel) (by decide +kernel)), by decide +kernel, by decide, by decide, by decide +kernel, by decide⟩
def mD_steps : pd_M := (⟨"PantryDoors", "steps", "(I)I"⟩, prog_1_method_15_code, 4, (some .int))
theorem kD_steps : pd_ok mD_steps 1 := ⟨(pd_m 549 (by decide +kernel) (by decide +kernel)), (pd_m 46 (by decide +kernel) (by decide +kernel)), by decide +kernel, by decide, by decide, by decide +kernel, by decide⟩
def mD_meetings : pd_M := (⟨"PantryDoors", "meetings", "(I)I"⟩, prog_1_method_16_code, 4, (some .int))
theorem kD_meetings : pd_ok mD_meetings 1 := ⟨(pd_m 553 (by decide +kernel) (by decide +kernel)), (pd_m 46 (by decide +kernel) (by decide +kernel)), by decide +kernel, by decide, by decide, by decide +kernel, by decide⟩
def mD_hungry : pd_M := (⟨"PantryDoors", "hungry", "(II)I"⟩, prog_1_method_17_code, 7, (some .int))
theorem kD_hungry : pd_ok mD_hungry 2 := ⟨(pd_m 557 (by decide +kernel) (by decide +kernel)), (pd_m 46 (by decide +kernel) (by decide +kernel)), by decide +kernel, by decide, by decide, by decide +kernel, by decide⟩
def mD_fed : pd_M := (⟨"PantryDoors", "fed", "(II)I"⟩, prog_1_method_18_code, 4, (some .int))
theorem kD_fed : pd_ok mD_fed 2 := ⟨(pd_m 562 (by decide +kernel) (by decide +kernel)), (pd_m 46 (by decide +kernel) (by decide +kernel)), by decide +kernel, by decide, by decide, by decide +kernel, by decide⟩
def mD_carry : pd_M := (⟨"PantryDoors", "carry", "(II)I"⟩, prog_1_method_19_code, 5, (some .int))
theorem kD_carry : pd_ok mD_carry 2 := ⟨(pd_m 597 (by decide +kernel) (by decide +kernel)), (pd_m 46 (by decide +kernel) (by decide +kernel)), by decide +kernel, by decide, by decide, by decide +kernel, by decide⟩
def mD_reckonLoads : pd_M := (⟨"PantryDoors", "reckonLoads", "(I)V"⟩, prog_1_method_20_code, 7, none)
theorem kD_reckonLoads : pd_ok mD_reckonLoads 1 := ⟨(pd_m 601 (by decide +kernel) (by decide +kernel)), (pd_m 46 (by decide +kernel) (by decide +kernel)), by decide +kernel, by decide, by decide, by decide +kernel, by decide⟩
def mD_worthWith : pd_M := (⟨"PantryDoors", "worthWith", "(III)I"⟩, prog_1_method_21_code, 4, (some .int))
theorem kD_worthWith : pd_ok mD_worthWith 3 := ⟨(pd_m 605 (by decide +kernel) (by decide +kernel)), (pd_m 46 (by decide +kernel) (by decide +kernel)), by decide +kernel, by decide, by decide, by decide +kernel, by decide⟩
def mD_leastCarried : pd_M := (⟨"PantryDoors", "leastCarried", "(II)I"⟩, prog_1_method_22_code, 5, (some .int))
theorem kD_leastCarried : pd_ok mD_leastCarried 2 := ⟨(pd_m 610 (by decide +kernel) (by decide +kernel)), (pd_m 46 (by decide +kernel) (by decide +kernel)), by decide +kernel, by decide, by decide, by decide +kernel, by decide⟩
def mD_odds : pd_M := (⟨"PantryDoors", "odds", "(III)I"⟩, prog_1_method_23_code, 7, (some .int))
theorem kD_odds : pd_ok mD_odds 3 := ⟨(pd_m 614 (by decide +kernel) (by decide +kernel)), (pd_m 46 (by decide +kernel) (by decide +kernel)), by decide +kernel, by decide, by decide, by decide +kernel, by decide⟩
def mD_commonFactors : pd_M := (⟨"PantryDoors", "commonFactors", "(IIII)I"⟩, prog_1_method_24_code, 7, (some .int))
theorem kD_commonFactors : pd_ok mD_commonFactors 4 := ⟨(pd_m 617 (by decide +kernel) (by decide +kernel)), (pd_m 46 (by decide +kernel) (by decide +kernel)), by decide +kernel, by decide, by decide, by decide +kernel, by decide⟩
def mD_store : pd_M := (⟨"PantryDoors", "store", "(II)I"⟩, prog_1_method_25_code, 3, (some .int))
theorem kD_store : pd_ok mD_store 2 := ⟨(pd_m 621 (by decide +kernel) (by decide +kernel)), (pd_m 46 (by decide +kernel) (by decide +kernel)), by decide +kernel, by decide, by decide, by decide +kernel, by decide⟩
def mD_saw : pd_M := (⟨"PantryDoors", "saw", "(II)I"⟩, prog_1_method_26_code, 3, (some .int))
theorem kD_saw : pd_ok mD_saw 2 := ⟨(pd_m 625 (by decide +kernel) (by decide +kernel)), (pd_m 46 (by decide +kernel) (by decide +kernel)), by decide +kernel, by decide, by decide, by decide +kernel, by decide⟩
def mD_days : pd_M := (⟨"PantryDoors", "days", "()I"⟩, prog_1_method_27_code, 3, (some .int))
theorem kD_days : pd_ok mD_days 0 := ⟨(pd_m 629 (by decide +kernel) (by decide +kernel)), (pd_m 46 (by decide +kernel) (by decide +kernel)), by decide +kernel, by decide, by decide, by decide +kernel, by decide⟩
def mD_isAsSeen : pd_M := (⟨"PantryDoors", "isAsSeen", "(I)Z"⟩, prog_1_method_28_code, 3, (some .boolean))
theorem kD_isAsSeen : pd_ok mD_isAsSeen 1 := ⟨(pd_m 633 (by decide +kernel) (by decide +kernel)), (pd_m 46 (by decide +kernel) (by decide +kernel)), by decide +kernel, by decide, by decide, by decide +kernel, by decide⟩
def mD_look : pd_M := (⟨"PantryDoors", "look", "()I"⟩, prog_1_method_29_code, 6, (some .int))
theorem kD_look : pd_ok mD_look 0 := ⟨(pd_m 637 (by decide +kernel) (by decide +kernel)), (pd_m 46 (by decide +kernel) (by decide +kernel)), by decide +kernel, by decide, by decide, by decide +kernel, by decide⟩
def mD_mostAlike : pd_M := (⟨"PantryDoors", "mostAlike", "(II)I"⟩, prog_1_method_30_code, 5, (some .int))
theorem kD_mostAlike : pd_ok mD_mostAlike 2 := ⟨(pd_m 642 (by decide +kernel) (by decide +kernel)), (pd_m 46 (by decide +kernel) (by decide +kernel)), by decide +kernel, by decide, by decide, by decide +kernel, by decide⟩
def mD_alike : pd_M := (⟨"PantryDoors", "alike", "(III)I"⟩, prog_1_method_31_code, 6, (some .int))
theorem kD_alike : pd_ok mD_alike 3 := ⟨(pd_m 646 (by decide +kernel) (by decide +kernel)), (pd_m 46 (by decide +kernel) (by decide +kernel)), by decide +kernel, by decide, by decide, by decide +kernel, by decide⟩
def mD_gave : pd_M := (⟨"PantryDoors", "gave", "(II)I"⟩, prog_1_method_32_code, 3, (some .int))
theorem kD_gave : pd_ok mD_gave 2 := ⟨(pd_m 650 (by decide +kernel) (by decide +kernel)), (pd_m 46 (by decide +kernel) (by decide +kernel)), by decide +kernel, by decide, by decide, by decide +kernel, by decide⟩
def mD_laws : pd_M := (⟨"PantryDoors", "laws", "(I)I"⟩, prog_1_method_33_code, 6, (some .int))
theorem kD_laws : pd_ok mD_laws 1 := ⟨(pd_m 654 (by decide +kernel) (by decide +kernel)), (pd_m 46 (by decide +kernel) (by decide +kernel)), by decide +kernel, by decide, by decide, by decide +kernel, by decide⟩
def mD_isAsGave : pd_M := (⟨"PantryDoors", "isAsGave", "(II)Z"⟩, prog_1_method_34_code, 4, (some .boolean))
theorem kD_isAsGave : pd_ok mD_isAsGave 2 := ⟨(pd_m 658 (by decide +kernel) (by decide +kernel)), (pd_m 46 (by decide +kernel) (by decide +kernel)), by decide +kernel, by decide, by decide, by decide +kernel, by decide⟩
def mD_forget : pd_M := (⟨"PantryDoors", "forget", "()I"⟩, prog_1_method_35_code, 2, (some .int))
theorem kD_forget : pd_ok mD_forget 0 := ⟨(pd_m 663 (by decide +kernel) (by decide +kernel)), (pd_m 46 (by decide +kernel) (by decide +kernel)), by decide +kernel, by decide, by decide, by decide +kernel, by decide⟩
def mD_mark : pd_M := (⟨"PantryDoors", "mark", "(II)I"⟩, prog_1_method_36_code, 3, (some .int))
theorem kD_mark : pd_ok mD_mark 2 := ⟨(pd_m 667 (by decide +kernel) (by decide +kernel)), (pd_m 46 (by decide +kernel) (by decide +kernel)), by decide +kernel, by decide, by decide, by decide +kernel, by decide⟩
def mD_keep : pd_M := (⟨"PantryDoors", "keep", "(I)I"⟩, prog_1_method_37_code, 2, (some .int))
theorem kD_keep : pd_ok mD_keep 1 := ⟨(pd_m 702 (by decide +kernel) (by decide +kernel)), (pd_m 46 (by decide +kernel) (by decide +kernel)), by decide +kernel, by decide, by decide, by decide +kernel, by decide⟩
def mD_back : pd_M := (⟨"PantryDoors", "back", "(I)I"⟩, prog_1_method_38_code, 2, (some .int))
theorem kD_back : pd_ok mD_back 1 := ⟨(pd_m 710 (by decide +kernel) (by decide +kernel)), (pd_m 46 (by decide +kernel) (by decide +kernel)), by decide +kernel, by decide, by decide, by decide +kernel, by decide⟩
def mD_count : pd_M := (⟨"PantryDoors", "count", "(I)I"⟩, prog_1_method_39_code, 2, (some .int))
theorem kD_count : pd_ok mD_count 1 := ⟨(pd_m 714 (by decide +kernel) (by decide +kernel)), (pd_m 46 (by decide +kernel) (by decide +kernel)), by decide +kernel, by decide, by decide, by decide +kernel, by decide⟩
def mD_trace : pd_M := (⟨"PantryDoors", "trace", "()J"⟩, prog_1_method_40_code, 4, (some .long))
theorem kD_trace : pd_ok mD_trace 0 := ⟨(pd_m 718 (by decide +kernel) (by decide +kernel)), (pd_m 46 (by decide +kernel) (by decide +kernel)), by decide +kernel, by decide, by decide, by decide +kernel, by decide⟩
def mD_within : pd_M := (⟨"PantryDoors", "within", "(III)Z"⟩, prog_1_method_41_code, 3, (some .boolean))
theorem kD_within : pd_ok mD_within 3 := ⟨(pd_m 358 (by decide +kernel) (by decide +kernel)), (pd_m 46 (by decide +kernel) (by decide +kernel)), by decide +kernel, by decide, by decide, by decide +kernel, by decide⟩
def mD_sum : pd_M := (⟨"PantryDoors", "sum", "([I)I"⟩, prog_1_method_42_code, 3, (some .int))
theorem kD_sum : pd_ok mD_sum 1 := ⟨(pd_m 535 (by decide +kernel) (by decide +kernel)), (pd_m 46 (by decide +kernel) (by decide +kernel)), by decide +kernel, by decide, by decide, by decide +kernel, by decide⟩
def mD_leadsBy : pd_M := (⟨"PantryDoors", "leadsBy", "(III)I"⟩, prog_1_method_43_code, 3, (some .int))
theorem kD_leadsBy : pd_ok mD_leadsBy 3 := ⟨(pd_m 470 (by decide +kernel) (by decide +kernel)), (pd_m 46 (by decide +kernel) (by decide +kernel)), by decide +kernel, by decide, by decide, by decide +kernel, by decide⟩
def mR_init : pd_M := (⟨"PantryDoorsModel", "<init>", "()V"⟩, prog_14_method_1_code, 1, none)
theorem kR_init : pd_ok mR_init 0 := ⟨(pd_m 723 (by decide +kernel) (by decide +kernel)), (pd_m 58 (by decide +kernel) (by decide +kernel)), by decide +kernel, by decide, by decide, by decide +kernel, by decide⟩
def mR_in : pd_M := (⟨"PantryDoorsModel", "in", "(III)Z"⟩, prog_14_method_3_code, 3, (some .boolean))
theorem kR_in : pd_ok mR_in 3 := ⟨(pd_m 829 (by decide +kernel) (by decide +kernel)), (pd_m 58 (by decide +kernel) (by decide +kernel)), by decide +kernel, by decide, by decide, by decide +kernel, by decide⟩
def mR_has : pd_M := (⟨"PantryDoorsModel", "has", "(II)Z"⟩, prog_14_method_4_code, 2, (some .boolean))
theorem kR_has : pd_ok mR_has 2 := ⟨(pd_m 1002 (by decide +kernel) (by decide +kernel)), (pd_m 58 (by decide +kernel) (by decide +kernel)), by decide +kernel, by decide, by decide, by decide +kernel, by decide⟩
def mR_type : pd_M := (⟨"PantryDoorsModel", "type", "(I)I"⟩, prog_14_method_5_code, 2, (some .int))
theorem kR_type : pd_ok mR_type 1 := ⟨(pd_m 826 (by decide +kernel) (by decide +kernel)), (pd_m 58 (by decide +kernel) (by decide +kernel)), by decide +kernel, by decide, by decide, by decide +kernel, by decide⟩
def mR_clear : pd_M := (⟨"PantryDoorsModel", "clear", "()I"⟩, prog_14_method_6_code, 2, (some .int))
theorem kR_clear : pd_ok mR_clear 0 := ⟨(pd_m 833 (by decide +kernel) (by decide +kernel)), (pd_m 58 (by decide +kernel) (by decide +kernel)), by decide +kernel, by decide, by decide, by decide +kernel, by decide⟩
def mR_here : pd_M := (⟨"PantryDoorsModel", "here", "()I"⟩, prog_14_method_7_code, 1, (some .int))
theorem kR_here : pd_ok mR_here 0 := ⟨(pd_m 849 (by decide +kernel) (by decide +kernel)), (pd_m 58 (by decide +kernel) (by decide +kernel)), by decide +kernel, by decide, by decide, by decide +kernel, by decide⟩
def mR_step : pd_M := (⟨"PantryDoorsModel", "step", "()V"⟩, prog_14_method_8_code, 2, none)
theorem kR_step : pd_ok mR_step 0 := ⟨(pd_m 845 (by decide +kernel) (by decide +kernel)), (pd_m 58 (by decide +kernel) (by decide +kernel)), by decide +kernel, by decide, by decide, by decide +kernel, by decide⟩
def mR_due : pd_M := (⟨"PantryDoorsModel", "due", "(Z)V"⟩, prog_14_method_9_code, 2, none)
theorem kR_due : pd_ok mR_due 1 := ⟨(pd_m 857 (by decide +kernel) (by decide +kernel)), (pd_m 58 (by decide +kernel) (by decide +kernel)), by decide +kernel, by decide, by decide, by decide +kernel, by decide⟩
def mR_number : pd_M := (⟨"PantryDoorsModel", "number", "(II)I"⟩, prog_14_method_10_code, 4, (some .int))
theorem kR_number : pd_ok mR_number 2 := ⟨(pd_m 869 (by decide +kernel) (by decide +kernel)), (pd_m 58 (by decide +kernel) (by decide +kernel)), by decide +kernel, by decide, by decide, by decide +kernel, by decide⟩
def mR_readGood : pd_M := (⟨"PantryDoorsModel", "readGood", "()V"⟩, prog_14_method_11_code, 2, none)
theorem kR_readGood : pd_ok mR_readGood 0 := ⟨(pd_m 865 (by decide +kernel) (by decide +kernel)), (pd_m 58 (by decide +kernel) (by decide +kernel)), by decide +kernel, by decide, by decide, by decide +kernel, by decide⟩
def mR_readOf : pd_M := (⟨"PantryDoorsModel", "readOf", "([I)V"⟩, prog_14_method_12_code, 5, none)
theorem kR_readOf : pd_ok mR_readOf 1 := ⟨(pd_m 873 (by decide +kernel) (by decide +kernel)), (pd_m 58 (by decide +kernel) (by decide +kernel)), by decide +kernel, by decide, by decide, by decide +kernel, by decide⟩
def mR_item : pd_M := (⟨"PantryDoorsModel", "item", "(I)V"⟩, prog_14_method_13_code, 2, none)
theorem kR_item : pd_ok mR_item 1 := ⟨(pd_m 861 (by decide +kernel) (by decide +kernel)), (pd_m 58 (by decide +kernel) (by decide +kernel)), by decide +kernel, by decide, by decide, by decide +kernel, by decide⟩
def mR_may : pd_M := (⟨"PantryDoorsModel", "may", "(I)Z"⟩, prog_14_method_14_code, 2, (some .boolean))
theorem kR_may : pd_ok mR_may 1 := ⟨(pd_m 853 (by decide +kernel) (by decide +kernel)), (pd_m 58 (by decide +kernel) (by decide +kernel)), by decide +kernel, by decide, by decide, by decide +kernel, by decide⟩
def mR_read : pd_M := (⟨"PantryDoorsModel", "read", "()V"⟩, prog_14_method_15_code, 2, none)
theorem kR_read : pd_ok mR_read 0 := ⟨(pd_m 841 (by decide +kernel) (by decide +kernel)), (pd_m 58 (by decide +kernel) (by decide +kernel)), by decide +kernel, by decide, by decide, by decide +kernel, by decide⟩
def mR_house : pd_M := (⟨"PantryDoorsModel", "house", "()I"⟩, prog_14_method_16_code, 2, (some .int))
theorem kR_house : pd_ok mR_house 0 := ⟨(pd_m 837 (by decide +kernel) (by decide +kernel)), (pd_m 58 (by decide +kernel) (by decide +kernel)), by decide +kernel, by decide, by decide, by decide +kernel, by decide⟩
def mR_take : pd_M := (⟨"PantryDoorsModel", "take", "()V"⟩, prog_14_method_17_code, 2, none)
theorem kR_take : pd_ok mR_take 0 := ⟨(pd_m 950 (by decide +kernel) (by decide +kernel)), (pd_m 58 (by decide +kernel) (by decide +kernel)), by decide +kernel, by decide, by decide, by decide +kernel, by decide⟩
def mR_isGood : pd_M := (⟨"PantryDoorsModel", "isGood", "(I)Z"⟩, prog_14_method_18_code, 2, (some .boolean))
theorem kR_isGood : pd_ok mR_isGood 1 := ⟨(pd_m 881 (by decide +kernel) (by decide +kernel)), (pd_m 58 (by decide +kernel) (by decide +kernel)), by decide +kernel, by decide, by decide, by decide +kernel, by decide⟩
def mR_isDay : pd_M := (⟨"PantryDoorsModel", "isDay", "(I)Z"⟩, prog_14_method_19_code, 1, (some .boolean))
theorem kR_isDay : pd_ok mR_isDay 1 := ⟨(pd_m 903 (by decide +kernel) (by decide +kernel)), (pd_m 58 (by decide +kernel) (by decide +kernel)), by decide +kernel, by decide, by decide, by decide +kernel, by decide⟩
def mR_lawOn : pd_M := (⟨"PantryDoorsModel", "lawOn", "(III)I"⟩, prog_14_method_20_code, 3, (some .int))
theorem kR_lawOn : pd_ok mR_lawOn 3 := ⟨(pd_m 896 (by decide +kernel) (by decide +kernel)), (pd_m 58 (by decide +kernel) (by decide +kernel)), by decide +kernel, by decide, by decide, by decide +kernel, by decide⟩
def mR_givesOn : pd_M := (⟨"PantryDoorsModel", "givesOn", "(I)I"⟩, prog_14_method_21_code, 2, (some .int))
theorem kR_givesOn : pd_ok mR_givesOn 1 := ⟨(pd_m 893 (by decide +kernel) (by decide +kernel)), (pd_m 58 (by decide +kernel) (by decide +kernel)), by decide +kernel, by decide, by decide, by decide +kernel, by decide⟩
def mR_opens : pd_M := (⟨"PantryDoorsModel", "opens", "([I)I"⟩, prog_14_method_22_code, 2, (some .int))
theorem kR_opens : pd_ok mR_opens 1 := ⟨(pd_m 889 (by decide +kernel) (by decide +kernel)), (pd_m 58 (by decide +kernel) (by decide +kernel)), by decide +kernel, by decide, by decide, by decide +kernel, by decide⟩
def mR_canTake : pd_M := (⟨"PantryDoorsModel", "canTake", "([II)I"⟩, prog_14_method_23_code, 4, (some .int))
theorem kR_canTake : pd_ok mR_canTake 2 := ⟨(pd_m 885 (by decide +kernel) (by decide +kernel)), (pd_m 58 (by decide +kernel) (by decide +kernel)), by decide +kernel, by decide, by decide, by decide +kernel, by decide⟩
def mR_atMost : pd_M := (⟨"PantryDoorsModel", "atMost", "(I)I"⟩, prog_14_method_24_code, 1, (some .int))
theorem kR_atMost : pd_ok mR_atMost 1 := ⟨(pd_m 918 (by decide +kernel) (by decide +kernel)), (pd_m 58 (by decide +kernel) (by decide +kernel)), by decide +kernel, by decide, by decide, by decide +kernel, by decide⟩
def mR_takeOf : pd_M := (⟨"PantryDoorsModel", "takeOf", "([III)V"⟩, prog_14_method_25_code, 4, none)
theorem kR_takeOf : pd_ok mR_takeOf 3 := ⟨(pd_m 926 (by decide +kernel) (by decide +kernel)), (pd_m 58 (by decide +kernel) (by decide +kernel)), by decide +kernel, by decide, by decide, by decide +kernel, by decide⟩
def mR_passOn : pd_M := (⟨"PantryDoorsModel", "passOn", "([I)I"⟩, prog_14_method_26_code, 5, (some .int))
theorem kR_passOn : pd_ok mR_passOn 1 := ⟨(pd_m 915 (by decide +kernel) (by decide +kernel)), (pd_m 58 (by decide +kernel) (by decide +kernel)), by decide +kernel, by decide, by decide, by decide +kernel, by decide⟩
def mR_good : pd_M := (⟨"PantryDoorsModel", "good", "(II)I"⟩, prog_14_method_27_code, 3, (some .int))
theorem kR_good : pd_ok mR_good 2 := ⟨(pd_m 877 (by decide +kernel) (by decide +kernel)), (pd_m 58 (by decide +kernel) (by decide +kernel)), by decide +kernel, by decide, by decide, by decide +kernel, by decide⟩
def mR_day : pd_M := (⟨"PantryDoorsModel", "day", "(III)I"⟩, prog_14_method_28_code, 4, (some .int))
theorem kR_day : pd_ok mR_day 3 := ⟨(pd_m 900 (by decide +kernel) (by decide +kernel)), (pd_m 58 (by decide +kernel) (by decide +kernel)), by decide +kernel, by decide, by decide, by decide +kernel, by decide⟩
def mR_know : pd_M := (⟨"PantryDoorsModel", "know", "()V"⟩, prog_14_method_29_code, 2, none)
theorem kR_know : pd_ok mR_know 0 := ⟨(pd_m 911 (by decide +kernel) (by decide +kernel)), (pd_m 58 (by decide +kernel) (by decide +kernel)), by decide +kernel, by decide, by decide, by decide +kernel, by decide⟩
def mR_goes : pd_M := (⟨"PantryDoorsModel", "goes", "()I"⟩, prog_14_method_30_code, 1, (some .int))
theorem kR_goes : pd_ok mR_goes 0 := ⟨(pd_m 907 (by decide +kernel) (by decide +kernel)), (pd_m 58 (by decide +kernel) (by decide +kernel)), by decide +kernel, by decide, by decide, by decide +kernel, by decide⟩
def mR_takes : pd_M := (⟨"PantryDoorsModel", "takes", "(II)I"⟩, prog_14_method_31_code, 3, (some .int))
theorem kR_takes : pd_ok mR_takes 2 := ⟨(pd_m 922 (by decide +kernel) (by decide +kernel)), (pd_m 58 (by decide +kernel) (by decide +kernel)), by decide +kernel, by decide, by decide, by decide +kernel, by decide⟩
def mR_buys : pd_M := (⟨"PantryDoorsModel", "buys", "(II)I"⟩, prog_14_method_32_code, 3, (some .int))
theorem kR_buys : pd_ok mR_buys 2 := ⟨(pd_m 930 (by decide +kernel) (by decide +kernel)), (pd_m 58 (by decide +kernel) (by decide +kernel)), by decide +kernel, by decide, by decide, by decide +kernel, by decide⟩
def mR_holds : pd_M := (⟨"PantryDoorsModel", "holds", "(I)I"⟩, prog_14_method_33_code, 2, (some .int))
theorem kR_holds : pd_ok mR_holds 1 := ⟨(pd_m 934 (by decide +kernel) (by decide +kernel)), (pd_m 58 (by decide +kernel) (by decide +kernel)), by decide +kernel, by decide, by decide, by decide +kernel, by decide⟩
def mR_undo : pd_M := (⟨"PantryDoorsModel", "undo", "()I"⟩, prog_14_method_34_code, 2, (some .int))
theorem kR_undo : pd_ok mR_undo 0 := ⟨(pd_m 938 (by decide +kernel) (by decide +kernel)), (pd_m 58 (by decide +kernel) (by decide +kernel)), by decide +kernel, by decide, by decide, by decide +kernel, by decide⟩
def mR_firstHungry : pd_M := (⟨"PantryDoorsModel", "firstHungry", "()I"⟩, prog_14_method_35_code, 1, (some .int))
theorem kR_firstHungry : pd_ok mR_firstHungry 0 := ⟨(pd_m 946 (by decide +kernel) (by decide +kernel)), (pd_m 58 (by decide +kernel) (by decide +kernel)), by decide +kernel, by decide, by decide, by decide +kernel, by decide⟩
def mR_now : pd_M := (⟨"PantryDoorsModel", "now", "(I)I"⟩, prog_14_method_36_code, 4, (some .int))
theorem kR_now : pd_ok mR_now 1 := ⟨(pd_m 942 (by decide +kernel) (by decide +kernel)), (pd_m 58 (by decide +kernel) (by decide +kernel)), by decide +kernel, by decide, by decide, by decide +kernel, by decide⟩
def mR_gives : pd_M := (⟨"PantryDoorsModel", "gives", "(II)I"⟩, prog_14_method_37_code, 5, (some .int))
theorem kR_gives : pd_ok mR_gives 2 := ⟨(pd_m 954 (by decide +kernel) (by decide +kernel)), (pd_m 58 (by decide +kernel) (by decide +kernel)), by decide +kernel, by decide, by decide, by decide +kernel, by decide⟩
def mR_hungry : pd_M := (⟨"PantryDoorsModel", "hungry", "(II)I"⟩, prog_14_method_38_code, 4, (some .int))
theorem kR_hungry : pd_ok mR_hungry 2 := ⟨(pd_m 958 (by decide +kernel) (by decide +kernel)), (pd_m 58 (by decide +kernel) (by decide +kernel)), by decide +kernel, by decide, by decide, by decide +kernel, by decide⟩
def mR_takenBy : pd_M := (⟨"PantryDoorsModel", "takenBy", "(II)I"⟩, prog_14_method_39_code, 8, (some .int))
theorem kR_takenBy : pd_ok mR_takenBy 2 := ⟨(pd_m 966 (by decide +kernel) (by decide +kernel)), (pd_m 58 (by decide +kernel) (by decide +kernel)), by decide +kernel, by decide, by decide, by decide +kernel, by decide⟩
def mR_fed : pd_M := (⟨"PantryDoorsModel", "fed", "(II)I"⟩, prog_14_method_40_code, 9, (some .int))
theorem kR_fed : pd_ok mR_fed 2 := ⟨(pd_m 962 (by decide +kernel) (by decide +kernel)), (pd_m 58 (by decide +kernel) (by decide +kernel)), by decide +kernel, by decide, by decide, by decide +kernel, by decide⟩
def mR_tellMost : pd_M := (⟨"PantryDoorsModel", "tellMost", "()V"⟩, prog_14_method_41_code, 6, none)
theorem kR_tellMost : pd_ok mR_tellMost 0 := ⟨(pd_m 974 (by decide +kernel) (by decide +kernel)), (pd_m 58 (by decide +kernel) (by decide +kernel)), by decide +kernel, by decide, by decide, by decide +kernel, by decide⟩
def mR_carry : pd_M := (⟨"PantryDoorsModel", "carry", "(II)I"⟩, prog_14_method_42_code, 6, (some .int))
theorem kR_carry : pd_ok mR_carry 2 := ⟨(pd_m 970 (by decide +kernel) (by decide +kernel)), (pd_m 58 (by decide +kernel) (by decide +kernel)), by decide +kernel, by decide, by decide, by decide +kernel, by decide⟩
def mR_odds : pd_M := (⟨"PantryDoorsModel", "odds", "(III)I"⟩, prog_14_method_43_code, 9, (some .int))
theorem kR_odds : pd_ok mR_odds 3 := ⟨(pd_m 978 (by decide +kernel) (by decide +kernel)), (pd_m 58 (by decide +kernel) (by decide +kernel)), by decide +kernel, by decide, by decide, by decide +kernel, by decide⟩
def mR_storeOf : pd_M := (⟨"PantryDoorsModel", "storeOf", "(II)I"⟩, prog_14_method_44_code, 4, (some .int))
theorem kR_storeOf : pd_ok mR_storeOf 2 := ⟨(pd_m 986 (by decide +kernel) (by decide +kernel)), (pd_m 58 (by decide +kernel) (by decide +kernel)), by decide +kernel, by decide, by decide, by decide +kernel, by decide⟩
def mR_store : pd_M := (⟨"PantryDoorsModel", "store", "(II)I"⟩, prog_14_method_45_code, 3, (some .int))
theorem kR_store : pd_ok mR_store 2 := ⟨(pd_m 982 (by decide +kernel) (by decide +kernel)), (pd_m 58 (by decide +kernel) (by decide +kernel)), by decide +kernel, by decide, by decide, by decide +kernel, by decide⟩
def mR_saw : pd_M := (⟨"PantryDoorsModel", "saw", "(II)I"⟩, prog_14_method_46_code, 3, (some .int))
theorem kR_saw : pd_ok mR_saw 2 := ⟨(pd_m 990 (by decide +kernel) (by decide +kernel)), (pd_m 58 (by decide +kernel) (by decide +kernel)), by decide +kernel, by decide, by decide, by decide +kernel, by decide⟩
def mR_days : pd_M := (⟨"PantryDoorsModel", "days", "()I"⟩, prog_14_method_47_code, 5, (some .int))
theorem kR_days : pd_ok mR_days 0 := ⟨(pd_m 994 (by decide +kernel) (by decide +kernel)), (pd_m 58 (by decide +kernel) (by decide +kernel)), by decide +kernel, by decide, by decide, by decide +kernel, by decide⟩
def mR_look : pd_M := (⟨"PantryDoorsModel", "look", "()I"⟩, prog_14_method_48_code, 9, (some .int))
theorem kR_look : pd_ok mR_look 0 := ⟨(pd_m 998 (by decide +kernel) (by decide +kernel)), (pd_m 58 (by decide +kernel) (by decide +kernel)), by decide +kernel, by decide, by decide, by decide +kernel, by decide⟩
def mR_gave : pd_M := (⟨"PantryDoorsModel", "gave", "(II)I"⟩, prog_14_method_49_code, 3, (some .int))
theorem kR_gave : pd_ok mR_gave 2 := ⟨(pd_m 1006 (by decide +kernel) (by decide +kernel)), (pd_m 58 (by decide +kernel) (by decide +kernel)), by decide +kernel, by decide, by decide, by decide +kernel, by decide⟩
def mR_laws : pd_M := (⟨"PantryDoorsModel", "laws", "(I)I"⟩, prog_14_method_50_code, 8, (some .int))
theorem kR_laws : pd_ok mR_laws 1 := ⟨(pd_m 1010 (by decide +kernel) (by decide +kernel)), (pd_m 58 (by decide +kernel) (by decide +kernel)), by decide +kernel, by decide, by decide, by decide +kernel, by decide⟩
def mR_forget : pd_M := (⟨"PantryDoorsModel", "forget", "()I"⟩, prog_14_method_51_code, 2, (some .int))
theorem kR_forget : pd_ok mR_forget 0 := ⟨(pd_m 1014 (by decide +kernel) (by decide +kernel)), (pd_m 58 (by decide +kernel) (by decide +kernel)), by decide +kernel, by decide, by decide, by decide +kernel, by decide⟩
def mR_bodiesOf : pd_M := (⟨"PantryDoorsModel", "bodiesOf", "(I)I"⟩, prog_14_method_52_code, 1, (some .int))
theorem kR_bodiesOf : pd_ok mR_bodiesOf 1 := ⟨(pd_m 1022 (by decide +kernel) (by decide +kernel)), (pd_m 58 (by decide +kernel) (by decide +kernel)), by decide +kernel, by decide, by decide, by decide +kernel, by decide⟩
def mR_mark : pd_M := (⟨"PantryDoorsModel", "mark", "(II)I"⟩, prog_14_method_53_code, 7, (some .int))
theorem kR_mark : pd_ok mR_mark 2 := ⟨(pd_m 1018 (by decide +kernel) (by decide +kernel)), (pd_m 58 (by decide +kernel) (by decide +kernel)), by decide +kernel, by decide, by decide, by decide +kernel, by decide⟩
def mR_trace : pd_M := (⟨"PantryDoorsModel", "trace", "()J"⟩, prog_14_method_54_code, 1, (some .long))
theorem kR_trace : pd_ok mR_trace 0 := ⟨(pd_m 1027 (by decide +kernel) (by decide +kernel)), (pd_m 58 (by decide +kernel) (by decide +kernel)), by decide +kernel, by decide, by decide, by decide +kernel, by decide⟩
def mR_keep : pd_M := (⟨"PantryDoorsModel", "keep", "(I)I"⟩, prog_14_method_55_code, 3, (some .int))
theorem kR_keep : pd_ok mR_keep 1 := ⟨(pd_m 1031 (by decide +kernel) (by decide +kernel)), (pd_m 58 (by decide +kernel) (by decide +kernel)), by decide +kernel, by decide, by decide, by decide +kernel, by decide⟩
def mR_back : pd_M := (⟨"PantryDoorsModel", "back", "(I)I"⟩, prog_14_method_56_code, 3, (some .int))
theorem kR_back : pd_ok mR_back 1 := ⟨(pd_m 1035 (by decide +kernel) (by decide +kernel)), (pd_m 58 (by decide +kernel) (by decide +kernel)), by decide +kernel, by decide, by decide, by decide +kernel, by decide⟩
def mR_count : pd_M := (⟨"PantryDoorsModel", "count", "(I)I"⟩, prog_14_method_57_code, 2, (some .int))
theorem kR_count : pd_ok mR_count 1 := ⟨(pd_m 1039 (by decide +kernel) (by decide +kernel)), (pd_m 58 (by decide +kernel) (by decide +kernel)), by decide +kernel, by decide, by decide, by decide +kernel, by decide⟩
def mG_init : pd_M := (⟨"PantryDoors$Good", "<init>", "()V"⟩, prog_4_method_1_code, 1, none)
theorem kG_init : pd_ok mG_init 0 := ⟨(pd_m 188 (by decide +kernel) (by decide +kernel)), (pd_m 51 (by decide +kernel) (by decide +kernel)), by decide +kernel, by decide, by decide, by decide +kernel, by decide⟩
def mG_marks : pd_M := (⟨"PantryDoors$Good", "marks", "(LPantryDoors$House;LPantryDoors$State;I)I"⟩, prog_4_method_2_code, 4, (some .int))
theorem kG_marks : pd_ok mG_marks 3 := ⟨(pd_m 698 (by decide +kernel) (by decide +kernel)), (pd_m 51 (by decide +kernel) (by decide +kernel)), by decide +kernel, by decide, by decide, by decide +kernel, by decide⟩
def mSu_init : pd_M := (⟨"PantryDoors$Sugar", "<init>", "()V"⟩, prog_11_method_1_code, 1, none)
theorem kSu_init : pd_ok mSu_init 0 := ⟨(pd_m 209 (by decide +kernel) (by decide +kernel)), (pd_m 52 (by decide +kernel) (by decide +kernel)), by decide +kernel, by decide, by decide, by decide +kernel, by decide⟩
def mSu_marks : pd_M := (⟨"PantryDoors$Sugar", "marks", "(LPantryDoors$House;LPantryDoors$State;I)I"⟩, prog_11_method_2_code, 4, (some .int))
theorem kSu_marks : pd_ok mSu_marks 3 := ⟨(pd_m 684 (by decide +kernel) (by decide +kernel)), (pd_m 52 (by decide +kernel) (by decide +kernel)), by decide +kernel, by decide, by decide, by decide +kernel, by decide⟩
def mHa_init : pd_M := (⟨"PantryDoors$Ham", "<init>", "()V"⟩, prog_5_method_1_code, 1, none)
theorem kHa_init : pd_ok mHa_init 0 := ⟨(pd_m 217 (by decide +kernel) (by decide +kernel)), (pd_m 53 (by decide +kernel) (by decide +kernel)), by decide +kernel, by decide, by decide, by decide +kernel, by decide⟩
def mHa_marks : pd_M := (⟨"PantryDoors$Ham", "marks", "(LPantryDoors$House;LPantryDoors$State;I)I"⟩, prog_5_method_2_code, 4, (some .int))
theorem kHa_marks : pd_ok mHa_marks 3 := ⟨(pd_m 689 (by decide +kernel) (by decide +kernel)), (pd_m 53 (by decide +kernel) (by decide +kernel)), by decide +kernel, by decide, by decide, by decide +kernel, by decide⟩
def mCo_init : pd_M := (⟨"PantryDoors$Cone", "<init>", "()V"⟩, prog_3_method_1_code, 1, none)
theorem kCo_init : pd_ok mCo_init 0 := ⟨(pd_m 225 (by decide +kernel) (by decide +kernel)), (pd_m 54 (by decide +kernel) (by decide +kernel)), by decide +kernel, by decide, by decide, by decide +kernel, by decide⟩
def mCo_marks : pd_M := (⟨"PantryDoors$Cone", "marks", "(LPantryDoors$House;LPantryDoors$State;I)I"⟩, prog_3_method_2_code, 4, (some .int))
theorem kCo_marks : pd_ok mCo_marks 3 := ⟨(pd_m 680 (by decide +kernel) (by decide +kernel)), (pd_m 54 (by decide +kernel) (by decide +kernel)), by decide +kernel, by decide, by decide, by decide +kernel, by decide⟩
def mJe_init : pd_M := (⟨"PantryDoors$Jelly", "<init>", "()V"⟩, prog_7_method_1_code, 1, none)
theorem kJe_init : pd_ok mJe_init 0 := ⟨(pd_m 233 (by decide +kernel) (by decide +kernel)), (pd_m 55 (by decide +kernel) (by decide +kernel)), by decide +kernel, by decide, by decide, by decide +kernel, by decide⟩
def mJe_marks : pd_M := (⟨"PantryDoors$Jelly", "marks", "(LPantryDoors$House;LPantryDoors$State;I)I"⟩, prog_7_method_2_code, 4, (some .int))
theorem kJe_marks : pd_ok mJe_marks 3 := ⟨(pd_m 694 (by decide +kernel) (by decide +kernel)), (pd_m 55 (by decide +kernel) (by decide +kernel)), by decide +kernel, by decide, by decide, by decide +kernel, by decide⟩
def mCa_init : pd_M := (⟨"PantryDoors$Candle", "<init>", "()V"⟩, prog_2_method_1_code, 1, none)
theorem kCa_init : pd_ok mCa_init 0 := ⟨(pd_m 241 (by decide +kernel) (by decide +kernel)), (pd_m 56 (by decide +kernel) (by decide +kernel)), by decide +kernel, by decide, by decide, by decide +kernel, by decide⟩
def mCa_marks : pd_M := (⟨"PantryDoors$Candle", "marks", "(LPantryDoors$House;LPantryDoors$State;I)I"⟩, prog_2_method_2_code, 4, (some .int))
theorem kCa_marks : pd_ok mCa_marks 3 := ⟨(pd_m 675 (by decide +kernel) (by decide +kernel)), (pd_m 56 (by decide +kernel) (by decide +kernel)), by decide +kernel, by decide, by decide, by decide +kernel, by decide⟩
theorem fT_11_10 : pd_fl "PantryDoors$Text" 11 10 0 (tyX10 0) := ⟨RX10, TX10, 8, "PantryDoors$Text", tyX10, rfl, by decide, iw10, (pd_m 75 (by decide +kernel) (by decide +kernel)), Or.inl rfl, tyX10_ok, nmX10, rfl⟩
theorem fT_15_10 : pd_fl "PantryDoors$Text" 15 10 2 (tyX10 2) := ⟨RX10, TX10, 8, "PantryDoors$Text", tyX10, rfl, by decide, iw10, (pd_m 79 (by decide +kernel) (by decide +kernel)), Or.inl rfl, tyX10_ok, nmX10, rfl⟩
theorem fT_23_10 : pd_fl "PantryDoors$Text" 23 10 3 (tyX10 3) := ⟨RX10, TX10, 8, "PantryDoors$Text", tyX10, rfl, by decide, iw10, (pd_m 80 (by decide +kernel) (by decide +kernel)), Or.inl rfl, tyX10_ok, nmX10, rfl⟩
theorem fT_27_10 : pd_fl "PantryDoors$Text" 27 10 7 (tyX10 7) := ⟨RX10, TX10, 8, "PantryDoors$Text", tyX10, rfl, by decide, iw10, (pd_m 84 (by decide +kernel) (by decide +kernel)), Or.inl rfl, tyX10_ok, nmX10, rfl⟩
theorem fT_34_10 : pd_fl "PantryDoors$Text" 34 10 5 (tyX10 5) := ⟨RX10, TX10, 8, "PantryDoors$Text", tyX10, rfl, by decide, iw10, (pd_m 82 (by decide +kernel) (by decide +kernel)), Or.inl rfl, tyX10_ok, nmX10, rfl⟩
theorem fT_41_10 : pd_fl "PantryDoors$Text" 41 10 4 (tyX10 4) := ⟨RX10, TX10, 8, "PantryDoors$Text", tyX10, rfl, by decide, iw10, (pd_m 81 (by decide +kernel) (by decide +kernel)), Or.inl rfl, tyX10_ok, nmX10, rfl⟩
theorem fT_44_10 : pd_fl "PantryDoors$Text" 44 10 6 (tyX10 6) := ⟨RX10, TX10, 8, "PantryDoors$Text", tyX10, rfl, by decide, iw10, (pd_m 83 (by decide +kernel) (by decide +kernel)), Or.inl rfl, tyX10_ok, nmX10, rfl⟩
theorem fT_71_4 : pd_fl "PantryDoors$Text" 71 4 7 (tyX4 7) := ⟨RX4, TX4, 10, "PantryDoors$House", tyX4, rfl, by decide, iw4, (pd_m 276 (by decide +kernel) (by decide +kernel)), Or.inl rfl, tyX4_ok, nmX4, rfl⟩
theorem fT_78_4 : pd_fl "PantryDoors$Text" 78 4 4 (tyX4 4) := ⟨RX4, TX4, 10, "PantryDoors$House", tyX4, rfl, by decide, iw4, (pd_m 267 (by decide +kernel) (by decide +kernel)), Or.inl rfl, tyX4_ok, nmX4, rfl⟩
theorem fT_81_4 : pd_fl "PantryDoors$Text" 81 4 5 (tyX4 5) := ⟨RX4, TX4, 10, "PantryDoors$House", tyX4, rfl, by decide, iw4, (pd_m 271 (by decide +kernel) (by decide +kernel)), Or.inl rfl, tyX4_ok, nmX4, rfl⟩
theorem fT_87_4 : pd_fl "PantryDoors$Text" 87 4 0 (tyX4 0) := ⟨RX4, TX4, 10, "PantryDoors$House", tyX4, rfl, by decide, iw4, (pd_m 254 (by decide +kernel) (by decide +kernel)), Or.inl rfl, tyX4_ok, nmX4, rfl⟩
theorem fT_90_4 : pd_fl "PantryDoors$Text" 90 4 1 (tyX4 1) := ⟨RX4, TX4, 10, "PantryDoors$House", tyX4, rfl, by decide, iw4, (pd_m 257 (by decide +kernel) (by decide +kernel)), Or.inl rfl, tyX4_ok, nmX4, rfl⟩
theorem fT_93_4 : pd_fl "PantryDoors$Text" 93 4 2 (tyX4 2) := ⟨RX4, TX4, 10, "PantryDoors$House", tyX4, rfl, by decide, iw4, (pd_m 260 (by decide +kernel) (by decide +kernel)), Or.inl rfl, tyX4_ok, nmX4, rfl⟩
theorem fT_96_4 : pd_fl "PantryDoors$Text" 96 4 3 (tyX4 3) := ⟨RX4, TX4, 10, "PantryDoors$House", tyX4, rfl, by decide, iw4, (pd_m 264 (by decide +kernel) (by decide +kernel)), Or.inl rfl, tyX4_ok, nmX4, rfl⟩
theorem fT_99_4 : pd_fl "PantryDoors$Text" 99 4 8 (tyX4 8) := ⟨RX4, TX4, 10, "PantryDoors$House", tyX4, rfl, by decide, iw4, (pd_m 280 (by decide +kernel) (by decide +kernel)), Or.inl rfl, tyX4_ok, nmX4, rfl⟩
theorem fT_102_4 : pd_fl "PantryDoors$Text" 102 4 9 (tyX4 9) := ⟨RX4, TX4, 10, "PantryDoors$House", tyX4, rfl, by decide, iw4, (pd_m 283 (by decide +kernel) (by decide +kernel)), Or.inl rfl, tyX4_ok, nmX4, rfl⟩
theorem fT_105_10 : pd_fl "PantryDoors$Text" 105 10 1 (tyX10 1) := ⟨RX10, TX10, 8, "PantryDoors$Text", tyX10, rfl, by decide, iw10, (pd_m 78 (by decide +kernel) (by decide +kernel)), Or.inl rfl, tyX10_ok, nmX10, rfl⟩
theorem fH_9_4 : pd_fl "PantryDoors$House" 9 4 0 (tyX4 0) := ⟨RX4, TX4, 10, "PantryDoors$House", tyX4, rfl, by decide, iw4, (pd_m 251 (by decide +kernel) (by decide +kernel)), Or.inl rfl, tyX4_ok, nmX4, rfl⟩
theorem fH_15_4 : pd_fl "PantryDoors$House" 15 4 1 (tyX4 1) := ⟨RX4, TX4, 10, "PantryDoors$House", tyX4, rfl, by decide, iw4, (pd_m 255 (by decide +kernel) (by decide +kernel)), Or.inl rfl, tyX4_ok, nmX4, rfl⟩
theorem fH_18_4 : pd_fl "PantryDoors$House" 18 4 2 (tyX4 2) := ⟨RX4, TX4, 10, "PantryDoors$House", tyX4, rfl, by decide, iw4, (pd_m 258 (by decide +kernel) (by decide +kernel)), Or.inl rfl, tyX4_ok, nmX4, rfl⟩
theorem fH_21_4 : pd_fl "PantryDoors$House" 21 4 3 (tyX4 3) := ⟨RX4, TX4, 10, "PantryDoors$House", tyX4, rfl, by decide, iw4, (pd_m 261 (by decide +kernel) (by decide +kernel)), Or.inl rfl, tyX4_ok, nmX4, rfl⟩
theorem fH_24_4 : pd_fl "PantryDoors$House" 24 4 4 (tyX4 4) := ⟨RX4, TX4, 10, "PantryDoors$House", tyX4, rfl, by decide, iw4, (pd_m 265 (by decide +kernel) (by decide +kernel)), Or.inl rfl, tyX4_ok, nmX4, rfl⟩
theorem fH_27_4 : pd_fl "PantryDoors$House" 27 4 5 (tyX4 5) := ⟨RX4, TX4, 10, "PantryDoors$House", tyX4, rfl, by decide, iw4, (pd_m 268 (by decide +kernel) (by decide +kernel)), Or.inl rfl, tyX4_ok, nmX4, rfl⟩
theorem fH_30_4 : pd_fl "PantryDoors$House" 30 4 6 (tyX4 6) := ⟨RX4, TX4, 10, "PantryDoors$House", tyX4, rfl, by decide, iw4, (pd_m 272 (by decide +kernel) (by decide +kernel)), Or.inl rfl, tyX4_ok, nmX4, rfl⟩
theorem fH_33_4 : pd_fl "PantryDoors$House" 33 4 7 (tyX4 7) := ⟨RX4, TX4, 10, "PantryDoors$House", tyX4, rfl, by decide, iw4, (pd_m 274 (by decide +kernel) (by decide +kernel)), Or.inl rfl, tyX4_ok, nmX4, rfl⟩
theorem fH_37_4 : pd_fl "PantryDoors$House" 37 4 8 (tyX4 8) := ⟨RX4, TX4, 10, "PantryDoors$House", tyX4, rfl, by decide, iw4, (pd_m 279 (by decide +kernel) (by decide +kernel)), Or.inl rfl, tyX4_ok, nmX4, rfl⟩
theorem fH_40_4 : pd_fl "PantryDoors$House" 40 4 9 (tyX4 9) := ⟨RX4, TX4, 10, "PantryDoors$House", tyX4, rfl, by decide, iw4, (pd_m 282 (by decide +kernel) (by decide +kernel)), Or.inl rfl, tyX4_ok, nmX4, rfl⟩
theorem fS_9_8 : pd_fl "PantryDoors$State" 9 8 0 (tyX8 0) := ⟨RX8, TX8, 5, "PantryDoors$State", tyX8, rfl, by decide, iw8, (pd_m 115 (by decide +kernel) (by decide +kernel)), Or.inl rfl, tyX8_ok, nmX8, rfl⟩
theorem fS_15_8 : pd_fl "PantryDoors$State" 15 8 1 (tyX8 1) := ⟨RX8, TX8, 5, "PantryDoors$State", tyX8, rfl, by decide, iw8, (pd_m 119 (by decide +kernel) (by decide +kernel)), Or.inl rfl, tyX8_ok, nmX8, rfl⟩
theorem fS_18_8 : pd_fl "PantryDoors$State" 18 8 2 (tyX8 2) := ⟨RX8, TX8, 5, "PantryDoors$State", tyX8, rfl, by decide, iw8, (pd_m 122 (by decide +kernel) (by decide +kernel)), Or.inl rfl, tyX8_ok, nmX8, rfl⟩
theorem fS_21_8 : pd_fl "PantryDoors$State" 21 8 3 (tyX8 3) := ⟨RX8, TX8, 5, "PantryDoors$State", tyX8, rfl, by decide, iw8, (pd_m 124 (by decide +kernel) (by decide +kernel)), Or.inl rfl, tyX8_ok, nmX8, rfl⟩
theorem fS_25_8 : pd_fl "PantryDoors$State" 25 8 4 (tyX8 4) := ⟨RX8, TX8, 5, "PantryDoors$State", tyX8, rfl, by decide, iw8, (pd_m 128 (by decide +kernel) (by decide +kernel)), Or.inl rfl, tyX8_ok, nmX8, rfl⟩
theorem fS_35_4 : pd_fl "PantryDoors$State" 35 4 0 (tyX4 0) := ⟨RX4, TX4, 10, "PantryDoors$House", tyX4, rfl, by decide, iw4, (pd_m 252 (by decide +kernel) (by decide +kernel)), Or.inl rfl, tyX4_ok, nmX4, rfl⟩
theorem fS_52_4 : pd_fl "PantryDoors$State" 52 4 5 (tyX4 5) := ⟨RX4, TX4, 10, "PantryDoors$House", tyX4, rfl, by decide, iw4, (pd_m 269 (by decide +kernel) (by decide +kernel)), Or.inl rfl, tyX4_ok, nmX4, rfl⟩
theorem fS_61_4 : pd_fl "PantryDoors$State" 61 4 7 (tyX4 7) := ⟨RX4, TX4, 10, "PantryDoors$House", tyX4, rfl, by decide, iw4, (pd_m 277 (by decide +kernel) (by decide +kernel)), Or.inl rfl, tyX4_ok, nmX4, rfl⟩
theorem fL_10_6 : pd_fl "PantryDoors$Life" 10 6 0 (tyX6 0) := ⟨RX6, TX6, 3, "PantryDoors$Life", tyX6, rfl, by decide, iw6, (pd_m 142 (by decide +kernel) (by decide +kernel)), Or.inl rfl, tyX6_ok, nmX6, rfl⟩
theorem fL_16_6 : pd_fl "PantryDoors$Life" 16 6 1 (tyX6 1) := ⟨RX6, TX6, 3, "PantryDoors$Life", tyX6, rfl, by decide, iw6, (pd_m 144 (by decide +kernel) (by decide +kernel)), Or.inl rfl, tyX6_ok, nmX6, rfl⟩
theorem fL_24_6 : pd_fl "PantryDoors$Life" 24 6 2 (tyX6 2) := ⟨RX6, TX6, 3, "PantryDoors$Life", tyX6, rfl, by decide, iw6, (pd_m 145 (by decide +kernel) (by decide +kernel)), Or.inl rfl, tyX6_ok, nmX6, rfl⟩
theorem fP_9_7 : pd_fl "PantryDoors$Plan" 9 7 0 (tyX7 0) := ⟨RX7, TX7, 6, "PantryDoors$Plan", tyX7, rfl, by decide, iw7, (pd_m 161 (by decide +kernel) (by decide +kernel)), Or.inl rfl, tyX7_ok, nmX7, rfl⟩
theorem fP_15_7 : pd_fl "PantryDoors$Plan" 15 7 2 (tyX7 2) := ⟨RX7, TX7, 6, "PantryDoors$Plan", tyX7, rfl, by decide, iw7, (pd_m 165 (by decide +kernel) (by decide +kernel)), Or.inl rfl, tyX7_ok, nmX7, rfl⟩
theorem fP_18_7 : pd_fl "PantryDoors$Plan" 18 7 3 (tyX7 3) := ⟨RX7, TX7, 6, "PantryDoors$Plan", tyX7, rfl, by decide, iw7, (pd_m 166 (by decide +kernel) (by decide +kernel)), Or.inl rfl, tyX7_ok, nmX7, rfl⟩
theorem fP_21_7 : pd_fl "PantryDoors$Plan" 21 7 4 (tyX7 4) := ⟨RX7, TX7, 6, "PantryDoors$Plan", tyX7, rfl, by decide, iw7, (pd_m 167 (by decide +kernel) (by decide +kernel)), Or.inl rfl, tyX7_ok, nmX7, rfl⟩
theorem fP_24_4 : pd_fl "PantryDoors$Plan" 24 4 7 (tyX4 7) := ⟨RX4, TX4, 10, "PantryDoors$House", tyX4, rfl, by decide, iw4, (pd_m 275 (by decide +kernel) (by decide +kernel)), Or.inl rfl, tyX4_ok, nmX4, rfl⟩
theorem fP_30_7 : pd_fl "PantryDoors$Plan" 30 7 5 (tyX7 5) := ⟨RX7, TX7, 6, "PantryDoors$Plan", tyX7, rfl, by decide, iw7, (pd_m 168 (by decide +kernel) (by decide +kernel)), Or.inl rfl, tyX7_ok, nmX7, rfl⟩
theorem fP_37_8 : pd_fl "PantryDoors$Plan" 37 8 3 (tyX8 3) := ⟨RX8, TX8, 5, "PantryDoors$State", tyX8, rfl, by decide, iw8, (pd_m 125 (by decide +kernel) (by decide +kernel)), Or.inl rfl, tyX8_ok, nmX8, rfl⟩
theorem fP_45_7 : pd_fl "PantryDoors$Plan" 45 7 1 (tyX7 1) := ⟨RX7, TX7, 6, "PantryDoors$Plan", tyX7, rfl, by decide, iw7, (pd_m 163 (by decide +kernel) (by decide +kernel)), Or.inl rfl, tyX7_ok, nmX7, rfl⟩
theorem fP_60_8 : pd_fl "PantryDoors$Plan" 60 8 0 (tyX8 0) := ⟨RX8, TX8, 5, "PantryDoors$State", tyX8, rfl, by decide, iw8, (pd_m 117 (by decide +kernel) (by decide +kernel)), Or.inl rfl, tyX8_ok, nmX8, rfl⟩
theorem fD_12_11 : pd_fl "PantryDoors" 12 11 0 (tyX11 0) := ⟨RX11, TX11, 15, "PantryDoors", tyX11, rfl, by decide, iw11, (pd_m 306 (by decide +kernel) (by decide +kernel)), Or.inl rfl, tyX11_ok, nmX11, rfl⟩
theorem fD_19_11 : pd_fl "PantryDoors" 19 11 1 (tyX11 1) := ⟨RX11, TX11, 15, "PantryDoors", tyX11, rfl, by decide, iw11, (pd_m 307 (by decide +kernel) (by decide +kernel)), Or.inl rfl, tyX11_ok, nmX11, rfl⟩
theorem fD_23_11 : pd_fl "PantryDoors" 23 11 2 (tyX11 2) := ⟨RX11, TX11, 15, "PantryDoors", tyX11, rfl, by decide, iw11, (pd_m 308 (by decide +kernel) (by decide +kernel)), Or.inl rfl, tyX11_ok, nmX11, rfl⟩
theorem fD_27_11 : pd_fl "PantryDoors" 27 11 3 (tyX11 3) := ⟨RX11, TX11, 15, "PantryDoors", tyX11, rfl, by decide, iw11, (pd_m 309 (by decide +kernel) (by decide +kernel)), Or.inl rfl, tyX11_ok, nmX11, rfl⟩
theorem fD_31_11 : pd_fl "PantryDoors" 31 11 4 (tyX11 4) := ⟨RX11, TX11, 15, "PantryDoors", tyX11, rfl, by decide, iw11, (pd_m 310 (by decide +kernel) (by decide +kernel)), Or.inl rfl, tyX11_ok, nmX11, rfl⟩
theorem fD_35_11 : pd_fl "PantryDoors" 35 11 5 (tyX11 5) := ⟨RX11, TX11, 15, "PantryDoors", tyX11, rfl, by decide, iw11, (pd_m 311 (by decide +kernel) (by decide +kernel)), Or.inl rfl, tyX11_ok, nmX11, rfl⟩
theorem fD_38_11 : pd_fl "PantryDoors" 38 11 6 (tyX11 6) := ⟨RX11, TX11, 15, "PantryDoors", tyX11, rfl, by decide, iw11, (pd_m 312 (by decide +kernel) (by decide +kernel)), Or.inl rfl, tyX11_ok, nmX11, rfl⟩
theorem fD_41_11 : pd_fl "PantryDoors" 41 11 7 (tyX11 7) := ⟨RX11, TX11, 15, "PantryDoors", tyX11, rfl, by decide, iw11, (pd_m 313 (by decide +kernel) (by decide +kernel)), Or.inl rfl, tyX11_ok, nmX11, rfl⟩
theorem fD_44_11 : pd_fl "PantryDoors" 44 11 8 (tyX11 8) := ⟨RX11, TX11, 15, "PantryDoors", tyX11, rfl, by decide, iw11, (pd_m 314 (by decide +kernel) (by decide +kernel)), Or.inl rfl, tyX11_ok, nmX11, rfl⟩
theorem fD_50_11 : pd_fl "PantryDoors" 50 11 9 (tyX11 9) := ⟨RX11, TX11, 15, "PantryDoors", tyX11, rfl, by decide, iw11, (pd_m 315 (by decide +kernel) (by decide +kernel)), Or.inl rfl, tyX11_ok, nmX11, rfl⟩
theorem fD_72_11 : pd_fl "PantryDoors" 72 11 10 (tyX11 10) := ⟨RX11, TX11, 15, "PantryDoors", tyX11, rfl, by decide, iw11, (pd_m 316 (by decide +kernel) (by decide +kernel)), Or.inl rfl, tyX11_ok, nmX11, rfl⟩
theorem fD_79_11 : pd_fl "PantryDoors" 79 11 11 (tyX11 11) := ⟨RX11, TX11, 15, "PantryDoors", tyX11, rfl, by decide, iw11, (pd_m 317 (by decide +kernel) (by decide +kernel)), Or.inl rfl, tyX11_ok, nmX11, rfl⟩
theorem fD_83_11 : pd_fl "PantryDoors" 83 11 12 (tyX11 12) := ⟨RX11, TX11, 15, "PantryDoors", tyX11, rfl, by decide, iw11, (pd_m 318 (by decide +kernel) (by decide +kernel)), Or.inl rfl, tyX11_ok, nmX11, rfl⟩
theorem fD_90_10 : pd_fl "PantryDoors" 90 10 1 (tyX10 1) := ⟨RX10, TX10, 8, "PantryDoors$Text", tyX10, rfl, by decide, iw10, (pd_m 77 (by decide +kernel) (by decide +kernel)), Or.inl rfl, tyX10_ok, nmX10, rfl⟩
theorem fD_94_10 : pd_fl "PantryDoors" 94 10 0 (tyX10 0) := ⟨RX10, TX10, 8, "PantryDoors$Text", tyX10, rfl, by decide, iw10, (pd_m 76 (by decide +kernel) (by decide +kernel)), Or.inl rfl, tyX10_ok, nmX10, rfl⟩
theorem fD_108_11 : pd_fl "PantryDoors" 108 11 13 (tyX11 13) := ⟨RX11, TX11, 15, "PantryDoors", tyX11, rfl, by decide, iw11, (pd_m 319 (by decide +kernel) (by decide +kernel)), Or.inl rfl, tyX11_ok, nmX11, rfl⟩
theorem fD_111_11 : pd_fl "PantryDoors" 111 11 14 (tyX11 14) := ⟨RX11, TX11, 15, "PantryDoors", tyX11, rfl, by decide, iw11, (pd_m 320 (by decide +kernel) (by decide +kernel)), Or.inl rfl, tyX11_ok, nmX11, rfl⟩
theorem fD_118_4 : pd_fl "PantryDoors" 118 4 0 (tyX4 0) := ⟨RX4, TX4, 10, "PantryDoors$House", tyX4, rfl, by decide, iw4, (pd_m 253 (by decide +kernel) (by decide +kernel)), Or.inl rfl, tyX4_ok, nmX4, rfl⟩
theorem fD_121_4 : pd_fl "PantryDoors" 121 4 1 (tyX4 1) := ⟨RX4, TX4, 10, "PantryDoors$House", tyX4, rfl, by decide, iw4, (pd_m 256 (by decide +kernel) (by decide +kernel)), Or.inl rfl, tyX4_ok, nmX4, rfl⟩
theorem fD_124_4 : pd_fl "PantryDoors" 124 4 2 (tyX4 2) := ⟨RX4, TX4, 10, "PantryDoors$House", tyX4, rfl, by decide, iw4, (pd_m 259 (by decide +kernel) (by decide +kernel)), Or.inl rfl, tyX4_ok, nmX4, rfl⟩
theorem fD_127_4 : pd_fl "PantryDoors" 127 4 3 (tyX4 3) := ⟨RX4, TX4, 10, "PantryDoors$House", tyX4, rfl, by decide, iw4, (pd_m 263 (by decide +kernel) (by decide +kernel)), Or.inl rfl, tyX4_ok, nmX4, rfl⟩
theorem fD_130_6 : pd_fl "PantryDoors" 130 6 0 (tyX6 0) := ⟨RX6, TX6, 3, "PantryDoors$Life", tyX6, rfl, by decide, iw6, (pd_m 143 (by decide +kernel) (by decide +kernel)), Or.inl rfl, tyX6_ok, nmX6, rfl⟩
theorem fD_134_8 : pd_fl "PantryDoors" 134 8 0 (tyX8 0) := ⟨RX8, TX8, 5, "PantryDoors$State", tyX8, rfl, by decide, iw8, (pd_m 118 (by decide +kernel) (by decide +kernel)), Or.inl rfl, tyX8_ok, nmX8, rfl⟩
theorem fD_139_8 : pd_fl "PantryDoors" 139 8 1 (tyX8 1) := ⟨RX8, TX8, 5, "PantryDoors$State", tyX8, rfl, by decide, iw8, (pd_m 121 (by decide +kernel) (by decide +kernel)), Or.inl rfl, tyX8_ok, nmX8, rfl⟩
theorem fD_146_4 : pd_fl "PantryDoors" 146 4 4 (tyX4 4) := ⟨RX4, TX4, 10, "PantryDoors$House", tyX4, rfl, by decide, iw4, (pd_m 266 (by decide +kernel) (by decide +kernel)), Or.inl rfl, tyX4_ok, nmX4, rfl⟩
theorem fD_149_4 : pd_fl "PantryDoors" 149 4 5 (tyX4 5) := ⟨RX4, TX4, 10, "PantryDoors$House", tyX4, rfl, by decide, iw4, (pd_m 270 (by decide +kernel) (by decide +kernel)), Or.inl rfl, tyX4_ok, nmX4, rfl⟩
theorem fD_152_8 : pd_fl "PantryDoors" 152 8 2 (tyX8 2) := ⟨RX8, TX8, 5, "PantryDoors$State", tyX8, rfl, by decide, iw8, (pd_m 123 (by decide +kernel) (by decide +kernel)), Or.inl rfl, tyX8_ok, nmX8, rfl⟩
theorem fD_155_8 : pd_fl "PantryDoors" 155 8 3 (tyX8 3) := ⟨RX8, TX8, 5, "PantryDoors$State", tyX8, rfl, by decide, iw8, (pd_m 127 (by decide +kernel) (by decide +kernel)), Or.inl rfl, tyX8_ok, nmX8, rfl⟩
theorem fD_171_8 : pd_fl "PantryDoors" 171 8 4 (tyX8 4) := ⟨RX8, TX8, 5, "PantryDoors$State", tyX8, rfl, by decide, iw8, (pd_m 129 (by decide +kernel) (by decide +kernel)), Or.inl rfl, tyX8_ok, nmX8, rfl⟩
theorem fD_175_6 : pd_fl "PantryDoors" 175 6 2 (tyX6 2) := ⟨RX6, TX6, 3, "PantryDoors$Life", tyX6, rfl, by decide, iw6, (pd_m 146 (by decide +kernel) (by decide +kernel)), Or.inl rfl, tyX6_ok, nmX6, rfl⟩
theorem fD_189_4 : pd_fl "PantryDoors" 189 4 7 (tyX4 7) := ⟨RX4, TX4, 10, "PantryDoors$House", tyX4, rfl, by decide, iw4, (pd_m 278 (by decide +kernel) (by decide +kernel)), Or.inl rfl, tyX4_ok, nmX4, rfl⟩
theorem fD_214_7 : pd_fl "PantryDoors" 214 7 1 (tyX7 1) := ⟨RX7, TX7, 6, "PantryDoors$Plan", tyX7, rfl, by decide, iw7, (pd_m 164 (by decide +kernel) (by decide +kernel)), Or.inl rfl, tyX7_ok, nmX7, rfl⟩
theorem fD_215_7 : pd_fl "PantryDoors" 215 7 0 (tyX7 0) := ⟨RX7, TX7, 6, "PantryDoors$Plan", tyX7, rfl, by decide, iw7, (pd_m 162 (by decide +kernel) (by decide +kernel)), Or.inl rfl, tyX7_ok, nmX7, rfl⟩
theorem fD_235_4 : pd_fl "PantryDoors" 235 4 6 (tyX4 6) := ⟨RX4, TX4, 10, "PantryDoors$House", tyX4, rfl, by decide, iw4, (pd_m 273 (by decide +kernel) (by decide +kernel)), Or.inl rfl, tyX4_ok, nmX4, rfl⟩
theorem fD_265_4 : pd_fl "PantryDoors" 265 4 8 (tyX4 8) := ⟨RX4, TX4, 10, "PantryDoors$House", tyX4, rfl, by decide, iw4, (pd_m 281 (by decide +kernel) (by decide +kernel)), Or.inl rfl, tyX4_ok, nmX4, rfl⟩
theorem fD_268_4 : pd_fl "PantryDoors" 268 4 9 (tyX4 9) := ⟨RX4, TX4, 10, "PantryDoors$House", tyX4, rfl, by decide, iw4, (pd_m 284 (by decide +kernel) (by decide +kernel)), Or.inl rfl, tyX4_ok, nmX4, rfl⟩
theorem fD_271_2 : pd_fl "PantryDoors" 271 2 0 (tyX2 0) := ⟨RX2, TX2, 1, "PantryDoors$Good", tyX2, rfl, by decide, iw2, (pd_m 201 (by decide +kernel) (by decide +kernel)), Or.inl rfl, tyX2_ok, nmX2, rfl⟩
theorem fD_271_9 : pd_fl "PantryDoors" 271 9 0 (tyX9 0) := ⟨RX9, TX9, 1, "PantryDoors$Good", tyX9, rfl, by decide, iw9, (pd_m 201 (by decide +kernel) (by decide +kernel)), Or.inl rfl, tyX9_ok, nmX9, rfl⟩
theorem fD_271_3 : pd_fl "PantryDoors" 271 3 0 (tyX3 0) := ⟨RX3, TX3, 1, "PantryDoors$Good", tyX3, rfl, by decide, iw3, (pd_m 201 (by decide +kernel) (by decide +kernel)), Or.inl rfl, tyX3_ok, nmX3, rfl⟩
theorem fD_271_1 : pd_fl "PantryDoors" 271 1 0 (tyX1 0) := ⟨RX1, TX1, 1, "PantryDoors$Good", tyX1, rfl, by decide, iw1, (pd_m 201 (by decide +kernel) (by decide +kernel)), Or.inl rfl, tyX1_ok, nmX1, rfl⟩
theorem fD_271_5 : pd_fl "PantryDoors" 271 5 0 (tyX5 0) := ⟨RX5, TX5, 1, "PantryDoors$Good", tyX5, rfl, by decide, iw5, (pd_m 201 (by decide +kernel) (by decide +kernel)), Or.inl rfl, tyX5_ok, nmX5, rfl⟩
theorem fD_271_0 : pd_fl "PantryDoors" 271 0 0 (tyX0 0) := ⟨RX0, TX0, 1, "PantryDoors$Good", tyX0, rfl, by decide, iw0, (pd_m 201 (by decide +kernel) (by decide +kernel)), Or.inl rfl, tyX0_ok, nmX0, rfl⟩
theorem fR_7_12 : pd_fl "PantryDoorsModel" 7 12 0 (tyX12 0) := ⟨RX12, TX12, 32, "PantryDoorsModel", tyX12, rfl, by decide, iw12, (pd_m 725 (by decide +kernel) (by decide +kernel)), Or.inl rfl, tyX12_ok, nmX12, rfl⟩
theorem fR_13_12 : pd_fl "PantryDoorsModel" 13 12 2 (tyX12 2) := ⟨RX12, TX12, 32, "PantryDoorsModel", tyX12, rfl, by decide, iw12, (pd_m 727 (by decide +kernel) (by decide +kernel)), Or.inl rfl, tyX12_ok, nmX12, rfl⟩
theorem fR_17_12 : pd_fl "PantryDoorsModel" 17 12 3 (tyX12 3) := ⟨RX12, TX12, 32, "PantryDoorsModel", tyX12, rfl, by decide, iw12, (pd_m 728 (by decide +kernel) (by decide +kernel)), Or.inl rfl, tyX12_ok, nmX12, rfl⟩
theorem fR_20_12 : pd_fl "PantryDoorsModel" 20 12 4 (tyX12 4) := ⟨RX12, TX12, 32, "PantryDoorsModel", tyX12, rfl, by decide, iw12, (pd_m 729 (by decide +kernel) (by decide +kernel)), Or.inl rfl, tyX12_ok, nmX12, rfl⟩
theorem fR_23_12 : pd_fl "PantryDoorsModel" 23 12 5 (tyX12 5) := ⟨RX12, TX12, 32, "PantryDoorsModel", tyX12, rfl, by decide, iw12, (pd_m 730 (by decide +kernel) (by decide +kernel)), Or.inl rfl, tyX12_ok, nmX12, rfl⟩
theorem fR_26_12 : pd_fl "PantryDoorsModel" 26 12 6 (tyX12 6) := ⟨RX12, TX12, 32, "PantryDoorsModel", tyX12, rfl, by decide, iw12, (pd_m 731 (by decide +kernel) (by decide +kernel)), Or.inl rfl, tyX12_ok, nmX12, rfl⟩
theorem fR_29_12 : pd_fl "PantryDoorsModel" 29 12 7 (tyX12 7) := ⟨RX12, TX12, 32, "PantryDoorsModel", tyX12, rfl, by decide, iw12, (pd_m 732 (by decide +kernel) (by decide +kernel)), Or.inl rfl, tyX12_ok, nmX12, rfl⟩
theorem fR_32_12 : pd_fl "PantryDoorsModel" 32 12 8 (tyX12 8) := ⟨RX12, TX12, 32, "PantryDoorsModel", tyX12, rfl, by decide, iw12, (pd_m 733 (by decide +kernel) (by decide +kernel)), Or.inl rfl, tyX12_ok, nmX12, rfl⟩
theorem fR_35_12 : pd_fl "PantryDoorsModel" 35 12 9 (tyX12 9) := ⟨RX12, TX12, 32, "PantryDoorsModel", tyX12, rfl, by decide, iw12, (pd_m 734 (by decide +kernel) (by decide +kernel)), Or.inl rfl, tyX12_ok, nmX12, rfl⟩
theorem fR_38_12 : pd_fl "PantryDoorsModel" 38 12 17 (tyX12 17) := ⟨RX12, TX12, 32, "PantryDoorsModel", tyX12, rfl, by decide, iw12, (pd_m 742 (by decide +kernel) (by decide +kernel)), Or.inl rfl, tyX12_ok, nmX12, rfl⟩
theorem fR_41_12 : pd_fl "PantryDoorsModel" 41 12 18 (tyX12 18) := ⟨RX12, TX12, 32, "PantryDoorsModel", tyX12, rfl, by decide, iw12, (pd_m 743 (by decide +kernel) (by decide +kernel)), Or.inl rfl, tyX12_ok, nmX12, rfl⟩
theorem fR_44_12 : pd_fl "PantryDoorsModel" 44 12 19 (tyX12 19) := ⟨RX12, TX12, 32, "PantryDoorsModel", tyX12, rfl, by decide, iw12, (pd_m 744 (by decide +kernel) (by decide +kernel)), Or.inl rfl, tyX12_ok, nmX12, rfl⟩
theorem fR_47_12 : pd_fl "PantryDoorsModel" 47 12 20 (tyX12 20) := ⟨RX12, TX12, 32, "PantryDoorsModel", tyX12, rfl, by decide, iw12, (pd_m 745 (by decide +kernel) (by decide +kernel)), Or.inl rfl, tyX12_ok, nmX12, rfl⟩
theorem fR_50_12 : pd_fl "PantryDoorsModel" 50 12 21 (tyX12 21) := ⟨RX12, TX12, 32, "PantryDoorsModel", tyX12, rfl, by decide, iw12, (pd_m 746 (by decide +kernel) (by decide +kernel)), Or.inl rfl, tyX12_ok, nmX12, rfl⟩
theorem fR_54_12 : pd_fl "PantryDoorsModel" 54 12 22 (tyX12 22) := ⟨RX12, TX12, 32, "PantryDoorsModel", tyX12, rfl, by decide, iw12, (pd_m 747 (by decide +kernel) (by decide +kernel)), Or.inl rfl, tyX12_ok, nmX12, rfl⟩
theorem fR_57_12 : pd_fl "PantryDoorsModel" 57 12 23 (tyX12 23) := ⟨RX12, TX12, 32, "PantryDoorsModel", tyX12, rfl, by decide, iw12, (pd_m 748 (by decide +kernel) (by decide +kernel)), Or.inl rfl, tyX12_ok, nmX12, rfl⟩
theorem fR_60_12 : pd_fl "PantryDoorsModel" 60 12 24 (tyX12 24) := ⟨RX12, TX12, 32, "PantryDoorsModel", tyX12, rfl, by decide, iw12, (pd_m 749 (by decide +kernel) (by decide +kernel)), Or.inl rfl, tyX12_ok, nmX12, rfl⟩
theorem fR_63_12 : pd_fl "PantryDoorsModel" 63 12 25 (tyX12 25) := ⟨RX12, TX12, 32, "PantryDoorsModel", tyX12, rfl, by decide, iw12, (pd_m 750 (by decide +kernel) (by decide +kernel)), Or.inl rfl, tyX12_ok, nmX12, rfl⟩
theorem fR_66_12 : pd_fl "PantryDoorsModel" 66 12 27 (tyX12 27) := ⟨RX12, TX12, 32, "PantryDoorsModel", tyX12, rfl, by decide, iw12, (pd_m 752 (by decide +kernel) (by decide +kernel)), Or.inl rfl, tyX12_ok, nmX12, rfl⟩
theorem fR_69_12 : pd_fl "PantryDoorsModel" 69 12 28 (tyX12 28) := ⟨RX12, TX12, 32, "PantryDoorsModel", tyX12, rfl, by decide, iw12, (pd_m 753 (by decide +kernel) (by decide +kernel)), Or.inl rfl, tyX12_ok, nmX12, rfl⟩
theorem fR_72_12 : pd_fl "PantryDoorsModel" 72 12 30 (tyX12 30) := ⟨RX12, TX12, 32, "PantryDoorsModel", tyX12, rfl, by decide, iw12, (pd_m 755 (by decide +kernel) (by decide +kernel)), Or.inl rfl, tyX12_ok, nmX12, rfl⟩
theorem fR_79_12 : pd_fl "PantryDoorsModel" 79 12 1 (tyX12 1) := ⟨RX12, TX12, 32, "PantryDoorsModel", tyX12, rfl, by decide, iw12, (pd_m 726 (by decide +kernel) (by decide +kernel)), Or.inl rfl, tyX12_ok, nmX12, rfl⟩
theorem fR_83_12 : pd_fl "PantryDoorsModel" 83 12 10 (tyX12 10) := ⟨RX12, TX12, 32, "PantryDoorsModel", tyX12, rfl, by decide, iw12, (pd_m 735 (by decide +kernel) (by decide +kernel)), Or.inl rfl, tyX12_ok, nmX12, rfl⟩
theorem fR_90_12 : pd_fl "PantryDoorsModel" 90 12 11 (tyX12 11) := ⟨RX12, TX12, 32, "PantryDoorsModel", tyX12, rfl, by decide, iw12, (pd_m 736 (by decide +kernel) (by decide +kernel)), Or.inl rfl, tyX12_ok, nmX12, rfl⟩
theorem fR_93_12 : pd_fl "PantryDoorsModel" 93 12 13 (tyX12 13) := ⟨RX12, TX12, 32, "PantryDoorsModel", tyX12, rfl, by decide, iw12, (pd_m 738 (by decide +kernel) (by decide +kernel)), Or.inl rfl, tyX12_ok, nmX12, rfl⟩
theorem fR_96_12 : pd_fl "PantryDoorsModel" 96 12 12 (tyX12 12) := ⟨RX12, TX12, 32, "PantryDoorsModel", tyX12, rfl, by decide, iw12, (pd_m 737 (by decide +kernel) (by decide +kernel)), Or.inl rfl, tyX12_ok, nmX12, rfl⟩
theorem fR_99_12 : pd_fl "PantryDoorsModel" 99 12 14 (tyX12 14) := ⟨RX12, TX12, 32, "PantryDoorsModel", tyX12, rfl, by decide, iw12, (pd_m 739 (by decide +kernel) (by decide +kernel)), Or.inl rfl, tyX12_ok, nmX12, rfl⟩
theorem fR_121_12 : pd_fl "PantryDoorsModel" 121 12 16 (tyX12 16) := ⟨RX12, TX12, 32, "PantryDoorsModel", tyX12, rfl, by decide, iw12, (pd_m 741 (by decide +kernel) (by decide +kernel)), Or.inl rfl, tyX12_ok, nmX12, rfl⟩
theorem fR_124_12 : pd_fl "PantryDoorsModel" 124 12 15 (tyX12 15) := ⟨RX12, TX12, 32, "PantryDoorsModel", tyX12, rfl, by decide, iw12, (pd_m 740 (by decide +kernel) (by decide +kernel)), Or.inl rfl, tyX12_ok, nmX12, rfl⟩
theorem fR_138_12 : pd_fl "PantryDoorsModel" 138 12 26 (tyX12 26) := ⟨RX12, TX12, 32, "PantryDoorsModel", tyX12, rfl, by decide, iw12, (pd_m 751 (by decide +kernel) (by decide +kernel)), Or.inl rfl, tyX12_ok, nmX12, rfl⟩
theorem fR_141_12 : pd_fl "PantryDoorsModel" 141 12 29 (tyX12 29) := ⟨RX12, TX12, 32, "PantryDoorsModel", tyX12, rfl, by decide, iw12, (pd_m 754 (by decide +kernel) (by decide +kernel)), Or.inl rfl, tyX12_ok, nmX12, rfl⟩
theorem fR_205_12 : pd_fl "PantryDoorsModel" 205 12 31 (tyX12 31) := ⟨RX12, TX12, 32, "PantryDoorsModel", tyX12, rfl, by decide, iw12, (pd_m 756 (by decide +kernel) (by decide +kernel)), Or.inl rfl, tyX12_ok, nmX12, rfl⟩
theorem fG_7_2 : pd_fl "PantryDoors$Good" 7 2 0 (tyX2 0) := ⟨RX2, TX2, 1, "PantryDoors$Good", tyX2, rfl, by decide, iw2, (pd_m 190 (by decide +kernel) (by decide +kernel)), Or.inl rfl, tyX2_ok, nmX2, rfl⟩
theorem fG_7_9 : pd_fl "PantryDoors$Good" 7 9 0 (tyX9 0) := ⟨RX9, TX9, 1, "PantryDoors$Good", tyX9, rfl, by decide, iw9, (pd_m 190 (by decide +kernel) (by decide +kernel)), Or.inl rfl, tyX9_ok, nmX9, rfl⟩
theorem fG_7_3 : pd_fl "PantryDoors$Good" 7 3 0 (tyX3 0) := ⟨RX3, TX3, 1, "PantryDoors$Good", tyX3, rfl, by decide, iw3, (pd_m 190 (by decide +kernel) (by decide +kernel)), Or.inl rfl, tyX3_ok, nmX3, rfl⟩
theorem fG_7_1 : pd_fl "PantryDoors$Good" 7 1 0 (tyX1 0) := ⟨RX1, TX1, 1, "PantryDoors$Good", tyX1, rfl, by decide, iw1, (pd_m 190 (by decide +kernel) (by decide +kernel)), Or.inl rfl, tyX1_ok, nmX1, rfl⟩
theorem fG_7_5 : pd_fl "PantryDoors$Good" 7 5 0 (tyX5 0) := ⟨RX5, TX5, 1, "PantryDoors$Good", tyX5, rfl, by decide, iw5, (pd_m 190 (by decide +kernel) (by decide +kernel)), Or.inl rfl, tyX5_ok, nmX5, rfl⟩
theorem fG_7_0 : pd_fl "PantryDoors$Good" 7 0 0 (tyX0 0) := ⟨RX0, TX0, 1, "PantryDoors$Good", tyX0, rfl, by decide, iw0, (pd_m 190 (by decide +kernel) (by decide +kernel)), Or.inl rfl, tyX0_ok, nmX0, rfl⟩
theorem fG_13_8 : pd_fl "PantryDoors$Good" 13 8 0 (tyX8 0) := ⟨RX8, TX8, 5, "PantryDoors$State", tyX8, rfl, by decide, iw8, (pd_m 116 (by decide +kernel) (by decide +kernel)), Or.inl rfl, tyX8_ok, nmX8, rfl⟩
theorem fSu_7_9 : pd_fl "PantryDoors$Sugar" 7 9 0 (tyX9 0) := ⟨RX9, TX9, 1, "PantryDoors$Sugar", tyX9, rfl, by decide, iw9, (pd_m 195 (by decide +kernel) (by decide +kernel)), (Or.inr (pd_m 196 (by decide +kernel) (by decide +kernel))), tyX9_ok, nmX9, rfl⟩
theorem fSu_7_1 : pd_fl "PantryDoors$Sugar" 7 1 0 (tyX1 0) := ⟨RX1, TX1, 1, "PantryDoors$Sugar", tyX1, rfl, by decide, iw1, (pd_m 195 (by decide +kernel) (by decide +kernel)), (Or.inr (pd_m 196 (by decide +kernel) (by decide +kernel))), tyX1_ok, nmX1, rfl⟩
theorem fSu_19_4 : pd_fl "PantryDoors$Sugar" 19 4 3 (tyX4 3) := ⟨RX4, TX4, 10, "PantryDoors$House", tyX4, rfl, by decide, iw4, (pd_m 262 (by decide +kernel) (by decide +kernel)), Or.inl rfl, tyX4_ok, nmX4, rfl⟩
theorem fHa_7_3 : pd_fl "PantryDoors$Ham" 7 3 0 (tyX3 0) := ⟨RX3, TX3, 1, "PantryDoors$Ham", tyX3, rfl, by decide, iw3, (pd_m 197 (by decide +kernel) (by decide +kernel)), (Or.inr (pd_m 198 (by decide +kernel) (by decide +kernel))), tyX3_ok, nmX3, rfl⟩
theorem fHa_7_5 : pd_fl "PantryDoors$Ham" 7 5 0 (tyX5 0) := ⟨RX5, TX5, 1, "PantryDoors$Ham", tyX5, rfl, by decide, iw5, (pd_m 197 (by decide +kernel) (by decide +kernel)), (Or.inr (pd_m 198 (by decide +kernel) (by decide +kernel))), tyX5_ok, nmX5, rfl⟩
theorem fHa_19_8 : pd_fl "PantryDoors$Ham" 19 8 1 (tyX8 1) := ⟨RX8, TX8, 5, "PantryDoors$State", tyX8, rfl, by decide, iw8, (pd_m 120 (by decide +kernel) (by decide +kernel)), Or.inl rfl, tyX8_ok, nmX8, rfl⟩
theorem fCo_7_1 : pd_fl "PantryDoors$Cone" 7 1 0 (tyX1 0) := ⟨RX1, TX1, 1, "PantryDoors$Cone", tyX1, rfl, by decide, iw1, (pd_m 193 (by decide +kernel) (by decide +kernel)), (Or.inr (pd_m 194 (by decide +kernel) (by decide +kernel))), tyX1_ok, nmX1, rfl⟩
theorem fJe_7_5 : pd_fl "PantryDoors$Jelly" 7 5 0 (tyX5 0) := ⟨RX5, TX5, 1, "PantryDoors$Jelly", tyX5, rfl, by decide, iw5, (pd_m 199 (by decide +kernel) (by decide +kernel)), (Or.inr (pd_m 200 (by decide +kernel) (by decide +kernel))), tyX5_ok, nmX5, rfl⟩
theorem fCa_7_0 : pd_fl "PantryDoors$Candle" 7 0 0 (tyX0 0) := ⟨RX0, TX0, 1, "PantryDoors$Candle", tyX0, rfl, by decide, iw0, (pd_m 191 (by decide +kernel) (by decide +kernel)), (Or.inr (pd_m 192 (by decide +kernel) (by decide +kernel))), tyX0_ok, nmX0, rfl⟩
theorem fCa_19_8 : pd_fl "PantryDoors$Candle" 19 8 3 (tyX8 3) := ⟨RX8, TX8, 5, "PantryDoors$State", tyX8, rfl, by decide, iw8, (pd_m 126 (by decide +kernel) (by decide +kernel)), Or.inl rfl, tyX8_ok, nmX8, rfl⟩
theorem df0 : pd_df 0 [vl 0] := ⟨RX0, TX0, 1, tyX0, rfl, iw0, tyX0_ok, rfl, fun G j hj => by
  match j, hj with
  | 0, _ => rfl
  | j + 1, hj => exact absurd hj (by omega), (pd_m 238 (by decide +kernel) (by decide +kernel)), (pd_m 56 (by decide +kernel) (by decide +kernel))⟩
theorem df1 : pd_df 1 [vl 0] := ⟨RX1, TX1, 1, tyX1, rfl, iw1, tyX1_ok, rfl, fun G j hj => by
  match j, hj with
  | 0, _ => rfl
  | j + 1, hj => exact absurd hj (by omega), (pd_m 222 (by decide +kernel) (by decide +kernel)), (pd_m 54 (by decide +kernel) (by decide +kernel))⟩
theorem df2 : pd_df 2 [vl 0] := ⟨RX2, TX2, 1, tyX2, rfl, iw2, tyX2_ok, rfl, fun G j hj => by
  match j, hj with
  | 0, _ => rfl
  | j + 1, hj => exact absurd hj (by omega), (pd_m 185 (by decide +kernel) (by decide +kernel)), (pd_m 51 (by decide +kernel) (by decide +kernel))⟩
theorem df3 : pd_df 3 [vl 0] := ⟨RX3, TX3, 1, tyX3, rfl, iw3, tyX3_ok, rfl, fun G j hj => by
  match j, hj with
  | 0, _ => rfl
  | j + 1, hj => exact absurd hj (by omega), (pd_m 214 (by decide +kernel) (by decide +kernel)), (pd_m 53 (by decide +kernel) (by decide +kernel))⟩
theorem df4 : pd_df 4 [vn, vn, vn, vn, vn, vn, vn, vi 0, vi 0, vi 0] := ⟨RX4, TX4, 10, tyX4, rfl, iw4, tyX4_ok, rfl, fun G j hj => by
  match j, hj with
  | 0, _ => rfl
  | 1, _ => rfl
  | 2, _ => rfl
  | 3, _ => rfl
  | 4, _ => rfl
  | 5, _ => rfl
  | 6, _ => rfl
  | 7, _ => rfl
  | 8, _ => rfl
  | 9, _ => rfl
  | j + 10, hj => exact absurd hj (by omega), (pd_m 246 (by decide +kernel) (by decide +kernel)), (pd_m 57 (by decide +kernel) (by decide +kernel))⟩
theorem df5 : pd_df 5 [vl 0] := ⟨RX5, TX5, 1, tyX5, rfl, iw5, tyX5_ok, rfl, fun G j hj => by
  match j, hj with
  | 0, _ => rfl
  | j + 1, hj => exact absurd hj (by omega), (pd_m 230 (by decide +kernel) (by decide +kernel)), (pd_m 55 (by decide +kernel) (by decide +kernel))⟩
theorem df6 : pd_df 6 [vn, vn, vi 0] := ⟨RX6, TX6, 3, tyX6, rfl, iw6, tyX6_ok, rfl, fun G j hj => by
  match j, hj with
  | 0, _ => rfl
  | 1, _ => rfl
  | 2, _ => rfl
  | j + 3, hj => exact absurd hj (by omega), (pd_m 104 (by decide +kernel) (by decide +kernel)), (pd_m 48 (by decide +kernel) (by decide +kernel))⟩
theorem df7 : pd_df 7 [vn, vi 0, vn, vn, vn, vi 0] := ⟨RX7, TX7, 6, tyX7, rfl, iw7, tyX7_ok, rfl, fun G j hj => by
  match j, hj with
  | 0, _ => rfl
  | 1, _ => rfl
  | 2, _ => rfl
  | 3, _ => rfl
  | 4, _ => rfl
  | 5, _ => rfl
  | j + 6, hj => exact absurd hj (by omega), (pd_m 156 (by decide +kernel) (by decide +kernel)), (pd_m 50 (by decide +kernel) (by decide +kernel))⟩
theorem df8 : pd_df 8 [vn, vn, vn, vi 0, vi 0] := ⟨RX8, TX8, 5, tyX8, rfl, iw8, tyX8_ok, rfl, fun G j hj => by
  match j, hj with
  | 0, _ => rfl
  | 1, _ => rfl
  | 2, _ => rfl
  | 3, _ => rfl
  | 4, _ => rfl
  | j + 5, hj => exact absurd hj (by omega), (pd_m 110 (by decide +kernel) (by decide +kernel)), (pd_m 49 (by decide +kernel) (by decide +kernel))⟩
theorem df9 : pd_df 9 [vl 0] := ⟨RX9, TX9, 1, tyX9, rfl, iw9, tyX9_ok, rfl, fun G j hj => by
  match j, hj with
  | 0, _ => rfl
  | j + 1, hj => exact absurd hj (by omega), (pd_m 206 (by decide +kernel) (by decide +kernel)), (pd_m 52 (by decide +kernel) (by decide +kernel))⟩
theorem df10 : pd_df 10 [vn, vi 0, vn, vi 0, vi 0, vi 0, vi 0, vi 0] := ⟨RX10, TX10, 8, tyX10, rfl, iw10, tyX10_ok, rfl, fun G j hj => by
  match j, hj with
  | 0, _ => rfl
  | 1, _ => rfl
  | 2, _ => rfl
  | 3, _ => rfl
  | 4, _ => rfl
  | 5, _ => rfl
  | 6, _ => rfl
  | 7, _ => rfl
  | j + 8, hj => exact absurd hj (by omega), (pd_m 70 (by decide +kernel) (by decide +kernel)), (pd_m 47 (by decide +kernel) (by decide +kernel))⟩
theorem df11 : pd_df 11 [vn, vn, vn, vn, vn, vn, vn, vn, vn, vn, vn, vn, vn, vi 0, vi 0] := ⟨RX11, TX11, 15, tyX11, rfl, iw11, tyX11_ok, rfl, fun G j hj => by
  match j, hj with
  | 0, _ => rfl
  | 1, _ => rfl
  | 2, _ => rfl
  | 3, _ => rfl
  | 4, _ => rfl
  | 5, _ => rfl
  | 6, _ => rfl
  | 7, _ => rfl
  | 8, _ => rfl
  | 9, _ => rfl
  | 10, _ => rfl
  | 11, _ => rfl
  | 12, _ => rfl
  | 13, _ => rfl
  | 14, _ => rfl
  | j + 15, hj => exact absurd hj (by omega), (pd_m 62 (by decide +kernel) (by decide +kernel)), (pd_m 46 (by decide +kernel) (by decide +kernel))⟩
theorem df12 : pd_df 12 [vn, vi 0, vn, vn, vn, vn, vn, vn, vn, vn, vi 0, vi 0, vi 0, vi 0, vi 0, vi 0, vi 0, vn, vn, vn, vn, vn, vn, vn, vn, vn, vi 0, vn, vn, vi 0, vn, vl 0] := ⟨RX12, TX12, 32, tyX12, rfl, iw12, tyX12_ok, rfl, fun G j hj => by
  match j, hj with
  | 0, _ => rfl
  | 1, _ => rfl
  | 2, _ => rfl
  | 3, _ => rfl
  | 4, _ => rfl
  | 5, _ => rfl
  | 6, _ => rfl
  | 7, _ => rfl
  | 8, _ => rfl
  | 9, _ => rfl
  | 10, _ => rfl
  | 11, _ => rfl
  | 12, _ => rfl
  | 13, _ => rfl
  | 14, _ => rfl
  | 15, _ => rfl
  | 16, _ => rfl
  | 17, _ => rfl
  | 18, _ => rfl
  | 19, _ => rfl
  | 20, _ => rfl
  | 21, _ => rfl
  | 22, _ => rfl
  | 23, _ => rfl
  | 24, _ => rfl
  | 25, _ => rfl
  | 26, _ => rfl
  | 27, _ => rfl
  | 28, _ => rfl
  | 29, _ => rfl
  | 30, _ => rfl
  | 31, _ => rfl
  | j + 32, hj => exact absurd hj (by omega), (pd_m 720 (by decide +kernel) (by decide +kernel)), (pd_m 58 (by decide +kernel) (by decide +kernel))⟩
end
section
theorem eG_init_0 : pd_al mG_init 0 0 1 := Or.inl ⟨0, rfl, by decide +kernel, rfl⟩
theorem eG_init_1 : ∃ idx, pd_i mG_init 1 (.invokespecial idx) 3 4 ∧ Cond.methodLink mG_init.1.cls idx objectInit ∈ pd_tbl := ⟨1, ⟨by decide +kernel, rfl⟩, (pd_m 189 (by decide +kernel) (by decide +kernel))⟩
theorem eG_init_4 : pd_rd mG_init 4 none := (by decide +kernel : decode mG_init.2.1 4 = .ok (.return_, 1))
theorem eG_marks_0 : pd_al mG_marks 0 0 1 := Or.inl ⟨0, rfl, by decide +kernel, rfl⟩
theorem eG_marks_1 : pd_i mG_marks 1 (.dup) 1 2 := ⟨by decide +kernel, rfl⟩
theorem eG_marks_2_2 : pd_gf mG_marks 2 2 0 5 := ⟨7, _, ⟨by decide +kernel, rfl⟩, fG_7_2⟩
theorem eG_marks_2_9 : pd_gf mG_marks 2 9 0 5 := ⟨7, _, ⟨by decide +kernel, rfl⟩, fG_7_9⟩
theorem eG_marks_2_3 : pd_gf mG_marks 2 3 0 5 := ⟨7, _, ⟨by decide +kernel, rfl⟩, fG_7_3⟩
theorem eG_marks_2_1 : pd_gf mG_marks 2 1 0 5 := ⟨7, _, ⟨by decide +kernel, rfl⟩, fG_7_1⟩
theorem eG_marks_2_5 : pd_gf mG_marks 2 5 0 5 := ⟨7, _, ⟨by decide +kernel, rfl⟩, fG_7_5⟩
theorem eG_marks_2_0 : pd_gf mG_marks 2 0 0 5 := ⟨7, _, ⟨by decide +kernel, rfl⟩, fG_7_0⟩
theorem eG_marks_5 : pd_jc mG_marks 5 1 6 := Or.inl ⟨1, ⟨by decide +kernel, rfl⟩, by decide⟩
theorem eG_marks_6 : pd_i mG_marks 6 (.ladd) 1 7 := ⟨by decide +kernel, rfl⟩
theorem eG_marks_7_2 : pd_pf mG_marks 7 2 0 .long 10 := ⟨7, ⟨by decide +kernel, rfl⟩, fG_7_2, Or.inl ⟨_, rfl⟩⟩
theorem eG_marks_7_9 : pd_pf mG_marks 7 9 0 .long 10 := ⟨7, ⟨by decide +kernel, rfl⟩, fG_7_9, Or.inl ⟨_, rfl⟩⟩
theorem eG_marks_7_3 : pd_pf mG_marks 7 3 0 .long 10 := ⟨7, ⟨by decide +kernel, rfl⟩, fG_7_3, Or.inl ⟨_, rfl⟩⟩
theorem eG_marks_7_1 : pd_pf mG_marks 7 1 0 .long 10 := ⟨7, ⟨by decide +kernel, rfl⟩, fG_7_1, Or.inl ⟨_, rfl⟩⟩
theorem eG_marks_7_5 : pd_pf mG_marks 7 5 0 .long 10 := ⟨7, ⟨by decide +kernel, rfl⟩, fG_7_5, Or.inl ⟨_, rfl⟩⟩
theorem eG_marks_7_0 : pd_pf mG_marks 7 0 0 .long 10 := ⟨7, ⟨by decide +kernel, rfl⟩, fG_7_0, Or.inl ⟨_, rfl⟩⟩
theorem eG_marks_10 : pd_al mG_marks 10 2 11 := Or.inl ⟨2, rfl, by decide +kernel, rfl⟩
theorem eG_marks_11 : pd_gf mG_marks 11 8 0 14 := ⟨13, _, ⟨by decide +kernel, rfl⟩, fG_13_8⟩
theorem eG_marks_14 : pd_il mG_marks 14 3 15 := Or.inl ⟨3, rfl, by decide +kernel, rfl⟩
theorem eG_marks_15 : pd_i mG_marks 15 (.iaload) 1 16 := ⟨by decide +kernel, rfl⟩
theorem eG_marks_16 {z : Int} : pd_rd mG_marks 16 (some (vi z)) := (by decide +kernel : decode mG_marks.2.1 16 = .ok (.ireturn, 1))
theorem eSu_init_0 : pd_al mSu_init 0 0 1 := Or.inl ⟨0, rfl, by decide +kernel, rfl⟩
theorem eSu_init_1 : pd_kI mSu_init 1 mG_init 0 4 := ⟨1, ⟨by decide +kernel, rfl⟩, Or.inr ⟨"PantryDoors", by decide +kernel⟩, (pd_m 187 (by decide +kernel) (by decide +kernel)), rfl, rfl, kG_init⟩
theorem eSu_init_4 : pd_rd mSu_init 4 none := (by decide +kernel : decode mSu_init.2.1 4 = .ok (.return_, 1))
theorem eSu_marks_0 : pd_al mSu_marks 0 0 1 := Or.inl ⟨0, rfl, by decide +kernel, rfl⟩
theorem eSu_marks_1 : pd_i mSu_marks 1 (.dup) 1 2 := ⟨by decide +kernel, rfl⟩
theorem eSu_marks_2_9 : pd_gf mSu_marks 2 9 0 5 := ⟨7, _, ⟨by decide +kernel, rfl⟩, fSu_7_9⟩
theorem eSu_marks_2_1 : pd_gf mSu_marks 2 1 0 5 := ⟨7, _, ⟨by decide +kernel, rfl⟩, fSu_7_1⟩
theorem eSu_marks_5 : pd_jc mSu_marks 5 (10) 8 := Or.inr ⟨13, ⟨by decide +kernel, rfl⟩, (pd_m 685 (by decide +kernel) (by decide +kernel))⟩
theorem eSu_marks_8 : pd_i mSu_marks 8 (.ladd) 1 9 := ⟨by decide +kernel, rfl⟩
theorem eSu_marks_9_9 : pd_pf mSu_marks 9 9 0 .long 12 := ⟨7, ⟨by decide +kernel, rfl⟩, fSu_7_9, Or.inl ⟨_, rfl⟩⟩
theorem eSu_marks_9_1 : pd_pf mSu_marks 9 1 0 .long 12 := ⟨7, ⟨by decide +kernel, rfl⟩, fSu_7_1, Or.inl ⟨_, rfl⟩⟩
theorem eSu_marks_12 : pd_al mSu_marks 12 0 13 := Or.inl ⟨0, rfl, by decide +kernel, rfl⟩
theorem eSu_marks_13 : pd_al mSu_marks 13 1 14 := Or.inl ⟨1, rfl, by decide +kernel, rfl⟩
theorem eSu_marks_14 : pd_al mSu_marks 14 2 15 := Or.inl ⟨2, rfl, by decide +kernel, rfl⟩
theorem eSu_marks_15 : pd_il mSu_marks 15 3 16 := Or.inl ⟨3, rfl, by decide +kernel, rfl⟩
theorem eSu_marks_16 : pd_kU mSu_marks 16 mG_marks 3 19 := ⟨15, ⟨by decide +kernel, rfl⟩, (pd_m 686 (by decide +kernel) (by decide +kernel)), (pd_m 672 (by decide +kernel) (by decide +kernel)), (pd_m 212 (by decide +kernel) (by decide +kernel)), (pd_m 670 (by decide +kernel) (by decide +kernel)), by decide, kG_marks⟩
theorem eSu_marks_19 : pd_al mSu_marks 19 1 20 := Or.inl ⟨1, rfl, by decide +kernel, rfl⟩
theorem eSu_marks_20 : pd_gf mSu_marks 20 4 3 23 := ⟨19, _, ⟨by decide +kernel, rfl⟩, fSu_19_4⟩
theorem eSu_marks_23 : pd_il mSu_marks 23 3 24 := Or.inl ⟨3, rfl, by decide +kernel, rfl⟩
theorem eSu_marks_24 : pd_i mSu_marks 24 (.iaload) 1 25 := ⟨by decide +kernel, rfl⟩
theorem eSu_marks_25 : pd_i mSu_marks 25 (.iadd) 1 26 := ⟨by decide +kernel, rfl⟩
theorem eSu_marks_26 {z : Int} : pd_rd mSu_marks 26 (some (vi z)) := (by decide +kernel : decode mSu_marks.2.1 26 = .ok (.ireturn, 1))
theorem eHa_init_0 : pd_al mHa_init 0 0 1 := Or.inl ⟨0, rfl, by decide +kernel, rfl⟩
theorem eHa_init_1 : pd_kI mHa_init 1 mG_init 0 4 := ⟨1, ⟨by decide +kernel, rfl⟩, Or.inr ⟨"PantryDoors", by decide +kernel⟩, (pd_m 187 (by decide +kernel) (by decide +kernel)), rfl, rfl, kG_init⟩
theorem eHa_init_4 : pd_rd mHa_init 4 none := (by decide +kernel : decode mHa_init.2.1 4 = .ok (.return_, 1))
theorem eHa_marks_0 : pd_al mHa_marks 0 0 1 := Or.inl ⟨0, rfl, by decide +kernel, rfl⟩
theorem eHa_marks_1 : pd_i mHa_marks 1 (.dup) 1 2 := ⟨by decide +kernel, rfl⟩
theorem eHa_marks_2_3 : pd_gf mHa_marks 2 3 0 5 := ⟨7, _, ⟨by decide +kernel, rfl⟩, fHa_7_3⟩
theorem eHa_marks_2_5 : pd_gf mHa_marks 2 5 0 5 := ⟨7, _, ⟨by decide +kernel, rfl⟩, fHa_7_5⟩
theorem eHa_marks_5 : pd_jc mHa_marks 5 (100) 8 := Or.inr ⟨13, ⟨by decide +kernel, rfl⟩, (pd_m 690 (by decide +kernel) (by decide +kernel))⟩
theorem eHa_marks_8 : pd_i mHa_marks 8 (.ladd) 1 9 := ⟨by decide +kernel, rfl⟩
theorem eHa_marks_9_3 : pd_pf mHa_marks 9 3 0 .long 12 := ⟨7, ⟨by decide +kernel, rfl⟩, fHa_7_3, Or.inl ⟨_, rfl⟩⟩
theorem eHa_marks_9_5 : pd_pf mHa_marks 9 5 0 .long 12 := ⟨7, ⟨by decide +kernel, rfl⟩, fHa_7_5, Or.inl ⟨_, rfl⟩⟩
theorem eHa_marks_12 : pd_al mHa_marks 12 0 13 := Or.inl ⟨0, rfl, by decide +kernel, rfl⟩
theorem eHa_marks_13 : pd_al mHa_marks 13 1 14 := Or.inl ⟨1, rfl, by decide +kernel, rfl⟩
theorem eHa_marks_14 : pd_al mHa_marks 14 2 15 := Or.inl ⟨2, rfl, by decide +kernel, rfl⟩
theorem eHa_marks_15 : pd_il mHa_marks 15 3 16 := Or.inl ⟨3, rfl, by decide +kernel, rfl⟩
theorem eHa_marks_16 : pd_kU mHa_marks 16 mG_marks 3 19 := ⟨15, ⟨by decide +kernel, rfl⟩, (pd_m 691 (by decide +kernel) (by decide +kernel)), (pd_m 672 (by decide +kernel) (by decide +kernel)), (pd_m 220 (by decide +kernel) (by decide +kernel)), (pd_m 670 (by decide +kernel) (by decide +kernel)), by decide, kG_marks⟩
theorem eHa_marks_19 : pd_al mHa_marks 19 2 20 := Or.inl ⟨2, rfl, by decide +kernel, rfl⟩
theorem eHa_marks_20 : pd_gf mHa_marks 20 8 1 23 := ⟨19, _, ⟨by decide +kernel, rfl⟩, fHa_19_8⟩
theorem eHa_marks_23 : pd_il mHa_marks 23 3 24 := Or.inl ⟨3, rfl, by decide +kernel, rfl⟩
theorem eHa_marks_24 : pd_i mHa_marks 24 (.iaload) 1 25 := ⟨by decide +kernel, rfl⟩
theorem eHa_marks_25 : pd_i mHa_marks 25 (.isub) 1 26 := ⟨by decide +kernel, rfl⟩
theorem eHa_marks_26 {z : Int} : pd_rd mHa_marks 26 (some (vi z)) := (by decide +kernel : decode mHa_marks.2.1 26 = .ok (.ireturn, 1))
theorem eCo_init_0 : pd_al mCo_init 0 0 1 := Or.inl ⟨0, rfl, by decide +kernel, rfl⟩
theorem eCo_init_1 : pd_kI mCo_init 1 mSu_init 0 4 := ⟨1, ⟨by decide +kernel, rfl⟩, Or.inr ⟨"PantryDoors", by decide +kernel⟩, (pd_m 208 (by decide +kernel) (by decide +kernel)), rfl, rfl, kSu_init⟩
theorem eCo_init_4 : pd_rd mCo_init 4 none := (by decide +kernel : decode mCo_init.2.1 4 = .ok (.return_, 1))
theorem eCo_marks_0 : pd_al mCo_marks 0 0 1 := Or.inl ⟨0, rfl, by decide +kernel, rfl⟩
theorem eCo_marks_1 : pd_i mCo_marks 1 (.dup) 1 2 := ⟨by decide +kernel, rfl⟩
theorem eCo_marks_2_1 : pd_gf mCo_marks 2 1 0 5 := ⟨7, _, ⟨by decide +kernel, rfl⟩, fCo_7_1⟩
theorem eCo_marks_5 : pd_jc mCo_marks 5 (1000) 8 := Or.inr ⟨13, ⟨by decide +kernel, rfl⟩, (pd_m 681 (by decide +kernel) (by decide +kernel))⟩
theorem eCo_marks_8 : pd_i mCo_marks 8 (.ladd) 1 9 := ⟨by decide +kernel, rfl⟩
theorem eCo_marks_9_1 : pd_pf mCo_marks 9 1 0 .long 12 := ⟨7, ⟨by decide +kernel, rfl⟩, fCo_7_1, Or.inl ⟨_, rfl⟩⟩
theorem eCo_marks_12 : pd_al mCo_marks 12 0 13 := Or.inl ⟨0, rfl, by decide +kernel, rfl⟩
theorem eCo_marks_13 : pd_al mCo_marks 13 1 14 := Or.inl ⟨1, rfl, by decide +kernel, rfl⟩
theorem eCo_marks_14 : pd_al mCo_marks 14 2 15 := Or.inl ⟨2, rfl, by decide +kernel, rfl⟩
theorem eCo_marks_15 : pd_il mCo_marks 15 3 16 := Or.inl ⟨3, rfl, by decide +kernel, rfl⟩
theorem eCo_marks_16 : pd_kU mCo_marks 16 mSu_marks 3 19 := ⟨15, ⟨by decide +kernel, rfl⟩, (pd_m 682 (by decide +kernel) (by decide +kernel)), (pd_m 1040 (by decide +kernel) (by decide +kernel)), (pd_m 228 (by decide +kernel) (by decide +kernel)), (pd_m 683 (by decide +kernel) (by decide +kernel)), by decide, kSu_marks⟩
theorem eCo_marks_19 : pd_ic mCo_marks 19 2 20 := Or.inl ⟨by decide +kernel, rfl⟩
theorem eCo_marks_20 : pd_i mCo_marks 20 (.imul) 1 21 := ⟨by decide +kernel, rfl⟩
theorem eCo_marks_21 {z : Int} : pd_rd mCo_marks 21 (some (vi z)) := (by decide +kernel : decode mCo_marks.2.1 21 = .ok (.ireturn, 1))
theorem eJe_init_0 : pd_al mJe_init 0 0 1 := Or.inl ⟨0, rfl, by decide +kernel, rfl⟩
theorem eJe_init_1 : pd_kI mJe_init 1 mHa_init 0 4 := ⟨1, ⟨by decide +kernel, rfl⟩, Or.inr ⟨"PantryDoors", by decide +kernel⟩, (pd_m 216 (by decide +kernel) (by decide +kernel)), rfl, rfl, kHa_init⟩
theorem eJe_init_4 : pd_rd mJe_init 4 none := (by decide +kernel : decode mJe_init.2.1 4 = .ok (.return_, 1))
theorem eJe_marks_0 : pd_al mJe_marks 0 0 1 := Or.inl ⟨0, rfl, by decide +kernel, rfl⟩
theorem eJe_marks_1 : pd_i mJe_marks 1 (.dup) 1 2 := ⟨by decide +kernel, rfl⟩
theorem eJe_marks_2_5 : pd_gf mJe_marks 2 5 0 5 := ⟨7, _, ⟨by decide +kernel, rfl⟩, fJe_7_5⟩
theorem eJe_marks_5 : pd_jc mJe_marks 5 (10000) 8 := Or.inr ⟨13, ⟨by decide +kernel, rfl⟩, (pd_m 695 (by decide +kernel) (by decide +kernel))⟩
theorem eJe_marks_8 : pd_i mJe_marks 8 (.ladd) 1 9 := ⟨by decide +kernel, rfl⟩
theorem eJe_marks_9_5 : pd_pf mJe_marks 9 5 0 .long 12 := ⟨7, ⟨by decide +kernel, rfl⟩, fJe_7_5, Or.inl ⟨_, rfl⟩⟩
theorem eJe_marks_12 : pd_al mJe_marks 12 0 13 := Or.inl ⟨0, rfl, by decide +kernel, rfl⟩
theorem eJe_marks_13 : pd_al mJe_marks 13 1 14 := Or.inl ⟨1, rfl, by decide +kernel, rfl⟩
theorem eJe_marks_14 : pd_al mJe_marks 14 2 15 := Or.inl ⟨2, rfl, by decide +kernel, rfl⟩
theorem eJe_marks_15 : pd_il mJe_marks 15 3 16 := Or.inl ⟨3, rfl, by decide +kernel, rfl⟩
theorem eJe_marks_16 : pd_kU mJe_marks 16 mHa_marks 3 19 := ⟨15, ⟨by decide +kernel, rfl⟩, (pd_m 696 (by decide +kernel) (by decide +kernel)), (pd_m 1041 (by decide +kernel) (by decide +kernel)), (pd_m 236 (by decide +kernel) (by decide +kernel)), (pd_m 688 (by decide +kernel) (by decide +kernel)), by decide, kHa_marks⟩
theorem eJe_marks_19 : pd_il mJe_marks 19 3 20 := Or.inl ⟨3, rfl, by decide +kernel, rfl⟩
theorem eJe_marks_20 : pd_i mJe_marks 20 (.iadd) 1 21 := ⟨by decide +kernel, rfl⟩
theorem eJe_marks_21 {z : Int} : pd_rd mJe_marks 21 (some (vi z)) := (by decide +kernel : decode mJe_marks.2.1 21 = .ok (.ireturn, 1))
theorem eCa_init_0 : pd_al mCa_init 0 0 1 := Or.inl ⟨0, rfl, by decide +kernel, rfl⟩
theorem eCa_init_1 : pd_kI mCa_init 1 mG_init 0 4 := ⟨1, ⟨by decide +kernel, rfl⟩, Or.inr ⟨"PantryDoors", by decide +kernel⟩, (pd_m 187 (by decide +kernel) (by decide +kernel)), rfl, rfl, kG_init⟩
theorem eCa_init_4 : pd_rd mCa_init 4 none := (by decide +kernel : decode mCa_init.2.1 4 = .ok (.return_, 1))
theorem eCa_marks_0 : pd_al mCa_marks 0 0 1 := Or.inl ⟨0, rfl, by decide +kernel, rfl⟩
theorem eCa_marks_1 : pd_i mCa_marks 1 (.dup) 1 2 := ⟨by decide +kernel, rfl⟩
theorem eCa_marks_2_0 : pd_gf mCa_marks 2 0 0 5 := ⟨7, _, ⟨by decide +kernel, rfl⟩, fCa_7_0⟩
theorem eCa_marks_5 : pd_jc mCa_marks 5 (100000) 8 := Or.inr ⟨13, ⟨by decide +kernel, rfl⟩, (pd_m 676 (by decide +kernel) (by decide +kernel))⟩
theorem eCa_marks_8 : pd_i mCa_marks 8 (.ladd) 1 9 := ⟨by decide +kernel, rfl⟩
theorem eCa_marks_9_0 : pd_pf mCa_marks 9 0 0 .long 12 := ⟨7, ⟨by decide +kernel, rfl⟩, fCa_7_0, Or.inl ⟨_, rfl⟩⟩
theorem eCa_marks_12 : pd_al mCa_marks 12 0 13 := Or.inl ⟨0, rfl, by decide +kernel, rfl⟩
theorem eCa_marks_13 : pd_al mCa_marks 13 1 14 := Or.inl ⟨1, rfl, by decide +kernel, rfl⟩
theorem eCa_marks_14 : pd_al mCa_marks 14 2 15 := Or.inl ⟨2, rfl, by decide +kernel, rfl⟩
theorem eCa_marks_15 : pd_il mCa_marks 15 3 16 := Or.inl ⟨3, rfl, by decide +kernel, rfl⟩
theorem eCa_marks_16 : pd_kU mCa_marks 16 mG_marks 3 19 := ⟨15, ⟨by decide +kernel, rfl⟩, (pd_m 677 (by decide +kernel) (by decide +kernel)), (pd_m 672 (by decide +kernel) (by decide +kernel)), (pd_m 244 (by decide +kernel) (by decide +kernel)), (pd_m 670 (by decide +kernel) (by decide +kernel)), by decide, kG_marks⟩
theorem eCa_marks_19 : pd_al mCa_marks 19 2 20 := Or.inl ⟨2, rfl, by decide +kernel, rfl⟩
theorem eCa_marks_20 : pd_gf mCa_marks 20 8 3 23 := ⟨19, _, ⟨by decide +kernel, rfl⟩, fCa_19_8⟩
theorem eCa_marks_23 : pd_i mCa_marks 23 (.iadd) 1 24 := ⟨by decide +kernel, rfl⟩
theorem eCa_marks_24 {z : Int} : pd_rd mCa_marks 24 (some (vi z)) := (by decide +kernel : decode mCa_marks.2.1 24 = .ok (.ireturn, 1))
theorem eH_init_0 : pd_al mH_init 0 0 1 := Or.inl ⟨0, rfl, by decide +kernel, rfl⟩
theorem eH_init_1 : ∃ idx, pd_i mH_init 1 (.invokespecial idx) 3 4 ∧ Cond.methodLink mH_init.1.cls idx objectInit ∈ pd_tbl := ⟨3, ⟨by decide +kernel, rfl⟩, (pd_m 250 (by decide +kernel) (by decide +kernel))⟩
theorem eH_init_4 : pd_al mH_init 4 0 5 := Or.inl ⟨0, rfl, by decide +kernel, rfl⟩
theorem eH_init_5 : pd_ic mH_init 5 4 6 := Or.inl ⟨by decide +kernel, rfl⟩
theorem eH_init_6 : pd_i mH_init 6 (.newarray .int) 2 8 := ⟨by decide +kernel, rfl⟩
theorem eH_init_8 : pd_pf mH_init 8 4 0 (.array .int) 11 := ⟨9, ⟨by decide +kernel, rfl⟩, fH_9_4, Or.inr ⟨rfl, rfl⟩⟩
theorem eH_init_11 : pd_al mH_init 11 0 12 := Or.inl ⟨0, rfl, by decide +kernel, rfl⟩
theorem eH_init_12 : pd_ic mH_init 12 4 13 := Or.inl ⟨by decide +kernel, rfl⟩
theorem eH_init_13 : pd_i mH_init 13 (.newarray .int) 2 15 := ⟨by decide +kernel, rfl⟩
theorem eH_init_15 : pd_pf mH_init 15 4 1 (.array .int) 18 := ⟨15, ⟨by decide +kernel, rfl⟩, fH_15_4, Or.inr ⟨rfl, rfl⟩⟩
theorem eH_init_18 : pd_al mH_init 18 0 19 := Or.inl ⟨0, rfl, by decide +kernel, rfl⟩
theorem eH_init_19 : pd_ic mH_init 19 4 20 := Or.inl ⟨by decide +kernel, rfl⟩
theorem eH_init_20 : pd_i mH_init 20 (.newarray .int) 2 22 := ⟨by decide +kernel, rfl⟩
theorem eH_init_22 : pd_pf mH_init 22 4 2 (.array .int) 25 := ⟨18, ⟨by decide +kernel, rfl⟩, fH_18_4, Or.inr ⟨rfl, rfl⟩⟩
theorem eH_init_25 : pd_al mH_init 25 0 26 := Or.inl ⟨0, rfl, by decide +kernel, rfl⟩
theorem eH_init_26 : pd_ic mH_init 26 4 27 := Or.inl ⟨by decide +kernel, rfl⟩
theorem eH_init_27 : pd_i mH_init 27 (.newarray .int) 2 29 := ⟨by decide +kernel, rfl⟩
theorem eH_init_29 : pd_pf mH_init 29 4 3 (.array .int) 32 := ⟨21, ⟨by decide +kernel, rfl⟩, fH_21_4, Or.inr ⟨rfl, rfl⟩⟩
theorem eH_init_32 : pd_al mH_init 32 0 33 := Or.inl ⟨0, rfl, by decide +kernel, rfl⟩
theorem eH_init_33 : pd_ic mH_init 33 80 35 := Or.inr (Or.inl ⟨⟨by decide +kernel, rfl⟩, by decide⟩)
theorem eH_init_35 : pd_i mH_init 35 (.newarray .int) 2 37 := ⟨by decide +kernel, rfl⟩
theorem eH_init_37 : pd_pf mH_init 37 4 4 (.array .int) 40 := ⟨24, ⟨by decide +kernel, rfl⟩, fH_24_4, Or.inr ⟨rfl, rfl⟩⟩
theorem eH_init_40 : pd_al mH_init 40 0 41 := Or.inl ⟨0, rfl, by decide +kernel, rfl⟩
theorem eH_init_41 : pd_ic mH_init 41 80 43 := Or.inr (Or.inl ⟨⟨by decide +kernel, rfl⟩, by decide⟩)
theorem eH_init_43 : pd_i mH_init 43 (.newarray .int) 2 45 := ⟨by decide +kernel, rfl⟩
theorem eH_init_45 : pd_pf mH_init 45 4 5 (.array .int) 48 := ⟨27, ⟨by decide +kernel, rfl⟩, fH_27_4, Or.inr ⟨rfl, rfl⟩⟩
theorem eH_init_48 : pd_al mH_init 48 0 49 := Or.inl ⟨0, rfl, by decide +kernel, rfl⟩
theorem eH_init_49 : pd_ic mH_init 49 84 51 := Or.inr (Or.inl ⟨⟨by decide +kernel, rfl⟩, by decide⟩)
theorem eH_init_51 : pd_i mH_init 51 (.newarray .int) 2 53 := ⟨by decide +kernel, rfl⟩
theorem eH_init_53 : pd_pf mH_init 53 4 6 (.array .int) 56 := ⟨30, ⟨by decide +kernel, rfl⟩, fH_30_4, Or.inr ⟨rfl, rfl⟩⟩
theorem eH_init_56 : pd_al mH_init 56 0 57 := Or.inl ⟨0, rfl, by decide +kernel, rfl⟩
theorem eH_init_57 : pd_ic mH_init 57 0 58 := Or.inl ⟨by decide +kernel, rfl⟩
theorem eH_init_58 : pd_pf mH_init 58 4 7 .int 61 := ⟨33, ⟨by decide +kernel, rfl⟩, fH_33_4, Or.inl ⟨_, rfl⟩⟩
theorem eH_init_61 : pd_al mH_init 61 0 62 := Or.inl ⟨0, rfl, by decide +kernel, rfl⟩
theorem eH_init_62 : pd_ic mH_init 62 2 63 := Or.inl ⟨by decide +kernel, rfl⟩
theorem eH_init_63 : pd_pf mH_init 63 4 8 .int 66 := ⟨37, ⟨by decide +kernel, rfl⟩, fH_37_4, Or.inl ⟨_, rfl⟩⟩
theorem eH_init_66 : pd_al mH_init 66 0 67 := Or.inl ⟨0, rfl, by decide +kernel, rfl⟩
theorem eH_init_67 : pd_ic mH_init 67 3 68 := Or.inl ⟨by decide +kernel, rfl⟩
theorem eH_init_68 : pd_pf mH_init 68 4 9 .int 71 := ⟨40, ⟨by decide +kernel, rfl⟩, fH_40_4, Or.inl ⟨_, rfl⟩⟩
theorem eH_init_71 : pd_rd mH_init 71 none := (by decide +kernel : decode mH_init.2.1 71 = .ok (.return_, 1))
theorem eH_empty_0 : pd_al mH_empty 0 0 1 := Or.inl ⟨0, rfl, by decide +kernel, rfl⟩
theorem eH_empty_1 : pd_ic mH_empty 1 0 2 := Or.inl ⟨by decide +kernel, rfl⟩
theorem eH_empty_2 : pd_pf mH_empty 2 4 7 .int 5 := ⟨33, ⟨by decide +kernel, rfl⟩, fH_33_4, Or.inl ⟨_, rfl⟩⟩
theorem eH_empty_5 : pd_al mH_empty 5 0 6 := Or.inl ⟨0, rfl, by decide +kernel, rfl⟩
theorem eH_empty_6 : pd_ic mH_empty 6 2 7 := Or.inl ⟨by decide +kernel, rfl⟩
theorem eH_empty_7 : pd_pf mH_empty 7 4 8 .int 10 := ⟨37, ⟨by decide +kernel, rfl⟩, fH_37_4, Or.inl ⟨_, rfl⟩⟩
theorem eH_empty_10 : pd_al mH_empty 10 0 11 := Or.inl ⟨0, rfl, by decide +kernel, rfl⟩
theorem eH_empty_11 : pd_ic mH_empty 11 3 12 := Or.inl ⟨by decide +kernel, rfl⟩
theorem eH_empty_12 : pd_pf mH_empty 12 4 9 .int 15 := ⟨40, ⟨by decide +kernel, rfl⟩, fH_40_4, Or.inl ⟨_, rfl⟩⟩
theorem eH_empty_15 : pd_ic mH_empty 15 0 16 := Or.inl ⟨by decide +kernel, rfl⟩
theorem eH_empty_16 : pd_is mH_empty 16 1 17 := ⟨by decide, Or.inl ⟨1, rfl, by decide +kernel, rfl⟩⟩
theorem eH_empty_17 : pd_il mH_empty 17 1 18 := Or.inl ⟨1, rfl, by decide +kernel, rfl⟩
theorem eH_empty_18 : pd_ic mH_empty 18 80 20 := Or.inr (Or.inl ⟨⟨by decide +kernel, rfl⟩, by decide⟩)
theorem eH_empty_20 : pd_b2 mH_empty 20 .ge 23 43 := ⟨23, ⟨by decide +kernel, rfl⟩, by decide⟩
theorem eH_empty_23 : pd_al mH_empty 23 0 24 := Or.inl ⟨0, rfl, by decide +kernel, rfl⟩
theorem eH_empty_24 : pd_gf mH_empty 24 4 4 27 := ⟨24, _, ⟨by decide +kernel, rfl⟩, fH_24_4⟩
theorem eH_empty_27 : pd_il mH_empty 27 1 28 := Or.inl ⟨1, rfl, by decide +kernel, rfl⟩
theorem eH_empty_28 : pd_ic mH_empty 28 0 29 := Or.inl ⟨by decide +kernel, rfl⟩
theorem eH_empty_29 : pd_i mH_empty 29 (.iastore) 1 30 := ⟨by decide +kernel, rfl⟩
theorem eH_empty_30 : pd_al mH_empty 30 0 31 := Or.inl ⟨0, rfl, by decide +kernel, rfl⟩
theorem eH_empty_31 : pd_gf mH_empty 31 4 5 34 := ⟨27, _, ⟨by decide +kernel, rfl⟩, fH_27_4⟩
theorem eH_empty_34 : pd_il mH_empty 34 1 35 := Or.inl ⟨1, rfl, by decide +kernel, rfl⟩
theorem eH_empty_35 : pd_ic mH_empty 35 0 36 := Or.inl ⟨by decide +kernel, rfl⟩
theorem eH_empty_36 : pd_i mH_empty 36 (.iastore) 1 37 := ⟨by decide +kernel, rfl⟩
theorem eH_empty_37 : pd_ii mH_empty 37 1 1 40 := ⟨by decide, by decide +kernel, rfl⟩
theorem eH_empty_40 : pd_go mH_empty 40 17 := ⟨-23, by decide +kernel, by decide⟩
theorem eH_empty_43 : pd_rd mH_empty 43 none := (by decide +kernel : decode mH_empty.2.1 43 = .ok (.return_, 1))
theorem eH_has_0 : pd_il mH_has 0 1 1 := Or.inl ⟨1, rfl, by decide +kernel, rfl⟩
theorem eH_has_1 : pd_ic mH_has 1 0 2 := Or.inl ⟨by decide +kernel, rfl⟩
theorem eH_has_2 : pd_al mH_has 2 0 3 := Or.inl ⟨0, rfl, by decide +kernel, rfl⟩
theorem eH_has_3 : pd_gf mH_has 3 4 7 6 := ⟨33, _, ⟨by decide +kernel, rfl⟩, fH_33_4⟩
theorem eH_has_6 : pd_ic mH_has 6 1 7 := Or.inl ⟨by decide +kernel, rfl⟩
theorem eH_has_7 : pd_i mH_has 7 (.isub) 1 8 := ⟨by decide +kernel, rfl⟩
theorem eH_has_8 : pd_ks mH_has 8 mD_within 3 11 := ⟨43, ⟨by decide +kernel, rfl⟩, Or.inr ⟨"PantryDoors", by decide +kernel⟩, (pd_m 357 (by decide +kernel) (by decide +kernel)), kD_within⟩
theorem eH_has_11 {z : Int} (h : z = 0 ∨ z = 1) : pd_rd mH_has 11 (some (vi z)) := ⟨by decide +kernel, h⟩
theorem eH_leads_0 : pd_al mH_leads 0 0 1 := Or.inl ⟨0, rfl, by decide +kernel, rfl⟩
theorem eH_leads_1 : pd_gf mH_leads 1 4 8 4 := ⟨37, _, ⟨by decide +kernel, rfl⟩, fH_37_4⟩
theorem eH_leads_4 : pd_al mH_leads 4 0 5 := Or.inl ⟨0, rfl, by decide +kernel, rfl⟩
theorem eH_leads_5 : pd_gf mH_leads 5 4 9 8 := ⟨40, _, ⟨by decide +kernel, rfl⟩, fH_40_4⟩
theorem eH_leads_8 : pd_il mH_leads 8 1 9 := Or.inl ⟨1, rfl, by decide +kernel, rfl⟩
theorem eH_leads_9 : pd_ks mH_leads 9 mD_leadsBy 3 12 := ⟨47, ⟨by decide +kernel, rfl⟩, Or.inr ⟨"PantryDoors", by decide +kernel⟩, (pd_m 469 (by decide +kernel) (by decide +kernel)), kD_leadsBy⟩
theorem eH_leads_12 {z : Int} : pd_rd mH_leads 12 (some (vi z)) := (by decide +kernel : decode mH_leads.2.1 12 = .ok (.ireturn, 1))
theorem eH_rest_0 : pd_ic mH_rest 0 999 3 := Or.inr (Or.inr (Or.inl ⟨⟨by decide +kernel, rfl⟩, by decide⟩))
theorem eH_rest_3 : pd_il mH_rest 3 1 4 := Or.inl ⟨1, rfl, by decide +kernel, rfl⟩
theorem eH_rest_4 : pd_al mH_rest 4 0 5 := Or.inl ⟨0, rfl, by decide +kernel, rfl⟩
theorem eH_rest_5 : pd_gf mH_rest 5 4 4 8 := ⟨24, _, ⟨by decide +kernel, rfl⟩, fH_24_4⟩
theorem eH_rest_8 : pd_il mH_rest 8 2 9 := Or.inl ⟨2, rfl, by decide +kernel, rfl⟩
theorem eH_rest_9 : pd_ic mH_rest 9 4 10 := Or.inl ⟨by decide +kernel, rfl⟩
theorem eH_rest_10 : pd_i mH_rest 10 (.imul) 1 11 := ⟨by decide +kernel, rfl⟩
theorem eH_rest_11 : pd_il mH_rest 11 3 12 := Or.inl ⟨3, rfl, by decide +kernel, rfl⟩
theorem eH_rest_12 : pd_i mH_rest 12 (.iadd) 1 13 := ⟨by decide +kernel, rfl⟩
theorem eH_rest_13 : pd_i mH_rest 13 (.iaload) 1 14 := ⟨by decide +kernel, rfl⟩
theorem eH_rest_14 : pd_i mH_rest 14 (.iadd) 1 15 := ⟨by decide +kernel, rfl⟩
theorem eH_rest_15 : pd_min mH_rest 15 18 := ⟨51, ⟨by decide +kernel, rfl⟩, (pd_m 434 (by decide +kernel) (by decide +kernel))⟩
theorem eH_rest_18 : pd_is mH_rest 18 4 20 := ⟨by decide, Or.inr ⟨by decide +kernel, rfl⟩⟩
theorem eH_rest_20 : pd_il mH_rest 20 4 22 := Or.inr ⟨by decide +kernel, rfl⟩
theorem eH_rest_22 : pd_il mH_rest 22 4 24 := Or.inr ⟨by decide +kernel, rfl⟩
theorem eH_rest_24 : pd_al mH_rest 24 0 25 := Or.inl ⟨0, rfl, by decide +kernel, rfl⟩
theorem eH_rest_25 : pd_gf mH_rest 25 4 5 28 := ⟨27, _, ⟨by decide +kernel, rfl⟩, fH_27_4⟩
theorem eH_rest_28 : pd_il mH_rest 28 2 29 := Or.inl ⟨2, rfl, by decide +kernel, rfl⟩
theorem eH_rest_29 : pd_ic mH_rest 29 4 30 := Or.inl ⟨by decide +kernel, rfl⟩
theorem eH_rest_30 : pd_i mH_rest 30 (.imul) 1 31 := ⟨by decide +kernel, rfl⟩
theorem eH_rest_31 : pd_il mH_rest 31 3 32 := Or.inl ⟨3, rfl, by decide +kernel, rfl⟩
theorem eH_rest_32 : pd_i mH_rest 32 (.iadd) 1 33 := ⟨by decide +kernel, rfl⟩
theorem eH_rest_33 : pd_i mH_rest 33 (.iaload) 1 34 := ⟨by decide +kernel, rfl⟩
theorem eH_rest_34 : pd_min mH_rest 34 37 := ⟨51, ⟨by decide +kernel, rfl⟩, (pd_m 434 (by decide +kernel) (by decide +kernel))⟩
theorem eH_rest_37 : pd_i mH_rest 37 (.isub) 1 38 := ⟨by decide +kernel, rfl⟩
theorem eH_rest_38 : pd_is mH_rest 38 4 40 := ⟨by decide, Or.inr ⟨by decide +kernel, rfl⟩⟩
theorem eH_rest_40 : pd_il mH_rest 40 4 42 := Or.inr ⟨by decide +kernel, rfl⟩
theorem eH_rest_42 : pd_al mH_rest 42 0 43 := Or.inl ⟨0, rfl, by decide +kernel, rfl⟩
theorem eH_rest_43 : pd_gf mH_rest 43 4 1 46 := ⟨15, _, ⟨by decide +kernel, rfl⟩, fH_15_4⟩
theorem eH_rest_46 : pd_il mH_rest 46 3 47 := Or.inl ⟨3, rfl, by decide +kernel, rfl⟩
theorem eH_rest_47 : pd_i mH_rest 47 (.iaload) 1 48 := ⟨by decide +kernel, rfl⟩
theorem eH_rest_48 : pd_b2 mH_rest 48 .ge 51 55 := ⟨7, ⟨by decide +kernel, rfl⟩, by decide⟩
theorem eH_rest_51 : pd_ic mH_rest 51 (-1) 52 := Or.inl ⟨by decide +kernel, rfl⟩
theorem eH_rest_52 : pd_go mH_rest 52 64 := ⟨12, by decide +kernel, by decide⟩
theorem eH_rest_55 : pd_il mH_rest 55 4 57 := Or.inr ⟨by decide +kernel, rfl⟩
theorem eH_rest_57 : pd_al mH_rest 57 0 58 := Or.inl ⟨0, rfl, by decide +kernel, rfl⟩
theorem eH_rest_58 : pd_gf mH_rest 58 4 1 61 := ⟨15, _, ⟨by decide +kernel, rfl⟩, fH_15_4⟩
theorem eH_rest_61 : pd_il mH_rest 61 3 62 := Or.inl ⟨3, rfl, by decide +kernel, rfl⟩
theorem eH_rest_62 : pd_i mH_rest 62 (.iaload) 1 63 := ⟨by decide +kernel, rfl⟩
theorem eH_rest_63 : pd_i mH_rest 63 (.isub) 1 64 := ⟨by decide +kernel, rfl⟩
theorem eH_rest_64 {z : Int} : pd_rd mH_rest 64 (some (vi z)) := (by decide +kernel : decode mH_rest.2.1 64 = .ok (.ireturn, 1))
theorem eH_reckonStores_0 : pd_ic mH_reckonStores 0 0 1 := Or.inl ⟨by decide +kernel, rfl⟩
theorem eH_reckonStores_1 : pd_is mH_reckonStores 1 1 2 := ⟨by decide, Or.inl ⟨1, rfl, by decide +kernel, rfl⟩⟩
theorem eH_reckonStores_2 : pd_il mH_reckonStores 2 1 3 := Or.inl ⟨1, rfl, by decide +kernel, rfl⟩
theorem eH_reckonStores_3 : pd_al mH_reckonStores 3 0 4 := Or.inl ⟨0, rfl, by decide +kernel, rfl⟩
theorem eH_reckonStores_4 : pd_gf mH_reckonStores 4 4 7 7 := ⟨33, _, ⟨by decide +kernel, rfl⟩, fH_33_4⟩
theorem eH_reckonStores_7 : pd_b2 mH_reckonStores 7 .ge 10 74 := ⟨67, ⟨by decide +kernel, rfl⟩, by decide⟩
theorem eH_reckonStores_10 : pd_al mH_reckonStores 10 0 11 := Or.inl ⟨0, rfl, by decide +kernel, rfl⟩
theorem eH_reckonStores_11 : pd_gf mH_reckonStores 11 4 6 14 := ⟨30, _, ⟨by decide +kernel, rfl⟩, fH_30_4⟩
theorem eH_reckonStores_14 : pd_il mH_reckonStores 14 1 15 := Or.inl ⟨1, rfl, by decide +kernel, rfl⟩
theorem eH_reckonStores_15 : pd_al mH_reckonStores 15 0 16 := Or.inl ⟨0, rfl, by decide +kernel, rfl⟩
theorem eH_reckonStores_16 : pd_gf mH_reckonStores 16 4 0 19 := ⟨9, _, ⟨by decide +kernel, rfl⟩, fH_9_4⟩
theorem eH_reckonStores_19 : pd_il mH_reckonStores 19 1 20 := Or.inl ⟨1, rfl, by decide +kernel, rfl⟩
theorem eH_reckonStores_20 : pd_i mH_reckonStores 20 (.iaload) 1 21 := ⟨by decide +kernel, rfl⟩
theorem eH_reckonStores_21 : pd_i mH_reckonStores 21 (.iastore) 1 22 := ⟨by decide +kernel, rfl⟩
theorem eH_reckonStores_22 : pd_ic mH_reckonStores 22 0 23 := Or.inl ⟨by decide +kernel, rfl⟩
theorem eH_reckonStores_23 : pd_is mH_reckonStores 23 2 24 := ⟨by decide, Or.inl ⟨2, rfl, by decide +kernel, rfl⟩⟩
theorem eH_reckonStores_24 : pd_il mH_reckonStores 24 2 25 := Or.inl ⟨2, rfl, by decide +kernel, rfl⟩
theorem eH_reckonStores_25 : pd_ic mH_reckonStores 25 20 27 := Or.inr (Or.inl ⟨⟨by decide +kernel, rfl⟩, by decide⟩)
theorem eH_reckonStores_27 : pd_b2 mH_reckonStores 27 .ge 30 68 := ⟨41, ⟨by decide +kernel, rfl⟩, by decide⟩
theorem eH_reckonStores_30 : pd_al mH_reckonStores 30 0 31 := Or.inl ⟨0, rfl, by decide +kernel, rfl⟩
theorem eH_reckonStores_31 : pd_gf mH_reckonStores 31 4 6 34 := ⟨30, _, ⟨by decide +kernel, rfl⟩, fH_30_4⟩
theorem eH_reckonStores_34 : pd_il mH_reckonStores 34 2 35 := Or.inl ⟨2, rfl, by decide +kernel, rfl⟩
theorem eH_reckonStores_35 : pd_ic mH_reckonStores 35 1 36 := Or.inl ⟨by decide +kernel, rfl⟩
theorem eH_reckonStores_36 : pd_i mH_reckonStores 36 (.iadd) 1 37 := ⟨by decide +kernel, rfl⟩
theorem eH_reckonStores_37 : pd_ic mH_reckonStores 37 4 38 := Or.inl ⟨by decide +kernel, rfl⟩
theorem eH_reckonStores_38 : pd_i mH_reckonStores 38 (.imul) 1 39 := ⟨by decide +kernel, rfl⟩
theorem eH_reckonStores_39 : pd_il mH_reckonStores 39 1 40 := Or.inl ⟨1, rfl, by decide +kernel, rfl⟩
theorem eH_reckonStores_40 : pd_i mH_reckonStores 40 (.iadd) 1 41 := ⟨by decide +kernel, rfl⟩
theorem eH_reckonStores_41 : pd_ic mH_reckonStores 41 0 42 := Or.inl ⟨by decide +kernel, rfl⟩
theorem eH_reckonStores_42 : pd_al mH_reckonStores 42 0 43 := Or.inl ⟨0, rfl, by decide +kernel, rfl⟩
theorem eH_reckonStores_43 : pd_al mH_reckonStores 43 0 44 := Or.inl ⟨0, rfl, by decide +kernel, rfl⟩
theorem eH_reckonStores_44 : pd_gf mH_reckonStores 44 4 6 47 := ⟨30, _, ⟨by decide +kernel, rfl⟩, fH_30_4⟩
theorem eH_reckonStores_47 : pd_il mH_reckonStores 47 2 48 := Or.inl ⟨2, rfl, by decide +kernel, rfl⟩
theorem eH_reckonStores_48 : pd_ic mH_reckonStores 48 4 49 := Or.inl ⟨by decide +kernel, rfl⟩
theorem eH_reckonStores_49 : pd_i mH_reckonStores 49 (.imul) 1 50 := ⟨by decide +kernel, rfl⟩
theorem eH_reckonStores_50 : pd_il mH_reckonStores 50 1 51 := Or.inl ⟨1, rfl, by decide +kernel, rfl⟩
theorem eH_reckonStores_51 : pd_i mH_reckonStores 51 (.iadd) 1 52 := ⟨by decide +kernel, rfl⟩
theorem eH_reckonStores_52 : pd_i mH_reckonStores 52 (.iaload) 1 53 := ⟨by decide +kernel, rfl⟩
theorem eH_reckonStores_53 : pd_il mH_reckonStores 53 2 54 := Or.inl ⟨2, rfl, by decide +kernel, rfl⟩
theorem eH_reckonStores_54 : pd_il mH_reckonStores 54 1 55 := Or.inl ⟨1, rfl, by decide +kernel, rfl⟩
theorem eH_reckonStores_55 : pd_kv mH_reckonStores 55 mH_rest 3 58 := ⟨57, ⟨by decide +kernel, rfl⟩, (pd_m 430 (by decide +kernel) (by decide +kernel)), (pd_m 431 (by decide +kernel) (by decide +kernel)), (pd_m 432 (by decide +kernel) (by decide +kernel)), kH_rest⟩
theorem eH_reckonStores_58 : pd_max mH_reckonStores 58 61 := ⟨60, ⟨by decide +kernel, rfl⟩, (pd_m 435 (by decide +kernel) (by decide +kernel))⟩
theorem eH_reckonStores_61 : pd_i mH_reckonStores 61 (.iastore) 1 62 := ⟨by decide +kernel, rfl⟩
theorem eH_reckonStores_62 : pd_ii mH_reckonStores 62 2 1 65 := ⟨by decide, by decide +kernel, rfl⟩
theorem eH_reckonStores_65 : pd_go mH_reckonStores 65 24 := ⟨-41, by decide +kernel, by decide⟩
theorem eH_reckonStores_68 : pd_ii mH_reckonStores 68 1 1 71 := ⟨by decide, by decide +kernel, rfl⟩
theorem eH_reckonStores_71 : pd_go mH_reckonStores 71 2 := ⟨-69, by decide +kernel, by decide⟩
theorem eH_reckonStores_74 : pd_rd mH_reckonStores 74 none := (by decide +kernel : decode mH_reckonStores.2.1 74 = .ok (.return_, 1))
theorem eS_init_0 : pd_al mS_init 0 0 1 := Or.inl ⟨0, rfl, by decide +kernel, rfl⟩
theorem eS_init_1 : ∃ idx, pd_i mS_init 1 (.invokespecial idx) 3 4 ∧ Cond.methodLink mS_init.1.cls idx objectInit ∈ pd_tbl := ⟨3, ⟨by decide +kernel, rfl⟩, (pd_m 114 (by decide +kernel) (by decide +kernel))⟩
theorem eS_init_4 : pd_al mS_init 4 0 5 := Or.inl ⟨0, rfl, by decide +kernel, rfl⟩
theorem eS_init_5 : pd_ic mS_init 5 4 6 := Or.inl ⟨by decide +kernel, rfl⟩
theorem eS_init_6 : pd_i mS_init 6 (.newarray .int) 2 8 := ⟨by decide +kernel, rfl⟩
theorem eS_init_8 : pd_pf mS_init 8 8 0 (.array .int) 11 := ⟨9, ⟨by decide +kernel, rfl⟩, fS_9_8, Or.inr ⟨rfl, rfl⟩⟩
theorem eS_init_11 : pd_al mS_init 11 0 12 := Or.inl ⟨0, rfl, by decide +kernel, rfl⟩
theorem eS_init_12 : pd_ic mS_init 12 4 13 := Or.inl ⟨by decide +kernel, rfl⟩
theorem eS_init_13 : pd_i mS_init 13 (.newarray .int) 2 15 := ⟨by decide +kernel, rfl⟩
theorem eS_init_15 : pd_pf mS_init 15 8 1 (.array .int) 18 := ⟨15, ⟨by decide +kernel, rfl⟩, fS_15_8, Or.inr ⟨rfl, rfl⟩⟩
theorem eS_init_18 : pd_al mS_init 18 0 19 := Or.inl ⟨0, rfl, by decide +kernel, rfl⟩
theorem eS_init_19 : pd_ic mS_init 19 80 21 := Or.inr (Or.inl ⟨⟨by decide +kernel, rfl⟩, by decide⟩)
theorem eS_init_21 : pd_i mS_init 21 (.newarray .int) 2 23 := ⟨by decide +kernel, rfl⟩
theorem eS_init_23 : pd_pf mS_init 23 8 2 (.array .int) 26 := ⟨18, ⟨by decide +kernel, rfl⟩, fS_18_8, Or.inr ⟨rfl, rfl⟩⟩
theorem eS_init_26 : pd_rd mS_init 26 none := (by decide +kernel : decode mS_init.2.1 26 = .ok (.return_, 1))
theorem eS_begin_0 : pd_al mS_begin 0 0 1 := Or.inl ⟨0, rfl, by decide +kernel, rfl⟩
theorem eS_begin_1 : pd_ic mS_begin 1 0 2 := Or.inl ⟨by decide +kernel, rfl⟩
theorem eS_begin_2 : pd_pf mS_begin 2 8 3 .int 5 := ⟨21, ⟨by decide +kernel, rfl⟩, fS_21_8, Or.inl ⟨_, rfl⟩⟩
theorem eS_begin_5 : pd_al mS_begin 5 0 6 := Or.inl ⟨0, rfl, by decide +kernel, rfl⟩
theorem eS_begin_6 : pd_ic mS_begin 6 0 7 := Or.inl ⟨by decide +kernel, rfl⟩
theorem eS_begin_7 : pd_pf mS_begin 7 8 4 .boolean 10 := ⟨25, ⟨by decide +kernel, rfl⟩, fS_25_8, Or.inl ⟨_, rfl⟩⟩
theorem eS_begin_10 : pd_ic mS_begin 10 0 11 := Or.inl ⟨by decide +kernel, rfl⟩
theorem eS_begin_11 : pd_is mS_begin 11 2 12 := ⟨by decide, Or.inl ⟨2, rfl, by decide +kernel, rfl⟩⟩
theorem eS_begin_12 : pd_il mS_begin 12 2 13 := Or.inl ⟨2, rfl, by decide +kernel, rfl⟩
theorem eS_begin_13 : pd_ic mS_begin 13 4 14 := Or.inl ⟨by decide +kernel, rfl⟩
theorem eS_begin_14 : pd_b2 mS_begin 14 .ge 17 54 := ⟨40, ⟨by decide +kernel, rfl⟩, by decide⟩
theorem eS_begin_17 : pd_al mS_begin 17 0 18 := Or.inl ⟨0, rfl, by decide +kernel, rfl⟩
theorem eS_begin_18 : pd_gf mS_begin 18 8 0 21 := ⟨9, _, ⟨by decide +kernel, rfl⟩, fS_9_8⟩
theorem eS_begin_21 : pd_il mS_begin 21 2 22 := Or.inl ⟨2, rfl, by decide +kernel, rfl⟩
theorem eS_begin_22 : pd_al mS_begin 22 1 23 := Or.inl ⟨1, rfl, by decide +kernel, rfl⟩
theorem eS_begin_23 : pd_il mS_begin 23 2 24 := Or.inl ⟨2, rfl, by decide +kernel, rfl⟩
theorem eS_begin_24 : pd_kv mS_begin 24 mH_has 1 27 := ⟨29, ⟨by decide +kernel, rfl⟩, (pd_m 446 (by decide +kernel) (by decide +kernel)), (pd_m 447 (by decide +kernel) (by decide +kernel)), (pd_m 448 (by decide +kernel) (by decide +kernel)), kH_has⟩
theorem eS_begin_27 : pd_b1 mS_begin 27 .eq 30 39 := ⟨12, ⟨by decide +kernel, rfl⟩, by decide⟩
theorem eS_begin_30 : pd_al mS_begin 30 1 31 := Or.inl ⟨1, rfl, by decide +kernel, rfl⟩
theorem eS_begin_31 : pd_gf mS_begin 31 4 0 34 := ⟨35, _, ⟨by decide +kernel, rfl⟩, fS_35_4⟩
theorem eS_begin_34 : pd_il mS_begin 34 2 35 := Or.inl ⟨2, rfl, by decide +kernel, rfl⟩
theorem eS_begin_35 : pd_i mS_begin 35 (.iaload) 1 36 := ⟨by decide +kernel, rfl⟩
theorem eS_begin_36 : pd_go mS_begin 36 40 := ⟨4, by decide +kernel, by decide⟩
theorem eS_begin_39 : pd_ic mS_begin 39 0 40 := Or.inl ⟨by decide +kernel, rfl⟩
theorem eS_begin_40 : pd_i mS_begin 40 (.iastore) 1 41 := ⟨by decide +kernel, rfl⟩
theorem eS_begin_41 : pd_al mS_begin 41 0 42 := Or.inl ⟨0, rfl, by decide +kernel, rfl⟩
theorem eS_begin_42 : pd_gf mS_begin 42 8 1 45 := ⟨15, _, ⟨by decide +kernel, rfl⟩, fS_15_8⟩
theorem eS_begin_45 : pd_il mS_begin 45 2 46 := Or.inl ⟨2, rfl, by decide +kernel, rfl⟩
theorem eS_begin_46 : pd_ic mS_begin 46 0 47 := Or.inl ⟨by decide +kernel, rfl⟩
theorem eS_begin_47 : pd_i mS_begin 47 (.iastore) 1 48 := ⟨by decide +kernel, rfl⟩
theorem eS_begin_48 : pd_ii mS_begin 48 2 1 51 := ⟨by decide, by decide +kernel, rfl⟩
theorem eS_begin_51 : pd_go mS_begin 51 12 := ⟨-39, by decide +kernel, by decide⟩
theorem eS_begin_54 : pd_ic mS_begin 54 0 55 := Or.inl ⟨by decide +kernel, rfl⟩
theorem eS_begin_55 : pd_is mS_begin 55 2 56 := ⟨by decide, Or.inl ⟨2, rfl, by decide +kernel, rfl⟩⟩
theorem eS_begin_56 : pd_il mS_begin 56 2 57 := Or.inl ⟨2, rfl, by decide +kernel, rfl⟩
theorem eS_begin_57 : pd_ic mS_begin 57 80 59 := Or.inr (Or.inl ⟨⟨by decide +kernel, rfl⟩, by decide⟩)
theorem eS_begin_59 : pd_b2 mS_begin 59 .ge 62 75 := ⟨16, ⟨by decide +kernel, rfl⟩, by decide⟩
theorem eS_begin_62 : pd_al mS_begin 62 0 63 := Or.inl ⟨0, rfl, by decide +kernel, rfl⟩
theorem eS_begin_63 : pd_gf mS_begin 63 8 2 66 := ⟨18, _, ⟨by decide +kernel, rfl⟩, fS_18_8⟩
theorem eS_begin_66 : pd_il mS_begin 66 2 67 := Or.inl ⟨2, rfl, by decide +kernel, rfl⟩
theorem eS_begin_67 : pd_ic mS_begin 67 0 68 := Or.inl ⟨by decide +kernel, rfl⟩
theorem eS_begin_68 : pd_i mS_begin 68 (.iastore) 1 69 := ⟨by decide +kernel, rfl⟩
theorem eS_begin_69 : pd_ii mS_begin 69 2 1 72 := ⟨by decide, by decide +kernel, rfl⟩
theorem eS_begin_72 : pd_go mS_begin 72 56 := ⟨-16, by decide +kernel, by decide⟩
theorem eS_begin_75 : pd_rd mS_begin 75 none := (by decide +kernel : decode mS_begin.2.1 75 = .ok (.return_, 1))
theorem eS_copy_0 : pd_al mS_copy 0 0 1 := Or.inl ⟨0, rfl, by decide +kernel, rfl⟩
theorem eS_copy_1 : pd_al mS_copy 1 1 2 := Or.inl ⟨1, rfl, by decide +kernel, rfl⟩
theorem eS_copy_2 : pd_gf mS_copy 2 8 3 5 := ⟨21, _, ⟨by decide +kernel, rfl⟩, fS_21_8⟩
theorem eS_copy_5 : pd_pf mS_copy 5 8 3 .int 8 := ⟨21, ⟨by decide +kernel, rfl⟩, fS_21_8, Or.inl ⟨_, rfl⟩⟩
theorem eS_copy_8 : pd_al mS_copy 8 0 9 := Or.inl ⟨0, rfl, by decide +kernel, rfl⟩
theorem eS_copy_9 : pd_al mS_copy 9 1 10 := Or.inl ⟨1, rfl, by decide +kernel, rfl⟩
theorem eS_copy_10 : pd_gf mS_copy 10 8 4 13 := ⟨25, _, ⟨by decide +kernel, rfl⟩, fS_25_8⟩
theorem eS_copy_13 : pd_pf mS_copy 13 8 4 .boolean 16 := ⟨25, ⟨by decide +kernel, rfl⟩, fS_25_8, Or.inl ⟨_, rfl⟩⟩
theorem eS_copy_16 : pd_al mS_copy 16 1 17 := Or.inl ⟨1, rfl, by decide +kernel, rfl⟩
theorem eS_copy_17 : pd_gf mS_copy 17 8 0 20 := ⟨9, _, ⟨by decide +kernel, rfl⟩, fS_9_8⟩
theorem eS_copy_20 : pd_ic mS_copy 20 0 21 := Or.inl ⟨by decide +kernel, rfl⟩
theorem eS_copy_21 : pd_al mS_copy 21 0 22 := Or.inl ⟨0, rfl, by decide +kernel, rfl⟩
theorem eS_copy_22 : pd_gf mS_copy 22 8 0 25 := ⟨9, _, ⟨by decide +kernel, rfl⟩, fS_9_8⟩
theorem eS_copy_25 : pd_ic mS_copy 25 0 26 := Or.inl ⟨by decide +kernel, rfl⟩
theorem eS_copy_26 : pd_ic mS_copy 26 4 27 := Or.inl ⟨by decide +kernel, rfl⟩
theorem eS_copy_27 : ∃ idx, pd_i mS_copy 27 (.invokestatic idx) 3 30 ∧ Cond.methodLink mS_copy.1.cls idx arraycopyName ∈ pd_tbl := ⟨38, ⟨by decide +kernel, rfl⟩, (pd_m 491 (by decide +kernel) (by decide +kernel))⟩
theorem eS_copy_30 : pd_al mS_copy 30 1 31 := Or.inl ⟨1, rfl, by decide +kernel, rfl⟩
theorem eS_copy_31 : pd_gf mS_copy 31 8 1 34 := ⟨15, _, ⟨by decide +kernel, rfl⟩, fS_15_8⟩
theorem eS_copy_34 : pd_ic mS_copy 34 0 35 := Or.inl ⟨by decide +kernel, rfl⟩
theorem eS_copy_35 : pd_al mS_copy 35 0 36 := Or.inl ⟨0, rfl, by decide +kernel, rfl⟩
theorem eS_copy_36 : pd_gf mS_copy 36 8 1 39 := ⟨15, _, ⟨by decide +kernel, rfl⟩, fS_15_8⟩
theorem eS_copy_39 : pd_ic mS_copy 39 0 40 := Or.inl ⟨by decide +kernel, rfl⟩
theorem eS_copy_40 : pd_ic mS_copy 40 4 41 := Or.inl ⟨by decide +kernel, rfl⟩
theorem eS_copy_41 : ∃ idx, pd_i mS_copy 41 (.invokestatic idx) 3 44 ∧ Cond.methodLink mS_copy.1.cls idx arraycopyName ∈ pd_tbl := ⟨38, ⟨by decide +kernel, rfl⟩, (pd_m 491 (by decide +kernel) (by decide +kernel))⟩
theorem eS_copy_44 : pd_al mS_copy 44 1 45 := Or.inl ⟨1, rfl, by decide +kernel, rfl⟩
theorem eS_copy_45 : pd_gf mS_copy 45 8 2 48 := ⟨18, _, ⟨by decide +kernel, rfl⟩, fS_18_8⟩
theorem eS_copy_48 : pd_ic mS_copy 48 0 49 := Or.inl ⟨by decide +kernel, rfl⟩
theorem eS_copy_49 : pd_al mS_copy 49 0 50 := Or.inl ⟨0, rfl, by decide +kernel, rfl⟩
theorem eS_copy_50 : pd_gf mS_copy 50 8 2 53 := ⟨18, _, ⟨by decide +kernel, rfl⟩, fS_18_8⟩
theorem eS_copy_53 : pd_ic mS_copy 53 0 54 := Or.inl ⟨by decide +kernel, rfl⟩
theorem eS_copy_54 : pd_ic mS_copy 54 80 56 := Or.inr (Or.inl ⟨⟨by decide +kernel, rfl⟩, by decide⟩)
theorem eS_copy_56 : ∃ idx, pd_i mS_copy 56 (.invokestatic idx) 3 59 ∧ Cond.methodLink mS_copy.1.cls idx arraycopyName ∈ pd_tbl := ⟨38, ⟨by decide +kernel, rfl⟩, (pd_m 491 (by decide +kernel) (by decide +kernel))⟩
theorem eS_copy_59 : pd_rd mS_copy 59 none := (by decide +kernel : decode mS_copy.2.1 59 = .ok (.return_, 1))
theorem eS_leads_0 : pd_al mS_leads 0 0 1 := Or.inl ⟨0, rfl, by decide +kernel, rfl⟩
theorem eS_leads_1 : pd_gf mS_leads 1 8 4 4 := ⟨25, _, ⟨by decide +kernel, rfl⟩, fS_25_8⟩
theorem eS_leads_4 : pd_b1 mS_leads 4 .eq 7 12 := ⟨8, ⟨by decide +kernel, rfl⟩, by decide⟩
theorem eS_leads_7 : pd_ic mS_leads 7 (-9) 9 := Or.inr (Or.inl ⟨⟨by decide +kernel, rfl⟩, by decide⟩)
theorem eS_leads_9 : pd_go mS_leads 9 20 := ⟨11, by decide +kernel, by decide⟩
theorem eS_leads_12 : pd_al mS_leads 12 1 13 := Or.inl ⟨1, rfl, by decide +kernel, rfl⟩
theorem eS_leads_13 : pd_al mS_leads 13 0 14 := Or.inl ⟨0, rfl, by decide +kernel, rfl⟩
theorem eS_leads_14 : pd_gf mS_leads 14 8 3 17 := ⟨21, _, ⟨by decide +kernel, rfl⟩, fS_21_8⟩
theorem eS_leads_17 : pd_kv mS_leads 17 mH_leads 1 20 := ⟨44, ⟨by decide +kernel, rfl⟩, (pd_m 464 (by decide +kernel) (by decide +kernel)), (pd_m 465 (by decide +kernel) (by decide +kernel)), (pd_m 466 (by decide +kernel) (by decide +kernel)), kH_leads⟩
theorem eS_leads_20 {z : Int} : pd_rd mS_leads 20 (some (vi z)) := (by decide +kernel : decode mS_leads.2.1 20 = .ok (.ireturn, 1))
theorem eS_open_0 : pd_al mS_open 0 0 1 := Or.inl ⟨0, rfl, by decide +kernel, rfl⟩
theorem eS_open_1 : pd_al mS_open 1 1 2 := Or.inl ⟨1, rfl, by decide +kernel, rfl⟩
theorem eS_open_2 : pd_al mS_open 2 0 3 := Or.inl ⟨0, rfl, by decide +kernel, rfl⟩
theorem eS_open_3 : pd_gf mS_open 3 8 3 6 := ⟨21, _, ⟨by decide +kernel, rfl⟩, fS_21_8⟩
theorem eS_open_6 : pd_il mS_open 6 2 7 := Or.inl ⟨2, rfl, by decide +kernel, rfl⟩
theorem eS_open_7 : pd_kv mS_open 7 mS_openOn 3 10 := ⟨48, ⟨by decide +kernel, rfl⟩, (pd_m 460 (by decide +kernel) (by decide +kernel)), (pd_m 461 (by decide +kernel) (by decide +kernel)), (pd_m 462 (by decide +kernel) (by decide +kernel)), kS_openOn⟩
theorem eS_open_10 {z : Int} : pd_rd mS_open 10 (some (vi z)) := (by decide +kernel : decode mS_open.2.1 10 = .ok (.ireturn, 1))
theorem eS_openOn_0 : pd_al mS_openOn 0 0 1 := Or.inl ⟨0, rfl, by decide +kernel, rfl⟩
theorem eS_openOn_1 : pd_gf mS_openOn 1 8 4 4 := ⟨25, _, ⟨by decide +kernel, rfl⟩, fS_25_8⟩
theorem eS_openOn_4 : pd_b1 mS_openOn 4 .eq 7 12 := ⟨8, ⟨by decide +kernel, rfl⟩, by decide⟩
theorem eS_openOn_7 : pd_ic mS_openOn 7 (-9) 9 := Or.inr (Or.inl ⟨⟨by decide +kernel, rfl⟩, by decide⟩)
theorem eS_openOn_9 : pd_go mS_openOn 9 17 := ⟨8, by decide +kernel, by decide⟩
theorem eS_openOn_12 : pd_al mS_openOn 12 1 13 := Or.inl ⟨1, rfl, by decide +kernel, rfl⟩
theorem eS_openOn_13 : pd_il mS_openOn 13 2 14 := Or.inl ⟨2, rfl, by decide +kernel, rfl⟩
theorem eS_openOn_14 : pd_kv mS_openOn 14 mH_leads 1 17 := ⟨44, ⟨by decide +kernel, rfl⟩, (pd_m 464 (by decide +kernel) (by decide +kernel)), (pd_m 465 (by decide +kernel) (by decide +kernel)), (pd_m 466 (by decide +kernel) (by decide +kernel)), kH_leads⟩
theorem eS_openOn_17 : pd_is mS_openOn 17 4 19 := ⟨by decide, Or.inr ⟨by decide +kernel, rfl⟩⟩
theorem eS_openOn_19 : pd_il mS_openOn 19 4 21 := Or.inr ⟨by decide +kernel, rfl⟩
theorem eS_openOn_21 : pd_ic mS_openOn 21 (-9) 23 := Or.inr (Or.inl ⟨⟨by decide +kernel, rfl⟩, by decide⟩)
theorem eS_openOn_23 : pd_b2 mS_openOn 23 .ne 26 30 := ⟨7, ⟨by decide +kernel, rfl⟩, by decide⟩
theorem eS_openOn_26 : pd_ic mS_openOn 26 0 27 := Or.inl ⟨by decide +kernel, rfl⟩
theorem eS_openOn_27 : pd_go mS_openOn 27 53 := ⟨26, by decide +kernel, by decide⟩
theorem eS_openOn_30 : pd_al mS_openOn 30 1 31 := Or.inl ⟨1, rfl, by decide +kernel, rfl⟩
theorem eS_openOn_31 : pd_gf mS_openOn 31 4 5 34 := ⟨52, _, ⟨by decide +kernel, rfl⟩, fS_52_4⟩
theorem eS_openOn_34 : pd_il mS_openOn 34 4 36 := Or.inr ⟨by decide +kernel, rfl⟩
theorem eS_openOn_36 : pd_ic mS_openOn 36 4 37 := Or.inl ⟨by decide +kernel, rfl⟩
theorem eS_openOn_37 : pd_i mS_openOn 37 (.imul) 1 38 := ⟨by decide +kernel, rfl⟩
theorem eS_openOn_38 : pd_il mS_openOn 38 3 39 := Or.inl ⟨3, rfl, by decide +kernel, rfl⟩
theorem eS_openOn_39 : pd_i mS_openOn 39 (.iadd) 1 40 := ⟨by decide +kernel, rfl⟩
theorem eS_openOn_40 : pd_i mS_openOn 40 (.iaload) 1 41 := ⟨by decide +kernel, rfl⟩
theorem eS_openOn_41 : pd_al mS_openOn 41 0 42 := Or.inl ⟨0, rfl, by decide +kernel, rfl⟩
theorem eS_openOn_42 : pd_gf mS_openOn 42 8 2 45 := ⟨18, _, ⟨by decide +kernel, rfl⟩, fS_18_8⟩
theorem eS_openOn_45 : pd_il mS_openOn 45 4 47 := Or.inr ⟨by decide +kernel, rfl⟩
theorem eS_openOn_47 : pd_ic mS_openOn 47 4 48 := Or.inl ⟨by decide +kernel, rfl⟩
theorem eS_openOn_48 : pd_i mS_openOn 48 (.imul) 1 49 := ⟨by decide +kernel, rfl⟩
theorem eS_openOn_49 : pd_il mS_openOn 49 3 50 := Or.inl ⟨3, rfl, by decide +kernel, rfl⟩
theorem eS_openOn_50 : pd_i mS_openOn 50 (.iadd) 1 51 := ⟨by decide +kernel, rfl⟩
theorem eS_openOn_51 : pd_i mS_openOn 51 (.iaload) 1 52 := ⟨by decide +kernel, rfl⟩
theorem eS_openOn_52 : pd_i mS_openOn 52 (.isub) 1 53 := ⟨by decide +kernel, rfl⟩
theorem eS_openOn_53 {z : Int} : pd_rd mS_openOn 53 (some (vi z)) := (by decide +kernel : decode mS_openOn.2.1 53 = .ok (.ireturn, 1))
theorem eS_add_0 : pd_al mS_add 0 0 1 := Or.inl ⟨0, rfl, by decide +kernel, rfl⟩
theorem eS_add_1 : pd_gf mS_add 1 8 0 4 := ⟨9, _, ⟨by decide +kernel, rfl⟩, fS_9_8⟩
theorem eS_add_4 : pd_il mS_add 4 1 5 := Or.inl ⟨1, rfl, by decide +kernel, rfl⟩
theorem eS_add_5 : pd_ic mS_add 5 999 8 := Or.inr (Or.inr (Or.inl ⟨⟨by decide +kernel, rfl⟩, by decide⟩))
theorem eS_add_8 : pd_al mS_add 8 0 9 := Or.inl ⟨0, rfl, by decide +kernel, rfl⟩
theorem eS_add_9 : pd_gf mS_add 9 8 0 12 := ⟨9, _, ⟨by decide +kernel, rfl⟩, fS_9_8⟩
theorem eS_add_12 : pd_il mS_add 12 1 13 := Or.inl ⟨1, rfl, by decide +kernel, rfl⟩
theorem eS_add_13 : pd_i mS_add 13 (.iaload) 1 14 := ⟨by decide +kernel, rfl⟩
theorem eS_add_14 : pd_il mS_add 14 2 15 := Or.inl ⟨2, rfl, by decide +kernel, rfl⟩
theorem eS_add_15 : pd_i mS_add 15 (.iadd) 1 16 := ⟨by decide +kernel, rfl⟩
theorem eS_add_16 : pd_min mS_add 16 19 := ⟨55, ⟨by decide +kernel, rfl⟩, (pd_m 512 (by decide +kernel) (by decide +kernel))⟩
theorem eS_add_19 : pd_i mS_add 19 (.iastore) 1 20 := ⟨by decide +kernel, rfl⟩
theorem eS_add_20 : pd_al mS_add 20 0 21 := Or.inl ⟨0, rfl, by decide +kernel, rfl⟩
theorem eS_add_21 : pd_gf mS_add 21 8 0 24 := ⟨9, _, ⟨by decide +kernel, rfl⟩, fS_9_8⟩
theorem eS_add_24 : pd_il mS_add 24 1 25 := Or.inl ⟨1, rfl, by decide +kernel, rfl⟩
theorem eS_add_25 : pd_i mS_add 25 (.iaload) 1 26 := ⟨by decide +kernel, rfl⟩
theorem eS_add_26 {z : Int} : pd_rd mS_add 26 (some (vi z)) := (by decide +kernel : decode mS_add.2.1 26 = .ok (.ireturn, 1))
theorem eS_pass_0 : pd_ic mS_pass 0 0 1 := Or.inl ⟨by decide +kernel, rfl⟩
theorem eS_pass_1 : pd_is mS_pass 1 2 2 := ⟨by decide, Or.inl ⟨2, rfl, by decide +kernel, rfl⟩⟩
theorem eS_pass_2 : pd_ic mS_pass 2 0 3 := Or.inl ⟨by decide +kernel, rfl⟩
theorem eS_pass_3 : pd_is mS_pass 3 3 4 := ⟨by decide, Or.inl ⟨3, rfl, by decide +kernel, rfl⟩⟩
theorem eS_pass_4 : pd_il mS_pass 4 3 5 := Or.inl ⟨3, rfl, by decide +kernel, rfl⟩
theorem eS_pass_5 : pd_al mS_pass 5 1 6 := Or.inl ⟨1, rfl, by decide +kernel, rfl⟩
theorem eS_pass_6 : pd_gf mS_pass 6 4 7 9 := ⟨61, _, ⟨by decide +kernel, rfl⟩, fS_61_4⟩
theorem eS_pass_9 : pd_b2 mS_pass 9 .ge 12 75 := ⟨66, ⟨by decide +kernel, rfl⟩, by decide⟩
theorem eS_pass_12 : pd_al mS_pass 12 0 13 := Or.inl ⟨0, rfl, by decide +kernel, rfl⟩
theorem eS_pass_13 : pd_gf mS_pass 13 8 3 16 := ⟨21, _, ⟨by decide +kernel, rfl⟩, fS_21_8⟩
theorem eS_pass_16 : pd_ic mS_pass 16 20 18 := Or.inr (Or.inl ⟨⟨by decide +kernel, rfl⟩, by decide⟩)
theorem eS_pass_18 : pd_b2 mS_pass 18 .ge 21 75 := ⟨57, ⟨by decide +kernel, rfl⟩, by decide⟩
theorem eS_pass_21 : pd_al mS_pass 21 1 22 := Or.inl ⟨1, rfl, by decide +kernel, rfl⟩
theorem eS_pass_22 : pd_al mS_pass 22 0 23 := Or.inl ⟨0, rfl, by decide +kernel, rfl⟩
theorem eS_pass_23 : pd_gf mS_pass 23 8 0 26 := ⟨9, _, ⟨by decide +kernel, rfl⟩, fS_9_8⟩
theorem eS_pass_26 : pd_il mS_pass 26 3 27 := Or.inl ⟨3, rfl, by decide +kernel, rfl⟩
theorem eS_pass_27 : pd_i mS_pass 27 (.iaload) 1 28 := ⟨by decide +kernel, rfl⟩
theorem eS_pass_28 : pd_al mS_pass 28 0 29 := Or.inl ⟨0, rfl, by decide +kernel, rfl⟩
theorem eS_pass_29 : pd_gf mS_pass 29 8 3 32 := ⟨21, _, ⟨by decide +kernel, rfl⟩, fS_21_8⟩
theorem eS_pass_32 : pd_il mS_pass 32 3 33 := Or.inl ⟨3, rfl, by decide +kernel, rfl⟩
theorem eS_pass_33 : pd_kv mS_pass 33 mH_rest 3 36 := ⟨64, ⟨by decide +kernel, rfl⟩, (pd_m 498 (by decide +kernel) (by decide +kernel)), (pd_m 431 (by decide +kernel) (by decide +kernel)), (pd_m 432 (by decide +kernel) (by decide +kernel)), kH_rest⟩
theorem eS_pass_36 : pd_is mS_pass 36 4 38 := ⟨by decide, Or.inr ⟨by decide +kernel, rfl⟩⟩
theorem eS_pass_38 : pd_il mS_pass 38 4 40 := Or.inr ⟨by decide +kernel, rfl⟩
theorem eS_pass_40 : pd_ic mS_pass 40 (-1) 41 := Or.inl ⟨by decide +kernel, rfl⟩
theorem eS_pass_41 : pd_b2 mS_pass 41 .ne 44 57 := ⟨16, ⟨by decide +kernel, rfl⟩, by decide⟩
theorem eS_pass_44 : pd_ii mS_pass 44 2 1 47 := ⟨by decide, by decide +kernel, rfl⟩
theorem eS_pass_47 : pd_al mS_pass 47 0 48 := Or.inl ⟨0, rfl, by decide +kernel, rfl⟩
theorem eS_pass_48 : pd_gf mS_pass 48 8 1 51 := ⟨15, _, ⟨by decide +kernel, rfl⟩, fS_15_8⟩
theorem eS_pass_51 : pd_il mS_pass 51 3 52 := Or.inl ⟨3, rfl, by decide +kernel, rfl⟩
theorem eS_pass_52 : pd_i mS_pass 52 (.dup2) 1 53 := ⟨by decide +kernel, rfl⟩
theorem eS_pass_53 : pd_i mS_pass 53 (.iaload) 1 54 := ⟨by decide +kernel, rfl⟩
theorem eS_pass_54 : pd_ic mS_pass 54 1 55 := Or.inl ⟨by decide +kernel, rfl⟩
theorem eS_pass_55 : pd_i mS_pass 55 (.iadd) 1 56 := ⟨by decide +kernel, rfl⟩
theorem eS_pass_56 : pd_i mS_pass 56 (.iastore) 1 57 := ⟨by decide +kernel, rfl⟩
theorem eS_pass_57 : pd_al mS_pass 57 0 58 := Or.inl ⟨0, rfl, by decide +kernel, rfl⟩
theorem eS_pass_58 : pd_gf mS_pass 58 8 0 61 := ⟨9, _, ⟨by decide +kernel, rfl⟩, fS_9_8⟩
theorem eS_pass_61 : pd_il mS_pass 61 3 62 := Or.inl ⟨3, rfl, by decide +kernel, rfl⟩
theorem eS_pass_62 : pd_ic mS_pass 62 0 63 := Or.inl ⟨by decide +kernel, rfl⟩
theorem eS_pass_63 : pd_il mS_pass 63 4 65 := Or.inr ⟨by decide +kernel, rfl⟩
theorem eS_pass_65 : pd_max mS_pass 65 68 := ⟨68, ⟨by decide +kernel, rfl⟩, (pd_m 499 (by decide +kernel) (by decide +kernel))⟩
theorem eS_pass_68 : pd_i mS_pass 68 (.iastore) 1 69 := ⟨by decide +kernel, rfl⟩
theorem eS_pass_69 : pd_ii mS_pass 69 3 1 72 := ⟨by decide, by decide +kernel, rfl⟩
theorem eS_pass_72 : pd_go mS_pass 72 4 := ⟨-68, by decide +kernel, by decide⟩
theorem eS_pass_75 : pd_al mS_pass 75 0 76 := Or.inl ⟨0, rfl, by decide +kernel, rfl⟩
theorem eS_pass_76 : pd_i mS_pass 76 (.dup) 1 77 := ⟨by decide +kernel, rfl⟩
theorem eS_pass_77 : pd_gf mS_pass 77 8 3 80 := ⟨21, _, ⟨by decide +kernel, rfl⟩, fS_21_8⟩
theorem eS_pass_80 : pd_ic mS_pass 80 1 81 := Or.inl ⟨by decide +kernel, rfl⟩
theorem eS_pass_81 : pd_i mS_pass 81 (.iadd) 1 82 := ⟨by decide +kernel, rfl⟩
theorem eS_pass_82 : pd_pf mS_pass 82 8 3 .int 85 := ⟨21, ⟨by decide +kernel, rfl⟩, fS_21_8, Or.inl ⟨_, rfl⟩⟩
theorem eS_pass_85 : pd_il mS_pass 85 2 86 := Or.inl ⟨2, rfl, by decide +kernel, rfl⟩
theorem eS_pass_86 {z : Int} : pd_rd mS_pass 86 (some (vi z)) := (by decide +kernel : decode mS_pass.2.1 86 = .ok (.ireturn, 1))
theorem eL_init_0 : pd_al mL_init 0 0 1 := Or.inl ⟨0, rfl, by decide +kernel, rfl⟩
theorem eL_init_1 : ∃ idx, pd_i mL_init 1 (.invokespecial idx) 3 4 ∧ Cond.methodLink mL_init.1.cls idx objectInit ∈ pd_tbl := ⟨1, ⟨by decide +kernel, rfl⟩, (pd_m 108 (by decide +kernel) (by decide +kernel))⟩
theorem eL_init_4 : pd_al mL_init 4 0 5 := Or.inl ⟨0, rfl, by decide +kernel, rfl⟩
theorem eL_init_5 : pd_nwi mL_init 5 8 8 := ⟨7, ⟨by decide +kernel, rfl⟩, _, rfl, (pd_m 109 (by decide +kernel) (by decide +kernel))⟩
theorem eL_init_8 : pd_i mL_init 8 (.dup) 1 9 := ⟨by decide +kernel, rfl⟩
theorem eL_init_9 : pd_kI mL_init 9 mS_init 0 12 := ⟨9, ⟨by decide +kernel, rfl⟩, Or.inr ⟨"PantryDoors", by decide +kernel⟩, (pd_m 112 (by decide +kernel) (by decide +kernel)), rfl, rfl, kS_init⟩
theorem eL_init_12 : pd_pf mL_init 12 6 0 (.object "PantryDoors$State") 15 := ⟨10, ⟨by decide +kernel, rfl⟩, fL_10_6, Or.inr ⟨rfl, rfl⟩⟩
theorem eL_init_15 : pd_al mL_init 15 0 16 := Or.inl ⟨0, rfl, by decide +kernel, rfl⟩
theorem eL_init_16 : pd_ic mL_init 16 10 18 := Or.inr (Or.inl ⟨⟨by decide +kernel, rfl⟩, by decide⟩)
theorem eL_init_18 : ∃ idx, pd_i mL_init 18 (.anewarray idx) 3 21 ∧ Cond.classLink mL_init.1.cls idx "PantryDoors$State" ∈ pd_tbl := ⟨7, ⟨by decide +kernel, rfl⟩, (pd_m 109 (by decide +kernel) (by decide +kernel))⟩
theorem eL_init_21 : pd_pf mL_init 21 6 1 (.array (.object "PantryDoors$State")) 24 := ⟨16, ⟨by decide +kernel, rfl⟩, fL_16_6, Or.inr ⟨rfl, rfl⟩⟩
theorem eL_init_24 : pd_ic mL_init 24 0 25 := Or.inl ⟨by decide +kernel, rfl⟩
theorem eL_init_25 : pd_is mL_init 25 1 26 := ⟨by decide, Or.inl ⟨1, rfl, by decide +kernel, rfl⟩⟩
theorem eL_init_26 : pd_il mL_init 26 1 27 := Or.inl ⟨1, rfl, by decide +kernel, rfl⟩
theorem eL_init_27 : pd_ic mL_init 27 10 29 := Or.inr (Or.inl ⟨⟨by decide +kernel, rfl⟩, by decide⟩)
theorem eL_init_29 : pd_b2 mL_init 29 .ge 32 51 := ⟨22, ⟨by decide +kernel, rfl⟩, by decide⟩
theorem eL_init_32 : pd_al mL_init 32 0 33 := Or.inl ⟨0, rfl, by decide +kernel, rfl⟩
theorem eL_init_33 : pd_gf mL_init 33 6 1 36 := ⟨16, _, ⟨by decide +kernel, rfl⟩, fL_16_6⟩
theorem eL_init_36 : pd_il mL_init 36 1 37 := Or.inl ⟨1, rfl, by decide +kernel, rfl⟩
theorem eL_init_37 : pd_nwi mL_init 37 8 40 := ⟨7, ⟨by decide +kernel, rfl⟩, _, rfl, (pd_m 109 (by decide +kernel) (by decide +kernel))⟩
theorem eL_init_40 : pd_i mL_init 40 (.dup) 1 41 := ⟨by decide +kernel, rfl⟩
theorem eL_init_41 : pd_kI mL_init 41 mS_init 0 44 := ⟨9, ⟨by decide +kernel, rfl⟩, Or.inr ⟨"PantryDoors", by decide +kernel⟩, (pd_m 112 (by decide +kernel) (by decide +kernel)), rfl, rfl, kS_init⟩
theorem eL_init_44 : pd_i mL_init 44 (.aastore) 1 45 := ⟨by decide +kernel, rfl⟩
theorem eL_init_45 : pd_ii mL_init 45 1 1 48 := ⟨by decide, by decide +kernel, rfl⟩
theorem eL_init_48 : pd_go mL_init 48 26 := ⟨-22, by decide +kernel, by decide⟩
theorem eL_init_51 : pd_rd mL_init 51 none := (by decide +kernel : decode mL_init.2.1 51 = .ok (.return_, 1))
theorem eL_begin_0 : pd_al mL_begin 0 0 1 := Or.inl ⟨0, rfl, by decide +kernel, rfl⟩
theorem eL_begin_1 : pd_gf mL_begin 1 6 0 4 := ⟨10, _, ⟨by decide +kernel, rfl⟩, fL_10_6⟩
theorem eL_begin_4 : pd_al mL_begin 4 1 5 := Or.inl ⟨1, rfl, by decide +kernel, rfl⟩
theorem eL_begin_5 : pd_kv mL_begin 5 mS_begin 1 8 := ⟨20, ⟨by decide +kernel, rfl⟩, (pd_m 442 (by decide +kernel) (by decide +kernel)), (pd_m 443 (by decide +kernel) (by decide +kernel)), (pd_m 444 (by decide +kernel) (by decide +kernel)), kS_begin⟩
theorem eL_begin_8 : pd_al mL_begin 8 0 9 := Or.inl ⟨0, rfl, by decide +kernel, rfl⟩
theorem eL_begin_9 : pd_ic mL_begin 9 0 10 := Or.inl ⟨by decide +kernel, rfl⟩
theorem eL_begin_10 : pd_pf mL_begin 10 6 2 .int 13 := ⟨24, ⟨by decide +kernel, rfl⟩, fL_24_6, Or.inl ⟨_, rfl⟩⟩
theorem eL_begin_13 : pd_rd mL_begin 13 none := (by decide +kernel : decode mL_begin.2.1 13 = .ok (.return_, 1))
theorem eL_remember_0 : pd_al mL_remember 0 0 1 := Or.inl ⟨0, rfl, by decide +kernel, rfl⟩
theorem eL_remember_1 : pd_gf mL_remember 1 6 2 4 := ⟨24, _, ⟨by decide +kernel, rfl⟩, fL_24_6⟩
theorem eL_remember_4 : pd_ic mL_remember 4 10 6 := Or.inr (Or.inl ⟨⟨by decide +kernel, rfl⟩, by decide⟩)
theorem eL_remember_6 : pd_b2 mL_remember 6 .lt 9 13 := ⟨7, ⟨by decide +kernel, rfl⟩, by decide⟩
theorem eL_remember_9 : pd_al mL_remember 9 0 10 := Or.inl ⟨0, rfl, by decide +kernel, rfl⟩
theorem eL_remember_10 : pd_kv mL_remember 10 mL_loseOldest 0 13 := ⟨28, ⟨by decide +kernel, rfl⟩, (pd_m 483 (by decide +kernel) (by decide +kernel)), (pd_m 485 (by decide +kernel) (by decide +kernel)), (pd_m 8 (by decide +kernel) (by decide +kernel)), kL_loseOldest⟩
theorem eL_remember_13 : pd_al mL_remember 13 0 14 := Or.inl ⟨0, rfl, by decide +kernel, rfl⟩
theorem eL_remember_14 : pd_gf mL_remember 14 6 1 17 := ⟨16, _, ⟨by decide +kernel, rfl⟩, fL_16_6⟩
theorem eL_remember_17 : pd_al mL_remember 17 0 18 := Or.inl ⟨0, rfl, by decide +kernel, rfl⟩
theorem eL_remember_18 : pd_gf mL_remember 18 6 2 21 := ⟨24, _, ⟨by decide +kernel, rfl⟩, fL_24_6⟩
theorem eL_remember_21 : pd_i mL_remember 21 (.aaload) 1 22 := ⟨by decide +kernel, rfl⟩
theorem eL_remember_22 : pd_al mL_remember 22 0 23 := Or.inl ⟨0, rfl, by decide +kernel, rfl⟩
theorem eL_remember_23 : pd_gf mL_remember 23 6 0 26 := ⟨10, _, ⟨by decide +kernel, rfl⟩, fL_10_6⟩
theorem eL_remember_26 : pd_kv mL_remember 26 mS_copy 1 29 := ⟨31, ⟨by decide +kernel, rfl⟩, (pd_m 487 (by decide +kernel) (by decide +kernel)), (pd_m 488 (by decide +kernel) (by decide +kernel)), (pd_m 489 (by decide +kernel) (by decide +kernel)), kS_copy⟩
theorem eL_remember_29 : pd_al mL_remember 29 0 30 := Or.inl ⟨0, rfl, by decide +kernel, rfl⟩
theorem eL_remember_30 : pd_i mL_remember 30 (.dup) 1 31 := ⟨by decide +kernel, rfl⟩
theorem eL_remember_31 : pd_gf mL_remember 31 6 2 34 := ⟨24, _, ⟨by decide +kernel, rfl⟩, fL_24_6⟩
theorem eL_remember_34 : pd_ic mL_remember 34 1 35 := Or.inl ⟨by decide +kernel, rfl⟩
theorem eL_remember_35 : pd_i mL_remember 35 (.iadd) 1 36 := ⟨by decide +kernel, rfl⟩
theorem eL_remember_36 : pd_pf mL_remember 36 6 2 .int 39 := ⟨24, ⟨by decide +kernel, rfl⟩, fL_24_6, Or.inl ⟨_, rfl⟩⟩
theorem eL_remember_39 : pd_rd mL_remember 39 none := (by decide +kernel : decode mL_remember.2.1 39 = .ok (.return_, 1))
theorem eL_loseOldest_0 : pd_al mL_loseOldest 0 0 1 := Or.inl ⟨0, rfl, by decide +kernel, rfl⟩
theorem eL_loseOldest_1 : pd_gf mL_loseOldest 1 6 1 4 := ⟨16, _, ⟨by decide +kernel, rfl⟩, fL_16_6⟩
theorem eL_loseOldest_4 : pd_ic mL_loseOldest 4 0 5 := Or.inl ⟨by decide +kernel, rfl⟩
theorem eL_loseOldest_5 : pd_i mL_loseOldest 5 (.aaload) 1 6 := ⟨by decide +kernel, rfl⟩
theorem eL_loseOldest_6 : pd_as mL_loseOldest 6 1 7 := ⟨by decide, Or.inl ⟨1, rfl, by decide +kernel, rfl⟩⟩
theorem eL_loseOldest_7 : pd_ic mL_loseOldest 7 1 8 := Or.inl ⟨by decide +kernel, rfl⟩
theorem eL_loseOldest_8 : pd_is mL_loseOldest 8 2 9 := ⟨by decide, Or.inl ⟨2, rfl, by decide +kernel, rfl⟩⟩
theorem eL_loseOldest_9 : pd_il mL_loseOldest 9 2 10 := Or.inl ⟨2, rfl, by decide +kernel, rfl⟩
theorem eL_loseOldest_10 : pd_ic mL_loseOldest 10 10 12 := Or.inr (Or.inl ⟨⟨by decide +kernel, rfl⟩, by decide⟩)
theorem eL_loseOldest_12 : pd_b2 mL_loseOldest 12 .ge 15 35 := ⟨23, ⟨by decide +kernel, rfl⟩, by decide⟩
theorem eL_loseOldest_15 : pd_al mL_loseOldest 15 0 16 := Or.inl ⟨0, rfl, by decide +kernel, rfl⟩
theorem eL_loseOldest_16 : pd_gf mL_loseOldest 16 6 1 19 := ⟨16, _, ⟨by decide +kernel, rfl⟩, fL_16_6⟩
theorem eL_loseOldest_19 : pd_il mL_loseOldest 19 2 20 := Or.inl ⟨2, rfl, by decide +kernel, rfl⟩
theorem eL_loseOldest_20 : pd_ic mL_loseOldest 20 1 21 := Or.inl ⟨by decide +kernel, rfl⟩
theorem eL_loseOldest_21 : pd_i mL_loseOldest 21 (.isub) 1 22 := ⟨by decide +kernel, rfl⟩
theorem eL_loseOldest_22 : pd_al mL_loseOldest 22 0 23 := Or.inl ⟨0, rfl, by decide +kernel, rfl⟩
theorem eL_loseOldest_23 : pd_gf mL_loseOldest 23 6 1 26 := ⟨16, _, ⟨by decide +kernel, rfl⟩, fL_16_6⟩
theorem eL_loseOldest_26 : pd_il mL_loseOldest 26 2 27 := Or.inl ⟨2, rfl, by decide +kernel, rfl⟩
theorem eL_loseOldest_27 : pd_i mL_loseOldest 27 (.aaload) 1 28 := ⟨by decide +kernel, rfl⟩
theorem eL_loseOldest_28 : pd_i mL_loseOldest 28 (.aastore) 1 29 := ⟨by decide +kernel, rfl⟩
theorem eL_loseOldest_29 : pd_ii mL_loseOldest 29 2 1 32 := ⟨by decide, by decide +kernel, rfl⟩
theorem eL_loseOldest_32 : pd_go mL_loseOldest 32 9 := ⟨-23, by decide +kernel, by decide⟩
theorem eL_loseOldest_35 : pd_al mL_loseOldest 35 0 36 := Or.inl ⟨0, rfl, by decide +kernel, rfl⟩
theorem eL_loseOldest_36 : pd_gf mL_loseOldest 36 6 1 39 := ⟨16, _, ⟨by decide +kernel, rfl⟩, fL_16_6⟩
theorem eL_loseOldest_39 : pd_ic mL_loseOldest 39 9 41 := Or.inr (Or.inl ⟨⟨by decide +kernel, rfl⟩, by decide⟩)
theorem eL_loseOldest_41 : pd_al mL_loseOldest 41 1 42 := Or.inl ⟨1, rfl, by decide +kernel, rfl⟩
theorem eL_loseOldest_42 : pd_i mL_loseOldest 42 (.aastore) 1 43 := ⟨by decide +kernel, rfl⟩
theorem eL_loseOldest_43 : pd_al mL_loseOldest 43 0 44 := Or.inl ⟨0, rfl, by decide +kernel, rfl⟩
theorem eL_loseOldest_44 : pd_ic mL_loseOldest 44 9 46 := Or.inr (Or.inl ⟨⟨by decide +kernel, rfl⟩, by decide⟩)
theorem eL_loseOldest_46 : pd_pf mL_loseOldest 46 6 2 .int 49 := ⟨24, ⟨by decide +kernel, rfl⟩, fL_24_6, Or.inl ⟨_, rfl⟩⟩
theorem eL_loseOldest_49 : pd_rd mL_loseOldest 49 none := (by decide +kernel : decode mL_loseOldest.2.1 49 = .ok (.return_, 1))
theorem eL_recall_0 : pd_al mL_recall 0 0 1 := Or.inl ⟨0, rfl, by decide +kernel, rfl⟩
theorem eL_recall_1 : pd_gf mL_recall 1 6 2 4 := ⟨24, _, ⟨by decide +kernel, rfl⟩, fL_24_6⟩
theorem eL_recall_4 : pd_b1 mL_recall 4 .le 7 33 := ⟨29, ⟨by decide +kernel, rfl⟩, by decide⟩
theorem eL_recall_7 : pd_al mL_recall 7 0 8 := Or.inl ⟨0, rfl, by decide +kernel, rfl⟩
theorem eL_recall_8 : pd_i mL_recall 8 (.dup) 1 9 := ⟨by decide +kernel, rfl⟩
theorem eL_recall_9 : pd_gf mL_recall 9 6 2 12 := ⟨24, _, ⟨by decide +kernel, rfl⟩, fL_24_6⟩
theorem eL_recall_12 : pd_ic mL_recall 12 1 13 := Or.inl ⟨by decide +kernel, rfl⟩
theorem eL_recall_13 : pd_i mL_recall 13 (.isub) 1 14 := ⟨by decide +kernel, rfl⟩
theorem eL_recall_14 : pd_pf mL_recall 14 6 2 .int 17 := ⟨24, ⟨by decide +kernel, rfl⟩, fL_24_6, Or.inl ⟨_, rfl⟩⟩
theorem eL_recall_17 : pd_al mL_recall 17 0 18 := Or.inl ⟨0, rfl, by decide +kernel, rfl⟩
theorem eL_recall_18 : pd_gf mL_recall 18 6 0 21 := ⟨10, _, ⟨by decide +kernel, rfl⟩, fL_10_6⟩
theorem eL_recall_21 : pd_al mL_recall 21 0 22 := Or.inl ⟨0, rfl, by decide +kernel, rfl⟩
theorem eL_recall_22 : pd_gf mL_recall 22 6 1 25 := ⟨16, _, ⟨by decide +kernel, rfl⟩, fL_16_6⟩
theorem eL_recall_25 : pd_al mL_recall 25 0 26 := Or.inl ⟨0, rfl, by decide +kernel, rfl⟩
theorem eL_recall_26 : pd_gf mL_recall 26 6 2 29 := ⟨24, _, ⟨by decide +kernel, rfl⟩, fL_24_6⟩
theorem eL_recall_29 : pd_i mL_recall 29 (.aaload) 1 30 := ⟨by decide +kernel, rfl⟩
theorem eL_recall_30 : pd_kv mL_recall 30 mS_copy 1 33 := ⟨31, ⟨by decide +kernel, rfl⟩, (pd_m 487 (by decide +kernel) (by decide +kernel)), (pd_m 488 (by decide +kernel) (by decide +kernel)), (pd_m 489 (by decide +kernel) (by decide +kernel)), kS_copy⟩
theorem eL_recall_33 : pd_rd mL_recall 33 none := (by decide +kernel : decode mL_recall.2.1 33 = .ok (.return_, 1))
theorem eL_copy_0 : pd_al mL_copy 0 0 1 := Or.inl ⟨0, rfl, by decide +kernel, rfl⟩
theorem eL_copy_1 : pd_gf mL_copy 1 6 0 4 := ⟨10, _, ⟨by decide +kernel, rfl⟩, fL_10_6⟩
theorem eL_copy_4 : pd_al mL_copy 4 1 5 := Or.inl ⟨1, rfl, by decide +kernel, rfl⟩
theorem eL_copy_5 : pd_gf mL_copy 5 6 0 8 := ⟨10, _, ⟨by decide +kernel, rfl⟩, fL_10_6⟩
theorem eL_copy_8 : pd_kv mL_copy 8 mS_copy 1 11 := ⟨31, ⟨by decide +kernel, rfl⟩, (pd_m 487 (by decide +kernel) (by decide +kernel)), (pd_m 488 (by decide +kernel) (by decide +kernel)), (pd_m 489 (by decide +kernel) (by decide +kernel)), kS_copy⟩
theorem eL_copy_11 : pd_al mL_copy 11 0 12 := Or.inl ⟨0, rfl, by decide +kernel, rfl⟩
theorem eL_copy_12 : pd_al mL_copy 12 1 13 := Or.inl ⟨1, rfl, by decide +kernel, rfl⟩
theorem eL_copy_13 : pd_gf mL_copy 13 6 2 16 := ⟨24, _, ⟨by decide +kernel, rfl⟩, fL_24_6⟩
theorem eL_copy_16 : pd_pf mL_copy 16 6 2 .int 19 := ⟨24, ⟨by decide +kernel, rfl⟩, fL_24_6, Or.inl ⟨_, rfl⟩⟩
theorem eL_copy_19 : pd_ic mL_copy 19 0 20 := Or.inl ⟨by decide +kernel, rfl⟩
theorem eL_copy_20 : pd_is mL_copy 20 2 21 := ⟨by decide, Or.inl ⟨2, rfl, by decide +kernel, rfl⟩⟩
theorem eL_copy_21 : pd_il mL_copy 21 2 22 := Or.inl ⟨2, rfl, by decide +kernel, rfl⟩
theorem eL_copy_22 : pd_al mL_copy 22 0 23 := Or.inl ⟨0, rfl, by decide +kernel, rfl⟩
theorem eL_copy_23 : pd_gf mL_copy 23 6 2 26 := ⟨24, _, ⟨by decide +kernel, rfl⟩, fL_24_6⟩
theorem eL_copy_26 : pd_b2 mL_copy 26 .ge 29 50 := ⟨24, ⟨by decide +kernel, rfl⟩, by decide⟩
theorem eL_copy_29 : pd_al mL_copy 29 0 30 := Or.inl ⟨0, rfl, by decide +kernel, rfl⟩
theorem eL_copy_30 : pd_gf mL_copy 30 6 1 33 := ⟨16, _, ⟨by decide +kernel, rfl⟩, fL_16_6⟩
theorem eL_copy_33 : pd_il mL_copy 33 2 34 := Or.inl ⟨2, rfl, by decide +kernel, rfl⟩
theorem eL_copy_34 : pd_i mL_copy 34 (.aaload) 1 35 := ⟨by decide +kernel, rfl⟩
theorem eL_copy_35 : pd_al mL_copy 35 1 36 := Or.inl ⟨1, rfl, by decide +kernel, rfl⟩
theorem eL_copy_36 : pd_gf mL_copy 36 6 1 39 := ⟨16, _, ⟨by decide +kernel, rfl⟩, fL_16_6⟩
theorem eL_copy_39 : pd_il mL_copy 39 2 40 := Or.inl ⟨2, rfl, by decide +kernel, rfl⟩
theorem eL_copy_40 : pd_i mL_copy 40 (.aaload) 1 41 := ⟨by decide +kernel, rfl⟩
theorem eL_copy_41 : pd_kv mL_copy 41 mS_copy 1 44 := ⟨31, ⟨by decide +kernel, rfl⟩, (pd_m 487 (by decide +kernel) (by decide +kernel)), (pd_m 488 (by decide +kernel) (by decide +kernel)), (pd_m 489 (by decide +kernel) (by decide +kernel)), kS_copy⟩
theorem eL_copy_44 : pd_ii mL_copy 44 2 1 47 := ⟨by decide, by decide +kernel, rfl⟩
theorem eL_copy_47 : pd_go mL_copy 47 21 := ⟨-26, by decide +kernel, by decide⟩
theorem eL_copy_50 : pd_rd mL_copy 50 none := (by decide +kernel : decode mL_copy.2.1 50 = .ok (.return_, 1))
end
section
theorem eP_init_0 : pd_al mP_init 0 0 1 := Or.inl ⟨0, rfl, by decide +kernel, rfl⟩
theorem eP_init_1 : ∃ idx, pd_i mP_init 1 (.invokespecial idx) 3 4 ∧ Cond.methodLink mP_init.1.cls idx objectInit ∈ pd_tbl := ⟨3, ⟨by decide +kernel, rfl⟩, (pd_m 160 (by decide +kernel) (by decide +kernel))⟩
theorem eP_init_4 : pd_al mP_init 4 0 5 := Or.inl ⟨0, rfl, by decide +kernel, rfl⟩
theorem eP_init_5 : pd_ic mP_init 5 6 7 := Or.inr (Or.inl ⟨⟨by decide +kernel, rfl⟩, by decide⟩)
theorem eP_init_7 : pd_i mP_init 7 (.newarray .int) 2 9 := ⟨by decide +kernel, rfl⟩
theorem eP_init_9 : pd_pf mP_init 9 7 0 (.array .int) 12 := ⟨9, ⟨by decide +kernel, rfl⟩, fP_9_7, Or.inr ⟨rfl, rfl⟩⟩
theorem eP_init_12 : pd_al mP_init 12 0 13 := Or.inl ⟨0, rfl, by decide +kernel, rfl⟩
theorem eP_init_13 : pd_ic mP_init 13 128 16 := Or.inr (Or.inr (Or.inl ⟨⟨by decide +kernel, rfl⟩, by decide⟩))
theorem eP_init_16 : pd_i mP_init 16 (.newarray .int) 2 18 := ⟨by decide +kernel, rfl⟩
theorem eP_init_18 : pd_pf mP_init 18 7 2 (.array .int) 21 := ⟨15, ⟨by decide +kernel, rfl⟩, fP_15_7, Or.inr ⟨rfl, rfl⟩⟩
theorem eP_init_21 : pd_al mP_init 21 0 22 := Or.inl ⟨0, rfl, by decide +kernel, rfl⟩
theorem eP_init_22 : pd_ic mP_init 22 512 25 := Or.inr (Or.inr (Or.inl ⟨⟨by decide +kernel, rfl⟩, by decide⟩))
theorem eP_init_25 : pd_i mP_init 25 (.newarray .int) 2 27 := ⟨by decide +kernel, rfl⟩
theorem eP_init_27 : pd_pf mP_init 27 7 3 (.array .int) 30 := ⟨18, ⟨by decide +kernel, rfl⟩, fP_18_7, Or.inr ⟨rfl, rfl⟩⟩
theorem eP_init_30 : pd_al mP_init 30 0 31 := Or.inl ⟨0, rfl, by decide +kernel, rfl⟩
theorem eP_init_31 : pd_ic mP_init 31 4 32 := Or.inl ⟨by decide +kernel, rfl⟩
theorem eP_init_32 : pd_i mP_init 32 (.newarray .int) 2 34 := ⟨by decide +kernel, rfl⟩
theorem eP_init_34 : pd_pf mP_init 34 7 4 (.array .int) 37 := ⟨21, ⟨by decide +kernel, rfl⟩, fP_21_7, Or.inr ⟨rfl, rfl⟩⟩
theorem eP_init_37 : pd_rd mP_init 37 none := (by decide +kernel : decode mP_init.2.1 37 = .ok (.return_, 1))
theorem eP_reckon_0 : pd_al mP_reckon 0 0 1 := Or.inl ⟨0, rfl, by decide +kernel, rfl⟩
theorem eP_reckon_1 : pd_al mP_reckon 1 1 2 := Or.inl ⟨1, rfl, by decide +kernel, rfl⟩
theorem eP_reckon_2 : pd_gf mP_reckon 2 4 7 5 := ⟨24, _, ⟨by decide +kernel, rfl⟩, fP_24_4⟩
theorem eP_reckon_5 : pd_pf mP_reckon 5 7 5 .int 8 := ⟨30, ⟨by decide +kernel, rfl⟩, fP_30_7, Or.inl ⟨_, rfl⟩⟩
theorem eP_reckon_8 : pd_al mP_reckon 8 0 9 := Or.inl ⟨0, rfl, by decide +kernel, rfl⟩
theorem eP_reckon_9 : pd_ic mP_reckon 9 0 10 := Or.inl ⟨by decide +kernel, rfl⟩
theorem eP_reckon_10 : pd_il mP_reckon 10 3 11 := Or.inl ⟨3, rfl, by decide +kernel, rfl⟩
theorem eP_reckon_11 : pd_ic mP_reckon 11 6 13 := Or.inr (Or.inl ⟨⟨by decide +kernel, rfl⟩, by decide⟩)
theorem eP_reckon_13 : pd_min mP_reckon 13 16 := ⟨31, ⟨by decide +kernel, rfl⟩, (pd_m 567 (by decide +kernel) (by decide +kernel))⟩
theorem eP_reckon_16 : pd_ic mP_reckon 16 20 18 := Or.inr (Or.inl ⟨⟨by decide +kernel, rfl⟩, by decide⟩)
theorem eP_reckon_18 : pd_al mP_reckon 18 2 19 := Or.inl ⟨2, rfl, by decide +kernel, rfl⟩
theorem eP_reckon_19 : pd_gf mP_reckon 19 8 3 22 := ⟨37, _, ⟨by decide +kernel, rfl⟩, fP_37_8⟩
theorem eP_reckon_22 : pd_i mP_reckon 22 (.isub) 1 23 := ⟨by decide +kernel, rfl⟩
theorem eP_reckon_23 : pd_min mP_reckon 23 26 := ⟨31, ⟨by decide +kernel, rfl⟩, (pd_m 567 (by decide +kernel) (by decide +kernel))⟩
theorem eP_reckon_26 : pd_max mP_reckon 26 29 := ⟨42, ⟨by decide +kernel, rfl⟩, (pd_m 568 (by decide +kernel) (by decide +kernel))⟩
theorem eP_reckon_29 : pd_pf mP_reckon 29 7 1 .int 32 := ⟨45, ⟨by decide +kernel, rfl⟩, fP_45_7, Or.inl ⟨_, rfl⟩⟩
theorem eP_reckon_32 : pd_ic mP_reckon 32 0 33 := Or.inl ⟨by decide +kernel, rfl⟩
theorem eP_reckon_33 : pd_is mP_reckon 33 4 35 := ⟨by decide, Or.inr ⟨by decide +kernel, rfl⟩⟩
theorem eP_reckon_35 : pd_il mP_reckon 35 4 37 := Or.inr ⟨by decide +kernel, rfl⟩
theorem eP_reckon_37 : pd_al mP_reckon 37 0 38 := Or.inl ⟨0, rfl, by decide +kernel, rfl⟩
theorem eP_reckon_38 : pd_gf mP_reckon 38 7 5 41 := ⟨30, _, ⟨by decide +kernel, rfl⟩, fP_30_7⟩
theorem eP_reckon_41 : pd_b2 mP_reckon 41 .ge 44 72 := ⟨31, ⟨by decide +kernel, rfl⟩, by decide⟩
theorem eP_reckon_44 : pd_al mP_reckon 44 0 45 := Or.inl ⟨0, rfl, by decide +kernel, rfl⟩
theorem eP_reckon_45 : pd_gf mP_reckon 45 7 4 48 := ⟨21, _, ⟨by decide +kernel, rfl⟩, fP_21_7⟩
theorem eP_reckon_48 : pd_il mP_reckon 48 4 50 := Or.inr ⟨by decide +kernel, rfl⟩
theorem eP_reckon_50 : pd_ic mP_reckon 50 1 51 := Or.inl ⟨by decide +kernel, rfl⟩
theorem eP_reckon_51 : pd_i mP_reckon 51 (.iastore) 1 52 := ⟨by decide +kernel, rfl⟩
theorem eP_reckon_52 : pd_al mP_reckon 52 0 53 := Or.inl ⟨0, rfl, by decide +kernel, rfl⟩
theorem eP_reckon_53 : pd_al mP_reckon 53 1 54 := Or.inl ⟨1, rfl, by decide +kernel, rfl⟩
theorem eP_reckon_54 : pd_al mP_reckon 54 2 55 := Or.inl ⟨2, rfl, by decide +kernel, rfl⟩
theorem eP_reckon_55 : pd_il mP_reckon 55 4 57 := Or.inr ⟨by decide +kernel, rfl⟩
theorem eP_reckon_57 : pd_kv mP_reckon 57 mP_growTree 3 60 := ⟨48, ⟨by decide +kernel, rfl⟩, (pd_m 569 (by decide +kernel) (by decide +kernel)), (pd_m 571 (by decide +kernel) (by decide +kernel)), (pd_m 12 (by decide +kernel) (by decide +kernel)), kP_growTree⟩
theorem eP_reckon_60 : pd_al mP_reckon 60 0 61 := Or.inl ⟨0, rfl, by decide +kernel, rfl⟩
theorem eP_reckon_61 : pd_il mP_reckon 61 4 63 := Or.inr ⟨by decide +kernel, rfl⟩
theorem eP_reckon_63 : pd_kv mP_reckon 63 mP_reckonWanted 1 66 := ⟨52, ⟨by decide +kernel, rfl⟩, (pd_m 575 (by decide +kernel) (by decide +kernel)), (pd_m 577 (by decide +kernel) (by decide +kernel)), (pd_m 13 (by decide +kernel) (by decide +kernel)), kP_reckonWanted⟩
theorem eP_reckon_66 : pd_ii mP_reckon 66 4 1 69 := ⟨by decide, by decide +kernel, rfl⟩
theorem eP_reckon_69 : pd_go mP_reckon 69 35 := ⟨-34, by decide +kernel, by decide⟩
theorem eP_reckon_72 : pd_ic mP_reckon 72 0 73 := Or.inl ⟨by decide +kernel, rfl⟩
theorem eP_reckon_73 : pd_is mP_reckon 73 4 75 := ⟨by decide, Or.inr ⟨by decide +kernel, rfl⟩⟩
theorem eP_reckon_75 : pd_il mP_reckon 75 4 77 := Or.inr ⟨by decide +kernel, rfl⟩
theorem eP_reckon_77 : pd_al mP_reckon 77 0 78 := Or.inl ⟨0, rfl, by decide +kernel, rfl⟩
theorem eP_reckon_78 : pd_gf mP_reckon 78 7 1 81 := ⟨45, _, ⟨by decide +kernel, rfl⟩, fP_45_7⟩
theorem eP_reckon_81 : pd_b2 mP_reckon 81 .gt 84 103 := ⟨22, ⟨by decide +kernel, rfl⟩, by decide⟩
theorem eP_reckon_84 : pd_al mP_reckon 84 0 85 := Or.inl ⟨0, rfl, by decide +kernel, rfl⟩
theorem eP_reckon_85 : pd_ic mP_reckon 85 0 86 := Or.inl ⟨by decide +kernel, rfl⟩
theorem eP_reckon_86 : pd_il mP_reckon 86 4 88 := Or.inr ⟨by decide +kernel, rfl⟩
theorem eP_reckon_88 : pd_ks mP_reckon 88 mP_choose 3 91 := ⟨56, ⟨by decide +kernel, rfl⟩, Or.inl (pd_m 579 (by decide +kernel) (by decide +kernel)), (pd_m 580 (by decide +kernel) (by decide +kernel)), kP_choose⟩
theorem eP_reckon_91 : pd_b1 mP_reckon 91 .eq 94 97 := ⟨6, ⟨by decide +kernel, rfl⟩, by decide⟩
theorem eP_reckon_94 : pd_il mP_reckon 94 4 96 := Or.inr ⟨by decide +kernel, rfl⟩
theorem eP_reckon_96 {z : Int} : pd_rd mP_reckon 96 (some (vi z)) := (by decide +kernel : decode mP_reckon.2.1 96 = .ok (.ireturn, 1))
theorem eP_reckon_97 : pd_ii mP_reckon 97 4 1 100 := ⟨by decide, by decide +kernel, rfl⟩
theorem eP_reckon_100 : pd_go mP_reckon 100 75 := ⟨-25, by decide +kernel, by decide⟩
theorem eP_reckon_103 : pd_ic mP_reckon 103 (-9) 105 := Or.inr (Or.inl ⟨⟨by decide +kernel, rfl⟩, by decide⟩)
theorem eP_reckon_105 {z : Int} : pd_rd mP_reckon 105 (some (vi z)) := (by decide +kernel : decode mP_reckon.2.1 105 = .ok (.ireturn, 1))
theorem eP_growTree_0 : pd_al mP_growTree 0 0 1 := Or.inl ⟨0, rfl, by decide +kernel, rfl⟩
theorem eP_growTree_1 : pd_gf mP_growTree 1 7 2 4 := ⟨15, _, ⟨by decide +kernel, rfl⟩, fP_15_7⟩
theorem eP_growTree_4 : pd_ic mP_growTree 4 1 5 := Or.inl ⟨by decide +kernel, rfl⟩
theorem eP_growTree_5 : pd_al mP_growTree 5 2 6 := Or.inl ⟨2, rfl, by decide +kernel, rfl⟩
theorem eP_growTree_6 : pd_gf mP_growTree 6 8 0 9 := ⟨60, _, ⟨by decide +kernel, rfl⟩, fP_60_8⟩
theorem eP_growTree_9 : pd_il mP_growTree 9 3 10 := Or.inl ⟨3, rfl, by decide +kernel, rfl⟩
theorem eP_growTree_10 : pd_i mP_growTree 10 (.iaload) 1 11 := ⟨by decide +kernel, rfl⟩
theorem eP_growTree_11 : pd_i mP_growTree 11 (.iastore) 1 12 := ⟨by decide +kernel, rfl⟩
theorem eP_growTree_12 : pd_ic mP_growTree 12 0 13 := Or.inl ⟨by decide +kernel, rfl⟩
theorem eP_growTree_13 : pd_is mP_growTree 13 4 15 := ⟨by decide, Or.inr ⟨by decide +kernel, rfl⟩⟩
theorem eP_growTree_15 : pd_il mP_growTree 15 4 17 := Or.inr ⟨by decide +kernel, rfl⟩
theorem eP_growTree_17 : pd_al mP_growTree 17 0 18 := Or.inl ⟨0, rfl, by decide +kernel, rfl⟩
theorem eP_growTree_18 : pd_gf mP_growTree 18 7 1 21 := ⟨45, _, ⟨by decide +kernel, rfl⟩, fP_45_7⟩
theorem eP_growTree_21 : pd_b2 mP_growTree 21 .ge 24 168 := ⟨147, ⟨by decide +kernel, rfl⟩, by decide⟩
theorem eP_growTree_24 : pd_al mP_growTree 24 2 25 := Or.inl ⟨2, rfl, by decide +kernel, rfl⟩
theorem eP_growTree_25 : pd_gf mP_growTree 25 8 3 28 := ⟨37, _, ⟨by decide +kernel, rfl⟩, fP_37_8⟩
theorem eP_growTree_28 : pd_il mP_growTree 28 4 30 := Or.inr ⟨by decide +kernel, rfl⟩
theorem eP_growTree_30 : pd_i mP_growTree 30 (.iadd) 1 31 := ⟨by decide +kernel, rfl⟩
theorem eP_growTree_31 : pd_is mP_growTree 31 5 33 := ⟨by decide, Or.inr ⟨by decide +kernel, rfl⟩⟩
theorem eP_growTree_33 : pd_al mP_growTree 33 2 34 := Or.inl ⟨2, rfl, by decide +kernel, rfl⟩
theorem eP_growTree_34 : pd_al mP_growTree 34 1 35 := Or.inl ⟨1, rfl, by decide +kernel, rfl⟩
theorem eP_growTree_35 : pd_il mP_growTree 35 5 37 := Or.inr ⟨by decide +kernel, rfl⟩
theorem eP_growTree_37 : pd_il mP_growTree 37 3 38 := Or.inl ⟨3, rfl, by decide +kernel, rfl⟩
theorem eP_growTree_38 : pd_kv mP_growTree 38 mS_openOn 3 41 := ⟨61, ⟨by decide +kernel, rfl⟩, (pd_m 573 (by decide +kernel) (by decide +kernel)), (pd_m 461 (by decide +kernel) (by decide +kernel)), (pd_m 462 (by decide +kernel) (by decide +kernel)), kS_openOn⟩
theorem eP_growTree_41 : pd_is mP_growTree 41 6 43 := ⟨by decide, Or.inr ⟨by decide +kernel, rfl⟩⟩
theorem eP_growTree_43 : pd_ic mP_growTree 43 1 44 := Or.inl ⟨by decide +kernel, rfl⟩
theorem eP_growTree_44 : pd_il mP_growTree 44 4 46 := Or.inr ⟨by decide +kernel, rfl⟩
theorem eP_growTree_46 : pd_i mP_growTree 46 (.ishl) 1 47 := ⟨by decide +kernel, rfl⟩
theorem eP_growTree_47 : pd_is mP_growTree 47 7 49 := ⟨by decide, Or.inr ⟨by decide +kernel, rfl⟩⟩
theorem eP_growTree_49 : pd_il mP_growTree 49 7 51 := Or.inr ⟨by decide +kernel, rfl⟩
theorem eP_growTree_51 : pd_ic mP_growTree 51 2 52 := Or.inl ⟨by decide +kernel, rfl⟩
theorem eP_growTree_52 : pd_il mP_growTree 52 4 54 := Or.inr ⟨by decide +kernel, rfl⟩
theorem eP_growTree_54 : pd_i mP_growTree 54 (.ishl) 1 55 := ⟨by decide +kernel, rfl⟩
theorem eP_growTree_55 : pd_b2 mP_growTree 55 .ge 58 162 := ⟨107, ⟨by decide +kernel, rfl⟩, by decide⟩
theorem eP_growTree_58 : pd_al mP_growTree 58 0 59 := Or.inl ⟨0, rfl, by decide +kernel, rfl⟩
theorem eP_growTree_59 : pd_gf mP_growTree 59 7 2 62 := ⟨15, _, ⟨by decide +kernel, rfl⟩, fP_15_7⟩
theorem eP_growTree_62 : pd_il mP_growTree 62 7 64 := Or.inr ⟨by decide +kernel, rfl⟩
theorem eP_growTree_64 : pd_i mP_growTree 64 (.iaload) 1 65 := ⟨by decide +kernel, rfl⟩
theorem eP_growTree_65 : pd_ic mP_growTree 65 (-1) 66 := Or.inl ⟨by decide +kernel, rfl⟩
theorem eP_growTree_66 : pd_b2 mP_growTree 66 .ne 69 73 := ⟨7, ⟨by decide +kernel, rfl⟩, by decide⟩
theorem eP_growTree_69 : pd_ic mP_growTree 69 1 70 := Or.inl ⟨by decide +kernel, rfl⟩
theorem eP_growTree_70 : pd_go mP_growTree 70 74 := ⟨4, by decide +kernel, by decide⟩
theorem eP_growTree_73 : pd_ic mP_growTree 73 0 74 := Or.inl ⟨by decide +kernel, rfl⟩
theorem eP_growTree_74 : pd_is mP_growTree 74 8 76 := ⟨by decide, Or.inr ⟨by decide +kernel, rfl⟩⟩
theorem eP_growTree_76 : pd_al mP_growTree 76 0 77 := Or.inl ⟨0, rfl, by decide +kernel, rfl⟩
theorem eP_growTree_77 : pd_gf mP_growTree 77 7 2 80 := ⟨15, _, ⟨by decide +kernel, rfl⟩, fP_15_7⟩
theorem eP_growTree_80 : pd_ic mP_growTree 80 2 81 := Or.inl ⟨by decide +kernel, rfl⟩
theorem eP_growTree_81 : pd_il mP_growTree 81 7 83 := Or.inr ⟨by decide +kernel, rfl⟩
theorem eP_growTree_83 : pd_i mP_growTree 83 (.imul) 1 84 := ⟨by decide +kernel, rfl⟩
theorem eP_growTree_84 : pd_il mP_growTree 84 8 86 := Or.inr ⟨by decide +kernel, rfl⟩
theorem eP_growTree_86 : pd_b1 mP_growTree 86 .eq 89 93 := ⟨7, ⟨by decide +kernel, rfl⟩, by decide⟩
theorem eP_growTree_89 : pd_ic mP_growTree 89 (-1) 90 := Or.inl ⟨by decide +kernel, rfl⟩
theorem eP_growTree_90 : pd_go mP_growTree 90 107 := ⟨17, by decide +kernel, by decide⟩
theorem eP_growTree_93 : pd_al mP_growTree 93 1 94 := Or.inl ⟨1, rfl, by decide +kernel, rfl⟩
theorem eP_growTree_94 : pd_al mP_growTree 94 0 95 := Or.inl ⟨0, rfl, by decide +kernel, rfl⟩
theorem eP_growTree_95 : pd_gf mP_growTree 95 7 2 98 := ⟨15, _, ⟨by decide +kernel, rfl⟩, fP_15_7⟩
theorem eP_growTree_98 : pd_il mP_growTree 98 7 100 := Or.inr ⟨by decide +kernel, rfl⟩
theorem eP_growTree_100 : pd_i mP_growTree 100 (.iaload) 1 101 := ⟨by decide +kernel, rfl⟩
theorem eP_growTree_101 : pd_il mP_growTree 101 5 103 := Or.inr ⟨by decide +kernel, rfl⟩
theorem eP_growTree_103 : pd_il mP_growTree 103 3 104 := Or.inl ⟨3, rfl, by decide +kernel, rfl⟩
theorem eP_growTree_104 : pd_kv mP_growTree 104 mH_rest 3 107 := ⟨65, ⟨by decide +kernel, rfl⟩, (pd_m 574 (by decide +kernel) (by decide +kernel)), (pd_m 431 (by decide +kernel) (by decide +kernel)), (pd_m 432 (by decide +kernel) (by decide +kernel)), kH_rest⟩
theorem eP_growTree_107 : pd_i mP_growTree 107 (.iastore) 1 108 := ⟨by decide +kernel, rfl⟩
theorem eP_growTree_108 : pd_al mP_growTree 108 0 109 := Or.inl ⟨0, rfl, by decide +kernel, rfl⟩
theorem eP_growTree_109 : pd_gf mP_growTree 109 7 2 112 := ⟨15, _, ⟨by decide +kernel, rfl⟩, fP_15_7⟩
theorem eP_growTree_112 : pd_ic mP_growTree 112 2 113 := Or.inl ⟨by decide +kernel, rfl⟩
theorem eP_growTree_113 : pd_il mP_growTree 113 7 115 := Or.inr ⟨by decide +kernel, rfl⟩
theorem eP_growTree_115 : pd_i mP_growTree 115 (.imul) 1 116 := ⟨by decide +kernel, rfl⟩
theorem eP_growTree_116 : pd_ic mP_growTree 116 1 117 := Or.inl ⟨by decide +kernel, rfl⟩
theorem eP_growTree_117 : pd_i mP_growTree 117 (.iadd) 1 118 := ⟨by decide +kernel, rfl⟩
theorem eP_growTree_118 : pd_il mP_growTree 118 8 120 := Or.inr ⟨by decide +kernel, rfl⟩
theorem eP_growTree_120 : pd_b1 mP_growTree 120 .ne 123 128 := ⟨8, ⟨by decide +kernel, rfl⟩, by decide⟩
theorem eP_growTree_123 : pd_il mP_growTree 123 6 125 := Or.inr ⟨by decide +kernel, rfl⟩
theorem eP_growTree_125 : pd_b1 mP_growTree 125 .gt 128 132 := ⟨7, ⟨by decide +kernel, rfl⟩, by decide⟩
theorem eP_growTree_128 : pd_ic mP_growTree 128 (-1) 129 := Or.inl ⟨by decide +kernel, rfl⟩
theorem eP_growTree_129 : pd_go mP_growTree 129 155 := ⟨26, by decide +kernel, by decide⟩
theorem eP_growTree_132 : pd_al mP_growTree 132 1 133 := Or.inl ⟨1, rfl, by decide +kernel, rfl⟩
theorem eP_growTree_133 : pd_ic mP_growTree 133 999 136 := Or.inr (Or.inr (Or.inl ⟨⟨by decide +kernel, rfl⟩, by decide⟩))
theorem eP_growTree_136 : pd_al mP_growTree 136 0 137 := Or.inl ⟨0, rfl, by decide +kernel, rfl⟩
theorem eP_growTree_137 : pd_gf mP_growTree 137 7 2 140 := ⟨15, _, ⟨by decide +kernel, rfl⟩, fP_15_7⟩
theorem eP_growTree_140 : pd_il mP_growTree 140 7 142 := Or.inr ⟨by decide +kernel, rfl⟩
theorem eP_growTree_142 : pd_i mP_growTree 142 (.iaload) 1 143 := ⟨by decide +kernel, rfl⟩
theorem eP_growTree_143 : pd_il mP_growTree 143 6 145 := Or.inr ⟨by decide +kernel, rfl⟩
theorem eP_growTree_145 : pd_i mP_growTree 145 (.iadd) 1 146 := ⟨by decide +kernel, rfl⟩
theorem eP_growTree_146 : pd_min mP_growTree 146 149 := ⟨31, ⟨by decide +kernel, rfl⟩, (pd_m 567 (by decide +kernel) (by decide +kernel))⟩
theorem eP_growTree_149 : pd_il mP_growTree 149 5 151 := Or.inr ⟨by decide +kernel, rfl⟩
theorem eP_growTree_151 : pd_il mP_growTree 151 3 152 := Or.inl ⟨3, rfl, by decide +kernel, rfl⟩
theorem eP_growTree_152 : pd_kv mP_growTree 152 mH_rest 3 155 := ⟨65, ⟨by decide +kernel, rfl⟩, (pd_m 574 (by decide +kernel) (by decide +kernel)), (pd_m 431 (by decide +kernel) (by decide +kernel)), (pd_m 432 (by decide +kernel) (by decide +kernel)), kH_rest⟩
theorem eP_growTree_155 : pd_i mP_growTree 155 (.iastore) 1 156 := ⟨by decide +kernel, rfl⟩
theorem eP_growTree_156 : pd_ii mP_growTree 156 7 1 159 := ⟨by decide, by decide +kernel, rfl⟩
theorem eP_growTree_159 : pd_go mP_growTree 159 49 := ⟨-110, by decide +kernel, by decide⟩
theorem eP_growTree_162 : pd_ii mP_growTree 162 4 1 165 := ⟨by decide, by decide +kernel, rfl⟩
theorem eP_growTree_165 : pd_go mP_growTree 165 15 := ⟨-150, by decide +kernel, by decide⟩
theorem eP_growTree_168 : pd_rd mP_growTree 168 none := (by decide +kernel : decode mP_growTree.2.1 168 = .ok (.return_, 1))
theorem eP_reckonWanted_0 : pd_ic mP_reckonWanted 0 2 1 := Or.inl ⟨by decide +kernel, rfl⟩
theorem eP_reckonWanted_1 : pd_al mP_reckonWanted 1 0 2 := Or.inl ⟨0, rfl, by decide +kernel, rfl⟩
theorem eP_reckonWanted_2 : pd_gf mP_reckonWanted 2 7 1 5 := ⟨45, _, ⟨by decide +kernel, rfl⟩, fP_45_7⟩
theorem eP_reckonWanted_5 : pd_i mP_reckonWanted 5 (.ishl) 1 6 := ⟨by decide +kernel, rfl⟩
theorem eP_reckonWanted_6 : pd_ic mP_reckonWanted 6 1 7 := Or.inl ⟨by decide +kernel, rfl⟩
theorem eP_reckonWanted_7 : pd_i mP_reckonWanted 7 (.isub) 1 8 := ⟨by decide +kernel, rfl⟩
theorem eP_reckonWanted_8 : pd_is mP_reckonWanted 8 2 9 := ⟨by decide, Or.inl ⟨2, rfl, by decide +kernel, rfl⟩⟩
theorem eP_reckonWanted_9 : pd_il mP_reckonWanted 9 2 10 := Or.inl ⟨2, rfl, by decide +kernel, rfl⟩
theorem eP_reckonWanted_10 : pd_ic mP_reckonWanted 10 1 11 := Or.inl ⟨by decide +kernel, rfl⟩
theorem eP_reckonWanted_11 : pd_b2 mP_reckonWanted 11 .lt 14 113 := ⟨102, ⟨by decide +kernel, rfl⟩, by decide⟩
theorem eP_reckonWanted_14 : pd_il mP_reckonWanted 14 1 15 := Or.inl ⟨1, rfl, by decide +kernel, rfl⟩
theorem eP_reckonWanted_15 : pd_ic mP_reckonWanted 15 128 18 := Or.inr (Or.inr (Or.inl ⟨⟨by decide +kernel, rfl⟩, by decide⟩))
theorem eP_reckonWanted_18 : pd_i mP_reckonWanted 18 (.imul) 1 19 := ⟨by decide +kernel, rfl⟩
theorem eP_reckonWanted_19 : pd_il mP_reckonWanted 19 2 20 := Or.inl ⟨2, rfl, by decide +kernel, rfl⟩
theorem eP_reckonWanted_20 : pd_i mP_reckonWanted 20 (.iadd) 1 21 := ⟨by decide +kernel, rfl⟩
theorem eP_reckonWanted_21 : pd_is mP_reckonWanted 21 3 22 := ⟨by decide, Or.inl ⟨3, rfl, by decide +kernel, rfl⟩⟩
theorem eP_reckonWanted_22 : pd_il mP_reckonWanted 22 2 23 := Or.inl ⟨2, rfl, by decide +kernel, rfl⟩
theorem eP_reckonWanted_23 : pd_ic mP_reckonWanted 23 1 24 := Or.inl ⟨by decide +kernel, rfl⟩
theorem eP_reckonWanted_24 : pd_al mP_reckonWanted 24 0 25 := Or.inl ⟨0, rfl, by decide +kernel, rfl⟩
theorem eP_reckonWanted_25 : pd_gf mP_reckonWanted 25 7 1 28 := ⟨45, _, ⟨by decide +kernel, rfl⟩, fP_45_7⟩
theorem eP_reckonWanted_28 : pd_i mP_reckonWanted 28 (.ishl) 1 29 := ⟨by decide +kernel, rfl⟩
theorem eP_reckonWanted_29 : pd_b2 mP_reckonWanted 29 .lt 32 57 := ⟨28, ⟨by decide +kernel, rfl⟩, by decide⟩
theorem eP_reckonWanted_32 : pd_al mP_reckonWanted 32 0 33 := Or.inl ⟨0, rfl, by decide +kernel, rfl⟩
theorem eP_reckonWanted_33 : pd_gf mP_reckonWanted 33 7 3 36 := ⟨18, _, ⟨by decide +kernel, rfl⟩, fP_18_7⟩
theorem eP_reckonWanted_36 : pd_il mP_reckonWanted 36 3 37 := Or.inl ⟨3, rfl, by decide +kernel, rfl⟩
theorem eP_reckonWanted_37 : pd_al mP_reckonWanted 37 0 38 := Or.inl ⟨0, rfl, by decide +kernel, rfl⟩
theorem eP_reckonWanted_38 : pd_gf mP_reckonWanted 38 7 2 41 := ⟨15, _, ⟨by decide +kernel, rfl⟩, fP_15_7⟩
theorem eP_reckonWanted_41 : pd_il mP_reckonWanted 41 2 42 := Or.inl ⟨2, rfl, by decide +kernel, rfl⟩
theorem eP_reckonWanted_42 : pd_i mP_reckonWanted 42 (.iaload) 1 43 := ⟨by decide +kernel, rfl⟩
theorem eP_reckonWanted_43 : pd_ic mP_reckonWanted 43 (-1) 44 := Or.inl ⟨by decide +kernel, rfl⟩
theorem eP_reckonWanted_44 : pd_b2 mP_reckonWanted 44 .ne 47 52 := ⟨8, ⟨by decide +kernel, rfl⟩, by decide⟩
theorem eP_reckonWanted_47 : pd_ic mP_reckonWanted 47 7 49 := Or.inr (Or.inl ⟨⟨by decide +kernel, rfl⟩, by decide⟩)
theorem eP_reckonWanted_49 : pd_go mP_reckonWanted 49 53 := ⟨4, by decide +kernel, by decide⟩
theorem eP_reckonWanted_52 : pd_ic mP_reckonWanted 52 0 53 := Or.inl ⟨by decide +kernel, rfl⟩
theorem eP_reckonWanted_53 : pd_i mP_reckonWanted 53 (.iastore) 1 54 := ⟨by decide +kernel, rfl⟩
theorem eP_reckonWanted_54 : pd_go mP_reckonWanted 54 107 := ⟨53, by decide +kernel, by decide⟩
theorem eP_reckonWanted_57 : pd_al mP_reckonWanted 57 0 58 := Or.inl ⟨0, rfl, by decide +kernel, rfl⟩
theorem eP_reckonWanted_58 : pd_gf mP_reckonWanted 58 7 3 61 := ⟨18, _, ⟨by decide +kernel, rfl⟩, fP_18_7⟩
theorem eP_reckonWanted_61 : pd_il mP_reckonWanted 61 1 62 := Or.inl ⟨1, rfl, by decide +kernel, rfl⟩
theorem eP_reckonWanted_62 : pd_ic mP_reckonWanted 62 128 65 := Or.inr (Or.inr (Or.inl ⟨⟨by decide +kernel, rfl⟩, by decide⟩))
theorem eP_reckonWanted_65 : pd_i mP_reckonWanted 65 (.imul) 1 66 := ⟨by decide +kernel, rfl⟩
theorem eP_reckonWanted_66 : pd_ic mP_reckonWanted 66 2 67 := Or.inl ⟨by decide +kernel, rfl⟩
theorem eP_reckonWanted_67 : pd_il mP_reckonWanted 67 2 68 := Or.inl ⟨2, rfl, by decide +kernel, rfl⟩
theorem eP_reckonWanted_68 : pd_i mP_reckonWanted 68 (.imul) 1 69 := ⟨by decide +kernel, rfl⟩
theorem eP_reckonWanted_69 : pd_i mP_reckonWanted 69 (.iadd) 1 70 := ⟨by decide +kernel, rfl⟩
theorem eP_reckonWanted_70 : pd_ic mP_reckonWanted 70 1 71 := Or.inl ⟨by decide +kernel, rfl⟩
theorem eP_reckonWanted_71 : pd_i mP_reckonWanted 71 (.iadd) 1 72 := ⟨by decide +kernel, rfl⟩
theorem eP_reckonWanted_72 : pd_i mP_reckonWanted 72 (.iaload) 1 73 := ⟨by decide +kernel, rfl⟩
theorem eP_reckonWanted_73 : pd_ic mP_reckonWanted 73 1 74 := Or.inl ⟨by decide +kernel, rfl⟩
theorem eP_reckonWanted_74 : pd_i mP_reckonWanted 74 (.iadd) 1 75 := ⟨by decide +kernel, rfl⟩
theorem eP_reckonWanted_75 : pd_is mP_reckonWanted 75 4 77 := ⟨by decide, Or.inr ⟨by decide +kernel, rfl⟩⟩
theorem eP_reckonWanted_77 : pd_al mP_reckonWanted 77 0 78 := Or.inl ⟨0, rfl, by decide +kernel, rfl⟩
theorem eP_reckonWanted_78 : pd_gf mP_reckonWanted 78 7 3 81 := ⟨18, _, ⟨by decide +kernel, rfl⟩, fP_18_7⟩
theorem eP_reckonWanted_81 : pd_il mP_reckonWanted 81 3 82 := Or.inl ⟨3, rfl, by decide +kernel, rfl⟩
theorem eP_reckonWanted_82 : pd_ic mP_reckonWanted 82 7 84 := Or.inr (Or.inl ⟨⟨by decide +kernel, rfl⟩, by decide⟩)
theorem eP_reckonWanted_84 : pd_al mP_reckonWanted 84 0 85 := Or.inl ⟨0, rfl, by decide +kernel, rfl⟩
theorem eP_reckonWanted_85 : pd_gf mP_reckonWanted 85 7 3 88 := ⟨18, _, ⟨by decide +kernel, rfl⟩, fP_18_7⟩
theorem eP_reckonWanted_88 : pd_il mP_reckonWanted 88 1 89 := Or.inl ⟨1, rfl, by decide +kernel, rfl⟩
theorem eP_reckonWanted_89 : pd_ic mP_reckonWanted 89 128 92 := Or.inr (Or.inr (Or.inl ⟨⟨by decide +kernel, rfl⟩, by decide⟩))
theorem eP_reckonWanted_92 : pd_i mP_reckonWanted 92 (.imul) 1 93 := ⟨by decide +kernel, rfl⟩
theorem eP_reckonWanted_93 : pd_ic mP_reckonWanted 93 2 94 := Or.inl ⟨by decide +kernel, rfl⟩
theorem eP_reckonWanted_94 : pd_il mP_reckonWanted 94 2 95 := Or.inl ⟨2, rfl, by decide +kernel, rfl⟩
theorem eP_reckonWanted_95 : pd_i mP_reckonWanted 95 (.imul) 1 96 := ⟨by decide +kernel, rfl⟩
theorem eP_reckonWanted_96 : pd_i mP_reckonWanted 96 (.iadd) 1 97 := ⟨by decide +kernel, rfl⟩
theorem eP_reckonWanted_97 : pd_i mP_reckonWanted 97 (.iaload) 1 98 := ⟨by decide +kernel, rfl⟩
theorem eP_reckonWanted_98 : pd_il mP_reckonWanted 98 4 100 := Or.inr ⟨by decide +kernel, rfl⟩
theorem eP_reckonWanted_100 : pd_min mP_reckonWanted 100 103 := ⟨31, ⟨by decide +kernel, rfl⟩, (pd_m 567 (by decide +kernel) (by decide +kernel))⟩
theorem eP_reckonWanted_103 : pd_min mP_reckonWanted 103 106 := ⟨31, ⟨by decide +kernel, rfl⟩, (pd_m 567 (by decide +kernel) (by decide +kernel))⟩
theorem eP_reckonWanted_106 : pd_i mP_reckonWanted 106 (.iastore) 1 107 := ⟨by decide +kernel, rfl⟩
theorem eP_reckonWanted_107 : pd_ii mP_reckonWanted 107 2 (-1) 110 := ⟨by decide, by decide +kernel, rfl⟩
theorem eP_reckonWanted_110 : pd_go mP_reckonWanted 110 9 := ⟨-101, by decide +kernel, by decide⟩
theorem eP_reckonWanted_113 : pd_rd mP_reckonWanted 113 none := (by decide +kernel : decode mP_reckonWanted.2.1 113 = .ok (.return_, 1))
theorem eP_allWanted_0 : pd_ic mP_allWanted 0 0 1 := Or.inl ⟨by decide +kernel, rfl⟩
theorem eP_allWanted_1 : pd_is mP_allWanted 1 1 2 := ⟨by decide, Or.inl ⟨1, rfl, by decide +kernel, rfl⟩⟩
theorem eP_allWanted_2 : pd_ic mP_allWanted 2 0 3 := Or.inl ⟨by decide +kernel, rfl⟩
theorem eP_allWanted_3 : pd_is mP_allWanted 3 2 4 := ⟨by decide, Or.inl ⟨2, rfl, by decide +kernel, rfl⟩⟩
theorem eP_allWanted_4 : pd_il mP_allWanted 4 2 5 := Or.inl ⟨2, rfl, by decide +kernel, rfl⟩
theorem eP_allWanted_5 : pd_al mP_allWanted 5 0 6 := Or.inl ⟨0, rfl, by decide +kernel, rfl⟩
theorem eP_allWanted_6 : pd_gf mP_allWanted 6 7 5 9 := ⟨30, _, ⟨by decide +kernel, rfl⟩, fP_30_7⟩
theorem eP_allWanted_9 : pd_b2 mP_allWanted 9 .ge 12 38 := ⟨29, ⟨by decide +kernel, rfl⟩, by decide⟩
theorem eP_allWanted_12 : pd_il mP_allWanted 12 1 13 := Or.inl ⟨1, rfl, by decide +kernel, rfl⟩
theorem eP_allWanted_13 : pd_al mP_allWanted 13 0 14 := Or.inl ⟨0, rfl, by decide +kernel, rfl⟩
theorem eP_allWanted_14 : pd_gf mP_allWanted 14 7 3 17 := ⟨18, _, ⟨by decide +kernel, rfl⟩, fP_18_7⟩
theorem eP_allWanted_17 : pd_il mP_allWanted 17 2 18 := Or.inl ⟨2, rfl, by decide +kernel, rfl⟩
theorem eP_allWanted_18 : pd_ic mP_allWanted 18 128 21 := Or.inr (Or.inr (Or.inl ⟨⟨by decide +kernel, rfl⟩, by decide⟩))
theorem eP_allWanted_21 : pd_i mP_allWanted 21 (.imul) 1 22 := ⟨by decide +kernel, rfl⟩
theorem eP_allWanted_22 : pd_al mP_allWanted 22 0 23 := Or.inl ⟨0, rfl, by decide +kernel, rfl⟩
theorem eP_allWanted_23 : pd_gf mP_allWanted 23 7 4 26 := ⟨21, _, ⟨by decide +kernel, rfl⟩, fP_21_7⟩
theorem eP_allWanted_26 : pd_il mP_allWanted 26 2 27 := Or.inl ⟨2, rfl, by decide +kernel, rfl⟩
theorem eP_allWanted_27 : pd_i mP_allWanted 27 (.iaload) 1 28 := ⟨by decide +kernel, rfl⟩
theorem eP_allWanted_28 : pd_i mP_allWanted 28 (.iadd) 1 29 := ⟨by decide +kernel, rfl⟩
theorem eP_allWanted_29 : pd_i mP_allWanted 29 (.iaload) 1 30 := ⟨by decide +kernel, rfl⟩
theorem eP_allWanted_30 : pd_i mP_allWanted 30 (.iadd) 1 31 := ⟨by decide +kernel, rfl⟩
theorem eP_allWanted_31 : pd_is mP_allWanted 31 1 32 := ⟨by decide, Or.inl ⟨1, rfl, by decide +kernel, rfl⟩⟩
theorem eP_allWanted_32 : pd_ii mP_allWanted 32 2 1 35 := ⟨by decide, by decide +kernel, rfl⟩
theorem eP_allWanted_35 : pd_go mP_allWanted 35 4 := ⟨-31, by decide +kernel, by decide⟩
theorem eP_allWanted_38 : pd_il mP_allWanted 38 1 39 := Or.inl ⟨1, rfl, by decide +kernel, rfl⟩
theorem eP_allWanted_39 {z : Int} : pd_rd mP_allWanted 39 (some (vi z)) := (by decide +kernel : decode mP_allWanted.2.1 39 = .ok (.ireturn, 1))
theorem eP_descend_0 : pd_ic mP_descend 0 0 1 := Or.inl ⟨by decide +kernel, rfl⟩
theorem eP_descend_1 : pd_is mP_descend 1 2 2 := ⟨by decide, Or.inl ⟨2, rfl, by decide +kernel, rfl⟩⟩
theorem eP_descend_2 : pd_il mP_descend 2 2 3 := Or.inl ⟨2, rfl, by decide +kernel, rfl⟩
theorem eP_descend_3 : pd_al mP_descend 3 0 4 := Or.inl ⟨0, rfl, by decide +kernel, rfl⟩
theorem eP_descend_4 : pd_gf mP_descend 4 7 5 7 := ⟨30, _, ⟨by decide +kernel, rfl⟩, fP_30_7⟩
theorem eP_descend_7 : pd_b2 mP_descend 7 .ge 10 41 := ⟨34, ⟨by decide +kernel, rfl⟩, by decide⟩
theorem eP_descend_10 : pd_al mP_descend 10 0 11 := Or.inl ⟨0, rfl, by decide +kernel, rfl⟩
theorem eP_descend_11 : pd_gf mP_descend 11 7 4 14 := ⟨21, _, ⟨by decide +kernel, rfl⟩, fP_21_7⟩
theorem eP_descend_14 : pd_il mP_descend 14 2 15 := Or.inl ⟨2, rfl, by decide +kernel, rfl⟩
theorem eP_descend_15 : pd_ic mP_descend 15 2 16 := Or.inl ⟨by decide +kernel, rfl⟩
theorem eP_descend_16 : pd_al mP_descend 16 0 17 := Or.inl ⟨0, rfl, by decide +kernel, rfl⟩
theorem eP_descend_17 : pd_gf mP_descend 17 7 4 20 := ⟨21, _, ⟨by decide +kernel, rfl⟩, fP_21_7⟩
theorem eP_descend_20 : pd_il mP_descend 20 2 21 := Or.inl ⟨2, rfl, by decide +kernel, rfl⟩
theorem eP_descend_21 : pd_i mP_descend 21 (.iaload) 1 22 := ⟨by decide +kernel, rfl⟩
theorem eP_descend_22 : pd_i mP_descend 22 (.imul) 1 23 := ⟨by decide +kernel, rfl⟩
theorem eP_descend_23 : pd_il mP_descend 23 2 24 := Or.inl ⟨2, rfl, by decide +kernel, rfl⟩
theorem eP_descend_24 : pd_il mP_descend 24 1 25 := Or.inl ⟨1, rfl, by decide +kernel, rfl⟩
theorem eP_descend_25 : pd_b2 mP_descend 25 .ne 28 32 := ⟨7, ⟨by decide +kernel, rfl⟩, by decide⟩
theorem eP_descend_28 : pd_ic mP_descend 28 1 29 := Or.inl ⟨by decide +kernel, rfl⟩
theorem eP_descend_29 : pd_go mP_descend 29 33 := ⟨4, by decide +kernel, by decide⟩
theorem eP_descend_32 : pd_ic mP_descend 32 0 33 := Or.inl ⟨by decide +kernel, rfl⟩
theorem eP_descend_33 : pd_i mP_descend 33 (.iadd) 1 34 := ⟨by decide +kernel, rfl⟩
theorem eP_descend_34 : pd_i mP_descend 34 (.iastore) 1 35 := ⟨by decide +kernel, rfl⟩
theorem eP_descend_35 : pd_ii mP_descend 35 2 1 38 := ⟨by decide, by decide +kernel, rfl⟩
theorem eP_descend_38 : pd_go mP_descend 38 2 := ⟨-36, by decide +kernel, by decide⟩
theorem eP_descend_41 : pd_rd mP_descend 41 none := (by decide +kernel : decode mP_descend.2.1 41 = .ok (.return_, 1))
theorem eP_ascend_0 : pd_ic mP_ascend 0 0 1 := Or.inl ⟨by decide +kernel, rfl⟩
theorem eP_ascend_1 : pd_is mP_ascend 1 1 2 := ⟨by decide, Or.inl ⟨1, rfl, by decide +kernel, rfl⟩⟩
theorem eP_ascend_2 : pd_il mP_ascend 2 1 3 := Or.inl ⟨1, rfl, by decide +kernel, rfl⟩
theorem eP_ascend_3 : pd_al mP_ascend 3 0 4 := Or.inl ⟨0, rfl, by decide +kernel, rfl⟩
theorem eP_ascend_4 : pd_gf mP_ascend 4 7 5 7 := ⟨30, _, ⟨by decide +kernel, rfl⟩, fP_30_7⟩
theorem eP_ascend_7 : pd_b2 mP_ascend 7 .ge 10 30 := ⟨23, ⟨by decide +kernel, rfl⟩, by decide⟩
theorem eP_ascend_10 : pd_al mP_ascend 10 0 11 := Or.inl ⟨0, rfl, by decide +kernel, rfl⟩
theorem eP_ascend_11 : pd_gf mP_ascend 11 7 4 14 := ⟨21, _, ⟨by decide +kernel, rfl⟩, fP_21_7⟩
theorem eP_ascend_14 : pd_il mP_ascend 14 1 15 := Or.inl ⟨1, rfl, by decide +kernel, rfl⟩
theorem eP_ascend_15 : pd_al mP_ascend 15 0 16 := Or.inl ⟨0, rfl, by decide +kernel, rfl⟩
theorem eP_ascend_16 : pd_gf mP_ascend 16 7 4 19 := ⟨21, _, ⟨by decide +kernel, rfl⟩, fP_21_7⟩
theorem eP_ascend_19 : pd_il mP_ascend 19 1 20 := Or.inl ⟨1, rfl, by decide +kernel, rfl⟩
theorem eP_ascend_20 : pd_i mP_ascend 20 (.iaload) 1 21 := ⟨by decide +kernel, rfl⟩
theorem eP_ascend_21 : pd_ic mP_ascend 21 2 22 := Or.inl ⟨by decide +kernel, rfl⟩
theorem eP_ascend_22 : pd_i mP_ascend 22 (.idiv) 1 23 := ⟨by decide +kernel, rfl⟩
theorem eP_ascend_23 : pd_i mP_ascend 23 (.iastore) 1 24 := ⟨by decide +kernel, rfl⟩
theorem eP_ascend_24 : pd_ii mP_ascend 24 1 1 27 := ⟨by decide, by decide +kernel, rfl⟩
theorem eP_ascend_27 : pd_go mP_ascend 27 2 := ⟨-25, by decide +kernel, by decide⟩
theorem eP_ascend_30 : pd_rd mP_ascend 30 none := (by decide +kernel : decode mP_ascend.2.1 30 = .ok (.return_, 1))
theorem eP_choose_0 : pd_al mP_choose 0 0 1 := Or.inl ⟨0, rfl, by decide +kernel, rfl⟩
theorem eP_choose_1 : pd_kv mP_choose 1 mP_allWanted 0 4 := ⟨69, ⟨by decide +kernel, rfl⟩, (pd_m 582 (by decide +kernel) (by decide +kernel)), (pd_m 584 (by decide +kernel) (by decide +kernel)), (pd_m 14 (by decide +kernel) (by decide +kernel)), kP_allWanted⟩
theorem eP_choose_4 : pd_il mP_choose 4 2 5 := Or.inl ⟨2, rfl, by decide +kernel, rfl⟩
theorem eP_choose_5 : pd_b2 mP_choose 5 .le 8 10 := ⟨5, ⟨by decide +kernel, rfl⟩, by decide⟩
theorem eP_choose_8 : pd_ic mP_choose 8 0 9 := Or.inl ⟨by decide +kernel, rfl⟩
theorem eP_choose_9 {z : Int} (h : z = 0 ∨ z = 1) : pd_rd mP_choose 9 (some (vi z)) := ⟨by decide +kernel, h⟩
theorem eP_choose_10 : pd_il mP_choose 10 1 11 := Or.inl ⟨1, rfl, by decide +kernel, rfl⟩
theorem eP_choose_11 : pd_al mP_choose 11 0 12 := Or.inl ⟨0, rfl, by decide +kernel, rfl⟩
theorem eP_choose_12 : pd_gf mP_choose 12 7 1 15 := ⟨45, _, ⟨by decide +kernel, rfl⟩, fP_45_7⟩
theorem eP_choose_15 : pd_b2 mP_choose 15 .lt 18 20 := ⟨5, ⟨by decide +kernel, rfl⟩, by decide⟩
theorem eP_choose_18 : pd_ic mP_choose 18 1 19 := Or.inl ⟨by decide +kernel, rfl⟩
theorem eP_choose_19 {z : Int} (h : z = 0 ∨ z = 1) : pd_rd mP_choose 19 (some (vi z)) := ⟨by decide +kernel, h⟩
theorem eP_choose_20 : pd_ic mP_choose 20 (-1) 21 := Or.inl ⟨by decide +kernel, rfl⟩
theorem eP_choose_21 : pd_is mP_choose 21 3 22 := ⟨by decide, Or.inl ⟨3, rfl, by decide +kernel, rfl⟩⟩
theorem eP_choose_22 : pd_il mP_choose 22 3 23 := Or.inl ⟨3, rfl, by decide +kernel, rfl⟩
theorem eP_choose_23 : pd_al mP_choose 23 0 24 := Or.inl ⟨0, rfl, by decide +kernel, rfl⟩
theorem eP_choose_24 : pd_gf mP_choose 24 7 5 27 := ⟨30, _, ⟨by decide +kernel, rfl⟩, fP_30_7⟩
theorem eP_choose_27 : pd_b2 mP_choose 27 .ge 30 88 := ⟨61, ⟨by decide +kernel, rfl⟩, by decide⟩
theorem eP_choose_30 : pd_al mP_choose 30 0 31 := Or.inl ⟨0, rfl, by decide +kernel, rfl⟩
theorem eP_choose_31 : pd_il mP_choose 31 3 32 := Or.inl ⟨3, rfl, by decide +kernel, rfl⟩
theorem eP_choose_32 : pd_kv mP_choose 32 mP_descend 1 35 := ⟨73, ⟨by decide +kernel, rfl⟩, (pd_m 586 (by decide +kernel) (by decide +kernel)), (pd_m 588 (by decide +kernel) (by decide +kernel)), (pd_m 15 (by decide +kernel) (by decide +kernel)), kP_descend⟩
theorem eP_choose_35 : pd_al mP_choose 35 0 36 := Or.inl ⟨0, rfl, by decide +kernel, rfl⟩
theorem eP_choose_36 : pd_il mP_choose 36 1 37 := Or.inl ⟨1, rfl, by decide +kernel, rfl⟩
theorem eP_choose_37 : pd_ic mP_choose 37 1 38 := Or.inl ⟨by decide +kernel, rfl⟩
theorem eP_choose_38 : pd_i mP_choose 38 (.iadd) 1 39 := ⟨by decide +kernel, rfl⟩
theorem eP_choose_39 : pd_il mP_choose 39 3 40 := Or.inl ⟨3, rfl, by decide +kernel, rfl⟩
theorem eP_choose_40 : pd_b1 mP_choose 40 .ge 43 47 := ⟨7, ⟨by decide +kernel, rfl⟩, by decide⟩
theorem eP_choose_43 : pd_il mP_choose 43 2 44 := Or.inl ⟨2, rfl, by decide +kernel, rfl⟩
theorem eP_choose_44 : pd_go mP_choose 44 50 := ⟨6, by decide +kernel, by decide⟩
theorem eP_choose_47 : pd_il mP_choose 47 2 48 := Or.inl ⟨2, rfl, by decide +kernel, rfl⟩
theorem eP_choose_48 : pd_ic mP_choose 48 1 49 := Or.inl ⟨by decide +kernel, rfl⟩
theorem eP_choose_49 : pd_i mP_choose 49 (.isub) 1 50 := ⟨by decide +kernel, rfl⟩
theorem eP_choose_50 : pd_ks mP_choose 50 mP_choose 3 53 := ⟨56, ⟨by decide +kernel, rfl⟩, Or.inl (pd_m 579 (by decide +kernel) (by decide +kernel)), (pd_m 580 (by decide +kernel) (by decide +kernel)), kP_choose⟩
theorem eP_choose_53 : pd_is mP_choose 53 4 55 := ⟨by decide, Or.inr ⟨by decide +kernel, rfl⟩⟩
theorem eP_choose_55 : pd_al mP_choose 55 0 56 := Or.inl ⟨0, rfl, by decide +kernel, rfl⟩
theorem eP_choose_56 : pd_kv mP_choose 56 mP_ascend 0 59 := ⟨76, ⟨by decide +kernel, rfl⟩, (pd_m 590 (by decide +kernel) (by decide +kernel)), (pd_m 592 (by decide +kernel) (by decide +kernel)), (pd_m 16 (by decide +kernel) (by decide +kernel)), kP_ascend⟩
theorem eP_choose_59 : pd_il mP_choose 59 4 61 := Or.inr ⟨by decide +kernel, rfl⟩
theorem eP_choose_61 : pd_b1 mP_choose 61 .eq 64 82 := ⟨21, ⟨by decide +kernel, rfl⟩, by decide⟩
theorem eP_choose_64 : pd_al mP_choose 64 0 65 := Or.inl ⟨0, rfl, by decide +kernel, rfl⟩
theorem eP_choose_65 : pd_gf mP_choose 65 7 0 68 := ⟨9, _, ⟨by decide +kernel, rfl⟩, fP_9_7⟩
theorem eP_choose_68 : pd_il mP_choose 68 1 69 := Or.inl ⟨1, rfl, by decide +kernel, rfl⟩
theorem eP_choose_69 : pd_il mP_choose 69 3 70 := Or.inl ⟨3, rfl, by decide +kernel, rfl⟩
theorem eP_choose_70 : pd_b1 mP_choose 70 .ge 73 78 := ⟨8, ⟨by decide +kernel, rfl⟩, by decide⟩
theorem eP_choose_73 : pd_ic mP_choose 73 (-9) 75 := Or.inr (Or.inl ⟨⟨by decide +kernel, rfl⟩, by decide⟩)
theorem eP_choose_75 : pd_go mP_choose 75 79 := ⟨4, by decide +kernel, by decide⟩
theorem eP_choose_78 : pd_il mP_choose 78 3 79 := Or.inl ⟨3, rfl, by decide +kernel, rfl⟩
theorem eP_choose_79 : pd_i mP_choose 79 (.iastore) 1 80 := ⟨by decide +kernel, rfl⟩
theorem eP_choose_80 : pd_ic mP_choose 80 1 81 := Or.inl ⟨by decide +kernel, rfl⟩
theorem eP_choose_81 {z : Int} (h : z = 0 ∨ z = 1) : pd_rd mP_choose 81 (some (vi z)) := ⟨by decide +kernel, h⟩
theorem eP_choose_82 : pd_ii mP_choose 82 3 1 85 := ⟨by decide, by decide +kernel, rfl⟩
theorem eP_choose_85 : pd_go mP_choose 85 22 := ⟨-63, by decide +kernel, by decide⟩
theorem eP_choose_88 : pd_ic mP_choose 88 0 89 := Or.inl ⟨by decide +kernel, rfl⟩
theorem eP_choose_89 {z : Int} (h : z = 0 ∨ z = 1) : pd_rd mP_choose 89 (some (vi z)) := ⟨by decide +kernel, h⟩
theorem eT_init_0 : pd_al mT_init 0 0 1 := Or.inl ⟨0, rfl, by decide +kernel, rfl⟩
theorem eT_init_1 : ∃ idx, pd_i mT_init 1 (.invokespecial idx) 3 4 ∧ Cond.methodLink mT_init.1.cls idx objectInit ∈ pd_tbl := ⟨3, ⟨by decide +kernel, rfl⟩, (pd_m 74 (by decide +kernel) (by decide +kernel))⟩
theorem eT_init_4 : pd_al mT_init 4 0 5 := Or.inl ⟨0, rfl, by decide +kernel, rfl⟩
theorem eT_init_5 : pd_ic mT_init 5 150 8 := Or.inr (Or.inr (Or.inl ⟨⟨by decide +kernel, rfl⟩, by decide⟩))
theorem eT_init_8 : pd_i mT_init 8 (.newarray .int) 2 10 := ⟨by decide +kernel, rfl⟩
theorem eT_init_10 : pd_pf mT_init 10 10 0 (.array .int) 13 := ⟨11, ⟨by decide +kernel, rfl⟩, fT_11_10, Or.inr ⟨rfl, rfl⟩⟩
theorem eT_init_13 : pd_al mT_init 13 0 14 := Or.inl ⟨0, rfl, by decide +kernel, rfl⟩
theorem eT_init_14 : pd_ic mT_init 14 4 15 := Or.inl ⟨by decide +kernel, rfl⟩
theorem eT_init_15 : pd_i mT_init 15 (.newarray .int) 2 17 := ⟨by decide +kernel, rfl⟩
theorem eT_init_17 : pd_pf mT_init 17 10 2 (.array .int) 20 := ⟨15, ⟨by decide +kernel, rfl⟩, fT_15_10, Or.inr ⟨rfl, rfl⟩⟩
theorem eT_init_20 : pd_rd mT_init 20 none := (by decide +kernel : decode mT_init.2.1 20 = .ok (.return_, 1))
theorem eT_tell_0 : pd_al mT_tell 0 1 1 := Or.inl ⟨1, rfl, by decide +kernel, rfl⟩
theorem eT_tell_1 : pd_kv mT_tell 1 mH_empty 0 4 := ⟨18, ⟨by decide +kernel, rfl⟩, (pd_m 371 (by decide +kernel) (by decide +kernel)), (pd_m 372 (by decide +kernel) (by decide +kernel)), (pd_m 373 (by decide +kernel) (by decide +kernel)), kH_empty⟩
theorem eT_tell_4 : pd_al mT_tell 4 0 5 := Or.inl ⟨0, rfl, by decide +kernel, rfl⟩
theorem eT_tell_5 : pd_ic mT_tell 5 0 6 := Or.inl ⟨by decide +kernel, rfl⟩
theorem eT_tell_6 : pd_pf mT_tell 6 10 3 .int 9 := ⟨23, ⟨by decide +kernel, rfl⟩, fT_23_10, Or.inl ⟨_, rfl⟩⟩
theorem eT_tell_9 : pd_al mT_tell 9 0 10 := Or.inl ⟨0, rfl, by decide +kernel, rfl⟩
theorem eT_tell_10 : pd_ic mT_tell 10 0 11 := Or.inl ⟨by decide +kernel, rfl⟩
theorem eT_tell_11 : pd_pf mT_tell 11 10 7 .boolean 14 := ⟨27, ⟨by decide +kernel, rfl⟩, fT_27_10, Or.inl ⟨_, rfl⟩⟩
theorem eT_tell_14 : pd_ic mT_tell 14 0 15 := Or.inl ⟨by decide +kernel, rfl⟩
theorem eT_tell_15 : pd_is mT_tell 15 2 16 := ⟨by decide, Or.inl ⟨2, rfl, by decide +kernel, rfl⟩⟩
theorem eT_tell_16 : pd_il mT_tell 16 2 17 := Or.inl ⟨2, rfl, by decide +kernel, rfl⟩
theorem eT_tell_17 : pd_ic mT_tell 17 150 20 := Or.inr (Or.inr (Or.inl ⟨⟨by decide +kernel, rfl⟩, by decide⟩))
theorem eT_tell_20 : pd_b2 mT_tell 20 .gt 23 58 := ⟨38, ⟨by decide +kernel, rfl⟩, by decide⟩
theorem eT_tell_23 : pd_al mT_tell 23 0 24 := Or.inl ⟨0, rfl, by decide +kernel, rfl⟩
theorem eT_tell_24 : pd_kv mT_tell 24 mT_next 0 27 := ⟨31, ⟨by decide +kernel, rfl⟩, (pd_m 375 (by decide +kernel) (by decide +kernel)), (pd_m 377 (by decide +kernel) (by decide +kernel)), (pd_m 0 (by decide +kernel) (by decide +kernel)), kT_next⟩
theorem eT_tell_27 : pd_al mT_tell 27 0 28 := Or.inl ⟨0, rfl, by decide +kernel, rfl⟩
theorem eT_tell_28 : pd_gf mT_tell 28 10 5 31 := ⟨34, _, ⟨by decide +kernel, rfl⟩, fT_34_10⟩
theorem eT_tell_31 : pd_b1 mT_tell 31 .ne 34 36 := ⟨5, ⟨by decide +kernel, rfl⟩, by decide⟩
theorem eT_tell_34 : pd_il mT_tell 34 2 35 := Or.inl ⟨2, rfl, by decide +kernel, rfl⟩
theorem eT_tell_35 {z : Int} : pd_rd mT_tell 35 (some (vi z)) := (by decide +kernel : decode mT_tell.2.1 35 = .ok (.ireturn, 1))
theorem eT_tell_36 : pd_al mT_tell 36 0 37 := Or.inl ⟨0, rfl, by decide +kernel, rfl⟩
theorem eT_tell_37 : pd_al mT_tell 37 1 38 := Or.inl ⟨1, rfl, by decide +kernel, rfl⟩
theorem eT_tell_38 : pd_kv mT_tell 38 mT_readItem 1 41 := ⟨37, ⟨by decide +kernel, rfl⟩, (pd_m 397 (by decide +kernel) (by decide +kernel)), (pd_m 399 (by decide +kernel) (by decide +kernel)), (pd_m 3 (by decide +kernel) (by decide +kernel)), kT_readItem⟩
theorem eT_tell_41 : pd_b1 mT_tell 41 .ne 44 52 := ⟨11, ⟨by decide +kernel, rfl⟩, by decide⟩
theorem eT_tell_44 : pd_ic mT_tell 44 (-10) 46 := Or.inr (Or.inl ⟨⟨by decide +kernel, rfl⟩, by decide⟩)
theorem eT_tell_46 : pd_al mT_tell 46 0 47 := Or.inl ⟨0, rfl, by decide +kernel, rfl⟩
theorem eT_tell_47 : pd_gf mT_tell 47 10 4 50 := ⟨41, _, ⟨by decide +kernel, rfl⟩, fT_41_10⟩
theorem eT_tell_50 : pd_i mT_tell 50 (.isub) 1 51 := ⟨by decide +kernel, rfl⟩
theorem eT_tell_51 {z : Int} : pd_rd mT_tell 51 (some (vi z)) := (by decide +kernel : decode mT_tell.2.1 51 = .ok (.ireturn, 1))
theorem eT_tell_52 : pd_ii mT_tell 52 2 1 55 := ⟨by decide, by decide +kernel, rfl⟩
theorem eT_tell_55 : pd_go mT_tell 55 16 := ⟨-39, by decide +kernel, by decide⟩
theorem eT_tell_58 : pd_ic mT_tell 58 (-10) 60 := Or.inr (Or.inl ⟨⟨by decide +kernel, rfl⟩, by decide⟩)
theorem eT_tell_60 : pd_al mT_tell 60 0 61 := Or.inl ⟨0, rfl, by decide +kernel, rfl⟩
theorem eT_tell_61 : pd_gf mT_tell 61 10 4 64 := ⟨41, _, ⟨by decide +kernel, rfl⟩, fT_41_10⟩
theorem eT_tell_64 : pd_i mT_tell 64 (.isub) 1 65 := ⟨by decide +kernel, rfl⟩
theorem eT_tell_65 {z : Int} : pd_rd mT_tell 65 (some (vi z)) := (by decide +kernel : decode mT_tell.2.1 65 = .ok (.ireturn, 1))
theorem eT_readItem_0 : pd_al mT_readItem 0 0 1 := Or.inl ⟨0, rfl, by decide +kernel, rfl⟩
theorem eT_readItem_1 : pd_gf mT_readItem 1 10 6 4 := ⟨44, _, ⟨by decide +kernel, rfl⟩, fT_44_10⟩
theorem eT_readItem_4 : pd_is mT_readItem 4 2 5 := ⟨by decide, Or.inl ⟨2, rfl, by decide +kernel, rfl⟩⟩
theorem eT_readItem_5 : pd_al mT_readItem 5 0 6 := Or.inl ⟨0, rfl, by decide +kernel, rfl⟩
theorem eT_readItem_6 : pd_gf mT_readItem 6 10 5 9 := ⟨34, _, ⟨by decide +kernel, rfl⟩, fT_34_10⟩
theorem eT_readItem_9 : pd_ic mT_readItem 9 1 10 := Or.inl ⟨by decide +kernel, rfl⟩
theorem eT_readItem_10 : pd_b2 mT_readItem 10 .ne 13 22 := ⟨12, ⟨by decide +kernel, rfl⟩, by decide⟩
theorem eT_readItem_13 : pd_al mT_readItem 13 0 14 := Or.inl ⟨0, rfl, by decide +kernel, rfl⟩
theorem eT_readItem_14 : pd_al mT_readItem 14 1 15 := Or.inl ⟨1, rfl, by decide +kernel, rfl⟩
theorem eT_readItem_15 : pd_il mT_readItem 15 2 16 := Or.inl ⟨2, rfl, by decide +kernel, rfl⟩
theorem eT_readItem_16 : pd_kv mT_readItem 16 mT_canBegin 2 19 := ⟨47, ⟨by decide +kernel, rfl⟩, (pd_m 401 (by decide +kernel) (by decide +kernel)), (pd_m 403 (by decide +kernel) (by decide +kernel)), (pd_m 4 (by decide +kernel) (by decide +kernel)), kT_canBegin⟩
theorem eT_readItem_19 : pd_b1 mT_readItem 19 .ne 22 24 := ⟨5, ⟨by decide +kernel, rfl⟩, by decide⟩
theorem eT_readItem_22 : pd_ic mT_readItem 22 0 23 := Or.inl ⟨by decide +kernel, rfl⟩
theorem eT_readItem_23 {z : Int} (h : z = 0 ∨ z = 1) : pd_rd mT_readItem 23 (some (vi z)) := ⟨by decide +kernel, h⟩
theorem eT_readItem_24 : pd_il mT_readItem 24 2 25 := Or.inl ⟨2, rfl, by decide +kernel, rfl⟩
theorem eT_readItem_25 : pd_ks mT_readItem 25 mT_numbersOf 1 28 := ⟨51, ⟨by decide +kernel, rfl⟩, Or.inl (pd_m 405 (by decide +kernel) (by decide +kernel)), (pd_m 406 (by decide +kernel) (by decide +kernel)), kT_numbersOf⟩
theorem eT_readItem_28 : pd_is mT_readItem 28 3 29 := ⟨by decide, Or.inl ⟨3, rfl, by decide +kernel, rfl⟩⟩
theorem eT_readItem_29 : pd_ic mT_readItem 29 0 30 := Or.inl ⟨by decide +kernel, rfl⟩
theorem eT_readItem_30 : pd_is mT_readItem 30 4 32 := ⟨by decide, Or.inr ⟨by decide +kernel, rfl⟩⟩
theorem eT_readItem_32 : pd_il mT_readItem 32 4 34 := Or.inr ⟨by decide +kernel, rfl⟩
theorem eT_readItem_34 : pd_il mT_readItem 34 3 35 := Or.inl ⟨3, rfl, by decide +kernel, rfl⟩
theorem eT_readItem_35 : pd_b2 mT_readItem 35 .ge 38 98 := ⟨63, ⟨by decide +kernel, rfl⟩, by decide⟩
theorem eT_readItem_38 : pd_il mT_readItem 38 4 40 := Or.inr ⟨by decide +kernel, rfl⟩
theorem eT_readItem_40 : pd_ic mT_readItem 40 4 41 := Or.inl ⟨by decide +kernel, rfl⟩
theorem eT_readItem_41 : pd_b2 mT_readItem 41 .ge 44 98 := ⟨57, ⟨by decide +kernel, rfl⟩, by decide⟩
theorem eT_readItem_44 : pd_al mT_readItem 44 0 45 := Or.inl ⟨0, rfl, by decide +kernel, rfl⟩
theorem eT_readItem_45 : pd_kv mT_readItem 45 mT_next 0 48 := ⟨31, ⟨by decide +kernel, rfl⟩, (pd_m 375 (by decide +kernel) (by decide +kernel)), (pd_m 377 (by decide +kernel) (by decide +kernel)), (pd_m 0 (by decide +kernel) (by decide +kernel)), kT_next⟩
theorem eT_readItem_48 : pd_al mT_readItem 48 0 49 := Or.inl ⟨0, rfl, by decide +kernel, rfl⟩
theorem eT_readItem_49 : pd_gf mT_readItem 49 10 5 52 := ⟨34, _, ⟨by decide +kernel, rfl⟩, fT_34_10⟩
theorem eT_readItem_52 : pd_ic mT_readItem 52 2 53 := Or.inl ⟨by decide +kernel, rfl⟩
theorem eT_readItem_53 : pd_b2 mT_readItem 53 .ne 56 79 := ⟨26, ⟨by decide +kernel, rfl⟩, by decide⟩
theorem eT_readItem_56 : pd_al mT_readItem 56 0 57 := Or.inl ⟨0, rfl, by decide +kernel, rfl⟩
theorem eT_readItem_57 : pd_gf mT_readItem 57 10 6 60 := ⟨44, _, ⟨by decide +kernel, rfl⟩, fT_44_10⟩
theorem eT_readItem_60 : pd_il mT_readItem 60 2 61 := Or.inl ⟨2, rfl, by decide +kernel, rfl⟩
theorem eT_readItem_61 : pd_il mT_readItem 61 4 63 := Or.inr ⟨by decide +kernel, rfl⟩
theorem eT_readItem_63 : pd_ks mT_readItem 63 mT_leastOf 2 66 := ⟨55, ⟨by decide +kernel, rfl⟩, Or.inl (pd_m 408 (by decide +kernel) (by decide +kernel)), (pd_m 409 (by decide +kernel) (by decide +kernel)), kT_leastOf⟩
theorem eT_readItem_66 : pd_al mT_readItem 66 1 67 := Or.inl ⟨1, rfl, by decide +kernel, rfl⟩
theorem eT_readItem_67 : pd_il mT_readItem 67 2 68 := Or.inl ⟨2, rfl, by decide +kernel, rfl⟩
theorem eT_readItem_68 : pd_il mT_readItem 68 4 70 := Or.inr ⟨by decide +kernel, rfl⟩
theorem eT_readItem_70 : pd_ks mT_readItem 70 mT_mostOf 3 73 := ⟨59, ⟨by decide +kernel, rfl⟩, Or.inl (pd_m 411 (by decide +kernel) (by decide +kernel)), (pd_m 412 (by decide +kernel) (by decide +kernel)), kT_mostOf⟩
theorem eT_readItem_73 : pd_ks mT_readItem 73 mD_within 3 76 := ⟨63, ⟨by decide +kernel, rfl⟩, Or.inr ⟨"PantryDoors", by decide +kernel⟩, (pd_m 357 (by decide +kernel) (by decide +kernel)), kD_within⟩
theorem eT_readItem_76 : pd_b1 mT_readItem 76 .ne 79 81 := ⟨5, ⟨by decide +kernel, rfl⟩, by decide⟩
theorem eT_readItem_79 : pd_ic mT_readItem 79 0 80 := Or.inl ⟨by decide +kernel, rfl⟩
theorem eT_readItem_80 {z : Int} (h : z = 0 ∨ z = 1) : pd_rd mT_readItem 80 (some (vi z)) := ⟨by decide +kernel, h⟩
theorem eT_readItem_81 : pd_al mT_readItem 81 0 82 := Or.inl ⟨0, rfl, by decide +kernel, rfl⟩
theorem eT_readItem_82 : pd_gf mT_readItem 82 10 2 85 := ⟨15, _, ⟨by decide +kernel, rfl⟩, fT_15_10⟩
theorem eT_readItem_85 : pd_il mT_readItem 85 4 87 := Or.inr ⟨by decide +kernel, rfl⟩
theorem eT_readItem_87 : pd_al mT_readItem 87 0 88 := Or.inl ⟨0, rfl, by decide +kernel, rfl⟩
theorem eT_readItem_88 : pd_gf mT_readItem 88 10 6 91 := ⟨44, _, ⟨by decide +kernel, rfl⟩, fT_44_10⟩
theorem eT_readItem_91 : pd_i mT_readItem 91 (.iastore) 1 92 := ⟨by decide +kernel, rfl⟩
theorem eT_readItem_92 : pd_ii mT_readItem 92 4 1 95 := ⟨by decide, by decide +kernel, rfl⟩
theorem eT_readItem_95 : pd_go mT_readItem 95 32 := ⟨-63, by decide +kernel, by decide⟩
theorem eT_readItem_98 : pd_al mT_readItem 98 0 99 := Or.inl ⟨0, rfl, by decide +kernel, rfl⟩
theorem eT_readItem_99 : pd_kv mT_readItem 99 mT_next 0 102 := ⟨31, ⟨by decide +kernel, rfl⟩, (pd_m 375 (by decide +kernel) (by decide +kernel)), (pd_m 377 (by decide +kernel) (by decide +kernel)), (pd_m 0 (by decide +kernel) (by decide +kernel)), kT_next⟩
theorem eT_readItem_102 : pd_al mT_readItem 102 0 103 := Or.inl ⟨0, rfl, by decide +kernel, rfl⟩
theorem eT_readItem_103 : pd_gf mT_readItem 103 10 5 106 := ⟨34, _, ⟨by decide +kernel, rfl⟩, fT_34_10⟩
theorem eT_readItem_106 : pd_ic mT_readItem 106 3 107 := Or.inl ⟨by decide +kernel, rfl⟩
theorem eT_readItem_107 : pd_b2 mT_readItem 107 .eq 110 112 := ⟨5, ⟨by decide +kernel, rfl⟩, by decide⟩
theorem eT_readItem_110 : pd_ic mT_readItem 110 0 111 := Or.inl ⟨by decide +kernel, rfl⟩
theorem eT_readItem_111 {z : Int} (h : z = 0 ∨ z = 1) : pd_rd mT_readItem 111 (some (vi z)) := ⟨by decide +kernel, h⟩
theorem eT_readItem_112 : pd_al mT_readItem 112 0 113 := Or.inl ⟨0, rfl, by decide +kernel, rfl⟩
theorem eT_readItem_113 : pd_al mT_readItem 113 1 114 := Or.inl ⟨1, rfl, by decide +kernel, rfl⟩
theorem eT_readItem_114 : pd_il mT_readItem 114 2 115 := Or.inl ⟨2, rfl, by decide +kernel, rfl⟩
theorem eT_readItem_115 : pd_kv mT_readItem 115 mT_put 2 118 := ⟨67, ⟨by decide +kernel, rfl⟩, (pd_m 414 (by decide +kernel) (by decide +kernel)), (pd_m 416 (by decide +kernel) (by decide +kernel)), (pd_m 5 (by decide +kernel) (by decide +kernel)), kT_put⟩
theorem eT_readItem_118 : pd_ic mT_readItem 118 1 119 := Or.inl ⟨by decide +kernel, rfl⟩
theorem eT_readItem_119 {z : Int} (h : z = 0 ∨ z = 1) : pd_rd mT_readItem 119 (some (vi z)) := ⟨by decide +kernel, h⟩
theorem eT_canBegin_0 : pd_il mT_canBegin 0 2 1 := Or.inl ⟨2, rfl, by decide +kernel, rfl⟩
theorem eT_canBegin_1 : pd_i mT_canBegin 1 (.lookupswitch 74 #[(98, 57), (100, 61), (103, 43), (109, 59)]) 43 44 := ⟨by decide +kernel, rfl⟩
theorem eT_canBegin_44 : pd_al mT_canBegin 44 1 45 := Or.inl ⟨1, rfl, by decide +kernel, rfl⟩
theorem eT_canBegin_45 : pd_gf mT_canBegin 45 4 7 48 := ⟨71, _, ⟨by decide +kernel, rfl⟩, fT_71_4⟩
theorem eT_canBegin_48 : pd_ic mT_canBegin 48 4 49 := Or.inl ⟨by decide +kernel, rfl⟩
theorem eT_canBegin_49 : pd_b2 mT_canBegin 49 .ge 52 56 := ⟨7, ⟨by decide +kernel, rfl⟩, by decide⟩
theorem eT_canBegin_52 : pd_ic mT_canBegin 52 1 53 := Or.inl ⟨by decide +kernel, rfl⟩
theorem eT_canBegin_53 : pd_go mT_canBegin 53 57 := ⟨4, by decide +kernel, by decide⟩
theorem eT_canBegin_56 : pd_ic mT_canBegin 56 0 57 := Or.inl ⟨by decide +kernel, rfl⟩
theorem eT_canBegin_57 {z : Int} (h : z = 0 ∨ z = 1) : pd_rd mT_canBegin 57 (some (vi z)) := ⟨by decide +kernel, h⟩
theorem eT_canBegin_58 : pd_ic mT_canBegin 58 1 59 := Or.inl ⟨by decide +kernel, rfl⟩
theorem eT_canBegin_59 {z : Int} (h : z = 0 ∨ z = 1) : pd_rd mT_canBegin 59 (some (vi z)) := ⟨by decide +kernel, h⟩
theorem eT_canBegin_60 : pd_ic mT_canBegin 60 1 61 := Or.inl ⟨by decide +kernel, rfl⟩
theorem eT_canBegin_61 {z : Int} (h : z = 0 ∨ z = 1) : pd_rd mT_canBegin 61 (some (vi z)) := ⟨by decide +kernel, h⟩
theorem eT_canBegin_62 : pd_al mT_canBegin 62 0 63 := Or.inl ⟨0, rfl, by decide +kernel, rfl⟩
theorem eT_canBegin_63 : pd_gf mT_canBegin 63 10 7 66 := ⟨27, _, ⟨by decide +kernel, rfl⟩, fT_27_10⟩
theorem eT_canBegin_66 : pd_b1 mT_canBegin 66 .ne 69 73 := ⟨7, ⟨by decide +kernel, rfl⟩, by decide⟩
theorem eT_canBegin_69 : pd_ic mT_canBegin 69 1 70 := Or.inl ⟨by decide +kernel, rfl⟩
theorem eT_canBegin_70 : pd_go mT_canBegin 70 74 := ⟨4, by decide +kernel, by decide⟩
theorem eT_canBegin_73 : pd_ic mT_canBegin 73 0 74 := Or.inl ⟨by decide +kernel, rfl⟩
theorem eT_canBegin_74 {z : Int} (h : z = 0 ∨ z = 1) : pd_rd mT_canBegin 74 (some (vi z)) := ⟨by decide +kernel, h⟩
theorem eT_canBegin_75 : pd_ic mT_canBegin 75 0 76 := Or.inl ⟨by decide +kernel, rfl⟩
theorem eT_canBegin_76 {z : Int} (h : z = 0 ∨ z = 1) : pd_rd mT_canBegin 76 (some (vi z)) := ⟨by decide +kernel, h⟩
theorem eT_numbersOf_0 : pd_il mT_numbersOf 0 0 1 := Or.inl ⟨0, rfl, by decide +kernel, rfl⟩
theorem eT_numbersOf_1 : pd_ic mT_numbersOf 1 103 3 := Or.inr (Or.inl ⟨⟨by decide +kernel, rfl⟩, by decide⟩)
theorem eT_numbersOf_3 : pd_b2 mT_numbersOf 3 .ne 6 10 := ⟨7, ⟨by decide +kernel, rfl⟩, by decide⟩
theorem eT_numbersOf_6 : pd_ic mT_numbersOf 6 4 7 := Or.inl ⟨by decide +kernel, rfl⟩
theorem eT_numbersOf_7 : pd_go mT_numbersOf 7 21 := ⟨14, by decide +kernel, by decide⟩
theorem eT_numbersOf_10 : pd_il mT_numbersOf 10 0 11 := Or.inl ⟨0, rfl, by decide +kernel, rfl⟩
theorem eT_numbersOf_11 : pd_ic mT_numbersOf 11 100 13 := Or.inr (Or.inl ⟨⟨by decide +kernel, rfl⟩, by decide⟩)
theorem eT_numbersOf_13 : pd_b2 mT_numbersOf 13 .ne 16 20 := ⟨7, ⟨by decide +kernel, rfl⟩, by decide⟩
theorem eT_numbersOf_16 : pd_ic mT_numbersOf 16 2 17 := Or.inl ⟨by decide +kernel, rfl⟩
theorem eT_numbersOf_17 : pd_go mT_numbersOf 17 21 := ⟨4, by decide +kernel, by decide⟩
theorem eT_numbersOf_20 : pd_ic mT_numbersOf 20 3 21 := Or.inl ⟨by decide +kernel, rfl⟩
theorem eT_numbersOf_21 {z : Int} : pd_rd mT_numbersOf 21 (some (vi z)) := (by decide +kernel : decode mT_numbersOf.2.1 21 = .ok (.ireturn, 1))
theorem eT_leastOf_0 : pd_il mT_leastOf 0 0 1 := Or.inl ⟨0, rfl, by decide +kernel, rfl⟩
theorem eT_leastOf_1 : pd_ic mT_leastOf 1 100 3 := Or.inr (Or.inl ⟨⟨by decide +kernel, rfl⟩, by decide⟩)
theorem eT_leastOf_3 : pd_b2 mT_leastOf 3 .eq 6 17 := ⟨14, ⟨by decide +kernel, rfl⟩, by decide⟩
theorem eT_leastOf_6 : pd_il mT_leastOf 6 0 7 := Or.inl ⟨0, rfl, by decide +kernel, rfl⟩
theorem eT_leastOf_7 : pd_ic mT_leastOf 7 103 9 := Or.inr (Or.inl ⟨⟨by decide +kernel, rfl⟩, by decide⟩)
theorem eT_leastOf_9 : pd_b2 mT_leastOf 9 .ne 12 21 := ⟨12, ⟨by decide +kernel, rfl⟩, by decide⟩
theorem eT_leastOf_12 : pd_il mT_leastOf 12 1 13 := Or.inl ⟨1, rfl, by decide +kernel, rfl⟩
theorem eT_leastOf_13 : pd_ic mT_leastOf 13 2 14 := Or.inl ⟨by decide +kernel, rfl⟩
theorem eT_leastOf_14 : pd_b2 mT_leastOf 14 .ne 17 21 := ⟨7, ⟨by decide +kernel, rfl⟩, by decide⟩
theorem eT_leastOf_17 : pd_ic mT_leastOf 17 1 18 := Or.inl ⟨by decide +kernel, rfl⟩
theorem eT_leastOf_18 : pd_go mT_leastOf 18 22 := ⟨4, by decide +kernel, by decide⟩
theorem eT_leastOf_21 : pd_ic mT_leastOf 21 0 22 := Or.inl ⟨by decide +kernel, rfl⟩
theorem eT_leastOf_22 {z : Int} : pd_rd mT_leastOf 22 (some (vi z)) := (by decide +kernel : decode mT_leastOf.2.1 22 = .ok (.ireturn, 1))
theorem eT_mostOf_0 : pd_il mT_mostOf 0 1 1 := Or.inl ⟨1, rfl, by decide +kernel, rfl⟩
theorem eT_mostOf_1 : pd_i mT_mostOf 1 (.lookupswitch 42 #[(100, 39), (103, 27)]) 27 28 := ⟨by decide +kernel, rfl⟩
theorem eT_mostOf_28 : pd_il mT_mostOf 28 2 29 := Or.inl ⟨2, rfl, by decide +kernel, rfl⟩
theorem eT_mostOf_29 : pd_b1 mT_mostOf 29 .ne 32 37 := ⟨8, ⟨by decide +kernel, rfl⟩, by decide⟩
theorem eT_mostOf_32 : pd_ic mT_mostOf 32 60 34 := Or.inr (Or.inl ⟨⟨by decide +kernel, rfl⟩, by decide⟩)
theorem eT_mostOf_34 : pd_go mT_mostOf 34 39 := ⟨5, by decide +kernel, by decide⟩
theorem eT_mostOf_37 : pd_ic mT_mostOf 37 9 39 := Or.inr (Or.inl ⟨⟨by decide +kernel, rfl⟩, by decide⟩)
theorem eT_mostOf_39 {z : Int} : pd_rd mT_mostOf 39 (some (vi z)) := (by decide +kernel : decode mT_mostOf.2.1 39 = .ok (.ireturn, 1))
theorem eT_mostOf_40 : pd_ic mT_mostOf 40 9 42 := Or.inr (Or.inl ⟨⟨by decide +kernel, rfl⟩, by decide⟩)
theorem eT_mostOf_42 {z : Int} : pd_rd mT_mostOf 42 (some (vi z)) := (by decide +kernel : decode mT_mostOf.2.1 42 = .ok (.ireturn, 1))
theorem eT_mostOf_43 : pd_il mT_mostOf 43 2 44 := Or.inl ⟨2, rfl, by decide +kernel, rfl⟩
theorem eT_mostOf_44 : pd_b1 mT_mostOf 44 .ne 47 52 := ⟨8, ⟨by decide +kernel, rfl⟩, by decide⟩
theorem eT_mostOf_47 : pd_ic mT_mostOf 47 19 49 := Or.inr (Or.inl ⟨⟨by decide +kernel, rfl⟩, by decide⟩)
theorem eT_mostOf_49 : pd_go mT_mostOf 49 68 := ⟨19, by decide +kernel, by decide⟩
theorem eT_mostOf_52 : pd_il mT_mostOf 52 2 53 := Or.inl ⟨2, rfl, by decide +kernel, rfl⟩
theorem eT_mostOf_53 : pd_ic mT_mostOf 53 1 54 := Or.inl ⟨by decide +kernel, rfl⟩
theorem eT_mostOf_54 : pd_b2 mT_mostOf 54 .ne 57 66 := ⟨12, ⟨by decide +kernel, rfl⟩, by decide⟩
theorem eT_mostOf_57 : pd_al mT_mostOf 57 0 58 := Or.inl ⟨0, rfl, by decide +kernel, rfl⟩
theorem eT_mostOf_58 : pd_gf mT_mostOf 58 4 7 61 := ⟨71, _, ⟨by decide +kernel, rfl⟩, fT_71_4⟩
theorem eT_mostOf_61 : pd_ic mT_mostOf 61 1 62 := Or.inl ⟨by decide +kernel, rfl⟩
theorem eT_mostOf_62 : pd_i mT_mostOf 62 (.isub) 1 63 := ⟨by decide +kernel, rfl⟩
theorem eT_mostOf_63 : pd_go mT_mostOf 63 68 := ⟨5, by decide +kernel, by decide⟩
theorem eT_mostOf_66 : pd_ic mT_mostOf 66 30 68 := Or.inr (Or.inl ⟨⟨by decide +kernel, rfl⟩, by decide⟩)
theorem eT_mostOf_68 {z : Int} : pd_rd mT_mostOf 68 (some (vi z)) := (by decide +kernel : decode mT_mostOf.2.1 68 = .ok (.ireturn, 1))
theorem eT_put_0 : pd_il mT_put 0 2 1 := Or.inl ⟨2, rfl, by decide +kernel, rfl⟩
theorem eT_put_1 : pd_i mT_put 1 (.lookupswitch 101 #[(98, 43), (103, 35), (109, 72)]) 35 36 := ⟨by decide +kernel, rfl⟩
theorem eT_put_36 : pd_al mT_put 36 0 37 := Or.inl ⟨0, rfl, by decide +kernel, rfl⟩
theorem eT_put_37 : pd_al mT_put 37 1 38 := Or.inl ⟨1, rfl, by decide +kernel, rfl⟩
theorem eT_put_38 : pd_kv mT_put 38 mT_putGood 1 41 := ⟨74, ⟨by decide +kernel, rfl⟩, (pd_m 418 (by decide +kernel) (by decide +kernel)), (pd_m 420 (by decide +kernel) (by decide +kernel)), (pd_m 6 (by decide +kernel) (by decide +kernel)), kT_putGood⟩
theorem eT_put_41 : pd_go mT_put 41 107 := ⟨66, by decide +kernel, by decide⟩
theorem eT_put_44 : pd_al mT_put 44 1 45 := Or.inl ⟨1, rfl, by decide +kernel, rfl⟩
theorem eT_put_45 : pd_gf mT_put 45 4 4 48 := ⟨78, _, ⟨by decide +kernel, rfl⟩, fT_78_4⟩
theorem eT_put_48 : pd_al mT_put 48 0 49 := Or.inl ⟨0, rfl, by decide +kernel, rfl⟩
theorem eT_put_49 : pd_gf mT_put 49 10 2 52 := ⟨15, _, ⟨by decide +kernel, rfl⟩, fT_15_10⟩
theorem eT_put_52 : pd_ic mT_put 52 0 53 := Or.inl ⟨by decide +kernel, rfl⟩
theorem eT_put_53 : pd_i mT_put 53 (.iaload) 1 54 := ⟨by decide +kernel, rfl⟩
theorem eT_put_54 : pd_ic mT_put 54 4 55 := Or.inl ⟨by decide +kernel, rfl⟩
theorem eT_put_55 : pd_i mT_put 55 (.imul) 1 56 := ⟨by decide +kernel, rfl⟩
theorem eT_put_56 : pd_al mT_put 56 0 57 := Or.inl ⟨0, rfl, by decide +kernel, rfl⟩
theorem eT_put_57 : pd_gf mT_put 57 10 2 60 := ⟨15, _, ⟨by decide +kernel, rfl⟩, fT_15_10⟩
theorem eT_put_60 : pd_ic mT_put 60 1 61 := Or.inl ⟨by decide +kernel, rfl⟩
theorem eT_put_61 : pd_i mT_put 61 (.iaload) 1 62 := ⟨by decide +kernel, rfl⟩
theorem eT_put_62 : pd_i mT_put 62 (.iadd) 1 63 := ⟨by decide +kernel, rfl⟩
theorem eT_put_63 : pd_al mT_put 63 0 64 := Or.inl ⟨0, rfl, by decide +kernel, rfl⟩
theorem eT_put_64 : pd_gf mT_put 64 10 2 67 := ⟨15, _, ⟨by decide +kernel, rfl⟩, fT_15_10⟩
theorem eT_put_67 : pd_ic mT_put 67 2 68 := Or.inl ⟨by decide +kernel, rfl⟩
theorem eT_put_68 : pd_i mT_put 68 (.iaload) 1 69 := ⟨by decide +kernel, rfl⟩
theorem eT_put_69 : pd_i mT_put 69 (.iastore) 1 70 := ⟨by decide +kernel, rfl⟩
theorem eT_put_70 : pd_go mT_put 70 107 := ⟨37, by decide +kernel, by decide⟩
theorem eT_put_73 : pd_al mT_put 73 1 74 := Or.inl ⟨1, rfl, by decide +kernel, rfl⟩
theorem eT_put_74 : pd_gf mT_put 74 4 5 77 := ⟨81, _, ⟨by decide +kernel, rfl⟩, fT_81_4⟩
theorem eT_put_77 : pd_al mT_put 77 0 78 := Or.inl ⟨0, rfl, by decide +kernel, rfl⟩
theorem eT_put_78 : pd_gf mT_put 78 10 2 81 := ⟨15, _, ⟨by decide +kernel, rfl⟩, fT_15_10⟩
theorem eT_put_81 : pd_ic mT_put 81 0 82 := Or.inl ⟨by decide +kernel, rfl⟩
theorem eT_put_82 : pd_i mT_put 82 (.iaload) 1 83 := ⟨by decide +kernel, rfl⟩
theorem eT_put_83 : pd_ic mT_put 83 4 84 := Or.inl ⟨by decide +kernel, rfl⟩
theorem eT_put_84 : pd_i mT_put 84 (.imul) 1 85 := ⟨by decide +kernel, rfl⟩
theorem eT_put_85 : pd_al mT_put 85 0 86 := Or.inl ⟨0, rfl, by decide +kernel, rfl⟩
theorem eT_put_86 : pd_gf mT_put 86 10 2 89 := ⟨15, _, ⟨by decide +kernel, rfl⟩, fT_15_10⟩
theorem eT_put_89 : pd_ic mT_put 89 1 90 := Or.inl ⟨by decide +kernel, rfl⟩
theorem eT_put_90 : pd_i mT_put 90 (.iaload) 1 91 := ⟨by decide +kernel, rfl⟩
theorem eT_put_91 : pd_i mT_put 91 (.iadd) 1 92 := ⟨by decide +kernel, rfl⟩
theorem eT_put_92 : pd_al mT_put 92 0 93 := Or.inl ⟨0, rfl, by decide +kernel, rfl⟩
theorem eT_put_93 : pd_gf mT_put 93 10 2 96 := ⟨15, _, ⟨by decide +kernel, rfl⟩, fT_15_10⟩
theorem eT_put_96 : pd_ic mT_put 96 2 97 := Or.inl ⟨by decide +kernel, rfl⟩
theorem eT_put_97 : pd_i mT_put 97 (.iaload) 1 98 := ⟨by decide +kernel, rfl⟩
theorem eT_put_98 : pd_i mT_put 98 (.iastore) 1 99 := ⟨by decide +kernel, rfl⟩
theorem eT_put_99 : pd_go mT_put 99 107 := ⟨8, by decide +kernel, by decide⟩
theorem eT_put_102 : pd_al mT_put 102 0 103 := Or.inl ⟨0, rfl, by decide +kernel, rfl⟩
theorem eT_put_103 : pd_al mT_put 103 1 104 := Or.inl ⟨1, rfl, by decide +kernel, rfl⟩
theorem eT_put_104 : pd_kv mT_put 104 mT_putDoor 1 107 := ⟨84, ⟨by decide +kernel, rfl⟩, (pd_m 422 (by decide +kernel) (by decide +kernel)), (pd_m 424 (by decide +kernel) (by decide +kernel)), (pd_m 7 (by decide +kernel) (by decide +kernel)), kT_putDoor⟩
theorem eT_put_107 : pd_rd mT_put 107 none := (by decide +kernel : decode mT_put.2.1 107 = .ok (.return_, 1))
theorem eT_putGood_0 : pd_al mT_putGood 0 1 1 := Or.inl ⟨1, rfl, by decide +kernel, rfl⟩
theorem eT_putGood_1 : pd_gf mT_putGood 1 4 7 4 := ⟨71, _, ⟨by decide +kernel, rfl⟩, fT_71_4⟩
theorem eT_putGood_4 : pd_is mT_putGood 4 2 5 := ⟨by decide, Or.inl ⟨2, rfl, by decide +kernel, rfl⟩⟩
theorem eT_putGood_5 : pd_il mT_putGood 5 2 6 := Or.inl ⟨2, rfl, by decide +kernel, rfl⟩
theorem eT_putGood_6 : pd_ic mT_putGood 6 4 7 := Or.inl ⟨by decide +kernel, rfl⟩
theorem eT_putGood_7 : pd_b2 mT_putGood 7 .ge 10 68 := ⟨61, ⟨by decide +kernel, rfl⟩, by decide⟩
theorem eT_putGood_10 : pd_al mT_putGood 10 1 11 := Or.inl ⟨1, rfl, by decide +kernel, rfl⟩
theorem eT_putGood_11 : pd_gf mT_putGood 11 4 0 14 := ⟨87, _, ⟨by decide +kernel, rfl⟩, fT_87_4⟩
theorem eT_putGood_14 : pd_il mT_putGood 14 2 15 := Or.inl ⟨2, rfl, by decide +kernel, rfl⟩
theorem eT_putGood_15 : pd_al mT_putGood 15 0 16 := Or.inl ⟨0, rfl, by decide +kernel, rfl⟩
theorem eT_putGood_16 : pd_gf mT_putGood 16 10 2 19 := ⟨15, _, ⟨by decide +kernel, rfl⟩, fT_15_10⟩
theorem eT_putGood_19 : pd_ic mT_putGood 19 0 20 := Or.inl ⟨by decide +kernel, rfl⟩
theorem eT_putGood_20 : pd_i mT_putGood 20 (.iaload) 1 21 := ⟨by decide +kernel, rfl⟩
theorem eT_putGood_21 : pd_i mT_putGood 21 (.iastore) 1 22 := ⟨by decide +kernel, rfl⟩
theorem eT_putGood_22 : pd_al mT_putGood 22 1 23 := Or.inl ⟨1, rfl, by decide +kernel, rfl⟩
theorem eT_putGood_23 : pd_gf mT_putGood 23 4 1 26 := ⟨90, _, ⟨by decide +kernel, rfl⟩, fT_90_4⟩
theorem eT_putGood_26 : pd_il mT_putGood 26 2 27 := Or.inl ⟨2, rfl, by decide +kernel, rfl⟩
theorem eT_putGood_27 : pd_al mT_putGood 27 0 28 := Or.inl ⟨0, rfl, by decide +kernel, rfl⟩
theorem eT_putGood_28 : pd_gf mT_putGood 28 10 2 31 := ⟨15, _, ⟨by decide +kernel, rfl⟩, fT_15_10⟩
theorem eT_putGood_31 : pd_ic mT_putGood 31 1 32 := Or.inl ⟨by decide +kernel, rfl⟩
theorem eT_putGood_32 : pd_i mT_putGood 32 (.iaload) 1 33 := ⟨by decide +kernel, rfl⟩
theorem eT_putGood_33 : pd_i mT_putGood 33 (.iastore) 1 34 := ⟨by decide +kernel, rfl⟩
theorem eT_putGood_34 : pd_al mT_putGood 34 1 35 := Or.inl ⟨1, rfl, by decide +kernel, rfl⟩
theorem eT_putGood_35 : pd_gf mT_putGood 35 4 2 38 := ⟨93, _, ⟨by decide +kernel, rfl⟩, fT_93_4⟩
theorem eT_putGood_38 : pd_il mT_putGood 38 2 39 := Or.inl ⟨2, rfl, by decide +kernel, rfl⟩
theorem eT_putGood_39 : pd_al mT_putGood 39 0 40 := Or.inl ⟨0, rfl, by decide +kernel, rfl⟩
theorem eT_putGood_40 : pd_gf mT_putGood 40 10 2 43 := ⟨15, _, ⟨by decide +kernel, rfl⟩, fT_15_10⟩
theorem eT_putGood_43 : pd_ic mT_putGood 43 2 44 := Or.inl ⟨by decide +kernel, rfl⟩
theorem eT_putGood_44 : pd_i mT_putGood 44 (.iaload) 1 45 := ⟨by decide +kernel, rfl⟩
theorem eT_putGood_45 : pd_i mT_putGood 45 (.iastore) 1 46 := ⟨by decide +kernel, rfl⟩
theorem eT_putGood_46 : pd_al mT_putGood 46 1 47 := Or.inl ⟨1, rfl, by decide +kernel, rfl⟩
theorem eT_putGood_47 : pd_gf mT_putGood 47 4 3 50 := ⟨96, _, ⟨by decide +kernel, rfl⟩, fT_96_4⟩
theorem eT_putGood_50 : pd_il mT_putGood 50 2 51 := Or.inl ⟨2, rfl, by decide +kernel, rfl⟩
theorem eT_putGood_51 : pd_al mT_putGood 51 0 52 := Or.inl ⟨0, rfl, by decide +kernel, rfl⟩
theorem eT_putGood_52 : pd_gf mT_putGood 52 10 2 55 := ⟨15, _, ⟨by decide +kernel, rfl⟩, fT_15_10⟩
theorem eT_putGood_55 : pd_ic mT_putGood 55 3 56 := Or.inl ⟨by decide +kernel, rfl⟩
theorem eT_putGood_56 : pd_i mT_putGood 56 (.iaload) 1 57 := ⟨by decide +kernel, rfl⟩
theorem eT_putGood_57 : pd_i mT_putGood 57 (.iastore) 1 58 := ⟨by decide +kernel, rfl⟩
theorem eT_putGood_58 : pd_al mT_putGood 58 1 59 := Or.inl ⟨1, rfl, by decide +kernel, rfl⟩
theorem eT_putGood_59 : pd_i mT_putGood 59 (.dup) 1 60 := ⟨by decide +kernel, rfl⟩
theorem eT_putGood_60 : pd_gf mT_putGood 60 4 7 63 := ⟨71, _, ⟨by decide +kernel, rfl⟩, fT_71_4⟩
theorem eT_putGood_63 : pd_ic mT_putGood 63 1 64 := Or.inl ⟨by decide +kernel, rfl⟩
theorem eT_putGood_64 : pd_i mT_putGood 64 (.iadd) 1 65 := ⟨by decide +kernel, rfl⟩
theorem eT_putGood_65 : pd_pf mT_putGood 65 4 7 .int 68 := ⟨71, ⟨by decide +kernel, rfl⟩, fT_71_4, Or.inl ⟨_, rfl⟩⟩
theorem eT_putGood_68 : pd_rd mT_putGood 68 none := (by decide +kernel : decode mT_putGood.2.1 68 = .ok (.return_, 1))
theorem eT_putDoor_0 : pd_al mT_putDoor 0 0 1 := Or.inl ⟨0, rfl, by decide +kernel, rfl⟩
theorem eT_putDoor_1 : pd_ic mT_putDoor 1 1 2 := Or.inl ⟨by decide +kernel, rfl⟩
theorem eT_putDoor_2 : pd_pf mT_putDoor 2 10 7 .boolean 5 := ⟨27, ⟨by decide +kernel, rfl⟩, fT_27_10, Or.inl ⟨_, rfl⟩⟩
theorem eT_putDoor_5 : pd_al mT_putDoor 5 1 6 := Or.inl ⟨1, rfl, by decide +kernel, rfl⟩
theorem eT_putDoor_6 : pd_al mT_putDoor 6 0 7 := Or.inl ⟨0, rfl, by decide +kernel, rfl⟩
theorem eT_putDoor_7 : pd_gf mT_putDoor 7 10 2 10 := ⟨15, _, ⟨by decide +kernel, rfl⟩, fT_15_10⟩
theorem eT_putDoor_10 : pd_ic mT_putDoor 10 0 11 := Or.inl ⟨by decide +kernel, rfl⟩
theorem eT_putDoor_11 : pd_i mT_putDoor 11 (.iaload) 1 12 := ⟨by decide +kernel, rfl⟩
theorem eT_putDoor_12 : pd_pf mT_putDoor 12 4 8 .int 15 := ⟨99, ⟨by decide +kernel, rfl⟩, fT_99_4, Or.inl ⟨_, rfl⟩⟩
theorem eT_putDoor_15 : pd_al mT_putDoor 15 1 16 := Or.inl ⟨1, rfl, by decide +kernel, rfl⟩
theorem eT_putDoor_16 : pd_al mT_putDoor 16 0 17 := Or.inl ⟨0, rfl, by decide +kernel, rfl⟩
theorem eT_putDoor_17 : pd_gf mT_putDoor 17 10 2 20 := ⟨15, _, ⟨by decide +kernel, rfl⟩, fT_15_10⟩
theorem eT_putDoor_20 : pd_ic mT_putDoor 20 1 21 := Or.inl ⟨by decide +kernel, rfl⟩
theorem eT_putDoor_21 : pd_i mT_putDoor 21 (.iaload) 1 22 := ⟨by decide +kernel, rfl⟩
theorem eT_putDoor_22 : pd_pf mT_putDoor 22 4 9 .int 25 := ⟨102, ⟨by decide +kernel, rfl⟩, fT_102_4, Or.inl ⟨_, rfl⟩⟩
theorem eT_putDoor_25 : pd_rd mT_putDoor 25 none := (by decide +kernel : decode mT_putDoor.2.1 25 = .ok (.return_, 1))
theorem eT_next_0 : pd_al mT_next 0 0 1 := Or.inl ⟨0, rfl, by decide +kernel, rfl⟩
theorem eT_next_1 : pd_gf mT_next 1 10 3 4 := ⟨23, _, ⟨by decide +kernel, rfl⟩, fT_23_10⟩
theorem eT_next_4 : pd_al mT_next 4 0 5 := Or.inl ⟨0, rfl, by decide +kernel, rfl⟩
theorem eT_next_5 : pd_gf mT_next 5 10 1 8 := ⟨105, _, ⟨by decide +kernel, rfl⟩, fT_105_10⟩
theorem eT_next_8 : pd_b2 mT_next 8 .ge 11 38 := ⟨30, ⟨by decide +kernel, rfl⟩, by decide⟩
theorem eT_next_11 : pd_al mT_next 11 0 12 := Or.inl ⟨0, rfl, by decide +kernel, rfl⟩
theorem eT_next_12 : pd_gf mT_next 12 10 0 15 := ⟨11, _, ⟨by decide +kernel, rfl⟩, fT_11_10⟩
theorem eT_next_15 : pd_al mT_next 15 0 16 := Or.inl ⟨0, rfl, by decide +kernel, rfl⟩
theorem eT_next_16 : pd_gf mT_next 16 10 3 19 := ⟨23, _, ⟨by decide +kernel, rfl⟩, fT_23_10⟩
theorem eT_next_19 : pd_i mT_next 19 (.iaload) 1 20 := ⟨by decide +kernel, rfl⟩
theorem eT_next_20 : pd_ic mT_next 20 32 22 := Or.inr (Or.inl ⟨⟨by decide +kernel, rfl⟩, by decide⟩)
theorem eT_next_22 : pd_b2 mT_next 22 .ne 25 38 := ⟨16, ⟨by decide +kernel, rfl⟩, by decide⟩
theorem eT_next_25 : pd_al mT_next 25 0 26 := Or.inl ⟨0, rfl, by decide +kernel, rfl⟩
theorem eT_next_26 : pd_i mT_next 26 (.dup) 1 27 := ⟨by decide +kernel, rfl⟩
theorem eT_next_27 : pd_gf mT_next 27 10 3 30 := ⟨23, _, ⟨by decide +kernel, rfl⟩, fT_23_10⟩
theorem eT_next_30 : pd_ic mT_next 30 1 31 := Or.inl ⟨by decide +kernel, rfl⟩
theorem eT_next_31 : pd_i mT_next 31 (.iadd) 1 32 := ⟨by decide +kernel, rfl⟩
theorem eT_next_32 : pd_pf mT_next 32 10 3 .int 35 := ⟨23, ⟨by decide +kernel, rfl⟩, fT_23_10, Or.inl ⟨_, rfl⟩⟩
theorem eT_next_35 : pd_go mT_next 35 0 := ⟨-35, by decide +kernel, by decide⟩
theorem eT_next_38 : pd_al mT_next 38 0 39 := Or.inl ⟨0, rfl, by decide +kernel, rfl⟩
theorem eT_next_39 : pd_al mT_next 39 0 40 := Or.inl ⟨0, rfl, by decide +kernel, rfl⟩
theorem eT_next_40 : pd_gf mT_next 40 10 3 43 := ⟨23, _, ⟨by decide +kernel, rfl⟩, fT_23_10⟩
theorem eT_next_43 : pd_pf mT_next 43 10 4 .int 46 := ⟨41, ⟨by decide +kernel, rfl⟩, fT_41_10, Or.inl ⟨_, rfl⟩⟩
theorem eT_next_46 : pd_al mT_next 46 0 47 := Or.inl ⟨0, rfl, by decide +kernel, rfl⟩
theorem eT_next_47 : pd_ic mT_next 47 0 48 := Or.inl ⟨by decide +kernel, rfl⟩
theorem eT_next_48 : pd_pf mT_next 48 10 6 .int 51 := ⟨44, ⟨by decide +kernel, rfl⟩, fT_44_10, Or.inl ⟨_, rfl⟩⟩
theorem eT_next_51 : pd_al mT_next 51 0 52 := Or.inl ⟨0, rfl, by decide +kernel, rfl⟩
theorem eT_next_52 : pd_gf mT_next 52 10 3 55 := ⟨23, _, ⟨by decide +kernel, rfl⟩, fT_23_10⟩
theorem eT_next_55 : pd_al mT_next 55 0 56 := Or.inl ⟨0, rfl, by decide +kernel, rfl⟩
theorem eT_next_56 : pd_gf mT_next 56 10 1 59 := ⟨105, _, ⟨by decide +kernel, rfl⟩, fT_105_10⟩
theorem eT_next_59 : pd_b2 mT_next 59 .lt 62 70 := ⟨11, ⟨by decide +kernel, rfl⟩, by decide⟩
theorem eT_next_62 : pd_al mT_next 62 0 63 := Or.inl ⟨0, rfl, by decide +kernel, rfl⟩
theorem eT_next_63 : pd_ic mT_next 63 0 64 := Or.inl ⟨by decide +kernel, rfl⟩
theorem eT_next_64 : pd_pf mT_next 64 10 5 .int 67 := ⟨34, ⟨by decide +kernel, rfl⟩, fT_34_10, Or.inl ⟨_, rfl⟩⟩
theorem eT_next_67 : pd_go mT_next 67 147 := ⟨80, by decide +kernel, by decide⟩
theorem eT_next_70 : pd_al mT_next 70 0 71 := Or.inl ⟨0, rfl, by decide +kernel, rfl⟩
theorem eT_next_71 : pd_gf mT_next 71 10 0 74 := ⟨11, _, ⟨by decide +kernel, rfl⟩, fT_11_10⟩
theorem eT_next_74 : pd_al mT_next 74 0 75 := Or.inl ⟨0, rfl, by decide +kernel, rfl⟩
theorem eT_next_75 : pd_gf mT_next 75 10 3 78 := ⟨23, _, ⟨by decide +kernel, rfl⟩, fT_23_10⟩
theorem eT_next_78 : pd_i mT_next 78 (.iaload) 1 79 := ⟨by decide +kernel, rfl⟩
theorem eT_next_79 : pd_ks mT_next 79 mT_isLetter 1 82 := ⟨108, ⟨by decide +kernel, rfl⟩, Or.inl (pd_m 379 (by decide +kernel) (by decide +kernel)), (pd_m 380 (by decide +kernel) (by decide +kernel)), kT_isLetter⟩
theorem eT_next_82 : pd_b1 mT_next 82 .eq 85 92 := ⟨10, ⟨by decide +kernel, rfl⟩, by decide⟩
theorem eT_next_85 : pd_al mT_next 85 0 86 := Or.inl ⟨0, rfl, by decide +kernel, rfl⟩
theorem eT_next_86 : pd_kv mT_next 86 mT_nextLetters 0 89 := ⟨112, ⟨by decide +kernel, rfl⟩, (pd_m 383 (by decide +kernel) (by decide +kernel)), (pd_m 385 (by decide +kernel) (by decide +kernel)), (pd_m 1 (by decide +kernel) (by decide +kernel)), kT_nextLetters⟩
theorem eT_next_89 : pd_go mT_next 89 147 := ⟨58, by decide +kernel, by decide⟩
theorem eT_next_92 : pd_al mT_next 92 0 93 := Or.inl ⟨0, rfl, by decide +kernel, rfl⟩
theorem eT_next_93 : pd_gf mT_next 93 10 0 96 := ⟨11, _, ⟨by decide +kernel, rfl⟩, fT_11_10⟩
theorem eT_next_96 : pd_al mT_next 96 0 97 := Or.inl ⟨0, rfl, by decide +kernel, rfl⟩
theorem eT_next_97 : pd_gf mT_next 97 10 3 100 := ⟨23, _, ⟨by decide +kernel, rfl⟩, fT_23_10⟩
theorem eT_next_100 : pd_i mT_next 100 (.iaload) 1 101 := ⟨by decide +kernel, rfl⟩
theorem eT_next_101 : pd_ks mT_next 101 mT_isDigit 1 104 := ⟨115, ⟨by decide +kernel, rfl⟩, Or.inl (pd_m 387 (by decide +kernel) (by decide +kernel)), (pd_m 388 (by decide +kernel) (by decide +kernel)), kT_isDigit⟩
theorem eT_next_104 : pd_b1 mT_next 104 .eq 107 114 := ⟨10, ⟨by decide +kernel, rfl⟩, by decide⟩
theorem eT_next_107 : pd_al mT_next 107 0 108 := Or.inl ⟨0, rfl, by decide +kernel, rfl⟩
theorem eT_next_108 : pd_kv mT_next 108 mT_nextNumber 0 111 := ⟨118, ⟨by decide +kernel, rfl⟩, (pd_m 390 (by decide +kernel) (by decide +kernel)), (pd_m 392 (by decide +kernel) (by decide +kernel)), (pd_m 2 (by decide +kernel) (by decide +kernel)), kT_nextNumber⟩
theorem eT_next_111 : pd_go mT_next 111 147 := ⟨36, by decide +kernel, by decide⟩
theorem eT_next_114 : pd_al mT_next 114 0 115 := Or.inl ⟨0, rfl, by decide +kernel, rfl⟩
theorem eT_next_115 : pd_al mT_next 115 0 116 := Or.inl ⟨0, rfl, by decide +kernel, rfl⟩
theorem eT_next_116 : pd_gf mT_next 116 10 0 119 := ⟨11, _, ⟨by decide +kernel, rfl⟩, fT_11_10⟩
theorem eT_next_119 : pd_al mT_next 119 0 120 := Or.inl ⟨0, rfl, by decide +kernel, rfl⟩
theorem eT_next_120 : pd_gf mT_next 120 10 3 123 := ⟨23, _, ⟨by decide +kernel, rfl⟩, fT_23_10⟩
theorem eT_next_123 : pd_i mT_next 123 (.iaload) 1 124 := ⟨by decide +kernel, rfl⟩
theorem eT_next_124 : pd_ic mT_next 124 59 126 := Or.inr (Or.inl ⟨⟨by decide +kernel, rfl⟩, by decide⟩)
theorem eT_next_126 : pd_b2 mT_next 126 .ne 129 133 := ⟨7, ⟨by decide +kernel, rfl⟩, by decide⟩
theorem eT_next_129 : pd_ic mT_next 129 3 130 := Or.inl ⟨by decide +kernel, rfl⟩
theorem eT_next_130 : pd_go mT_next 130 134 := ⟨4, by decide +kernel, by decide⟩
theorem eT_next_133 : pd_ic mT_next 133 4 134 := Or.inl ⟨by decide +kernel, rfl⟩
theorem eT_next_134 : pd_pf mT_next 134 10 5 .int 137 := ⟨34, ⟨by decide +kernel, rfl⟩, fT_34_10, Or.inl ⟨_, rfl⟩⟩
theorem eT_next_137 : pd_al mT_next 137 0 138 := Or.inl ⟨0, rfl, by decide +kernel, rfl⟩
theorem eT_next_138 : pd_i mT_next 138 (.dup) 1 139 := ⟨by decide +kernel, rfl⟩
theorem eT_next_139 : pd_gf mT_next 139 10 3 142 := ⟨23, _, ⟨by decide +kernel, rfl⟩, fT_23_10⟩
theorem eT_next_142 : pd_ic mT_next 142 1 143 := Or.inl ⟨by decide +kernel, rfl⟩
theorem eT_next_143 : pd_i mT_next 143 (.iadd) 1 144 := ⟨by decide +kernel, rfl⟩
theorem eT_next_144 : pd_pf mT_next 144 10 3 .int 147 := ⟨23, ⟨by decide +kernel, rfl⟩, fT_23_10, Or.inl ⟨_, rfl⟩⟩
theorem eT_next_147 : pd_rd mT_next 147 none := (by decide +kernel : decode mT_next.2.1 147 = .ok (.return_, 1))
theorem eT_nextLetters_0 : pd_al mT_nextLetters 0 0 1 := Or.inl ⟨0, rfl, by decide +kernel, rfl⟩
theorem eT_nextLetters_1 : pd_ic mT_nextLetters 1 1 2 := Or.inl ⟨by decide +kernel, rfl⟩
theorem eT_nextLetters_2 : pd_pf mT_nextLetters 2 10 5 .int 5 := ⟨34, ⟨by decide +kernel, rfl⟩, fT_34_10, Or.inl ⟨_, rfl⟩⟩
theorem eT_nextLetters_5 : pd_al mT_nextLetters 5 0 6 := Or.inl ⟨0, rfl, by decide +kernel, rfl⟩
theorem eT_nextLetters_6 : pd_gf mT_nextLetters 6 10 3 9 := ⟨23, _, ⟨by decide +kernel, rfl⟩, fT_23_10⟩
theorem eT_nextLetters_9 : pd_al mT_nextLetters 9 0 10 := Or.inl ⟨0, rfl, by decide +kernel, rfl⟩
theorem eT_nextLetters_10 : pd_gf mT_nextLetters 10 10 1 13 := ⟨105, _, ⟨by decide +kernel, rfl⟩, fT_105_10⟩
theorem eT_nextLetters_13 : pd_b2 mT_nextLetters 13 .ge 16 44 := ⟨31, ⟨by decide +kernel, rfl⟩, by decide⟩
theorem eT_nextLetters_16 : pd_al mT_nextLetters 16 0 17 := Or.inl ⟨0, rfl, by decide +kernel, rfl⟩
theorem eT_nextLetters_17 : pd_gf mT_nextLetters 17 10 0 20 := ⟨11, _, ⟨by decide +kernel, rfl⟩, fT_11_10⟩
theorem eT_nextLetters_20 : pd_al mT_nextLetters 20 0 21 := Or.inl ⟨0, rfl, by decide +kernel, rfl⟩
theorem eT_nextLetters_21 : pd_gf mT_nextLetters 21 10 3 24 := ⟨23, _, ⟨by decide +kernel, rfl⟩, fT_23_10⟩
theorem eT_nextLetters_24 : pd_i mT_nextLetters 24 (.iaload) 1 25 := ⟨by decide +kernel, rfl⟩
theorem eT_nextLetters_25 : pd_ks mT_nextLetters 25 mT_isLetter 1 28 := ⟨108, ⟨by decide +kernel, rfl⟩, Or.inl (pd_m 379 (by decide +kernel) (by decide +kernel)), (pd_m 380 (by decide +kernel) (by decide +kernel)), kT_isLetter⟩
theorem eT_nextLetters_28 : pd_b1 mT_nextLetters 28 .eq 31 44 := ⟨16, ⟨by decide +kernel, rfl⟩, by decide⟩
theorem eT_nextLetters_31 : pd_al mT_nextLetters 31 0 32 := Or.inl ⟨0, rfl, by decide +kernel, rfl⟩
theorem eT_nextLetters_32 : pd_i mT_nextLetters 32 (.dup) 1 33 := ⟨by decide +kernel, rfl⟩
theorem eT_nextLetters_33 : pd_gf mT_nextLetters 33 10 3 36 := ⟨23, _, ⟨by decide +kernel, rfl⟩, fT_23_10⟩
theorem eT_nextLetters_36 : pd_ic mT_nextLetters 36 1 37 := Or.inl ⟨by decide +kernel, rfl⟩
theorem eT_nextLetters_37 : pd_i mT_nextLetters 37 (.iadd) 1 38 := ⟨by decide +kernel, rfl⟩
theorem eT_nextLetters_38 : pd_pf mT_nextLetters 38 10 3 .int 41 := ⟨23, ⟨by decide +kernel, rfl⟩, fT_23_10, Or.inl ⟨_, rfl⟩⟩
theorem eT_nextLetters_41 : pd_go mT_nextLetters 41 5 := ⟨-36, by decide +kernel, by decide⟩
theorem eT_nextLetters_44 : pd_al mT_nextLetters 44 0 45 := Or.inl ⟨0, rfl, by decide +kernel, rfl⟩
theorem eT_nextLetters_45 : pd_al mT_nextLetters 45 0 46 := Or.inl ⟨0, rfl, by decide +kernel, rfl⟩
theorem eT_nextLetters_46 : pd_gf mT_nextLetters 46 10 3 49 := ⟨23, _, ⟨by decide +kernel, rfl⟩, fT_23_10⟩
theorem eT_nextLetters_49 : pd_al mT_nextLetters 49 0 50 := Or.inl ⟨0, rfl, by decide +kernel, rfl⟩
theorem eT_nextLetters_50 : pd_gf mT_nextLetters 50 10 4 53 := ⟨41, _, ⟨by decide +kernel, rfl⟩, fT_41_10⟩
theorem eT_nextLetters_53 : pd_ic mT_nextLetters 53 1 54 := Or.inl ⟨by decide +kernel, rfl⟩
theorem eT_nextLetters_54 : pd_i mT_nextLetters 54 (.iadd) 1 55 := ⟨by decide +kernel, rfl⟩
theorem eT_nextLetters_55 : pd_b2 mT_nextLetters 55 .ne 58 70 := ⟨15, ⟨by decide +kernel, rfl⟩, by decide⟩
theorem eT_nextLetters_58 : pd_al mT_nextLetters 58 0 59 := Or.inl ⟨0, rfl, by decide +kernel, rfl⟩
theorem eT_nextLetters_59 : pd_gf mT_nextLetters 59 10 0 62 := ⟨11, _, ⟨by decide +kernel, rfl⟩, fT_11_10⟩
theorem eT_nextLetters_62 : pd_al mT_nextLetters 62 0 63 := Or.inl ⟨0, rfl, by decide +kernel, rfl⟩
theorem eT_nextLetters_63 : pd_gf mT_nextLetters 63 10 4 66 := ⟨41, _, ⟨by decide +kernel, rfl⟩, fT_41_10⟩
theorem eT_nextLetters_66 : pd_i mT_nextLetters 66 (.iaload) 1 67 := ⟨by decide +kernel, rfl⟩
theorem eT_nextLetters_67 : pd_go mT_nextLetters 67 71 := ⟨4, by decide +kernel, by decide⟩
theorem eT_nextLetters_70 : pd_ic mT_nextLetters 70 0 71 := Or.inl ⟨by decide +kernel, rfl⟩
theorem eT_nextLetters_71 : pd_pf mT_nextLetters 71 10 6 .int 74 := ⟨44, ⟨by decide +kernel, rfl⟩, fT_44_10, Or.inl ⟨_, rfl⟩⟩
theorem eT_nextLetters_74 : pd_rd mT_nextLetters 74 none := (by decide +kernel : decode mT_nextLetters.2.1 74 = .ok (.return_, 1))
theorem eT_nextNumber_0 : pd_al mT_nextNumber 0 0 1 := Or.inl ⟨0, rfl, by decide +kernel, rfl⟩
theorem eT_nextNumber_1 : pd_gf mT_nextNumber 1 10 3 4 := ⟨23, _, ⟨by decide +kernel, rfl⟩, fT_23_10⟩
theorem eT_nextNumber_4 : pd_al mT_nextNumber 4 0 5 := Or.inl ⟨0, rfl, by decide +kernel, rfl⟩
theorem eT_nextNumber_5 : pd_gf mT_nextNumber 5 10 1 8 := ⟨105, _, ⟨by decide +kernel, rfl⟩, fT_105_10⟩
theorem eT_nextNumber_8 : pd_b2 mT_nextNumber 8 .ge 11 68 := ⟨60, ⟨by decide +kernel, rfl⟩, by decide⟩
theorem eT_nextNumber_11 : pd_al mT_nextNumber 11 0 12 := Or.inl ⟨0, rfl, by decide +kernel, rfl⟩
theorem eT_nextNumber_12 : pd_gf mT_nextNumber 12 10 0 15 := ⟨11, _, ⟨by decide +kernel, rfl⟩, fT_11_10⟩
theorem eT_nextNumber_15 : pd_al mT_nextNumber 15 0 16 := Or.inl ⟨0, rfl, by decide +kernel, rfl⟩
theorem eT_nextNumber_16 : pd_gf mT_nextNumber 16 10 3 19 := ⟨23, _, ⟨by decide +kernel, rfl⟩, fT_23_10⟩
theorem eT_nextNumber_19 : pd_i mT_nextNumber 19 (.iaload) 1 20 := ⟨by decide +kernel, rfl⟩
theorem eT_nextNumber_20 : pd_ks mT_nextNumber 20 mT_isDigit 1 23 := ⟨115, ⟨by decide +kernel, rfl⟩, Or.inl (pd_m 387 (by decide +kernel) (by decide +kernel)), (pd_m 388 (by decide +kernel) (by decide +kernel)), kT_isDigit⟩
theorem eT_nextNumber_23 : pd_b1 mT_nextNumber 23 .eq 26 68 := ⟨45, ⟨by decide +kernel, rfl⟩, by decide⟩
theorem eT_nextNumber_26 : pd_al mT_nextNumber 26 0 27 := Or.inl ⟨0, rfl, by decide +kernel, rfl⟩
theorem eT_nextNumber_27 : pd_ic mT_nextNumber 27 100 29 := Or.inr (Or.inl ⟨⟨by decide +kernel, rfl⟩, by decide⟩)
theorem eT_nextNumber_29 : pd_al mT_nextNumber 29 0 30 := Or.inl ⟨0, rfl, by decide +kernel, rfl⟩
theorem eT_nextNumber_30 : pd_gf mT_nextNumber 30 10 6 33 := ⟨44, _, ⟨by decide +kernel, rfl⟩, fT_44_10⟩
theorem eT_nextNumber_33 : pd_ic mT_nextNumber 33 10 35 := Or.inr (Or.inl ⟨⟨by decide +kernel, rfl⟩, by decide⟩)
theorem eT_nextNumber_35 : pd_i mT_nextNumber 35 (.imul) 1 36 := ⟨by decide +kernel, rfl⟩
theorem eT_nextNumber_36 : pd_al mT_nextNumber 36 0 37 := Or.inl ⟨0, rfl, by decide +kernel, rfl⟩
theorem eT_nextNumber_37 : pd_gf mT_nextNumber 37 10 0 40 := ⟨11, _, ⟨by decide +kernel, rfl⟩, fT_11_10⟩
theorem eT_nextNumber_40 : pd_al mT_nextNumber 40 0 41 := Or.inl ⟨0, rfl, by decide +kernel, rfl⟩
theorem eT_nextNumber_41 : pd_gf mT_nextNumber 41 10 3 44 := ⟨23, _, ⟨by decide +kernel, rfl⟩, fT_23_10⟩
theorem eT_nextNumber_44 : pd_i mT_nextNumber 44 (.iaload) 1 45 := ⟨by decide +kernel, rfl⟩
theorem eT_nextNumber_45 : pd_i mT_nextNumber 45 (.iadd) 1 46 := ⟨by decide +kernel, rfl⟩
theorem eT_nextNumber_46 : pd_ic mT_nextNumber 46 48 48 := Or.inr (Or.inl ⟨⟨by decide +kernel, rfl⟩, by decide⟩)
theorem eT_nextNumber_48 : pd_i mT_nextNumber 48 (.isub) 1 49 := ⟨by decide +kernel, rfl⟩
theorem eT_nextNumber_49 : pd_min mT_nextNumber 49 52 := ⟨121, ⟨by decide +kernel, rfl⟩, (pd_m 394 (by decide +kernel) (by decide +kernel))⟩
theorem eT_nextNumber_52 : pd_pf mT_nextNumber 52 10 6 .int 55 := ⟨44, ⟨by decide +kernel, rfl⟩, fT_44_10, Or.inl ⟨_, rfl⟩⟩
theorem eT_nextNumber_55 : pd_al mT_nextNumber 55 0 56 := Or.inl ⟨0, rfl, by decide +kernel, rfl⟩
theorem eT_nextNumber_56 : pd_i mT_nextNumber 56 (.dup) 1 57 := ⟨by decide +kernel, rfl⟩
theorem eT_nextNumber_57 : pd_gf mT_nextNumber 57 10 3 60 := ⟨23, _, ⟨by decide +kernel, rfl⟩, fT_23_10⟩
theorem eT_nextNumber_60 : pd_ic mT_nextNumber 60 1 61 := Or.inl ⟨by decide +kernel, rfl⟩
theorem eT_nextNumber_61 : pd_i mT_nextNumber 61 (.iadd) 1 62 := ⟨by decide +kernel, rfl⟩
theorem eT_nextNumber_62 : pd_pf mT_nextNumber 62 10 3 .int 65 := ⟨23, ⟨by decide +kernel, rfl⟩, fT_23_10, Or.inl ⟨_, rfl⟩⟩
theorem eT_nextNumber_65 : pd_go mT_nextNumber 65 0 := ⟨-65, by decide +kernel, by decide⟩
theorem eT_nextNumber_68 : pd_al mT_nextNumber 68 0 69 := Or.inl ⟨0, rfl, by decide +kernel, rfl⟩
theorem eT_nextNumber_69 : pd_gf mT_nextNumber 69 10 0 72 := ⟨11, _, ⟨by decide +kernel, rfl⟩, fT_11_10⟩
theorem eT_nextNumber_72 : pd_al mT_nextNumber 72 0 73 := Or.inl ⟨0, rfl, by decide +kernel, rfl⟩
theorem eT_nextNumber_73 : pd_gf mT_nextNumber 73 10 4 76 := ⟨41, _, ⟨by decide +kernel, rfl⟩, fT_41_10⟩
theorem eT_nextNumber_76 : pd_i mT_nextNumber 76 (.iaload) 1 77 := ⟨by decide +kernel, rfl⟩
theorem eT_nextNumber_77 : pd_ic mT_nextNumber 77 48 79 := Or.inr (Or.inl ⟨⟨by decide +kernel, rfl⟩, by decide⟩)
theorem eT_nextNumber_79 : pd_b2 mT_nextNumber 79 .ne 82 99 := ⟨20, ⟨by decide +kernel, rfl⟩, by decide⟩
theorem eT_nextNumber_82 : pd_al mT_nextNumber 82 0 83 := Or.inl ⟨0, rfl, by decide +kernel, rfl⟩
theorem eT_nextNumber_83 : pd_gf mT_nextNumber 83 10 3 86 := ⟨23, _, ⟨by decide +kernel, rfl⟩, fT_23_10⟩
theorem eT_nextNumber_86 : pd_al mT_nextNumber 86 0 87 := Or.inl ⟨0, rfl, by decide +kernel, rfl⟩
theorem eT_nextNumber_87 : pd_gf mT_nextNumber 87 10 4 90 := ⟨41, _, ⟨by decide +kernel, rfl⟩, fT_41_10⟩
theorem eT_nextNumber_90 : pd_ic mT_nextNumber 90 1 91 := Or.inl ⟨by decide +kernel, rfl⟩
theorem eT_nextNumber_91 : pd_i mT_nextNumber 91 (.iadd) 1 92 := ⟨by decide +kernel, rfl⟩
theorem eT_nextNumber_92 : pd_b2 mT_nextNumber 92 .le 95 99 := ⟨7, ⟨by decide +kernel, rfl⟩, by decide⟩
theorem eT_nextNumber_95 : pd_ic mT_nextNumber 95 1 96 := Or.inl ⟨by decide +kernel, rfl⟩
theorem eT_nextNumber_96 : pd_go mT_nextNumber 96 100 := ⟨4, by decide +kernel, by decide⟩
theorem eT_nextNumber_99 : pd_ic mT_nextNumber 99 0 100 := Or.inl ⟨by decide +kernel, rfl⟩
theorem eT_nextNumber_100 : pd_is mT_nextNumber 100 1 101 := ⟨by decide, Or.inl ⟨1, rfl, by decide +kernel, rfl⟩⟩
theorem eT_nextNumber_101 : pd_al mT_nextNumber 101 0 102 := Or.inl ⟨0, rfl, by decide +kernel, rfl⟩
theorem eT_nextNumber_102 : pd_il mT_nextNumber 102 1 103 := Or.inl ⟨1, rfl, by decide +kernel, rfl⟩
theorem eT_nextNumber_103 : pd_b1 mT_nextNumber 103 .ne 106 115 := ⟨12, ⟨by decide +kernel, rfl⟩, by decide⟩
theorem eT_nextNumber_106 : pd_al mT_nextNumber 106 0 107 := Or.inl ⟨0, rfl, by decide +kernel, rfl⟩
theorem eT_nextNumber_107 : pd_gf mT_nextNumber 107 10 6 110 := ⟨44, _, ⟨by decide +kernel, rfl⟩, fT_44_10⟩
theorem eT_nextNumber_110 : pd_ic mT_nextNumber 110 99 112 := Or.inr (Or.inl ⟨⟨by decide +kernel, rfl⟩, by decide⟩)
theorem eT_nextNumber_112 : pd_b2 mT_nextNumber 112 .le 115 119 := ⟨7, ⟨by decide +kernel, rfl⟩, by decide⟩
theorem eT_nextNumber_115 : pd_ic mT_nextNumber 115 4 116 := Or.inl ⟨by decide +kernel, rfl⟩
theorem eT_nextNumber_116 : pd_go mT_nextNumber 116 120 := ⟨4, by decide +kernel, by decide⟩
theorem eT_nextNumber_119 : pd_ic mT_nextNumber 119 2 120 := Or.inl ⟨by decide +kernel, rfl⟩
theorem eT_nextNumber_120 : pd_pf mT_nextNumber 120 10 5 .int 123 := ⟨34, ⟨by decide +kernel, rfl⟩, fT_34_10, Or.inl ⟨_, rfl⟩⟩
theorem eT_nextNumber_123 : pd_rd mT_nextNumber 123 none := (by decide +kernel : decode mT_nextNumber.2.1 123 = .ok (.return_, 1))
theorem eT_isLetter_0 : pd_il mT_isLetter 0 0 1 := Or.inl ⟨0, rfl, by decide +kernel, rfl⟩
theorem eT_isLetter_1 : pd_ic mT_isLetter 1 97 3 := Or.inr (Or.inl ⟨⟨by decide +kernel, rfl⟩, by decide⟩)
theorem eT_isLetter_3 : pd_ic mT_isLetter 3 122 5 := Or.inr (Or.inl ⟨⟨by decide +kernel, rfl⟩, by decide⟩)
theorem eT_isLetter_5 : pd_ks mT_isLetter 5 mD_within 3 8 := ⟨63, ⟨by decide +kernel, rfl⟩, Or.inr ⟨"PantryDoors", by decide +kernel⟩, (pd_m 357 (by decide +kernel) (by decide +kernel)), kD_within⟩
theorem eT_isLetter_8 {z : Int} (h : z = 0 ∨ z = 1) : pd_rd mT_isLetter 8 (some (vi z)) := ⟨by decide +kernel, h⟩
theorem eT_isDigit_0 : pd_il mT_isDigit 0 0 1 := Or.inl ⟨0, rfl, by decide +kernel, rfl⟩
theorem eT_isDigit_1 : pd_ic mT_isDigit 1 48 3 := Or.inr (Or.inl ⟨⟨by decide +kernel, rfl⟩, by decide⟩)
theorem eT_isDigit_3 : pd_ic mT_isDigit 3 57 5 := Or.inr (Or.inl ⟨⟨by decide +kernel, rfl⟩, by decide⟩)
theorem eT_isDigit_5 : pd_ks mT_isDigit 5 mD_within 3 8 := ⟨63, ⟨by decide +kernel, rfl⟩, Or.inr ⟨"PantryDoors", by decide +kernel⟩, (pd_m 357 (by decide +kernel) (by decide +kernel)), kD_within⟩
theorem eT_isDigit_8 {z : Int} (h : z = 0 ∨ z = 1) : pd_rd mT_isDigit 8 (some (vi z)) := ⟨by decide +kernel, h⟩
end
section
theorem eD_init_0 : pd_al mD_init 0 0 1 := Or.inl ⟨0, rfl, by decide +kernel, rfl⟩
theorem eD_init_1 : ∃ idx, pd_i mD_init 1 (.invokespecial idx) 3 4 ∧ Cond.methodLink mD_init.1.cls idx objectInit ∈ pd_tbl := ⟨3, ⟨by decide +kernel, rfl⟩, (pd_m 66 (by decide +kernel) (by decide +kernel))⟩
theorem eD_init_4 : pd_al mD_init 4 0 5 := Or.inl ⟨0, rfl, by decide +kernel, rfl⟩
theorem eD_init_5 : pd_nwi mD_init 5 10 8 := ⟨9, ⟨by decide +kernel, rfl⟩, _, rfl, (pd_m 69 (by decide +kernel) (by decide +kernel))⟩
theorem eD_init_8 : pd_i mD_init 8 (.dup) 1 9 := ⟨by decide +kernel, rfl⟩
theorem eD_init_9 : pd_kI mD_init 9 mT_init 0 12 := ⟨11, ⟨by decide +kernel, rfl⟩, Or.inr ⟨"PantryDoors", by decide +kernel⟩, (pd_m 72 (by decide +kernel) (by decide +kernel)), rfl, rfl, kT_init⟩
theorem eD_init_12 : pd_pf mD_init 12 11 0 (.object "PantryDoors$Text") 15 := ⟨12, ⟨by decide +kernel, rfl⟩, fD_12_11, Or.inr ⟨rfl, rfl⟩⟩
theorem eD_init_15 : pd_al mD_init 15 0 16 := Or.inl ⟨0, rfl, by decide +kernel, rfl⟩
theorem eD_init_16 : pd_nwi mD_init 16 6 19 := ⟨16, ⟨by decide +kernel, rfl⟩, _, rfl, (pd_m 103 (by decide +kernel) (by decide +kernel))⟩
theorem eD_init_19 : pd_i mD_init 19 (.dup) 1 20 := ⟨by decide +kernel, rfl⟩
theorem eD_init_20 : pd_kI mD_init 20 mL_init 0 23 := ⟨18, ⟨by decide +kernel, rfl⟩, Or.inl (pd_m 105 (by decide +kernel) (by decide +kernel)), (pd_m 106 (by decide +kernel) (by decide +kernel)), rfl, rfl, kL_init⟩
theorem eD_init_23 : pd_pf mD_init 23 11 1 (.object "PantryDoors$Life") 26 := ⟨19, ⟨by decide +kernel, rfl⟩, fD_19_11, Or.inr ⟨rfl, rfl⟩⟩
theorem eD_init_26 : pd_al mD_init 26 0 27 := Or.inl ⟨0, rfl, by decide +kernel, rfl⟩
theorem eD_init_27 : pd_ic mD_init 27 2 28 := Or.inl ⟨by decide +kernel, rfl⟩
theorem eD_init_28 : ∃ idx, pd_i mD_init 28 (.anewarray idx) 3 31 ∧ Cond.classLink mD_init.1.cls idx "PantryDoors$Life" ∈ pd_tbl := ⟨16, ⟨by decide +kernel, rfl⟩, (pd_m 103 (by decide +kernel) (by decide +kernel))⟩
theorem eD_init_31 : pd_pf mD_init 31 11 2 (.array (.object "PantryDoors$Life")) 34 := ⟨23, ⟨by decide +kernel, rfl⟩, fD_23_11, Or.inr ⟨rfl, rfl⟩⟩
theorem eD_init_34 : pd_al mD_init 34 0 35 := Or.inl ⟨0, rfl, by decide +kernel, rfl⟩
theorem eD_init_35 : pd_ic mD_init 35 2 36 := Or.inl ⟨by decide +kernel, rfl⟩
theorem eD_init_36 : pd_i mD_init 36 (.newarray .boolean) 2 38 := ⟨by decide +kernel, rfl⟩
theorem eD_init_38 : pd_pf mD_init 38 11 3 (.array .boolean) 41 := ⟨27, ⟨by decide +kernel, rfl⟩, fD_27_11, Or.inr ⟨rfl, rfl⟩⟩
theorem eD_init_41 : pd_al mD_init 41 0 42 := Or.inl ⟨0, rfl, by decide +kernel, rfl⟩
theorem eD_init_42 : pd_ic mD_init 42 4 43 := Or.inl ⟨by decide +kernel, rfl⟩
theorem eD_init_43 : pd_i mD_init 43 (.newarray .int) 2 45 := ⟨by decide +kernel, rfl⟩
theorem eD_init_45 : pd_pf mD_init 45 11 4 (.array .int) 48 := ⟨31, ⟨by decide +kernel, rfl⟩, fD_31_11, Or.inr ⟨rfl, rfl⟩⟩
theorem eD_init_48 : pd_al mD_init 48 0 49 := Or.inl ⟨0, rfl, by decide +kernel, rfl⟩
theorem eD_init_49 : pd_ic mD_init 49 4 50 := Or.inl ⟨by decide +kernel, rfl⟩
theorem eD_init_50 : pd_i mD_init 50 (.newarray .int) 2 52 := ⟨by decide +kernel, rfl⟩
theorem eD_init_52 : pd_pf mD_init 52 11 5 (.array .int) 55 := ⟨35, ⟨by decide +kernel, rfl⟩, fD_35_11, Or.inr ⟨rfl, rfl⟩⟩
theorem eD_init_55 : pd_al mD_init 55 0 56 := Or.inl ⟨0, rfl, by decide +kernel, rfl⟩
theorem eD_init_56 : pd_ic mD_init 56 4 57 := Or.inl ⟨by decide +kernel, rfl⟩
theorem eD_init_57 : pd_i mD_init 57 (.newarray .int) 2 59 := ⟨by decide +kernel, rfl⟩
theorem eD_init_59 : pd_pf mD_init 59 11 6 (.array .int) 62 := ⟨38, ⟨by decide +kernel, rfl⟩, fD_38_11, Or.inr ⟨rfl, rfl⟩⟩
theorem eD_init_62 : pd_al mD_init 62 0 63 := Or.inl ⟨0, rfl, by decide +kernel, rfl⟩
theorem eD_init_63 : pd_ic mD_init 63 4 64 := Or.inl ⟨by decide +kernel, rfl⟩
theorem eD_init_64 : pd_i mD_init 64 (.newarray .int) 2 66 := ⟨by decide +kernel, rfl⟩
theorem eD_init_66 : pd_pf mD_init 66 11 7 (.array .int) 69 := ⟨41, ⟨by decide +kernel, rfl⟩, fD_41_11, Or.inr ⟨rfl, rfl⟩⟩
theorem eD_init_69 : pd_al mD_init 69 0 70 := Or.inl ⟨0, rfl, by decide +kernel, rfl⟩
theorem eD_init_70 : pd_ic mD_init 70 305 73 := Or.inr (Or.inr (Or.inl ⟨⟨by decide +kernel, rfl⟩, by decide⟩))
theorem eD_init_73 : pd_i mD_init 73 (.newarray .int) 2 75 := ⟨by decide +kernel, rfl⟩
theorem eD_init_75 : pd_pf mD_init 75 11 8 (.array .int) 78 := ⟨44, ⟨by decide +kernel, rfl⟩, fD_44_11, Or.inr ⟨rfl, rfl⟩⟩
theorem eD_init_78 : pd_al mD_init 78 0 79 := Or.inl ⟨0, rfl, by decide +kernel, rfl⟩
theorem eD_init_79 : pd_nwi mD_init 79 7 82 := ⟨47, ⟨by decide +kernel, rfl⟩, _, rfl, (pd_m 155 (by decide +kernel) (by decide +kernel))⟩
theorem eD_init_82 : pd_i mD_init 82 (.dup) 1 83 := ⟨by decide +kernel, rfl⟩
theorem eD_init_83 : pd_kI mD_init 83 mP_init 0 86 := ⟨49, ⟨by decide +kernel, rfl⟩, Or.inr ⟨"PantryDoors", by decide +kernel⟩, (pd_m 158 (by decide +kernel) (by decide +kernel)), rfl, rfl, kP_init⟩
theorem eD_init_86 : pd_pf mD_init 86 11 9 (.object "PantryDoors$Plan") 89 := ⟨50, ⟨by decide +kernel, rfl⟩, fD_50_11, Or.inr ⟨rfl, rfl⟩⟩
theorem eD_init_89 : pd_al mD_init 89 0 90 := Or.inl ⟨0, rfl, by decide +kernel, rfl⟩
theorem eD_init_90 : pd_ic mD_init 90 6 92 := Or.inr (Or.inl ⟨⟨by decide +kernel, rfl⟩, by decide⟩)
theorem eD_init_92 : ∃ idx, pd_i mD_init 92 (.anewarray idx) 3 95 ∧ Cond.classLink mD_init.1.cls idx "PantryDoors$Good" ∈ pd_tbl := ⟨54, ⟨by decide +kernel, rfl⟩, (pd_m 183 (by decide +kernel) (by decide +kernel))⟩
theorem eD_init_95 : pd_i mD_init 95 (.dup) 1 96 := ⟨by decide +kernel, rfl⟩
theorem eD_init_96 : pd_ic mD_init 96 0 97 := Or.inl ⟨by decide +kernel, rfl⟩
theorem eD_init_97 : pd_nwi mD_init 97 2 100 := ⟨54, ⟨by decide +kernel, rfl⟩, _, rfl, (pd_m 183 (by decide +kernel) (by decide +kernel))⟩
theorem eD_init_100 : pd_i mD_init 100 (.dup) 1 101 := ⟨by decide +kernel, rfl⟩
theorem eD_init_101 : pd_kI mD_init 101 mG_init 0 104 := ⟨56, ⟨by decide +kernel, rfl⟩, Or.inr ⟨"PantryDoors", by decide +kernel⟩, (pd_m 187 (by decide +kernel) (by decide +kernel)), rfl, rfl, kG_init⟩
theorem eD_init_104 : pd_i mD_init 104 (.aastore) 1 105 := ⟨by decide +kernel, rfl⟩
theorem eD_init_105 : pd_i mD_init 105 (.dup) 1 106 := ⟨by decide +kernel, rfl⟩
theorem eD_init_106 : pd_ic mD_init 106 1 107 := Or.inl ⟨by decide +kernel, rfl⟩
theorem eD_init_107 : pd_nwi mD_init 107 9 110 := ⟨57, ⟨by decide +kernel, rfl⟩, _, rfl, (pd_m 205 (by decide +kernel) (by decide +kernel))⟩
theorem eD_init_110 : pd_i mD_init 110 (.dup) 1 111 := ⟨by decide +kernel, rfl⟩
theorem eD_init_111 : pd_kI mD_init 111 mSu_init 0 114 := ⟨59, ⟨by decide +kernel, rfl⟩, Or.inr ⟨"PantryDoors", by decide +kernel⟩, (pd_m 208 (by decide +kernel) (by decide +kernel)), rfl, rfl, kSu_init⟩
theorem eD_init_114 : pd_i mD_init 114 (.aastore) 1 115 := ⟨by decide +kernel, rfl⟩
theorem eD_init_115 : pd_i mD_init 115 (.dup) 1 116 := ⟨by decide +kernel, rfl⟩
theorem eD_init_116 : pd_ic mD_init 116 2 117 := Or.inl ⟨by decide +kernel, rfl⟩
theorem eD_init_117 : pd_nwi mD_init 117 3 120 := ⟨60, ⟨by decide +kernel, rfl⟩, _, rfl, (pd_m 213 (by decide +kernel) (by decide +kernel))⟩
theorem eD_init_120 : pd_i mD_init 120 (.dup) 1 121 := ⟨by decide +kernel, rfl⟩
theorem eD_init_121 : pd_kI mD_init 121 mHa_init 0 124 := ⟨62, ⟨by decide +kernel, rfl⟩, Or.inr ⟨"PantryDoors", by decide +kernel⟩, (pd_m 216 (by decide +kernel) (by decide +kernel)), rfl, rfl, kHa_init⟩
theorem eD_init_124 : pd_i mD_init 124 (.aastore) 1 125 := ⟨by decide +kernel, rfl⟩
theorem eD_init_125 : pd_i mD_init 125 (.dup) 1 126 := ⟨by decide +kernel, rfl⟩
theorem eD_init_126 : pd_ic mD_init 126 3 127 := Or.inl ⟨by decide +kernel, rfl⟩
theorem eD_init_127 : pd_nwi mD_init 127 1 130 := ⟨63, ⟨by decide +kernel, rfl⟩, _, rfl, (pd_m 221 (by decide +kernel) (by decide +kernel))⟩
theorem eD_init_130 : pd_i mD_init 130 (.dup) 1 131 := ⟨by decide +kernel, rfl⟩
theorem eD_init_131 : pd_kI mD_init 131 mCo_init 0 134 := ⟨65, ⟨by decide +kernel, rfl⟩, Or.inr ⟨"PantryDoors", by decide +kernel⟩, (pd_m 224 (by decide +kernel) (by decide +kernel)), rfl, rfl, kCo_init⟩
theorem eD_init_134 : pd_i mD_init 134 (.aastore) 1 135 := ⟨by decide +kernel, rfl⟩
theorem eD_init_135 : pd_i mD_init 135 (.dup) 1 136 := ⟨by decide +kernel, rfl⟩
theorem eD_init_136 : pd_ic mD_init 136 4 137 := Or.inl ⟨by decide +kernel, rfl⟩
theorem eD_init_137 : pd_nwi mD_init 137 5 140 := ⟨66, ⟨by decide +kernel, rfl⟩, _, rfl, (pd_m 229 (by decide +kernel) (by decide +kernel))⟩
theorem eD_init_140 : pd_i mD_init 140 (.dup) 1 141 := ⟨by decide +kernel, rfl⟩
theorem eD_init_141 : pd_kI mD_init 141 mJe_init 0 144 := ⟨68, ⟨by decide +kernel, rfl⟩, Or.inr ⟨"PantryDoors", by decide +kernel⟩, (pd_m 232 (by decide +kernel) (by decide +kernel)), rfl, rfl, kJe_init⟩
theorem eD_init_144 : pd_i mD_init 144 (.aastore) 1 145 := ⟨by decide +kernel, rfl⟩
theorem eD_init_145 : pd_i mD_init 145 (.dup) 1 146 := ⟨by decide +kernel, rfl⟩
theorem eD_init_146 : pd_ic mD_init 146 5 147 := Or.inl ⟨by decide +kernel, rfl⟩
theorem eD_init_147 : pd_nwi mD_init 147 0 150 := ⟨69, ⟨by decide +kernel, rfl⟩, _, rfl, (pd_m 237 (by decide +kernel) (by decide +kernel))⟩
theorem eD_init_150 : pd_i mD_init 150 (.dup) 1 151 := ⟨by decide +kernel, rfl⟩
theorem eD_init_151 : pd_kI mD_init 151 mCa_init 0 154 := ⟨71, ⟨by decide +kernel, rfl⟩, Or.inr ⟨"PantryDoors", by decide +kernel⟩, (pd_m 240 (by decide +kernel) (by decide +kernel)), rfl, rfl, kCa_init⟩
theorem eD_init_154 : pd_i mD_init 154 (.aastore) 1 155 := ⟨by decide +kernel, rfl⟩
theorem eD_init_155 : pd_pf mD_init 155 11 10 (.array (.object "PantryDoors$Good")) 158 := ⟨72, ⟨by decide +kernel, rfl⟩, fD_72_11, Or.inr ⟨rfl, rfl⟩⟩
theorem eD_init_158 : pd_al mD_init 158 0 159 := Or.inl ⟨0, rfl, by decide +kernel, rfl⟩
theorem eD_init_159 : pd_nwi mD_init 159 4 162 := ⟨76, ⟨by decide +kernel, rfl⟩, _, rfl, (pd_m 245 (by decide +kernel) (by decide +kernel))⟩
theorem eD_init_162 : pd_i mD_init 162 (.dup) 1 163 := ⟨by decide +kernel, rfl⟩
theorem eD_init_163 : pd_kI mD_init 163 mH_init 0 166 := ⟨78, ⟨by decide +kernel, rfl⟩, Or.inr ⟨"PantryDoors", by decide +kernel⟩, (pd_m 248 (by decide +kernel) (by decide +kernel)), rfl, rfl, kH_init⟩
theorem eD_init_166 : pd_pf mD_init 166 11 11 (.object "PantryDoors$House") 169 := ⟨79, ⟨by decide +kernel, rfl⟩, fD_79_11, Or.inl ⟨_, rfl⟩⟩
theorem eD_init_169 : pd_al mD_init 169 0 170 := Or.inl ⟨0, rfl, by decide +kernel, rfl⟩
theorem eD_init_170 : pd_nwi mD_init 170 4 173 := ⟨76, ⟨by decide +kernel, rfl⟩, _, rfl, (pd_m 245 (by decide +kernel) (by decide +kernel))⟩
theorem eD_init_173 : pd_i mD_init 173 (.dup) 1 174 := ⟨by decide +kernel, rfl⟩
theorem eD_init_174 : pd_kI mD_init 174 mH_init 0 177 := ⟨78, ⟨by decide +kernel, rfl⟩, Or.inr ⟨"PantryDoors", by decide +kernel⟩, (pd_m 248 (by decide +kernel) (by decide +kernel)), rfl, rfl, kH_init⟩
theorem eD_init_177 : pd_pf mD_init 177 11 12 (.object "PantryDoors$House") 180 := ⟨83, ⟨by decide +kernel, rfl⟩, fD_83_11, Or.inl ⟨_, rfl⟩⟩
theorem eD_init_180 : pd_ic mD_init 180 0 181 := Or.inl ⟨by decide +kernel, rfl⟩
theorem eD_init_181 : pd_is mD_init 181 1 182 := ⟨by decide, Or.inl ⟨1, rfl, by decide +kernel, rfl⟩⟩
theorem eD_init_182 : pd_il mD_init 182 1 183 := Or.inl ⟨1, rfl, by decide +kernel, rfl⟩
theorem eD_init_183 : pd_ic mD_init 183 2 184 := Or.inl ⟨by decide +kernel, rfl⟩
theorem eD_init_184 : pd_b2 mD_init 184 .ge 187 206 := ⟨22, ⟨by decide +kernel, rfl⟩, by decide⟩
theorem eD_init_187 : pd_al mD_init 187 0 188 := Or.inl ⟨0, rfl, by decide +kernel, rfl⟩
theorem eD_init_188 : pd_gf mD_init 188 11 2 191 := ⟨23, _, ⟨by decide +kernel, rfl⟩, fD_23_11⟩
theorem eD_init_191 : pd_il mD_init 191 1 192 := Or.inl ⟨1, rfl, by decide +kernel, rfl⟩
theorem eD_init_192 : pd_nwi mD_init 192 6 195 := ⟨16, ⟨by decide +kernel, rfl⟩, _, rfl, (pd_m 103 (by decide +kernel) (by decide +kernel))⟩
theorem eD_init_195 : pd_i mD_init 195 (.dup) 1 196 := ⟨by decide +kernel, rfl⟩
theorem eD_init_196 : pd_kI mD_init 196 mL_init 0 199 := ⟨18, ⟨by decide +kernel, rfl⟩, Or.inl (pd_m 105 (by decide +kernel) (by decide +kernel)), (pd_m 106 (by decide +kernel) (by decide +kernel)), rfl, rfl, kL_init⟩
theorem eD_init_199 : pd_i mD_init 199 (.aastore) 1 200 := ⟨by decide +kernel, rfl⟩
theorem eD_init_200 : pd_ii mD_init 200 1 1 203 := ⟨by decide, by decide +kernel, rfl⟩
theorem eD_init_203 : pd_go mD_init 203 182 := ⟨-21, by decide +kernel, by decide⟩
theorem eD_init_206 : pd_rd mD_init 206 none := (by decide +kernel : decode mD_init.2.1 206 = .ok (.return_, 1))
theorem eD_type_0 : pd_il mD_type 0 1 1 := Or.inl ⟨1, rfl, by decide +kernel, rfl⟩
theorem eD_type_1 : pd_ic mD_type 1 0 2 := Or.inl ⟨by decide +kernel, rfl⟩
theorem eD_type_2 : pd_ic mD_type 2 255 5 := Or.inr (Or.inr (Or.inl ⟨⟨by decide +kernel, rfl⟩, by decide⟩))
theorem eD_type_5 : pd_ks mD_type 5 mD_within 3 8 := ⟨86, ⟨by decide +kernel, rfl⟩, Or.inl (pd_m 356 (by decide +kernel) (by decide +kernel)), (pd_m 357 (by decide +kernel) (by decide +kernel)), kD_within⟩
theorem eD_type_8 : pd_b1 mD_type 8 .ne 11 13 := ⟨5, ⟨by decide +kernel, rfl⟩, by decide⟩
theorem eD_type_11 : pd_ic mD_type 11 (-1) 12 := Or.inl ⟨by decide +kernel, rfl⟩
theorem eD_type_12 {z : Int} : pd_rd mD_type 12 (some (vi z)) := (by decide +kernel : decode mD_type.2.1 12 = .ok (.ireturn, 1))
theorem eD_type_13 : pd_al mD_type 13 0 14 := Or.inl ⟨0, rfl, by decide +kernel, rfl⟩
theorem eD_type_14 : pd_gf mD_type 14 11 0 17 := ⟨12, _, ⟨by decide +kernel, rfl⟩, fD_12_11⟩
theorem eD_type_17 : pd_gf mD_type 17 10 1 20 := ⟨90, _, ⟨by decide +kernel, rfl⟩, fD_90_10⟩
theorem eD_type_20 : pd_ic mD_type 20 150 23 := Or.inr (Or.inr (Or.inl ⟨⟨by decide +kernel, rfl⟩, by decide⟩))
theorem eD_type_23 : pd_b2 mD_type 23 .lt 26 29 := ⟨6, ⟨by decide +kernel, rfl⟩, by decide⟩
theorem eD_type_26 : pd_ic mD_type 26 (-3) 28 := Or.inr (Or.inl ⟨⟨by decide +kernel, rfl⟩, by decide⟩)
theorem eD_type_28 {z : Int} : pd_rd mD_type 28 (some (vi z)) := (by decide +kernel : decode mD_type.2.1 28 = .ok (.ireturn, 1))
theorem eD_type_29 : pd_al mD_type 29 0 30 := Or.inl ⟨0, rfl, by decide +kernel, rfl⟩
theorem eD_type_30 : pd_gf mD_type 30 11 0 33 := ⟨12, _, ⟨by decide +kernel, rfl⟩, fD_12_11⟩
theorem eD_type_33 : pd_gf mD_type 33 10 0 36 := ⟨94, _, ⟨by decide +kernel, rfl⟩, fD_94_10⟩
theorem eD_type_36 : pd_al mD_type 36 0 37 := Or.inl ⟨0, rfl, by decide +kernel, rfl⟩
theorem eD_type_37 : pd_gf mD_type 37 11 0 40 := ⟨12, _, ⟨by decide +kernel, rfl⟩, fD_12_11⟩
theorem eD_type_40 : pd_gf mD_type 40 10 1 43 := ⟨90, _, ⟨by decide +kernel, rfl⟩, fD_90_10⟩
theorem eD_type_43 : pd_il mD_type 43 1 44 := Or.inl ⟨1, rfl, by decide +kernel, rfl⟩
theorem eD_type_44 : pd_i mD_type 44 (.iastore) 1 45 := ⟨by decide +kernel, rfl⟩
theorem eD_type_45 : pd_al mD_type 45 0 46 := Or.inl ⟨0, rfl, by decide +kernel, rfl⟩
theorem eD_type_46 : pd_gf mD_type 46 11 0 49 := ⟨12, _, ⟨by decide +kernel, rfl⟩, fD_12_11⟩
theorem eD_type_49 : pd_i mD_type 49 (.dup) 1 50 := ⟨by decide +kernel, rfl⟩
theorem eD_type_50 : pd_gf mD_type 50 10 1 53 := ⟨90, _, ⟨by decide +kernel, rfl⟩, fD_90_10⟩
theorem eD_type_53 : pd_ic mD_type 53 1 54 := Or.inl ⟨by decide +kernel, rfl⟩
theorem eD_type_54 : pd_i mD_type 54 (.iadd) 1 55 := ⟨by decide +kernel, rfl⟩
theorem eD_type_55 : pd_pf mD_type 55 10 1 .int 58 := ⟨90, ⟨by decide +kernel, rfl⟩, fD_90_10, Or.inl ⟨_, rfl⟩⟩
theorem eD_type_58 : pd_al mD_type 58 0 59 := Or.inl ⟨0, rfl, by decide +kernel, rfl⟩
theorem eD_type_59 : pd_gf mD_type 59 11 0 62 := ⟨12, _, ⟨by decide +kernel, rfl⟩, fD_12_11⟩
theorem eD_type_62 : pd_gf mD_type 62 10 1 65 := ⟨90, _, ⟨by decide +kernel, rfl⟩, fD_90_10⟩
theorem eD_type_65 {z : Int} : pd_rd mD_type 65 (some (vi z)) := (by decide +kernel : decode mD_type.2.1 65 = .ok (.ireturn, 1))
theorem eD_clear_0 : pd_al mD_clear 0 0 1 := Or.inl ⟨0, rfl, by decide +kernel, rfl⟩
theorem eD_clear_1 : pd_gf mD_clear 1 11 0 4 := ⟨12, _, ⟨by decide +kernel, rfl⟩, fD_12_11⟩
theorem eD_clear_4 : pd_gf mD_clear 4 10 1 7 := ⟨90, _, ⟨by decide +kernel, rfl⟩, fD_90_10⟩
theorem eD_clear_7 : pd_is mD_clear 7 1 8 := ⟨by decide, Or.inl ⟨1, rfl, by decide +kernel, rfl⟩⟩
theorem eD_clear_8 : pd_al mD_clear 8 0 9 := Or.inl ⟨0, rfl, by decide +kernel, rfl⟩
theorem eD_clear_9 : pd_gf mD_clear 9 11 0 12 := ⟨12, _, ⟨by decide +kernel, rfl⟩, fD_12_11⟩
theorem eD_clear_12 : pd_ic mD_clear 12 0 13 := Or.inl ⟨by decide +kernel, rfl⟩
theorem eD_clear_13 : pd_pf mD_clear 13 10 1 .int 16 := ⟨90, ⟨by decide +kernel, rfl⟩, fD_90_10, Or.inl ⟨_, rfl⟩⟩
theorem eD_clear_16 : pd_il mD_clear 16 1 17 := Or.inl ⟨1, rfl, by decide +kernel, rfl⟩
theorem eD_clear_17 {z : Int} : pd_rd mD_clear 17 (some (vi z)) := (by decide +kernel : decode mD_clear.2.1 17 = .ok (.ireturn, 1))
theorem eD_house_0 : pd_al mD_house 0 0 1 := Or.inl ⟨0, rfl, by decide +kernel, rfl⟩
theorem eD_house_1 : pd_gf mD_house 1 11 0 4 := ⟨12, _, ⟨by decide +kernel, rfl⟩, fD_12_11⟩
theorem eD_house_4 : pd_al mD_house 4 0 5 := Or.inl ⟨0, rfl, by decide +kernel, rfl⟩
theorem eD_house_5 : pd_gf mD_house 5 11 12 8 := ⟨83, _, ⟨by decide +kernel, rfl⟩, fD_83_11⟩
theorem eD_house_8 : pd_kv mD_house 8 mT_tell 1 11 := ⟨97, ⟨by decide +kernel, rfl⟩, (pd_m 367 (by decide +kernel) (by decide +kernel)), (pd_m 368 (by decide +kernel) (by decide +kernel)), (pd_m 369 (by decide +kernel) (by decide +kernel)), kT_tell⟩
theorem eD_house_11 : pd_is mD_house 11 1 12 := ⟨by decide, Or.inl ⟨1, rfl, by decide +kernel, rfl⟩⟩
theorem eD_house_12 : pd_il mD_house 12 1 13 := Or.inl ⟨1, rfl, by decide +kernel, rfl⟩
theorem eD_house_13 : pd_b1 mD_house 13 .ge 16 18 := ⟨5, ⟨by decide +kernel, rfl⟩, by decide⟩
theorem eD_house_16 : pd_il mD_house 16 1 17 := Or.inl ⟨1, rfl, by decide +kernel, rfl⟩
theorem eD_house_17 {z : Int} : pd_rd mD_house 17 (some (vi z)) := (by decide +kernel : decode mD_house.2.1 17 = .ok (.ireturn, 1))
theorem eD_house_18 : pd_al mD_house 18 0 19 := Or.inl ⟨0, rfl, by decide +kernel, rfl⟩
theorem eD_house_19 : pd_gf mD_house 19 11 11 22 := ⟨79, _, ⟨by decide +kernel, rfl⟩, fD_79_11⟩
theorem eD_house_22 : pd_as mD_house 22 2 23 := ⟨by decide, Or.inl ⟨2, rfl, by decide +kernel, rfl⟩⟩
theorem eD_house_23 : pd_al mD_house 23 0 24 := Or.inl ⟨0, rfl, by decide +kernel, rfl⟩
theorem eD_house_24 : pd_al mD_house 24 0 25 := Or.inl ⟨0, rfl, by decide +kernel, rfl⟩
theorem eD_house_25 : pd_gf mD_house 25 11 12 28 := ⟨83, _, ⟨by decide +kernel, rfl⟩, fD_83_11⟩
theorem eD_house_28 : pd_pf mD_house 28 11 11 (.object "PantryDoors$House") 31 := ⟨79, ⟨by decide +kernel, rfl⟩, fD_79_11, Or.inl ⟨_, rfl⟩⟩
theorem eD_house_31 : pd_al mD_house 31 0 32 := Or.inl ⟨0, rfl, by decide +kernel, rfl⟩
theorem eD_house_32 : pd_al mD_house 32 2 33 := Or.inl ⟨2, rfl, by decide +kernel, rfl⟩
theorem eD_house_33 : pd_pf mD_house 33 11 12 (.object "PantryDoors$House") 36 := ⟨83, ⟨by decide +kernel, rfl⟩, fD_83_11, Or.inl ⟨_, rfl⟩⟩
theorem eD_house_36 : pd_al mD_house 36 0 37 := Or.inl ⟨0, rfl, by decide +kernel, rfl⟩
theorem eD_house_37 : pd_gf mD_house 37 11 11 40 := ⟨79, _, ⟨by decide +kernel, rfl⟩, fD_79_11⟩
theorem eD_house_40 : pd_kv mD_house 40 mH_reckonStores 0 43 := ⟨101, ⟨by decide +kernel, rfl⟩, (pd_m 426 (by decide +kernel) (by decide +kernel)), (pd_m 427 (by decide +kernel) (by decide +kernel)), (pd_m 428 (by decide +kernel) (by decide +kernel)), kH_reckonStores⟩
theorem eD_house_43 : pd_al mD_house 43 0 44 := Or.inl ⟨0, rfl, by decide +kernel, rfl⟩
theorem eD_house_44 : pd_gf mD_house 44 11 1 47 := ⟨19, _, ⟨by decide +kernel, rfl⟩, fD_19_11⟩
theorem eD_house_47 : pd_al mD_house 47 0 48 := Or.inl ⟨0, rfl, by decide +kernel, rfl⟩
theorem eD_house_48 : pd_gf mD_house 48 11 11 51 := ⟨79, _, ⟨by decide +kernel, rfl⟩, fD_79_11⟩
theorem eD_house_51 : pd_kv mD_house 51 mL_begin 1 54 := ⟨104, ⟨by decide +kernel, rfl⟩, (pd_m 438 (by decide +kernel) (by decide +kernel)), (pd_m 439 (by decide +kernel) (by decide +kernel)), (pd_m 440 (by decide +kernel) (by decide +kernel)), kL_begin⟩
theorem eD_house_54 : pd_al mD_house 54 0 55 := Or.inl ⟨0, rfl, by decide +kernel, rfl⟩
theorem eD_house_55 : pd_gf mD_house 55 11 0 58 := ⟨12, _, ⟨by decide +kernel, rfl⟩, fD_12_11⟩
theorem eD_house_58 : pd_ic mD_house 58 0 59 := Or.inl ⟨by decide +kernel, rfl⟩
theorem eD_house_59 : pd_pf mD_house 59 10 1 .int 62 := ⟨90, ⟨by decide +kernel, rfl⟩, fD_90_10, Or.inl ⟨_, rfl⟩⟩
theorem eD_house_62 : pd_al mD_house 62 0 63 := Or.inl ⟨0, rfl, by decide +kernel, rfl⟩
theorem eD_house_63 : pd_ic mD_house 63 0 64 := Or.inl ⟨by decide +kernel, rfl⟩
theorem eD_house_64 : pd_pf mD_house 64 11 13 .int 67 := ⟨108, ⟨by decide +kernel, rfl⟩, fD_108_11, Or.inl ⟨_, rfl⟩⟩
theorem eD_house_67 : pd_al mD_house 67 0 68 := Or.inl ⟨0, rfl, by decide +kernel, rfl⟩
theorem eD_house_68 : pd_ic mD_house 68 0 69 := Or.inl ⟨by decide +kernel, rfl⟩
theorem eD_house_69 : pd_pf mD_house 69 11 14 .int 72 := ⟨111, ⟨by decide +kernel, rfl⟩, fD_111_11, Or.inl ⟨_, rfl⟩⟩
theorem eD_house_72 : pd_ic mD_house 72 0 73 := Or.inl ⟨by decide +kernel, rfl⟩
theorem eD_house_73 : pd_is mD_house 73 3 74 := ⟨by decide, Or.inl ⟨3, rfl, by decide +kernel, rfl⟩⟩
theorem eD_house_74 : pd_il mD_house 74 3 75 := Or.inl ⟨3, rfl, by decide +kernel, rfl⟩
theorem eD_house_75 : pd_ic mD_house 75 2 76 := Or.inl ⟨by decide +kernel, rfl⟩
theorem eD_house_76 : pd_b2 mD_house 76 .ge 79 92 := ⟨16, ⟨by decide +kernel, rfl⟩, by decide⟩
theorem eD_house_79 : pd_al mD_house 79 0 80 := Or.inl ⟨0, rfl, by decide +kernel, rfl⟩
theorem eD_house_80 : pd_gf mD_house 80 11 3 83 := ⟨27, _, ⟨by decide +kernel, rfl⟩, fD_27_11⟩
theorem eD_house_83 : pd_il mD_house 83 3 84 := Or.inl ⟨3, rfl, by decide +kernel, rfl⟩
theorem eD_house_84 : pd_ic mD_house 84 0 85 := Or.inl ⟨by decide +kernel, rfl⟩
theorem eD_house_85 : pd_i mD_house 85 (.bastore) 1 86 := ⟨by decide +kernel, rfl⟩
theorem eD_house_86 : pd_ii mD_house 86 3 1 89 := ⟨by decide, by decide +kernel, rfl⟩
theorem eD_house_89 : pd_go mD_house 89 74 := ⟨-15, by decide +kernel, by decide⟩
theorem eD_house_92 : pd_il mD_house 92 1 93 := Or.inl ⟨1, rfl, by decide +kernel, rfl⟩
theorem eD_house_93 {z : Int} : pd_rd mD_house 93 (some (vi z)) := (by decide +kernel : decode mD_house.2.1 93 = .ok (.ireturn, 1))
theorem eD_good_0 : pd_al mD_good 0 0 1 := Or.inl ⟨0, rfl, by decide +kernel, rfl⟩
theorem eD_good_1 : pd_gf mD_good 1 11 11 4 := ⟨79, _, ⟨by decide +kernel, rfl⟩, fD_79_11⟩
theorem eD_good_4 : pd_il mD_good 4 1 5 := Or.inl ⟨1, rfl, by decide +kernel, rfl⟩
theorem eD_good_5 : pd_kv mD_good 5 mH_has 1 8 := ⟨114, ⟨by decide +kernel, rfl⟩, (pd_m 455 (by decide +kernel) (by decide +kernel)), (pd_m 447 (by decide +kernel) (by decide +kernel)), (pd_m 448 (by decide +kernel) (by decide +kernel)), kH_has⟩
theorem eD_good_8 : pd_b1 mD_good 8 .ne 11 13 := ⟨5, ⟨by decide +kernel, rfl⟩, by decide⟩
theorem eD_good_11 : pd_ic mD_good 11 (-1) 12 := Or.inl ⟨by decide +kernel, rfl⟩
theorem eD_good_12 {z : Int} : pd_rd mD_good 12 (some (vi z)) := (by decide +kernel : decode mD_good.2.1 12 = .ok (.ireturn, 1))
theorem eD_good_13 : pd_il mD_good 13 2 14 := Or.inl ⟨2, rfl, by decide +kernel, rfl⟩
theorem eD_good_14 : pd_i mD_good 14 (.tableswitch 124 0 6 #[42, 52, 62, 72, 82, 95, 108]) 42 56 := ⟨by decide +kernel, rfl⟩
theorem eD_good_56 : pd_al mD_good 56 0 57 := Or.inl ⟨0, rfl, by decide +kernel, rfl⟩
theorem eD_good_57 : pd_gf mD_good 57 11 11 60 := ⟨79, _, ⟨by decide +kernel, rfl⟩, fD_79_11⟩
theorem eD_good_60 : pd_gf mD_good 60 4 0 63 := ⟨118, _, ⟨by decide +kernel, rfl⟩, fD_118_4⟩
theorem eD_good_63 : pd_il mD_good 63 1 64 := Or.inl ⟨1, rfl, by decide +kernel, rfl⟩
theorem eD_good_64 : pd_i mD_good 64 (.iaload) 1 65 := ⟨by decide +kernel, rfl⟩
theorem eD_good_65 {z : Int} : pd_rd mD_good 65 (some (vi z)) := (by decide +kernel : decode mD_good.2.1 65 = .ok (.ireturn, 1))
theorem eD_good_66 : pd_al mD_good 66 0 67 := Or.inl ⟨0, rfl, by decide +kernel, rfl⟩
theorem eD_good_67 : pd_gf mD_good 67 11 11 70 := ⟨79, _, ⟨by decide +kernel, rfl⟩, fD_79_11⟩
theorem eD_good_70 : pd_gf mD_good 70 4 1 73 := ⟨121, _, ⟨by decide +kernel, rfl⟩, fD_121_4⟩
theorem eD_good_73 : pd_il mD_good 73 1 74 := Or.inl ⟨1, rfl, by decide +kernel, rfl⟩
theorem eD_good_74 : pd_i mD_good 74 (.iaload) 1 75 := ⟨by decide +kernel, rfl⟩
theorem eD_good_75 {z : Int} : pd_rd mD_good 75 (some (vi z)) := (by decide +kernel : decode mD_good.2.1 75 = .ok (.ireturn, 1))
theorem eD_good_76 : pd_al mD_good 76 0 77 := Or.inl ⟨0, rfl, by decide +kernel, rfl⟩
theorem eD_good_77 : pd_gf mD_good 77 11 11 80 := ⟨79, _, ⟨by decide +kernel, rfl⟩, fD_79_11⟩
theorem eD_good_80 : pd_gf mD_good 80 4 2 83 := ⟨124, _, ⟨by decide +kernel, rfl⟩, fD_124_4⟩
theorem eD_good_83 : pd_il mD_good 83 1 84 := Or.inl ⟨1, rfl, by decide +kernel, rfl⟩
theorem eD_good_84 : pd_i mD_good 84 (.iaload) 1 85 := ⟨by decide +kernel, rfl⟩
theorem eD_good_85 {z : Int} : pd_rd mD_good 85 (some (vi z)) := (by decide +kernel : decode mD_good.2.1 85 = .ok (.ireturn, 1))
theorem eD_good_86 : pd_al mD_good 86 0 87 := Or.inl ⟨0, rfl, by decide +kernel, rfl⟩
theorem eD_good_87 : pd_gf mD_good 87 11 11 90 := ⟨79, _, ⟨by decide +kernel, rfl⟩, fD_79_11⟩
theorem eD_good_90 : pd_gf mD_good 90 4 3 93 := ⟨127, _, ⟨by decide +kernel, rfl⟩, fD_127_4⟩
theorem eD_good_93 : pd_il mD_good 93 1 94 := Or.inl ⟨1, rfl, by decide +kernel, rfl⟩
theorem eD_good_94 : pd_i mD_good 94 (.iaload) 1 95 := ⟨by decide +kernel, rfl⟩
theorem eD_good_95 {z : Int} : pd_rd mD_good 95 (some (vi z)) := (by decide +kernel : decode mD_good.2.1 95 = .ok (.ireturn, 1))
theorem eD_good_96 : pd_al mD_good 96 0 97 := Or.inl ⟨0, rfl, by decide +kernel, rfl⟩
theorem eD_good_97 : pd_gf mD_good 97 11 1 100 := ⟨19, _, ⟨by decide +kernel, rfl⟩, fD_19_11⟩
theorem eD_good_100 : pd_gf mD_good 100 6 0 103 := ⟨130, _, ⟨by decide +kernel, rfl⟩, fD_130_6⟩
theorem eD_good_103 : pd_gf mD_good 103 8 0 106 := ⟨134, _, ⟨by decide +kernel, rfl⟩, fD_134_8⟩
theorem eD_good_106 : pd_il mD_good 106 1 107 := Or.inl ⟨1, rfl, by decide +kernel, rfl⟩
theorem eD_good_107 : pd_i mD_good 107 (.iaload) 1 108 := ⟨by decide +kernel, rfl⟩
theorem eD_good_108 {z : Int} : pd_rd mD_good 108 (some (vi z)) := (by decide +kernel : decode mD_good.2.1 108 = .ok (.ireturn, 1))
theorem eD_good_109 : pd_al mD_good 109 0 110 := Or.inl ⟨0, rfl, by decide +kernel, rfl⟩
theorem eD_good_110 : pd_gf mD_good 110 11 1 113 := ⟨19, _, ⟨by decide +kernel, rfl⟩, fD_19_11⟩
theorem eD_good_113 : pd_gf mD_good 113 6 0 116 := ⟨130, _, ⟨by decide +kernel, rfl⟩, fD_130_6⟩
theorem eD_good_116 : pd_gf mD_good 116 8 1 119 := ⟨139, _, ⟨by decide +kernel, rfl⟩, fD_139_8⟩
theorem eD_good_119 : pd_il mD_good 119 1 120 := Or.inl ⟨1, rfl, by decide +kernel, rfl⟩
theorem eD_good_120 : pd_i mD_good 120 (.iaload) 1 121 := ⟨by decide +kernel, rfl⟩
theorem eD_good_121 {z : Int} : pd_rd mD_good 121 (some (vi z)) := (by decide +kernel : decode mD_good.2.1 121 = .ok (.ireturn, 1))
theorem eD_good_122 : pd_al mD_good 122 0 123 := Or.inl ⟨0, rfl, by decide +kernel, rfl⟩
theorem eD_good_123 : pd_gf mD_good 123 11 1 126 := ⟨19, _, ⟨by decide +kernel, rfl⟩, fD_19_11⟩
theorem eD_good_126 : pd_gf mD_good 126 6 0 129 := ⟨130, _, ⟨by decide +kernel, rfl⟩, fD_130_6⟩
theorem eD_good_129 : pd_al mD_good 129 0 130 := Or.inl ⟨0, rfl, by decide +kernel, rfl⟩
theorem eD_good_130 : pd_gf mD_good 130 11 11 133 := ⟨79, _, ⟨by decide +kernel, rfl⟩, fD_79_11⟩
theorem eD_good_133 : pd_il mD_good 133 1 134 := Or.inl ⟨1, rfl, by decide +kernel, rfl⟩
theorem eD_good_134 : pd_kv mD_good 134 mS_open 2 137 := ⟨142, ⟨by decide +kernel, rfl⟩, (pd_m 456 (by decide +kernel) (by decide +kernel)), (pd_m 457 (by decide +kernel) (by decide +kernel)), (pd_m 458 (by decide +kernel) (by decide +kernel)), kS_open⟩
theorem eD_good_137 {z : Int} : pd_rd mD_good 137 (some (vi z)) := (by decide +kernel : decode mD_good.2.1 137 = .ok (.ireturn, 1))
theorem eD_good_138 : pd_ic mD_good 138 (-1) 139 := Or.inl ⟨by decide +kernel, rfl⟩
theorem eD_good_139 {z : Int} : pd_rd mD_good 139 (some (vi z)) := (by decide +kernel : decode mD_good.2.1 139 = .ok (.ireturn, 1))
theorem eD_day_0 : pd_il mD_day 0 1 1 := Or.inl ⟨1, rfl, by decide +kernel, rfl⟩
theorem eD_day_1 : pd_ic mD_day 1 0 2 := Or.inl ⟨by decide +kernel, rfl⟩
theorem eD_day_2 : pd_ic mD_day 2 19 4 := Or.inr (Or.inl ⟨⟨by decide +kernel, rfl⟩, by decide⟩)
theorem eD_day_4 : pd_ks mD_day 4 mD_within 3 7 := ⟨86, ⟨by decide +kernel, rfl⟩, Or.inl (pd_m 356 (by decide +kernel) (by decide +kernel)), (pd_m 357 (by decide +kernel) (by decide +kernel)), kD_within⟩
theorem eD_day_7 : pd_b1 mD_day 7 .eq 10 21 := ⟨14, ⟨by decide +kernel, rfl⟩, by decide⟩
theorem eD_day_10 : pd_al mD_day 10 0 11 := Or.inl ⟨0, rfl, by decide +kernel, rfl⟩
theorem eD_day_11 : pd_gf mD_day 11 11 11 14 := ⟨79, _, ⟨by decide +kernel, rfl⟩, fD_79_11⟩
theorem eD_day_14 : pd_il mD_day 14 2 15 := Or.inl ⟨2, rfl, by decide +kernel, rfl⟩
theorem eD_day_15 : pd_kv mD_day 15 mH_has 1 18 := ⟨114, ⟨by decide +kernel, rfl⟩, (pd_m 455 (by decide +kernel) (by decide +kernel)), (pd_m 447 (by decide +kernel) (by decide +kernel)), (pd_m 448 (by decide +kernel) (by decide +kernel)), kH_has⟩
theorem eD_day_18 : pd_b1 mD_day 18 .ne 21 23 := ⟨5, ⟨by decide +kernel, rfl⟩, by decide⟩
theorem eD_day_21 : pd_ic mD_day 21 (-1) 22 := Or.inl ⟨by decide +kernel, rfl⟩
theorem eD_day_22 {z : Int} : pd_rd mD_day 22 (some (vi z)) := (by decide +kernel : decode mD_day.2.1 22 = .ok (.ireturn, 1))
theorem eD_day_23 : pd_il mD_day 23 3 24 := Or.inl ⟨3, rfl, by decide +kernel, rfl⟩
theorem eD_day_24 : pd_i mD_day 24 (.tableswitch 73 0 2 #[28, 42, 56]) 28 52 := ⟨by decide +kernel, rfl⟩
theorem eD_day_52 : pd_al mD_day 52 0 53 := Or.inl ⟨0, rfl, by decide +kernel, rfl⟩
theorem eD_day_53 : pd_gf mD_day 53 11 11 56 := ⟨79, _, ⟨by decide +kernel, rfl⟩, fD_79_11⟩
theorem eD_day_56 : pd_gf mD_day 56 4 4 59 := ⟨146, _, ⟨by decide +kernel, rfl⟩, fD_146_4⟩
theorem eD_day_59 : pd_il mD_day 59 1 60 := Or.inl ⟨1, rfl, by decide +kernel, rfl⟩
theorem eD_day_60 : pd_ic mD_day 60 4 61 := Or.inl ⟨by decide +kernel, rfl⟩
theorem eD_day_61 : pd_i mD_day 61 (.imul) 1 62 := ⟨by decide +kernel, rfl⟩
theorem eD_day_62 : pd_il mD_day 62 2 63 := Or.inl ⟨2, rfl, by decide +kernel, rfl⟩
theorem eD_day_63 : pd_i mD_day 63 (.iadd) 1 64 := ⟨by decide +kernel, rfl⟩
theorem eD_day_64 : pd_i mD_day 64 (.iaload) 1 65 := ⟨by decide +kernel, rfl⟩
theorem eD_day_65 {z : Int} : pd_rd mD_day 65 (some (vi z)) := (by decide +kernel : decode mD_day.2.1 65 = .ok (.ireturn, 1))
theorem eD_day_66 : pd_al mD_day 66 0 67 := Or.inl ⟨0, rfl, by decide +kernel, rfl⟩
theorem eD_day_67 : pd_gf mD_day 67 11 11 70 := ⟨79, _, ⟨by decide +kernel, rfl⟩, fD_79_11⟩
theorem eD_day_70 : pd_gf mD_day 70 4 5 73 := ⟨149, _, ⟨by decide +kernel, rfl⟩, fD_149_4⟩
theorem eD_day_73 : pd_il mD_day 73 1 74 := Or.inl ⟨1, rfl, by decide +kernel, rfl⟩
theorem eD_day_74 : pd_ic mD_day 74 4 75 := Or.inl ⟨by decide +kernel, rfl⟩
theorem eD_day_75 : pd_i mD_day 75 (.imul) 1 76 := ⟨by decide +kernel, rfl⟩
theorem eD_day_76 : pd_il mD_day 76 2 77 := Or.inl ⟨2, rfl, by decide +kernel, rfl⟩
theorem eD_day_77 : pd_i mD_day 77 (.iadd) 1 78 := ⟨by decide +kernel, rfl⟩
theorem eD_day_78 : pd_i mD_day 78 (.iaload) 1 79 := ⟨by decide +kernel, rfl⟩
theorem eD_day_79 {z : Int} : pd_rd mD_day 79 (some (vi z)) := (by decide +kernel : decode mD_day.2.1 79 = .ok (.ireturn, 1))
theorem eD_day_80 : pd_al mD_day 80 0 81 := Or.inl ⟨0, rfl, by decide +kernel, rfl⟩
theorem eD_day_81 : pd_gf mD_day 81 11 1 84 := ⟨19, _, ⟨by decide +kernel, rfl⟩, fD_19_11⟩
theorem eD_day_84 : pd_gf mD_day 84 6 0 87 := ⟨130, _, ⟨by decide +kernel, rfl⟩, fD_130_6⟩
theorem eD_day_87 : pd_gf mD_day 87 8 2 90 := ⟨152, _, ⟨by decide +kernel, rfl⟩, fD_152_8⟩
theorem eD_day_90 : pd_il mD_day 90 1 91 := Or.inl ⟨1, rfl, by decide +kernel, rfl⟩
theorem eD_day_91 : pd_ic mD_day 91 4 92 := Or.inl ⟨by decide +kernel, rfl⟩
theorem eD_day_92 : pd_i mD_day 92 (.imul) 1 93 := ⟨by decide +kernel, rfl⟩
theorem eD_day_93 : pd_il mD_day 93 2 94 := Or.inl ⟨2, rfl, by decide +kernel, rfl⟩
theorem eD_day_94 : pd_i mD_day 94 (.iadd) 1 95 := ⟨by decide +kernel, rfl⟩
theorem eD_day_95 : pd_i mD_day 95 (.iaload) 1 96 := ⟨by decide +kernel, rfl⟩
theorem eD_day_96 {z : Int} : pd_rd mD_day 96 (some (vi z)) := (by decide +kernel : decode mD_day.2.1 96 = .ok (.ireturn, 1))
theorem eD_day_97 : pd_ic mD_day 97 (-1) 98 := Or.inl ⟨by decide +kernel, rfl⟩
theorem eD_day_98 {z : Int} : pd_rd mD_day 98 (some (vi z)) := (by decide +kernel : decode mD_day.2.1 98 = .ok (.ireturn, 1))
theorem eD_goes_0 : pd_al mD_goes 0 0 1 := Or.inl ⟨0, rfl, by decide +kernel, rfl⟩
theorem eD_goes_1 : pd_gf mD_goes 1 11 1 4 := ⟨19, _, ⟨by decide +kernel, rfl⟩, fD_19_11⟩
theorem eD_goes_4 : pd_gf mD_goes 4 6 0 7 := ⟨130, _, ⟨by decide +kernel, rfl⟩, fD_130_6⟩
theorem eD_goes_7 : pd_gf mD_goes 7 8 3 10 := ⟨155, _, ⟨by decide +kernel, rfl⟩, fD_155_8⟩
theorem eD_goes_10 : pd_ic mD_goes 10 20 12 := Or.inr (Or.inl ⟨⟨by decide +kernel, rfl⟩, by decide⟩)
theorem eD_goes_12 : pd_b2 mD_goes 12 .lt 15 18 := ⟨6, ⟨by decide +kernel, rfl⟩, by decide⟩
theorem eD_goes_15 : pd_ic mD_goes 15 (-2) 17 := Or.inr (Or.inl ⟨⟨by decide +kernel, rfl⟩, by decide⟩)
theorem eD_goes_17 {z : Int} : pd_rd mD_goes 17 (some (vi z)) := (by decide +kernel : decode mD_goes.2.1 17 = .ok (.ireturn, 1))
theorem eD_goes_18 : pd_al mD_goes 18 0 19 := Or.inl ⟨0, rfl, by decide +kernel, rfl⟩
theorem eD_goes_19 : pd_gf mD_goes 19 11 1 22 := ⟨19, _, ⟨by decide +kernel, rfl⟩, fD_19_11⟩
theorem eD_goes_22 : pd_kv mD_goes 22 mL_remember 0 25 := ⟨158, ⟨by decide +kernel, rfl⟩, (pd_m 479 (by decide +kernel) (by decide +kernel)), (pd_m 480 (by decide +kernel) (by decide +kernel)), (pd_m 481 (by decide +kernel) (by decide +kernel)), kL_remember⟩
theorem eD_goes_25 : pd_al mD_goes 25 0 26 := Or.inl ⟨0, rfl, by decide +kernel, rfl⟩
theorem eD_goes_26 : pd_gf mD_goes 26 11 1 29 := ⟨19, _, ⟨by decide +kernel, rfl⟩, fD_19_11⟩
theorem eD_goes_29 : pd_gf mD_goes 29 6 0 32 := ⟨130, _, ⟨by decide +kernel, rfl⟩, fD_130_6⟩
theorem eD_goes_32 : pd_al mD_goes 32 0 33 := Or.inl ⟨0, rfl, by decide +kernel, rfl⟩
theorem eD_goes_33 : pd_gf mD_goes 33 11 11 36 := ⟨79, _, ⟨by decide +kernel, rfl⟩, fD_79_11⟩
theorem eD_goes_36 : pd_kv mD_goes 36 mS_pass 1 39 := ⟨161, ⟨by decide +kernel, rfl⟩, (pd_m 494 (by decide +kernel) (by decide +kernel)), (pd_m 495 (by decide +kernel) (by decide +kernel)), (pd_m 496 (by decide +kernel) (by decide +kernel)), kS_pass⟩
theorem eD_goes_39 {z : Int} : pd_rd mD_goes 39 (some (vi z)) := (by decide +kernel : decode mD_goes.2.1 39 = .ok (.ireturn, 1))
theorem eD_takes_0 : pd_al mD_takes 0 0 1 := Or.inl ⟨0, rfl, by decide +kernel, rfl⟩
theorem eD_takes_1 : pd_gf mD_takes 1 11 11 4 := ⟨79, _, ⟨by decide +kernel, rfl⟩, fD_79_11⟩
theorem eD_takes_4 : pd_il mD_takes 4 1 5 := Or.inl ⟨1, rfl, by decide +kernel, rfl⟩
theorem eD_takes_5 : pd_kv mD_takes 5 mH_has 1 8 := ⟨114, ⟨by decide +kernel, rfl⟩, (pd_m 455 (by decide +kernel) (by decide +kernel)), (pd_m 447 (by decide +kernel) (by decide +kernel)), (pd_m 448 (by decide +kernel) (by decide +kernel)), kH_has⟩
theorem eD_takes_8 : pd_b1 mD_takes 8 .eq 11 21 := ⟨13, ⟨by decide +kernel, rfl⟩, by decide⟩
theorem eD_takes_11 : pd_il mD_takes 11 2 12 := Or.inl ⟨2, rfl, by decide +kernel, rfl⟩
theorem eD_takes_12 : pd_ic mD_takes 12 1 13 := Or.inl ⟨by decide +kernel, rfl⟩
theorem eD_takes_13 : pd_ic mD_takes 13 30 15 := Or.inr (Or.inl ⟨⟨by decide +kernel, rfl⟩, by decide⟩)
theorem eD_takes_15 : pd_ks mD_takes 15 mD_within 3 18 := ⟨86, ⟨by decide +kernel, rfl⟩, Or.inl (pd_m 356 (by decide +kernel) (by decide +kernel)), (pd_m 357 (by decide +kernel) (by decide +kernel)), kD_within⟩
theorem eD_takes_18 : pd_b1 mD_takes 18 .ne 21 23 := ⟨5, ⟨by decide +kernel, rfl⟩, by decide⟩
theorem eD_takes_21 : pd_ic mD_takes 21 (-1) 22 := Or.inl ⟨by decide +kernel, rfl⟩
theorem eD_takes_22 {z : Int} : pd_rd mD_takes 22 (some (vi z)) := (by decide +kernel : decode mD_takes.2.1 22 = .ok (.ireturn, 1))
theorem eD_takes_23 : pd_al mD_takes 23 0 24 := Or.inl ⟨0, rfl, by decide +kernel, rfl⟩
theorem eD_takes_24 : pd_gf mD_takes 24 11 1 27 := ⟨19, _, ⟨by decide +kernel, rfl⟩, fD_19_11⟩
theorem eD_takes_27 : pd_gf mD_takes 27 6 0 30 := ⟨130, _, ⟨by decide +kernel, rfl⟩, fD_130_6⟩
theorem eD_takes_30 : pd_al mD_takes 30 0 31 := Or.inl ⟨0, rfl, by decide +kernel, rfl⟩
theorem eD_takes_31 : pd_gf mD_takes 31 11 11 34 := ⟨79, _, ⟨by decide +kernel, rfl⟩, fD_79_11⟩
theorem eD_takes_34 : pd_kv mD_takes 34 mS_leads 1 37 := ⟨164, ⟨by decide +kernel, rfl⟩, (pd_m 504 (by decide +kernel) (by decide +kernel)), (pd_m 505 (by decide +kernel) (by decide +kernel)), (pd_m 506 (by decide +kernel) (by decide +kernel)), kS_leads⟩
theorem eD_takes_37 : pd_is mD_takes 37 3 38 := ⟨by decide, Or.inl ⟨3, rfl, by decide +kernel, rfl⟩⟩
theorem eD_takes_38 : pd_il mD_takes 38 3 39 := Or.inl ⟨3, rfl, by decide +kernel, rfl⟩
theorem eD_takes_39 : pd_ic mD_takes 39 (-9) 41 := Or.inr (Or.inl ⟨⟨by decide +kernel, rfl⟩, by decide⟩)
theorem eD_takes_41 : pd_b2 mD_takes 41 .eq 44 63 := ⟨22, ⟨by decide +kernel, rfl⟩, by decide⟩
theorem eD_takes_44 : pd_il mD_takes 44 2 45 := Or.inl ⟨2, rfl, by decide +kernel, rfl⟩
theorem eD_takes_45 : pd_al mD_takes 45 0 46 := Or.inl ⟨0, rfl, by decide +kernel, rfl⟩
theorem eD_takes_46 : pd_gf mD_takes 46 11 1 49 := ⟨19, _, ⟨by decide +kernel, rfl⟩, fD_19_11⟩
theorem eD_takes_49 : pd_gf mD_takes 49 6 0 52 := ⟨130, _, ⟨by decide +kernel, rfl⟩, fD_130_6⟩
theorem eD_takes_52 : pd_al mD_takes 52 0 53 := Or.inl ⟨0, rfl, by decide +kernel, rfl⟩
theorem eD_takes_53 : pd_gf mD_takes 53 11 11 56 := ⟨79, _, ⟨by decide +kernel, rfl⟩, fD_79_11⟩
theorem eD_takes_56 : pd_il mD_takes 56 1 57 := Or.inl ⟨1, rfl, by decide +kernel, rfl⟩
theorem eD_takes_57 : pd_kv mD_takes 57 mS_open 2 60 := ⟨142, ⟨by decide +kernel, rfl⟩, (pd_m 456 (by decide +kernel) (by decide +kernel)), (pd_m 457 (by decide +kernel) (by decide +kernel)), (pd_m 458 (by decide +kernel) (by decide +kernel)), kS_open⟩
theorem eD_takes_60 : pd_b2 mD_takes 60 .le 63 66 := ⟨6, ⟨by decide +kernel, rfl⟩, by decide⟩
theorem eD_takes_63 : pd_ic mD_takes 63 (-2) 65 := Or.inr (Or.inl ⟨⟨by decide +kernel, rfl⟩, by decide⟩)
theorem eD_takes_65 {z : Int} : pd_rd mD_takes 65 (some (vi z)) := (by decide +kernel : decode mD_takes.2.1 65 = .ok (.ireturn, 1))
theorem eD_takes_66 : pd_al mD_takes 66 0 67 := Or.inl ⟨0, rfl, by decide +kernel, rfl⟩
theorem eD_takes_67 : pd_gf mD_takes 67 11 1 70 := ⟨19, _, ⟨by decide +kernel, rfl⟩, fD_19_11⟩
theorem eD_takes_70 : pd_kv mD_takes 70 mL_remember 0 73 := ⟨158, ⟨by decide +kernel, rfl⟩, (pd_m 479 (by decide +kernel) (by decide +kernel)), (pd_m 480 (by decide +kernel) (by decide +kernel)), (pd_m 481 (by decide +kernel) (by decide +kernel)), kL_remember⟩
theorem eD_takes_73 : pd_al mD_takes 73 0 74 := Or.inl ⟨0, rfl, by decide +kernel, rfl⟩
theorem eD_takes_74 : pd_gf mD_takes 74 11 1 77 := ⟨19, _, ⟨by decide +kernel, rfl⟩, fD_19_11⟩
theorem eD_takes_77 : pd_gf mD_takes 77 6 0 80 := ⟨130, _, ⟨by decide +kernel, rfl⟩, fD_130_6⟩
theorem eD_takes_80 : pd_gf mD_takes 80 8 2 83 := ⟨152, _, ⟨by decide +kernel, rfl⟩, fD_152_8⟩
theorem eD_takes_83 : pd_il mD_takes 83 3 84 := Or.inl ⟨3, rfl, by decide +kernel, rfl⟩
theorem eD_takes_84 : pd_ic mD_takes 84 4 85 := Or.inl ⟨by decide +kernel, rfl⟩
theorem eD_takes_85 : pd_i mD_takes 85 (.imul) 1 86 := ⟨by decide +kernel, rfl⟩
theorem eD_takes_86 : pd_il mD_takes 86 1 87 := Or.inl ⟨1, rfl, by decide +kernel, rfl⟩
theorem eD_takes_87 : pd_i mD_takes 87 (.iadd) 1 88 := ⟨by decide +kernel, rfl⟩
theorem eD_takes_88 : pd_i mD_takes 88 (.dup2) 1 89 := ⟨by decide +kernel, rfl⟩
theorem eD_takes_89 : pd_i mD_takes 89 (.iaload) 1 90 := ⟨by decide +kernel, rfl⟩
theorem eD_takes_90 : pd_il mD_takes 90 2 91 := Or.inl ⟨2, rfl, by decide +kernel, rfl⟩
theorem eD_takes_91 : pd_i mD_takes 91 (.iadd) 1 92 := ⟨by decide +kernel, rfl⟩
theorem eD_takes_92 : pd_i mD_takes 92 (.iastore) 1 93 := ⟨by decide +kernel, rfl⟩
theorem eD_takes_93 : pd_al mD_takes 93 0 94 := Or.inl ⟨0, rfl, by decide +kernel, rfl⟩
theorem eD_takes_94 : pd_gf mD_takes 94 11 1 97 := ⟨19, _, ⟨by decide +kernel, rfl⟩, fD_19_11⟩
theorem eD_takes_97 : pd_gf mD_takes 97 6 0 100 := ⟨130, _, ⟨by decide +kernel, rfl⟩, fD_130_6⟩
theorem eD_takes_100 : pd_il mD_takes 100 1 101 := Or.inl ⟨1, rfl, by decide +kernel, rfl⟩
theorem eD_takes_101 : pd_il mD_takes 101 2 102 := Or.inl ⟨2, rfl, by decide +kernel, rfl⟩
theorem eD_takes_102 : pd_kv mD_takes 102 mS_add 2 105 := ⟨167, ⟨by decide +kernel, rfl⟩, (pd_m 508 (by decide +kernel) (by decide +kernel)), (pd_m 509 (by decide +kernel) (by decide +kernel)), (pd_m 510 (by decide +kernel) (by decide +kernel)), kS_add⟩
theorem eD_takes_105 {z : Int} : pd_rd mD_takes 105 (some (vi z)) := (by decide +kernel : decode mD_takes.2.1 105 = .ok (.ireturn, 1))
theorem eD_buys_0 : pd_al mD_buys 0 0 1 := Or.inl ⟨0, rfl, by decide +kernel, rfl⟩
theorem eD_buys_1 : pd_gf mD_buys 1 11 11 4 := ⟨79, _, ⟨by decide +kernel, rfl⟩, fD_79_11⟩
theorem eD_buys_4 : pd_il mD_buys 4 1 5 := Or.inl ⟨1, rfl, by decide +kernel, rfl⟩
theorem eD_buys_5 : pd_kv mD_buys 5 mH_has 1 8 := ⟨114, ⟨by decide +kernel, rfl⟩, (pd_m 455 (by decide +kernel) (by decide +kernel)), (pd_m 447 (by decide +kernel) (by decide +kernel)), (pd_m 448 (by decide +kernel) (by decide +kernel)), kH_has⟩
theorem eD_buys_8 : pd_b1 mD_buys 8 .eq 11 21 := ⟨13, ⟨by decide +kernel, rfl⟩, by decide⟩
theorem eD_buys_11 : pd_il mD_buys 11 2 12 := Or.inl ⟨2, rfl, by decide +kernel, rfl⟩
theorem eD_buys_12 : pd_ic mD_buys 12 1 13 := Or.inl ⟨by decide +kernel, rfl⟩
theorem eD_buys_13 : pd_ic mD_buys 13 9 15 := Or.inr (Or.inl ⟨⟨by decide +kernel, rfl⟩, by decide⟩)
theorem eD_buys_15 : pd_ks mD_buys 15 mD_within 3 18 := ⟨86, ⟨by decide +kernel, rfl⟩, Or.inl (pd_m 356 (by decide +kernel) (by decide +kernel)), (pd_m 357 (by decide +kernel) (by decide +kernel)), kD_within⟩
theorem eD_buys_18 : pd_b1 mD_buys 18 .ne 21 23 := ⟨5, ⟨by decide +kernel, rfl⟩, by decide⟩
theorem eD_buys_21 : pd_ic mD_buys 21 (-1) 22 := Or.inl ⟨by decide +kernel, rfl⟩
theorem eD_buys_22 {z : Int} : pd_rd mD_buys 22 (some (vi z)) := (by decide +kernel : decode mD_buys.2.1 22 = .ok (.ireturn, 1))
theorem eD_buys_23 : pd_al mD_buys 23 0 24 := Or.inl ⟨0, rfl, by decide +kernel, rfl⟩
theorem eD_buys_24 : pd_gf mD_buys 24 11 1 27 := ⟨19, _, ⟨by decide +kernel, rfl⟩, fD_19_11⟩
theorem eD_buys_27 : pd_gf mD_buys 27 6 0 30 := ⟨130, _, ⟨by decide +kernel, rfl⟩, fD_130_6⟩
theorem eD_buys_30 : pd_gf mD_buys 30 8 0 33 := ⟨134, _, ⟨by decide +kernel, rfl⟩, fD_134_8⟩
theorem eD_buys_33 : pd_il mD_buys 33 1 34 := Or.inl ⟨1, rfl, by decide +kernel, rfl⟩
theorem eD_buys_34 : pd_i mD_buys 34 (.iaload) 1 35 := ⟨by decide +kernel, rfl⟩
theorem eD_buys_35 : pd_ic mD_buys 35 999 38 := Or.inr (Or.inr (Or.inl ⟨⟨by decide +kernel, rfl⟩, by decide⟩))
theorem eD_buys_38 : pd_b2 mD_buys 38 .lt 41 44 := ⟨6, ⟨by decide +kernel, rfl⟩, by decide⟩
theorem eD_buys_41 : pd_ic mD_buys 41 (-2) 43 := Or.inr (Or.inl ⟨⟨by decide +kernel, rfl⟩, by decide⟩)
theorem eD_buys_43 {z : Int} : pd_rd mD_buys 43 (some (vi z)) := (by decide +kernel : decode mD_buys.2.1 43 = .ok (.ireturn, 1))
theorem eD_buys_44 : pd_al mD_buys 44 0 45 := Or.inl ⟨0, rfl, by decide +kernel, rfl⟩
theorem eD_buys_45 : pd_gf mD_buys 45 11 1 48 := ⟨19, _, ⟨by decide +kernel, rfl⟩, fD_19_11⟩
theorem eD_buys_48 : pd_kv mD_buys 48 mL_remember 0 51 := ⟨158, ⟨by decide +kernel, rfl⟩, (pd_m 479 (by decide +kernel) (by decide +kernel)), (pd_m 480 (by decide +kernel) (by decide +kernel)), (pd_m 481 (by decide +kernel) (by decide +kernel)), kL_remember⟩
theorem eD_buys_51 : pd_al mD_buys 51 0 52 := Or.inl ⟨0, rfl, by decide +kernel, rfl⟩
theorem eD_buys_52 : pd_gf mD_buys 52 11 1 55 := ⟨19, _, ⟨by decide +kernel, rfl⟩, fD_19_11⟩
theorem eD_buys_55 : pd_gf mD_buys 55 6 0 58 := ⟨130, _, ⟨by decide +kernel, rfl⟩, fD_130_6⟩
theorem eD_buys_58 : pd_il mD_buys 58 1 59 := Or.inl ⟨1, rfl, by decide +kernel, rfl⟩
theorem eD_buys_59 : pd_il mD_buys 59 2 60 := Or.inl ⟨2, rfl, by decide +kernel, rfl⟩
theorem eD_buys_60 : pd_kv mD_buys 60 mS_add 2 63 := ⟨167, ⟨by decide +kernel, rfl⟩, (pd_m 508 (by decide +kernel) (by decide +kernel)), (pd_m 509 (by decide +kernel) (by decide +kernel)), (pd_m 510 (by decide +kernel) (by decide +kernel)), kS_add⟩
theorem eD_buys_63 {z : Int} : pd_rd mD_buys 63 (some (vi z)) := (by decide +kernel : decode mD_buys.2.1 63 = .ok (.ireturn, 1))
theorem eD_holds_0 : pd_il mD_holds 0 1 1 := Or.inl ⟨1, rfl, by decide +kernel, rfl⟩
theorem eD_holds_1 : pd_ic mD_holds 1 0 2 := Or.inl ⟨by decide +kernel, rfl⟩
theorem eD_holds_2 : pd_ic mD_holds 2 1 3 := Or.inl ⟨by decide +kernel, rfl⟩
theorem eD_holds_3 : pd_ks mD_holds 3 mD_within 3 6 := ⟨86, ⟨by decide +kernel, rfl⟩, Or.inl (pd_m 356 (by decide +kernel) (by decide +kernel)), (pd_m 357 (by decide +kernel) (by decide +kernel)), kD_within⟩
theorem eD_holds_6 : pd_b1 mD_holds 6 .ne 9 11 := ⟨5, ⟨by decide +kernel, rfl⟩, by decide⟩
theorem eD_holds_9 : pd_ic mD_holds 9 (-1) 10 := Or.inl ⟨by decide +kernel, rfl⟩
theorem eD_holds_10 {z : Int} : pd_rd mD_holds 10 (some (vi z)) := (by decide +kernel : decode mD_holds.2.1 10 = .ok (.ireturn, 1))
theorem eD_holds_11 : pd_al mD_holds 11 0 12 := Or.inl ⟨0, rfl, by decide +kernel, rfl⟩
theorem eD_holds_12 : pd_gf mD_holds 12 11 1 15 := ⟨19, _, ⟨by decide +kernel, rfl⟩, fD_19_11⟩
theorem eD_holds_15 : pd_gf mD_holds 15 6 0 18 := ⟨130, _, ⟨by decide +kernel, rfl⟩, fD_130_6⟩
theorem eD_holds_18 : pd_gf mD_holds 18 8 4 21 := ⟨171, _, ⟨by decide +kernel, rfl⟩, fD_171_8⟩
theorem eD_holds_21 : pd_il mD_holds 21 1 22 := Or.inl ⟨1, rfl, by decide +kernel, rfl⟩
theorem eD_holds_22 : pd_ic mD_holds 22 1 23 := Or.inl ⟨by decide +kernel, rfl⟩
theorem eD_holds_23 : pd_b2 mD_holds 23 .ne 26 30 := ⟨7, ⟨by decide +kernel, rfl⟩, by decide⟩
theorem eD_holds_26 : pd_ic mD_holds 26 1 27 := Or.inl ⟨by decide +kernel, rfl⟩
theorem eD_holds_27 : pd_go mD_holds 27 31 := ⟨4, by decide +kernel, by decide⟩
theorem eD_holds_30 : pd_ic mD_holds 30 0 31 := Or.inl ⟨by decide +kernel, rfl⟩
theorem eD_holds_31 : pd_b2 mD_holds 31 .ne 34 37 := ⟨6, ⟨by decide +kernel, rfl⟩, by decide⟩
theorem eD_holds_34 : pd_ic mD_holds 34 (-2) 36 := Or.inr (Or.inl ⟨⟨by decide +kernel, rfl⟩, by decide⟩)
theorem eD_holds_36 {z : Int} : pd_rd mD_holds 36 (some (vi z)) := (by decide +kernel : decode mD_holds.2.1 36 = .ok (.ireturn, 1))
theorem eD_holds_37 : pd_al mD_holds 37 0 38 := Or.inl ⟨0, rfl, by decide +kernel, rfl⟩
theorem eD_holds_38 : pd_gf mD_holds 38 11 1 41 := ⟨19, _, ⟨by decide +kernel, rfl⟩, fD_19_11⟩
theorem eD_holds_41 : pd_kv mD_holds 41 mL_remember 0 44 := ⟨158, ⟨by decide +kernel, rfl⟩, (pd_m 479 (by decide +kernel) (by decide +kernel)), (pd_m 480 (by decide +kernel) (by decide +kernel)), (pd_m 481 (by decide +kernel) (by decide +kernel)), kL_remember⟩
theorem eD_holds_44 : pd_al mD_holds 44 0 45 := Or.inl ⟨0, rfl, by decide +kernel, rfl⟩
theorem eD_holds_45 : pd_gf mD_holds 45 11 1 48 := ⟨19, _, ⟨by decide +kernel, rfl⟩, fD_19_11⟩
theorem eD_holds_48 : pd_gf mD_holds 48 6 0 51 := ⟨130, _, ⟨by decide +kernel, rfl⟩, fD_130_6⟩
theorem eD_holds_51 : pd_il mD_holds 51 1 52 := Or.inl ⟨1, rfl, by decide +kernel, rfl⟩
theorem eD_holds_52 : pd_ic mD_holds 52 1 53 := Or.inl ⟨by decide +kernel, rfl⟩
theorem eD_holds_53 : pd_b2 mD_holds 53 .ne 56 60 := ⟨7, ⟨by decide +kernel, rfl⟩, by decide⟩
theorem eD_holds_56 : pd_ic mD_holds 56 1 57 := Or.inl ⟨by decide +kernel, rfl⟩
theorem eD_holds_57 : pd_go mD_holds 57 61 := ⟨4, by decide +kernel, by decide⟩
theorem eD_holds_60 : pd_ic mD_holds 60 0 61 := Or.inl ⟨by decide +kernel, rfl⟩
theorem eD_holds_61 : pd_pf mD_holds 61 8 4 .boolean 64 := ⟨171, ⟨by decide +kernel, rfl⟩, fD_171_8, Or.inl ⟨_, rfl⟩⟩
theorem eD_holds_64 : pd_al mD_holds 64 0 65 := Or.inl ⟨0, rfl, by decide +kernel, rfl⟩
theorem eD_holds_65 : pd_gf mD_holds 65 11 1 68 := ⟨19, _, ⟨by decide +kernel, rfl⟩, fD_19_11⟩
theorem eD_holds_68 : pd_gf mD_holds 68 6 0 71 := ⟨130, _, ⟨by decide +kernel, rfl⟩, fD_130_6⟩
theorem eD_holds_71 : pd_al mD_holds 71 0 72 := Or.inl ⟨0, rfl, by decide +kernel, rfl⟩
theorem eD_holds_72 : pd_gf mD_holds 72 11 11 75 := ⟨79, _, ⟨by decide +kernel, rfl⟩, fD_79_11⟩
theorem eD_holds_75 : pd_kv mD_holds 75 mS_leads 1 78 := ⟨164, ⟨by decide +kernel, rfl⟩, (pd_m 504 (by decide +kernel) (by decide +kernel)), (pd_m 505 (by decide +kernel) (by decide +kernel)), (pd_m 506 (by decide +kernel) (by decide +kernel)), kS_leads⟩
theorem eD_holds_78 {z : Int} : pd_rd mD_holds 78 (some (vi z)) := (by decide +kernel : decode mD_holds.2.1 78 = .ok (.ireturn, 1))
theorem eD_undo_0 : pd_al mD_undo 0 0 1 := Or.inl ⟨0, rfl, by decide +kernel, rfl⟩
theorem eD_undo_1 : pd_gf mD_undo 1 11 1 4 := ⟨19, _, ⟨by decide +kernel, rfl⟩, fD_19_11⟩
theorem eD_undo_4 : pd_gf mD_undo 4 6 2 7 := ⟨175, _, ⟨by decide +kernel, rfl⟩, fD_175_6⟩
theorem eD_undo_7 : pd_b1 mD_undo 7 .gt 10 13 := ⟨6, ⟨by decide +kernel, rfl⟩, by decide⟩
theorem eD_undo_10 : pd_ic mD_undo 10 (-2) 12 := Or.inr (Or.inl ⟨⟨by decide +kernel, rfl⟩, by decide⟩)
theorem eD_undo_12 {z : Int} : pd_rd mD_undo 12 (some (vi z)) := (by decide +kernel : decode mD_undo.2.1 12 = .ok (.ireturn, 1))
theorem eD_undo_13 : pd_al mD_undo 13 0 14 := Or.inl ⟨0, rfl, by decide +kernel, rfl⟩
theorem eD_undo_14 : pd_gf mD_undo 14 11 1 17 := ⟨19, _, ⟨by decide +kernel, rfl⟩, fD_19_11⟩
theorem eD_undo_17 : pd_kv mD_undo 17 mL_recall 0 20 := ⟨178, ⟨by decide +kernel, rfl⟩, (pd_m 525 (by decide +kernel) (by decide +kernel)), (pd_m 526 (by decide +kernel) (by decide +kernel)), (pd_m 527 (by decide +kernel) (by decide +kernel)), kL_recall⟩
theorem eD_undo_20 : pd_al mD_undo 20 0 21 := Or.inl ⟨0, rfl, by decide +kernel, rfl⟩
theorem eD_undo_21 : pd_gf mD_undo 21 11 1 24 := ⟨19, _, ⟨by decide +kernel, rfl⟩, fD_19_11⟩
theorem eD_undo_24 : pd_gf mD_undo 24 6 2 27 := ⟨175, _, ⟨by decide +kernel, rfl⟩, fD_175_6⟩
theorem eD_undo_27 {z : Int} : pd_rd mD_undo 27 (some (vi z)) := (by decide +kernel : decode mD_undo.2.1 27 = .ok (.ireturn, 1))
theorem eD_now_0 : pd_il mD_now 0 1 1 := Or.inl ⟨1, rfl, by decide +kernel, rfl⟩
theorem eD_now_1 : pd_i mD_now 1 (.tableswitch 117 0 5 #[39, 50, 65, 84, 98, 112]) 39 40 := ⟨by decide +kernel, rfl⟩
theorem eD_now_40 : pd_al mD_now 40 0 41 := Or.inl ⟨0, rfl, by decide +kernel, rfl⟩
theorem eD_now_41 : pd_gf mD_now 41 11 1 44 := ⟨19, _, ⟨by decide +kernel, rfl⟩, fD_19_11⟩
theorem eD_now_44 : pd_gf mD_now 44 6 0 47 := ⟨130, _, ⟨by decide +kernel, rfl⟩, fD_130_6⟩
theorem eD_now_47 : pd_gf mD_now 47 8 3 50 := ⟨155, _, ⟨by decide +kernel, rfl⟩, fD_155_8⟩
theorem eD_now_50 {z : Int} : pd_rd mD_now 50 (some (vi z)) := (by decide +kernel : decode mD_now.2.1 50 = .ok (.ireturn, 1))
theorem eD_now_51 : pd_al mD_now 51 0 52 := Or.inl ⟨0, rfl, by decide +kernel, rfl⟩
theorem eD_now_52 : pd_gf mD_now 52 11 1 55 := ⟨19, _, ⟨by decide +kernel, rfl⟩, fD_19_11⟩
theorem eD_now_55 : pd_gf mD_now 55 6 0 58 := ⟨130, _, ⟨by decide +kernel, rfl⟩, fD_130_6⟩
theorem eD_now_58 : pd_al mD_now 58 0 59 := Or.inl ⟨0, rfl, by decide +kernel, rfl⟩
theorem eD_now_59 : pd_gf mD_now 59 11 11 62 := ⟨79, _, ⟨by decide +kernel, rfl⟩, fD_79_11⟩
theorem eD_now_62 : pd_kv mD_now 62 mS_leads 1 65 := ⟨164, ⟨by decide +kernel, rfl⟩, (pd_m 504 (by decide +kernel) (by decide +kernel)), (pd_m 505 (by decide +kernel) (by decide +kernel)), (pd_m 506 (by decide +kernel) (by decide +kernel)), kS_leads⟩
theorem eD_now_65 {z : Int} : pd_rd mD_now 65 (some (vi z)) := (by decide +kernel : decode mD_now.2.1 65 = .ok (.ireturn, 1))
theorem eD_now_66 : pd_al mD_now 66 0 67 := Or.inl ⟨0, rfl, by decide +kernel, rfl⟩
theorem eD_now_67 : pd_gf mD_now 67 11 1 70 := ⟨19, _, ⟨by decide +kernel, rfl⟩, fD_19_11⟩
theorem eD_now_70 : pd_gf mD_now 70 6 0 73 := ⟨130, _, ⟨by decide +kernel, rfl⟩, fD_130_6⟩
theorem eD_now_73 : pd_gf mD_now 73 8 4 76 := ⟨171, _, ⟨by decide +kernel, rfl⟩, fD_171_8⟩
theorem eD_now_76 : pd_b1 mD_now 76 .eq 79 83 := ⟨7, ⟨by decide +kernel, rfl⟩, by decide⟩
theorem eD_now_79 : pd_ic mD_now 79 1 80 := Or.inl ⟨by decide +kernel, rfl⟩
theorem eD_now_80 : pd_go mD_now 80 84 := ⟨4, by decide +kernel, by decide⟩
theorem eD_now_83 : pd_ic mD_now 83 0 84 := Or.inl ⟨by decide +kernel, rfl⟩
theorem eD_now_84 {z : Int} : pd_rd mD_now 84 (some (vi z)) := (by decide +kernel : decode mD_now.2.1 84 = .ok (.ireturn, 1))
theorem eD_now_85 : pd_al mD_now 85 0 86 := Or.inl ⟨0, rfl, by decide +kernel, rfl⟩
theorem eD_now_86 : pd_gf mD_now 86 11 1 89 := ⟨19, _, ⟨by decide +kernel, rfl⟩, fD_19_11⟩
theorem eD_now_89 : pd_gf mD_now 89 6 0 92 := ⟨130, _, ⟨by decide +kernel, rfl⟩, fD_130_6⟩
theorem eD_now_92 : pd_gf mD_now 92 8 1 95 := ⟨139, _, ⟨by decide +kernel, rfl⟩, fD_139_8⟩
theorem eD_now_95 : pd_ks mD_now 95 mD_sum 1 98 := ⟨181, ⟨by decide +kernel, rfl⟩, Or.inl (pd_m 533 (by decide +kernel) (by decide +kernel)), (pd_m 534 (by decide +kernel) (by decide +kernel)), kD_sum⟩
theorem eD_now_98 {z : Int} : pd_rd mD_now 98 (some (vi z)) := (by decide +kernel : decode mD_now.2.1 98 = .ok (.ireturn, 1))
theorem eD_now_99 : pd_al mD_now 99 0 100 := Or.inl ⟨0, rfl, by decide +kernel, rfl⟩
theorem eD_now_100 : pd_gf mD_now 100 11 1 103 := ⟨19, _, ⟨by decide +kernel, rfl⟩, fD_19_11⟩
theorem eD_now_103 : pd_gf mD_now 103 6 0 106 := ⟨130, _, ⟨by decide +kernel, rfl⟩, fD_130_6⟩
theorem eD_now_106 : pd_gf mD_now 106 8 2 109 := ⟨152, _, ⟨by decide +kernel, rfl⟩, fD_152_8⟩
theorem eD_now_109 : pd_ks mD_now 109 mD_sum 1 112 := ⟨181, ⟨by decide +kernel, rfl⟩, Or.inl (pd_m 533 (by decide +kernel) (by decide +kernel)), (pd_m 534 (by decide +kernel) (by decide +kernel)), kD_sum⟩
theorem eD_now_112 {z : Int} : pd_rd mD_now 112 (some (vi z)) := (by decide +kernel : decode mD_now.2.1 112 = .ok (.ireturn, 1))
theorem eD_now_113 : pd_al mD_now 113 0 114 := Or.inl ⟨0, rfl, by decide +kernel, rfl⟩
theorem eD_now_114 : pd_kv mD_now 114 mD_firstLack 0 117 := ⟨185, ⟨by decide +kernel, rfl⟩, (pd_m 536 (by decide +kernel) (by decide +kernel)), (pd_m 538 (by decide +kernel) (by decide +kernel)), (pd_m 9 (by decide +kernel) (by decide +kernel)), kD_firstLack⟩
theorem eD_now_117 {z : Int} : pd_rd mD_now 117 (some (vi z)) := (by decide +kernel : decode mD_now.2.1 117 = .ok (.ireturn, 1))
theorem eD_now_118 : pd_ic mD_now 118 (-1) 119 := Or.inl ⟨by decide +kernel, rfl⟩
theorem eD_now_119 {z : Int} : pd_rd mD_now 119 (some (vi z)) := (by decide +kernel : decode mD_now.2.1 119 = .ok (.ireturn, 1))
theorem eD_firstLack_0 : pd_ic mD_firstLack 0 20 2 := Or.inr (Or.inl ⟨⟨by decide +kernel, rfl⟩, by decide⟩)
theorem eD_firstLack_2 : pd_is mD_firstLack 2 1 3 := ⟨by decide, Or.inl ⟨1, rfl, by decide +kernel, rfl⟩⟩
theorem eD_firstLack_3 : pd_ic mD_firstLack 3 0 4 := Or.inl ⟨by decide +kernel, rfl⟩
theorem eD_firstLack_4 : pd_is mD_firstLack 4 2 5 := ⟨by decide, Or.inl ⟨2, rfl, by decide +kernel, rfl⟩⟩
theorem eD_firstLack_5 : pd_il mD_firstLack 5 2 6 := Or.inl ⟨2, rfl, by decide +kernel, rfl⟩
theorem eD_firstLack_6 : pd_al mD_firstLack 6 0 7 := Or.inl ⟨0, rfl, by decide +kernel, rfl⟩
theorem eD_firstLack_7 : pd_gf mD_firstLack 7 11 11 10 := ⟨79, _, ⟨by decide +kernel, rfl⟩, fD_79_11⟩
theorem eD_firstLack_10 : pd_gf mD_firstLack 10 4 7 13 := ⟨189, _, ⟨by decide +kernel, rfl⟩, fD_189_4⟩
theorem eD_firstLack_13 : pd_b2 mD_firstLack 13 .ge 16 79 := ⟨66, ⟨by decide +kernel, rfl⟩, by decide⟩
theorem eD_firstLack_16 : pd_al mD_firstLack 16 0 17 := Or.inl ⟨0, rfl, by decide +kernel, rfl⟩
theorem eD_firstLack_17 : pd_gf mD_firstLack 17 11 1 20 := ⟨19, _, ⟨by decide +kernel, rfl⟩, fD_19_11⟩
theorem eD_firstLack_20 : pd_gf mD_firstLack 20 6 0 23 := ⟨130, _, ⟨by decide +kernel, rfl⟩, fD_130_6⟩
theorem eD_firstLack_23 : pd_gf mD_firstLack 23 8 0 26 := ⟨134, _, ⟨by decide +kernel, rfl⟩, fD_134_8⟩
theorem eD_firstLack_26 : pd_il mD_firstLack 26 2 27 := Or.inl ⟨2, rfl, by decide +kernel, rfl⟩
theorem eD_firstLack_27 : pd_i mD_firstLack 27 (.iaload) 1 28 := ⟨by decide +kernel, rfl⟩
theorem eD_firstLack_28 : pd_is mD_firstLack 28 3 29 := ⟨by decide, Or.inl ⟨3, rfl, by decide +kernel, rfl⟩⟩
theorem eD_firstLack_29 : pd_al mD_firstLack 29 0 30 := Or.inl ⟨0, rfl, by decide +kernel, rfl⟩
theorem eD_firstLack_30 : pd_gf mD_firstLack 30 11 1 33 := ⟨19, _, ⟨by decide +kernel, rfl⟩, fD_19_11⟩
theorem eD_firstLack_33 : pd_gf mD_firstLack 33 6 0 36 := ⟨130, _, ⟨by decide +kernel, rfl⟩, fD_130_6⟩
theorem eD_firstLack_36 : pd_gf mD_firstLack 36 8 3 39 := ⟨155, _, ⟨by decide +kernel, rfl⟩, fD_155_8⟩
theorem eD_firstLack_39 : pd_is mD_firstLack 39 4 41 := ⟨by decide, Or.inr ⟨by decide +kernel, rfl⟩⟩
theorem eD_firstLack_41 : pd_il mD_firstLack 41 4 43 := Or.inr ⟨by decide +kernel, rfl⟩
theorem eD_firstLack_43 : pd_il mD_firstLack 43 1 44 := Or.inl ⟨1, rfl, by decide +kernel, rfl⟩
theorem eD_firstLack_44 : pd_b2 mD_firstLack 44 .ge 47 73 := ⟨29, ⟨by decide +kernel, rfl⟩, by decide⟩
theorem eD_firstLack_47 : pd_al mD_firstLack 47 0 48 := Or.inl ⟨0, rfl, by decide +kernel, rfl⟩
theorem eD_firstLack_48 : pd_gf mD_firstLack 48 11 11 51 := ⟨79, _, ⟨by decide +kernel, rfl⟩, fD_79_11⟩
theorem eD_firstLack_51 : pd_il mD_firstLack 51 3 52 := Or.inl ⟨3, rfl, by decide +kernel, rfl⟩
theorem eD_firstLack_52 : pd_il mD_firstLack 52 4 54 := Or.inr ⟨by decide +kernel, rfl⟩
theorem eD_firstLack_54 : pd_il mD_firstLack 54 2 55 := Or.inl ⟨2, rfl, by decide +kernel, rfl⟩
theorem eD_firstLack_55 : pd_kv mD_firstLack 55 mH_rest 3 58 := ⟨192, ⟨by decide +kernel, rfl⟩, (pd_m 540 (by decide +kernel) (by decide +kernel)), (pd_m 431 (by decide +kernel) (by decide +kernel)), (pd_m 432 (by decide +kernel) (by decide +kernel)), kH_rest⟩
theorem eD_firstLack_58 : pd_is mD_firstLack 58 3 59 := ⟨by decide, Or.inl ⟨3, rfl, by decide +kernel, rfl⟩⟩
theorem eD_firstLack_59 : pd_il mD_firstLack 59 3 60 := Or.inl ⟨3, rfl, by decide +kernel, rfl⟩
theorem eD_firstLack_60 : pd_ic mD_firstLack 60 (-1) 61 := Or.inl ⟨by decide +kernel, rfl⟩
theorem eD_firstLack_61 : pd_b2 mD_firstLack 61 .ne 64 67 := ⟨6, ⟨by decide +kernel, rfl⟩, by decide⟩
theorem eD_firstLack_64 : pd_il mD_firstLack 64 4 66 := Or.inr ⟨by decide +kernel, rfl⟩
theorem eD_firstLack_66 : pd_is mD_firstLack 66 1 67 := ⟨by decide, Or.inl ⟨1, rfl, by decide +kernel, rfl⟩⟩
theorem eD_firstLack_67 : pd_ii mD_firstLack 67 4 1 70 := ⟨by decide, by decide +kernel, rfl⟩
theorem eD_firstLack_70 : pd_go mD_firstLack 70 41 := ⟨-29, by decide +kernel, by decide⟩
theorem eD_firstLack_73 : pd_ii mD_firstLack 73 2 1 76 := ⟨by decide, by decide +kernel, rfl⟩
theorem eD_firstLack_76 : pd_go mD_firstLack 76 5 := ⟨-71, by decide +kernel, by decide⟩
theorem eD_firstLack_79 : pd_il mD_firstLack 79 1 80 := Or.inl ⟨1, rfl, by decide +kernel, rfl⟩
theorem eD_firstLack_80 : pd_ic mD_firstLack 80 20 82 := Or.inr (Or.inl ⟨⟨by decide +kernel, rfl⟩, by decide⟩)
theorem eD_firstLack_82 : pd_b2 mD_firstLack 82 .ge 85 89 := ⟨7, ⟨by decide +kernel, rfl⟩, by decide⟩
theorem eD_firstLack_85 : pd_il mD_firstLack 85 1 86 := Or.inl ⟨1, rfl, by decide +kernel, rfl⟩
theorem eD_firstLack_86 : pd_go mD_firstLack 86 91 := ⟨5, by decide +kernel, by decide⟩
theorem eD_firstLack_89 : pd_ic mD_firstLack 89 (-9) 91 := Or.inr (Or.inl ⟨⟨by decide +kernel, rfl⟩, by decide⟩)
theorem eD_firstLack_91 {z : Int} : pd_rd mD_firstLack 91 (some (vi z)) := (by decide +kernel : decode mD_firstLack.2.1 91 = .ok (.ireturn, 1))
theorem eD_gives_0 : pd_il mD_gives 0 1 1 := Or.inl ⟨1, rfl, by decide +kernel, rfl⟩
theorem eD_gives_1 : pd_ic mD_gives 1 0 2 := Or.inl ⟨by decide +kernel, rfl⟩
theorem eD_gives_2 : pd_ic mD_gives 2 19 4 := Or.inr (Or.inl ⟨⟨by decide +kernel, rfl⟩, by decide⟩)
theorem eD_gives_4 : pd_ks mD_gives 4 mD_within 3 7 := ⟨86, ⟨by decide +kernel, rfl⟩, Or.inl (pd_m 356 (by decide +kernel) (by decide +kernel)), (pd_m 357 (by decide +kernel) (by decide +kernel)), kD_within⟩
theorem eD_gives_7 : pd_b1 mD_gives 7 .ne 10 12 := ⟨5, ⟨by decide +kernel, rfl⟩, by decide⟩
theorem eD_gives_10 : pd_ic mD_gives 10 (-1) 11 := Or.inl ⟨by decide +kernel, rfl⟩
theorem eD_gives_11 {z : Int} : pd_rd mD_gives 11 (some (vi z)) := (by decide +kernel : decode mD_gives.2.1 11 = .ok (.ireturn, 1))
theorem eD_gives_12 : pd_il mD_gives 12 2 13 := Or.inl ⟨2, rfl, by decide +kernel, rfl⟩
theorem eD_gives_13 : pd_i mD_gives 13 (.tableswitch 48 0 2 #[27, 36, 42]) 27 40 := ⟨by decide +kernel, rfl⟩
theorem eD_gives_40 : pd_al mD_gives 40 0 41 := Or.inl ⟨0, rfl, by decide +kernel, rfl⟩
theorem eD_gives_41 : pd_gf mD_gives 41 11 11 44 := ⟨79, _, ⟨by decide +kernel, rfl⟩, fD_79_11⟩
theorem eD_gives_44 : pd_il mD_gives 44 1 45 := Or.inl ⟨1, rfl, by decide +kernel, rfl⟩
theorem eD_gives_45 : pd_kv mD_gives 45 mH_leads 1 48 := ⟨196, ⟨by decide +kernel, rfl⟩, (pd_m 545 (by decide +kernel) (by decide +kernel)), (pd_m 465 (by decide +kernel) (by decide +kernel)), (pd_m 466 (by decide +kernel) (by decide +kernel)), kH_leads⟩
theorem eD_gives_48 {z : Int} : pd_rd mD_gives 48 (some (vi z)) := (by decide +kernel : decode mD_gives.2.1 48 = .ok (.ireturn, 1))
theorem eD_gives_49 : pd_al mD_gives 49 0 50 := Or.inl ⟨0, rfl, by decide +kernel, rfl⟩
theorem eD_gives_50 : pd_il mD_gives 50 1 51 := Or.inl ⟨1, rfl, by decide +kernel, rfl⟩
theorem eD_gives_51 : pd_kv mD_gives 51 mD_steps 1 54 := ⟨199, ⟨by decide +kernel, rfl⟩, (pd_m 546 (by decide +kernel) (by decide +kernel)), (pd_m 548 (by decide +kernel) (by decide +kernel)), (pd_m 10 (by decide +kernel) (by decide +kernel)), kD_steps⟩
theorem eD_gives_54 {z : Int} : pd_rd mD_gives 54 (some (vi z)) := (by decide +kernel : decode mD_gives.2.1 54 = .ok (.ireturn, 1))
theorem eD_gives_55 : pd_al mD_gives 55 0 56 := Or.inl ⟨0, rfl, by decide +kernel, rfl⟩
theorem eD_gives_56 : pd_il mD_gives 56 1 57 := Or.inl ⟨1, rfl, by decide +kernel, rfl⟩
theorem eD_gives_57 : pd_kv mD_gives 57 mD_meetings 1 60 := ⟨202, ⟨by decide +kernel, rfl⟩, (pd_m 550 (by decide +kernel) (by decide +kernel)), (pd_m 552 (by decide +kernel) (by decide +kernel)), (pd_m 11 (by decide +kernel) (by decide +kernel)), kD_meetings⟩
theorem eD_gives_60 {z : Int} : pd_rd mD_gives 60 (some (vi z)) := (by decide +kernel : decode mD_gives.2.1 60 = .ok (.ireturn, 1))
theorem eD_gives_61 : pd_ic mD_gives 61 (-1) 62 := Or.inl ⟨by decide +kernel, rfl⟩
theorem eD_gives_62 {z : Int} : pd_rd mD_gives 62 (some (vi z)) := (by decide +kernel : decode mD_gives.2.1 62 = .ok (.ireturn, 1))
theorem eD_steps_0 : pd_al mD_steps 0 0 1 := Or.inl ⟨0, rfl, by decide +kernel, rfl⟩
theorem eD_steps_1 : pd_gf mD_steps 1 11 11 4 := ⟨79, _, ⟨by decide +kernel, rfl⟩, fD_79_11⟩
theorem eD_steps_4 : pd_il mD_steps 4 1 5 := Or.inl ⟨1, rfl, by decide +kernel, rfl⟩
theorem eD_steps_5 : pd_kv mD_steps 5 mH_leads 1 8 := ⟨196, ⟨by decide +kernel, rfl⟩, (pd_m 545 (by decide +kernel) (by decide +kernel)), (pd_m 465 (by decide +kernel) (by decide +kernel)), (pd_m 466 (by decide +kernel) (by decide +kernel)), kH_leads⟩
theorem eD_steps_8 : pd_is mD_steps 8 2 9 := ⟨by decide, Or.inl ⟨2, rfl, by decide +kernel, rfl⟩⟩
theorem eD_steps_9 : pd_ic mD_steps 9 0 10 := Or.inl ⟨by decide +kernel, rfl⟩
theorem eD_steps_10 : pd_is mD_steps 10 3 11 := ⟨by decide, Or.inl ⟨3, rfl, by decide +kernel, rfl⟩⟩
theorem eD_steps_11 : pd_il mD_steps 11 2 12 := Or.inl ⟨2, rfl, by decide +kernel, rfl⟩
theorem eD_steps_12 : pd_ic mD_steps 12 (-9) 14 := Or.inr (Or.inl ⟨⟨by decide +kernel, rfl⟩, by decide⟩)
theorem eD_steps_14 : pd_b2 mD_steps 14 .eq 17 38 := ⟨24, ⟨by decide +kernel, rfl⟩, by decide⟩
theorem eD_steps_17 : pd_il mD_steps 17 3 18 := Or.inl ⟨3, rfl, by decide +kernel, rfl⟩
theorem eD_steps_18 : pd_ic mD_steps 18 20 20 := Or.inr (Or.inl ⟨⟨by decide +kernel, rfl⟩, by decide⟩)
theorem eD_steps_20 : pd_b2 mD_steps 20 .ge 23 38 := ⟨18, ⟨by decide +kernel, rfl⟩, by decide⟩
theorem eD_steps_23 : pd_ii mD_steps 23 3 1 26 := ⟨by decide, by decide +kernel, rfl⟩
theorem eD_steps_26 : pd_al mD_steps 26 0 27 := Or.inl ⟨0, rfl, by decide +kernel, rfl⟩
theorem eD_steps_27 : pd_gf mD_steps 27 11 11 30 := ⟨79, _, ⟨by decide +kernel, rfl⟩, fD_79_11⟩
theorem eD_steps_30 : pd_il mD_steps 30 2 31 := Or.inl ⟨2, rfl, by decide +kernel, rfl⟩
theorem eD_steps_31 : pd_kv mD_steps 31 mH_leads 1 34 := ⟨196, ⟨by decide +kernel, rfl⟩, (pd_m 545 (by decide +kernel) (by decide +kernel)), (pd_m 465 (by decide +kernel) (by decide +kernel)), (pd_m 466 (by decide +kernel) (by decide +kernel)), kH_leads⟩
theorem eD_steps_34 : pd_is mD_steps 34 2 35 := ⟨by decide, Or.inl ⟨2, rfl, by decide +kernel, rfl⟩⟩
theorem eD_steps_35 : pd_go mD_steps 35 11 := ⟨-24, by decide +kernel, by decide⟩
theorem eD_steps_38 : pd_il mD_steps 38 3 39 := Or.inl ⟨3, rfl, by decide +kernel, rfl⟩
theorem eD_steps_39 {z : Int} : pd_rd mD_steps 39 (some (vi z)) := (by decide +kernel : decode mD_steps.2.1 39 = .ok (.ireturn, 1))
theorem eD_meetings_0 : pd_al mD_meetings 0 0 1 := Or.inl ⟨0, rfl, by decide +kernel, rfl⟩
theorem eD_meetings_1 : pd_gf mD_meetings 1 11 11 4 := ⟨79, _, ⟨by decide +kernel, rfl⟩, fD_79_11⟩
theorem eD_meetings_4 : pd_il mD_meetings 4 1 5 := Or.inl ⟨1, rfl, by decide +kernel, rfl⟩
theorem eD_meetings_5 : pd_kv mD_meetings 5 mH_leads 1 8 := ⟨196, ⟨by decide +kernel, rfl⟩, (pd_m 545 (by decide +kernel) (by decide +kernel)), (pd_m 465 (by decide +kernel) (by decide +kernel)), (pd_m 466 (by decide +kernel) (by decide +kernel)), kH_leads⟩
theorem eD_meetings_8 : pd_ic mD_meetings 8 (-9) 10 := Or.inr (Or.inl ⟨⟨by decide +kernel, rfl⟩, by decide⟩)
theorem eD_meetings_10 : pd_b2 mD_meetings 10 .ne 13 17 := ⟨7, ⟨by decide +kernel, rfl⟩, by decide⟩
theorem eD_meetings_13 : pd_ic mD_meetings 13 0 14 := Or.inl ⟨by decide +kernel, rfl⟩
theorem eD_meetings_14 : pd_go mD_meetings 14 18 := ⟨4, by decide +kernel, by decide⟩
theorem eD_meetings_17 : pd_ic mD_meetings 17 1 18 := Or.inl ⟨by decide +kernel, rfl⟩
theorem eD_meetings_18 : pd_is mD_meetings 18 2 19 := ⟨by decide, Or.inl ⟨2, rfl, by decide +kernel, rfl⟩⟩
theorem eD_meetings_19 : pd_ic mD_meetings 19 0 20 := Or.inl ⟨by decide +kernel, rfl⟩
theorem eD_meetings_20 : pd_is mD_meetings 20 3 21 := ⟨by decide, Or.inl ⟨3, rfl, by decide +kernel, rfl⟩⟩
theorem eD_meetings_21 : pd_il mD_meetings 21 3 22 := Or.inl ⟨3, rfl, by decide +kernel, rfl⟩
theorem eD_meetings_22 : pd_ic mD_meetings 22 20 24 := Or.inr (Or.inl ⟨⟨by decide +kernel, rfl⟩, by decide⟩)
theorem eD_meetings_24 : pd_b2 mD_meetings 24 .ge 27 48 := ⟨24, ⟨by decide +kernel, rfl⟩, by decide⟩
theorem eD_meetings_27 : pd_al mD_meetings 27 0 28 := Or.inl ⟨0, rfl, by decide +kernel, rfl⟩
theorem eD_meetings_28 : pd_gf mD_meetings 28 11 11 31 := ⟨79, _, ⟨by decide +kernel, rfl⟩, fD_79_11⟩
theorem eD_meetings_31 : pd_il mD_meetings 31 3 32 := Or.inl ⟨3, rfl, by decide +kernel, rfl⟩
theorem eD_meetings_32 : pd_kv mD_meetings 32 mH_leads 1 35 := ⟨196, ⟨by decide +kernel, rfl⟩, (pd_m 545 (by decide +kernel) (by decide +kernel)), (pd_m 465 (by decide +kernel) (by decide +kernel)), (pd_m 466 (by decide +kernel) (by decide +kernel)), kH_leads⟩
theorem eD_meetings_35 : pd_il mD_meetings 35 1 36 := Or.inl ⟨1, rfl, by decide +kernel, rfl⟩
theorem eD_meetings_36 : pd_b2 mD_meetings 36 .ne 39 42 := ⟨6, ⟨by decide +kernel, rfl⟩, by decide⟩
theorem eD_meetings_39 : pd_ii mD_meetings 39 2 1 42 := ⟨by decide, by decide +kernel, rfl⟩
theorem eD_meetings_42 : pd_ii mD_meetings 42 3 1 45 := ⟨by decide, by decide +kernel, rfl⟩
theorem eD_meetings_45 : pd_go mD_meetings 45 21 := ⟨-24, by decide +kernel, by decide⟩
theorem eD_meetings_48 : pd_il mD_meetings 48 2 49 := Or.inl ⟨2, rfl, by decide +kernel, rfl⟩
theorem eD_meetings_49 {z : Int} : pd_rd mD_meetings 49 (some (vi z)) := (by decide +kernel : decode mD_meetings.2.1 49 = .ok (.ireturn, 1))
theorem eD_hungry_0 : pd_al mD_hungry 0 0 1 := Or.inl ⟨0, rfl, by decide +kernel, rfl⟩
theorem eD_hungry_1 : pd_gf mD_hungry 1 11 11 4 := ⟨79, _, ⟨by decide +kernel, rfl⟩, fD_79_11⟩
theorem eD_hungry_4 : pd_il mD_hungry 4 1 5 := Or.inl ⟨1, rfl, by decide +kernel, rfl⟩
theorem eD_hungry_5 : pd_kv mD_hungry 5 mH_has 1 8 := ⟨114, ⟨by decide +kernel, rfl⟩, (pd_m 455 (by decide +kernel) (by decide +kernel)), (pd_m 447 (by decide +kernel) (by decide +kernel)), (pd_m 448 (by decide +kernel) (by decide +kernel)), kH_has⟩
theorem eD_hungry_8 : pd_b1 mD_hungry 8 .eq 11 21 := ⟨13, ⟨by decide +kernel, rfl⟩, by decide⟩
theorem eD_hungry_11 : pd_il mD_hungry 11 2 12 := Or.inl ⟨2, rfl, by decide +kernel, rfl⟩
theorem eD_hungry_12 : pd_ic mD_hungry 12 1 13 := Or.inl ⟨by decide +kernel, rfl⟩
theorem eD_hungry_13 : pd_ic mD_hungry 13 20 15 := Or.inr (Or.inl ⟨⟨by decide +kernel, rfl⟩, by decide⟩)
theorem eD_hungry_15 : pd_ks mD_hungry 15 mD_within 3 18 := ⟨86, ⟨by decide +kernel, rfl⟩, Or.inl (pd_m 356 (by decide +kernel) (by decide +kernel)), (pd_m 357 (by decide +kernel) (by decide +kernel)), kD_within⟩
theorem eD_hungry_18 : pd_b1 mD_hungry 18 .ne 21 23 := ⟨5, ⟨by decide +kernel, rfl⟩, by decide⟩
theorem eD_hungry_21 : pd_ic mD_hungry 21 (-1) 22 := Or.inl ⟨by decide +kernel, rfl⟩
theorem eD_hungry_22 {z : Int} : pd_rd mD_hungry 22 (some (vi z)) := (by decide +kernel : decode mD_hungry.2.1 22 = .ok (.ireturn, 1))
theorem eD_hungry_23 : pd_al mD_hungry 23 0 24 := Or.inl ⟨0, rfl, by decide +kernel, rfl⟩
theorem eD_hungry_24 : pd_gf mD_hungry 24 11 1 27 := ⟨19, _, ⟨by decide +kernel, rfl⟩, fD_19_11⟩
theorem eD_hungry_27 : pd_gf mD_hungry 27 6 0 30 := ⟨130, _, ⟨by decide +kernel, rfl⟩, fD_130_6⟩
theorem eD_hungry_30 : pd_gf mD_hungry 30 8 0 33 := ⟨134, _, ⟨by decide +kernel, rfl⟩, fD_134_8⟩
theorem eD_hungry_33 : pd_il mD_hungry 33 1 34 := Or.inl ⟨1, rfl, by decide +kernel, rfl⟩
theorem eD_hungry_34 : pd_i mD_hungry 34 (.iaload) 1 35 := ⟨by decide +kernel, rfl⟩
theorem eD_hungry_35 : pd_is mD_hungry 35 3 36 := ⟨by decide, Or.inl ⟨3, rfl, by decide +kernel, rfl⟩⟩
theorem eD_hungry_36 : pd_ic mD_hungry 36 20 38 := Or.inr (Or.inl ⟨⟨by decide +kernel, rfl⟩, by decide⟩)
theorem eD_hungry_38 : pd_al mD_hungry 38 0 39 := Or.inl ⟨0, rfl, by decide +kernel, rfl⟩
theorem eD_hungry_39 : pd_gf mD_hungry 39 11 1 42 := ⟨19, _, ⟨by decide +kernel, rfl⟩, fD_19_11⟩
theorem eD_hungry_42 : pd_gf mD_hungry 42 6 0 45 := ⟨130, _, ⟨by decide +kernel, rfl⟩, fD_130_6⟩
theorem eD_hungry_45 : pd_gf mD_hungry 45 8 3 48 := ⟨155, _, ⟨by decide +kernel, rfl⟩, fD_155_8⟩
theorem eD_hungry_48 : pd_il mD_hungry 48 2 49 := Or.inl ⟨2, rfl, by decide +kernel, rfl⟩
theorem eD_hungry_49 : pd_i mD_hungry 49 (.iadd) 1 50 := ⟨by decide +kernel, rfl⟩
theorem eD_hungry_50 : pd_min mD_hungry 50 53 := ⟨205, ⟨by decide +kernel, rfl⟩, (pd_m 558 (by decide +kernel) (by decide +kernel))⟩
theorem eD_hungry_53 : pd_is mD_hungry 53 4 55 := ⟨by decide, Or.inr ⟨by decide +kernel, rfl⟩⟩
theorem eD_hungry_55 : pd_ic mD_hungry 55 0 56 := Or.inl ⟨by decide +kernel, rfl⟩
theorem eD_hungry_56 : pd_is mD_hungry 56 5 58 := ⟨by decide, Or.inr ⟨by decide +kernel, rfl⟩⟩
theorem eD_hungry_58 : pd_al mD_hungry 58 0 59 := Or.inl ⟨0, rfl, by decide +kernel, rfl⟩
theorem eD_hungry_59 : pd_gf mD_hungry 59 11 1 62 := ⟨19, _, ⟨by decide +kernel, rfl⟩, fD_19_11⟩
theorem eD_hungry_62 : pd_gf mD_hungry 62 6 0 65 := ⟨130, _, ⟨by decide +kernel, rfl⟩, fD_130_6⟩
theorem eD_hungry_65 : pd_gf mD_hungry 65 8 3 68 := ⟨155, _, ⟨by decide +kernel, rfl⟩, fD_155_8⟩
theorem eD_hungry_68 : pd_is mD_hungry 68 6 70 := ⟨by decide, Or.inr ⟨by decide +kernel, rfl⟩⟩
theorem eD_hungry_70 : pd_il mD_hungry 70 6 72 := Or.inr ⟨by decide +kernel, rfl⟩
theorem eD_hungry_72 : pd_il mD_hungry 72 4 74 := Or.inr ⟨by decide +kernel, rfl⟩
theorem eD_hungry_74 : pd_b2 mD_hungry 74 .ge 77 105 := ⟨31, ⟨by decide +kernel, rfl⟩, by decide⟩
theorem eD_hungry_77 : pd_al mD_hungry 77 0 78 := Or.inl ⟨0, rfl, by decide +kernel, rfl⟩
theorem eD_hungry_78 : pd_gf mD_hungry 78 11 11 81 := ⟨79, _, ⟨by decide +kernel, rfl⟩, fD_79_11⟩
theorem eD_hungry_81 : pd_il mD_hungry 81 3 82 := Or.inl ⟨3, rfl, by decide +kernel, rfl⟩
theorem eD_hungry_82 : pd_il mD_hungry 82 6 84 := Or.inr ⟨by decide +kernel, rfl⟩
theorem eD_hungry_84 : pd_il mD_hungry 84 1 85 := Or.inl ⟨1, rfl, by decide +kernel, rfl⟩
theorem eD_hungry_85 : pd_kv mD_hungry 85 mH_rest 3 88 := ⟨192, ⟨by decide +kernel, rfl⟩, (pd_m 540 (by decide +kernel) (by decide +kernel)), (pd_m 431 (by decide +kernel) (by decide +kernel)), (pd_m 432 (by decide +kernel) (by decide +kernel)), kH_rest⟩
theorem eD_hungry_88 : pd_is mD_hungry 88 3 89 := ⟨by decide, Or.inl ⟨3, rfl, by decide +kernel, rfl⟩⟩
theorem eD_hungry_89 : pd_il mD_hungry 89 3 90 := Or.inl ⟨3, rfl, by decide +kernel, rfl⟩
theorem eD_hungry_90 : pd_ic mD_hungry 90 (-1) 91 := Or.inl ⟨by decide +kernel, rfl⟩
theorem eD_hungry_91 : pd_b2 mD_hungry 91 .ne 94 99 := ⟨8, ⟨by decide +kernel, rfl⟩, by decide⟩
theorem eD_hungry_94 : pd_ii mD_hungry 94 5 1 97 := ⟨by decide, by decide +kernel, rfl⟩
theorem eD_hungry_97 : pd_ic mD_hungry 97 0 98 := Or.inl ⟨by decide +kernel, rfl⟩
theorem eD_hungry_98 : pd_is mD_hungry 98 3 99 := ⟨by decide, Or.inl ⟨3, rfl, by decide +kernel, rfl⟩⟩
theorem eD_hungry_99 : pd_ii mD_hungry 99 6 1 102 := ⟨by decide, by decide +kernel, rfl⟩
theorem eD_hungry_102 : pd_go mD_hungry 102 70 := ⟨-32, by decide +kernel, by decide⟩
theorem eD_hungry_105 : pd_il mD_hungry 105 5 107 := Or.inr ⟨by decide +kernel, rfl⟩
theorem eD_hungry_107 {z : Int} : pd_rd mD_hungry 107 (some (vi z)) := (by decide +kernel : decode mD_hungry.2.1 107 = .ok (.ireturn, 1))
theorem eD_fed_0 : pd_il mD_fed 0 1 1 := Or.inl ⟨1, rfl, by decide +kernel, rfl⟩
theorem eD_fed_1 : pd_ic mD_fed 1 1 2 := Or.inl ⟨by decide +kernel, rfl⟩
theorem eD_fed_2 : pd_ic mD_fed 2 6 4 := Or.inr (Or.inl ⟨⟨by decide +kernel, rfl⟩, by decide⟩)
theorem eD_fed_4 : pd_ks mD_fed 4 mD_within 3 7 := ⟨86, ⟨by decide +kernel, rfl⟩, Or.inl (pd_m 356 (by decide +kernel) (by decide +kernel)), (pd_m 357 (by decide +kernel) (by decide +kernel)), kD_within⟩
theorem eD_fed_7 : pd_b1 mD_fed 7 .eq 10 19 := ⟨12, ⟨by decide +kernel, rfl⟩, by decide⟩
theorem eD_fed_10 : pd_il mD_fed 10 2 11 := Or.inl ⟨2, rfl, by decide +kernel, rfl⟩
theorem eD_fed_11 : pd_ic mD_fed 11 (-1) 12 := Or.inl ⟨by decide +kernel, rfl⟩
theorem eD_fed_12 : pd_ic mD_fed 12 5 13 := Or.inl ⟨by decide +kernel, rfl⟩
theorem eD_fed_13 : pd_ks mD_fed 13 mD_within 3 16 := ⟨86, ⟨by decide +kernel, rfl⟩, Or.inl (pd_m 356 (by decide +kernel) (by decide +kernel)), (pd_m 357 (by decide +kernel) (by decide +kernel)), kD_within⟩
theorem eD_fed_16 : pd_b1 mD_fed 16 .ne 19 21 := ⟨5, ⟨by decide +kernel, rfl⟩, by decide⟩
theorem eD_fed_19 : pd_ic mD_fed 19 (-1) 20 := Or.inl ⟨by decide +kernel, rfl⟩
theorem eD_fed_20 {z : Int} : pd_rd mD_fed 20 (some (vi z)) := (by decide +kernel : decode mD_fed.2.1 20 = .ok (.ireturn, 1))
theorem eD_fed_21 : pd_al mD_fed 21 0 22 := Or.inl ⟨0, rfl, by decide +kernel, rfl⟩
theorem eD_fed_22 : pd_gf mD_fed 22 11 9 25 := ⟨50, _, ⟨by decide +kernel, rfl⟩, fD_50_11⟩
theorem eD_fed_25 : pd_al mD_fed 25 0 26 := Or.inl ⟨0, rfl, by decide +kernel, rfl⟩
theorem eD_fed_26 : pd_gf mD_fed 26 11 11 29 := ⟨79, _, ⟨by decide +kernel, rfl⟩, fD_79_11⟩
theorem eD_fed_29 : pd_al mD_fed 29 0 30 := Or.inl ⟨0, rfl, by decide +kernel, rfl⟩
theorem eD_fed_30 : pd_gf mD_fed 30 11 1 33 := ⟨19, _, ⟨by decide +kernel, rfl⟩, fD_19_11⟩
theorem eD_fed_33 : pd_gf mD_fed 33 6 0 36 := ⟨130, _, ⟨by decide +kernel, rfl⟩, fD_130_6⟩
theorem eD_fed_36 : pd_il mD_fed 36 1 37 := Or.inl ⟨1, rfl, by decide +kernel, rfl⟩
theorem eD_fed_37 : pd_kv mD_fed 37 mP_reckon 3 40 := ⟨210, ⟨by decide +kernel, rfl⟩, (pd_m 563 (by decide +kernel) (by decide +kernel)), (pd_m 564 (by decide +kernel) (by decide +kernel)), (pd_m 565 (by decide +kernel) (by decide +kernel)), kP_reckon⟩
theorem eD_fed_40 : pd_is mD_fed 40 3 41 := ⟨by decide, Or.inl ⟨3, rfl, by decide +kernel, rfl⟩⟩
theorem eD_fed_41 : pd_il mD_fed 41 3 42 := Or.inl ⟨3, rfl, by decide +kernel, rfl⟩
theorem eD_fed_42 : pd_ic mD_fed 42 (-9) 44 := Or.inr (Or.inl ⟨⟨by decide +kernel, rfl⟩, by decide⟩)
theorem eD_fed_44 : pd_b2 mD_fed 44 .eq 47 52 := ⟨8, ⟨by decide +kernel, rfl⟩, by decide⟩
theorem eD_fed_47 : pd_il mD_fed 47 2 48 := Or.inl ⟨2, rfl, by decide +kernel, rfl⟩
theorem eD_fed_48 : pd_ic mD_fed 48 (-1) 49 := Or.inl ⟨by decide +kernel, rfl⟩
theorem eD_fed_49 : pd_b2 mD_fed 49 .ne 52 54 := ⟨5, ⟨by decide +kernel, rfl⟩, by decide⟩
theorem eD_fed_52 : pd_il mD_fed 52 3 53 := Or.inl ⟨3, rfl, by decide +kernel, rfl⟩
theorem eD_fed_53 {z : Int} : pd_rd mD_fed 53 (some (vi z)) := (by decide +kernel : decode mD_fed.2.1 53 = .ok (.ireturn, 1))
theorem eD_fed_54 : pd_il mD_fed 54 2 55 := Or.inl ⟨2, rfl, by decide +kernel, rfl⟩
theorem eD_fed_55 : pd_al mD_fed 55 0 56 := Or.inl ⟨0, rfl, by decide +kernel, rfl⟩
theorem eD_fed_56 : pd_gf mD_fed 56 11 9 59 := ⟨50, _, ⟨by decide +kernel, rfl⟩, fD_50_11⟩
theorem eD_fed_59 : pd_gf mD_fed 59 7 1 62 := ⟨214, _, ⟨by decide +kernel, rfl⟩, fD_214_7⟩
theorem eD_fed_62 : pd_b2 mD_fed 62 .ge 65 77 := ⟨15, ⟨by decide +kernel, rfl⟩, by decide⟩
theorem eD_fed_65 : pd_al mD_fed 65 0 66 := Or.inl ⟨0, rfl, by decide +kernel, rfl⟩
theorem eD_fed_66 : pd_gf mD_fed 66 11 9 69 := ⟨50, _, ⟨by decide +kernel, rfl⟩, fD_50_11⟩
theorem eD_fed_69 : pd_gf mD_fed 69 7 0 72 := ⟨215, _, ⟨by decide +kernel, rfl⟩, fD_215_7⟩
theorem eD_fed_72 : pd_il mD_fed 72 2 73 := Or.inl ⟨2, rfl, by decide +kernel, rfl⟩
theorem eD_fed_73 : pd_i mD_fed 73 (.iaload) 1 74 := ⟨by decide +kernel, rfl⟩
theorem eD_fed_74 : pd_go mD_fed 74 79 := ⟨5, by decide +kernel, by decide⟩
theorem eD_fed_77 : pd_ic mD_fed 77 (-9) 79 := Or.inr (Or.inl ⟨⟨by decide +kernel, rfl⟩, by decide⟩)
theorem eD_fed_79 {z : Int} : pd_rd mD_fed 79 (some (vi z)) := (by decide +kernel : decode mD_fed.2.1 79 = .ok (.ireturn, 1))
theorem eD_carry_0 : pd_il mD_carry 0 1 1 := Or.inl ⟨1, rfl, by decide +kernel, rfl⟩
theorem eD_carry_1 : pd_ic mD_carry 1 0 2 := Or.inl ⟨by decide +kernel, rfl⟩
theorem eD_carry_2 : pd_ic mD_carry 2 60 4 := Or.inr (Or.inl ⟨⟨by decide +kernel, rfl⟩, by decide⟩)
theorem eD_carry_4 : pd_ks mD_carry 4 mD_within 3 7 := ⟨86, ⟨by decide +kernel, rfl⟩, Or.inl (pd_m 356 (by decide +kernel) (by decide +kernel)), (pd_m 357 (by decide +kernel) (by decide +kernel)), kD_within⟩
theorem eD_carry_7 : pd_b1 mD_carry 7 .eq 10 26 := ⟨19, ⟨by decide +kernel, rfl⟩, by decide⟩
theorem eD_carry_10 : pd_il mD_carry 10 2 11 := Or.inl ⟨2, rfl, by decide +kernel, rfl⟩
theorem eD_carry_11 : pd_ic mD_carry 11 (-1) 12 := Or.inl ⟨by decide +kernel, rfl⟩
theorem eD_carry_12 : pd_b2 mD_carry 12 .eq 15 28 := ⟨16, ⟨by decide +kernel, rfl⟩, by decide⟩
theorem eD_carry_15 : pd_al mD_carry 15 0 16 := Or.inl ⟨0, rfl, by decide +kernel, rfl⟩
theorem eD_carry_16 : pd_gf mD_carry 16 11 11 19 := ⟨79, _, ⟨by decide +kernel, rfl⟩, fD_79_11⟩
theorem eD_carry_19 : pd_il mD_carry 19 2 20 := Or.inl ⟨2, rfl, by decide +kernel, rfl⟩
theorem eD_carry_20 : pd_kv mD_carry 20 mH_has 1 23 := ⟨114, ⟨by decide +kernel, rfl⟩, (pd_m 455 (by decide +kernel) (by decide +kernel)), (pd_m 447 (by decide +kernel) (by decide +kernel)), (pd_m 448 (by decide +kernel) (by decide +kernel)), kH_has⟩
theorem eD_carry_23 : pd_b1 mD_carry 23 .ne 26 28 := ⟨5, ⟨by decide +kernel, rfl⟩, by decide⟩
theorem eD_carry_26 : pd_ic mD_carry 26 (-1) 27 := Or.inl ⟨by decide +kernel, rfl⟩
theorem eD_carry_27 {z : Int} : pd_rd mD_carry 27 (some (vi z)) := (by decide +kernel : decode mD_carry.2.1 27 = .ok (.ireturn, 1))
theorem eD_carry_28 : pd_al mD_carry 28 0 29 := Or.inl ⟨0, rfl, by decide +kernel, rfl⟩
theorem eD_carry_29 : pd_gf mD_carry 29 11 1 32 := ⟨19, _, ⟨by decide +kernel, rfl⟩, fD_19_11⟩
theorem eD_carry_32 : pd_gf mD_carry 32 6 0 35 := ⟨130, _, ⟨by decide +kernel, rfl⟩, fD_130_6⟩
theorem eD_carry_35 : pd_al mD_carry 35 0 36 := Or.inl ⟨0, rfl, by decide +kernel, rfl⟩
theorem eD_carry_36 : pd_gf mD_carry 36 11 11 39 := ⟨79, _, ⟨by decide +kernel, rfl⟩, fD_79_11⟩
theorem eD_carry_39 : pd_kv mD_carry 39 mS_leads 1 42 := ⟨164, ⟨by decide +kernel, rfl⟩, (pd_m 504 (by decide +kernel) (by decide +kernel)), (pd_m 505 (by decide +kernel) (by decide +kernel)), (pd_m 506 (by decide +kernel) (by decide +kernel)), kS_leads⟩
theorem eD_carry_42 : pd_ic mD_carry 42 (-9) 44 := Or.inr (Or.inl ⟨⟨by decide +kernel, rfl⟩, by decide⟩)
theorem eD_carry_44 : pd_b2 mD_carry 44 .ne 47 50 := ⟨6, ⟨by decide +kernel, rfl⟩, by decide⟩
theorem eD_carry_47 : pd_ic mD_carry 47 (-9) 49 := Or.inr (Or.inl ⟨⟨by decide +kernel, rfl⟩, by decide⟩)
theorem eD_carry_49 {z : Int} : pd_rd mD_carry 49 (some (vi z)) := (by decide +kernel : decode mD_carry.2.1 49 = .ok (.ireturn, 1))
theorem eD_carry_50 : pd_al mD_carry 50 0 51 := Or.inl ⟨0, rfl, by decide +kernel, rfl⟩
theorem eD_carry_51 : pd_il mD_carry 51 1 52 := Or.inl ⟨1, rfl, by decide +kernel, rfl⟩
theorem eD_carry_52 : pd_kv mD_carry 52 mD_reckonLoads 1 55 := ⟨218, ⟨by decide +kernel, rfl⟩, (pd_m 598 (by decide +kernel) (by decide +kernel)), (pd_m 600 (by decide +kernel) (by decide +kernel)), (pd_m 17 (by decide +kernel) (by decide +kernel)), kD_reckonLoads⟩
theorem eD_carry_55 : pd_il mD_carry 55 2 56 := Or.inl ⟨2, rfl, by decide +kernel, rfl⟩
theorem eD_carry_56 : pd_ic mD_carry 56 (-1) 57 := Or.inl ⟨by decide +kernel, rfl⟩
theorem eD_carry_57 : pd_b2 mD_carry 57 .ne 60 67 := ⟨10, ⟨by decide +kernel, rfl⟩, by decide⟩
theorem eD_carry_60 : pd_al mD_carry 60 0 61 := Or.inl ⟨0, rfl, by decide +kernel, rfl⟩
theorem eD_carry_61 : pd_gf mD_carry 61 11 8 64 := ⟨44, _, ⟨by decide +kernel, rfl⟩, fD_44_11⟩
theorem eD_carry_64 : pd_il mD_carry 64 1 65 := Or.inl ⟨1, rfl, by decide +kernel, rfl⟩
theorem eD_carry_65 : pd_i mD_carry 65 (.iaload) 1 66 := ⟨by decide +kernel, rfl⟩
theorem eD_carry_66 {z : Int} : pd_rd mD_carry 66 (some (vi z)) := (by decide +kernel : decode mD_carry.2.1 66 = .ok (.ireturn, 1))
theorem eD_carry_67 : pd_il mD_carry 67 1 68 := Or.inl ⟨1, rfl, by decide +kernel, rfl⟩
theorem eD_carry_68 : pd_is mD_carry 68 3 69 := ⟨by decide, Or.inl ⟨3, rfl, by decide +kernel, rfl⟩⟩
theorem eD_carry_69 : pd_ic mD_carry 69 0 70 := Or.inl ⟨by decide +kernel, rfl⟩
theorem eD_carry_70 : pd_is mD_carry 70 4 72 := ⟨by decide, Or.inr ⟨by decide +kernel, rfl⟩⟩
theorem eD_carry_72 : pd_il mD_carry 72 4 74 := Or.inr ⟨by decide +kernel, rfl⟩
theorem eD_carry_74 : pd_il mD_carry 74 2 75 := Or.inl ⟨2, rfl, by decide +kernel, rfl⟩
theorem eD_carry_75 : pd_b2 mD_carry 75 .ge 78 105 := ⟨30, ⟨by decide +kernel, rfl⟩, by decide⟩
theorem eD_carry_78 : pd_il mD_carry 78 3 79 := Or.inl ⟨3, rfl, by decide +kernel, rfl⟩
theorem eD_carry_79 : pd_al mD_carry 79 0 80 := Or.inl ⟨0, rfl, by decide +kernel, rfl⟩
theorem eD_carry_80 : pd_il mD_carry 80 4 82 := Or.inr ⟨by decide +kernel, rfl⟩
theorem eD_carry_82 : pd_il mD_carry 82 3 83 := Or.inl ⟨3, rfl, by decide +kernel, rfl⟩
theorem eD_carry_83 : pd_kv mD_carry 83 mD_leastCarried 2 86 := ⟨222, ⟨by decide +kernel, rfl⟩, (pd_m 607 (by decide +kernel) (by decide +kernel)), (pd_m 609 (by decide +kernel) (by decide +kernel)), (pd_m 19 (by decide +kernel) (by decide +kernel)), kD_leastCarried⟩
theorem eD_carry_86 : pd_al mD_carry 86 0 87 := Or.inl ⟨0, rfl, by decide +kernel, rfl⟩
theorem eD_carry_87 : pd_gf mD_carry 87 11 11 90 := ⟨79, _, ⟨by decide +kernel, rfl⟩, fD_79_11⟩
theorem eD_carry_90 : pd_gf mD_carry 90 4 2 93 := ⟨124, _, ⟨by decide +kernel, rfl⟩, fD_124_4⟩
theorem eD_carry_93 : pd_il mD_carry 93 4 95 := Or.inr ⟨by decide +kernel, rfl⟩
theorem eD_carry_95 : pd_i mD_carry 95 (.iaload) 1 96 := ⟨by decide +kernel, rfl⟩
end
section
theorem eD_carry_96 : pd_i mD_carry 96 (.imul) 1 97 := ⟨by decide +kernel, rfl⟩
theorem eD_carry_97 : pd_i mD_carry 97 (.isub) 1 98 := ⟨by decide +kernel, rfl⟩
theorem eD_carry_98 : pd_is mD_carry 98 3 99 := ⟨by decide, Or.inl ⟨3, rfl, by decide +kernel, rfl⟩⟩
theorem eD_carry_99 : pd_ii mD_carry 99 4 1 102 := ⟨by decide, by decide +kernel, rfl⟩
theorem eD_carry_102 : pd_go mD_carry 102 72 := ⟨-30, by decide +kernel, by decide⟩
theorem eD_carry_105 : pd_al mD_carry 105 0 106 := Or.inl ⟨0, rfl, by decide +kernel, rfl⟩
theorem eD_carry_106 : pd_il mD_carry 106 2 107 := Or.inl ⟨2, rfl, by decide +kernel, rfl⟩
theorem eD_carry_107 : pd_il mD_carry 107 3 108 := Or.inl ⟨3, rfl, by decide +kernel, rfl⟩
theorem eD_carry_108 : pd_kv mD_carry 108 mD_leastCarried 2 111 := ⟨222, ⟨by decide +kernel, rfl⟩, (pd_m 607 (by decide +kernel) (by decide +kernel)), (pd_m 609 (by decide +kernel) (by decide +kernel)), (pd_m 19 (by decide +kernel) (by decide +kernel)), kD_leastCarried⟩
theorem eD_carry_111 {z : Int} : pd_rd mD_carry 111 (some (vi z)) := (by decide +kernel : decode mD_carry.2.1 111 = .ok (.ireturn, 1))
theorem eD_reckonLoads_0 : pd_ic mD_reckonLoads 0 0 1 := Or.inl ⟨by decide +kernel, rfl⟩
theorem eD_reckonLoads_1 : pd_is mD_reckonLoads 1 2 2 := ⟨by decide, Or.inl ⟨2, rfl, by decide +kernel, rfl⟩⟩
theorem eD_reckonLoads_2 : pd_il mD_reckonLoads 2 2 3 := Or.inl ⟨2, rfl, by decide +kernel, rfl⟩
theorem eD_reckonLoads_3 : pd_il mD_reckonLoads 3 1 4 := Or.inl ⟨1, rfl, by decide +kernel, rfl⟩
theorem eD_reckonLoads_4 : pd_b2 mD_reckonLoads 4 .gt 7 31 := ⟨27, ⟨by decide +kernel, rfl⟩, by decide⟩
theorem eD_reckonLoads_7 : pd_al mD_reckonLoads 7 0 8 := Or.inl ⟨0, rfl, by decide +kernel, rfl⟩
theorem eD_reckonLoads_8 : pd_gf mD_reckonLoads 8 11 8 11 := ⟨44, _, ⟨by decide +kernel, rfl⟩, fD_44_11⟩
theorem eD_reckonLoads_11 : pd_al mD_reckonLoads 11 0 12 := Or.inl ⟨0, rfl, by decide +kernel, rfl⟩
theorem eD_reckonLoads_12 : pd_gf mD_reckonLoads 12 11 11 15 := ⟨79, _, ⟨by decide +kernel, rfl⟩, fD_79_11⟩
theorem eD_reckonLoads_15 : pd_gf mD_reckonLoads 15 4 7 18 := ⟨189, _, ⟨by decide +kernel, rfl⟩, fD_189_4⟩
theorem eD_reckonLoads_18 : pd_ic mD_reckonLoads 18 61 20 := Or.inr (Or.inl ⟨⟨by decide +kernel, rfl⟩, by decide⟩)
theorem eD_reckonLoads_20 : pd_i mD_reckonLoads 20 (.imul) 1 21 := ⟨by decide +kernel, rfl⟩
theorem eD_reckonLoads_21 : pd_il mD_reckonLoads 21 2 22 := Or.inl ⟨2, rfl, by decide +kernel, rfl⟩
theorem eD_reckonLoads_22 : pd_i mD_reckonLoads 22 (.iadd) 1 23 := ⟨by decide +kernel, rfl⟩
theorem eD_reckonLoads_23 : pd_ic mD_reckonLoads 23 0 24 := Or.inl ⟨by decide +kernel, rfl⟩
theorem eD_reckonLoads_24 : pd_i mD_reckonLoads 24 (.iastore) 1 25 := ⟨by decide +kernel, rfl⟩
theorem eD_reckonLoads_25 : pd_ii mD_reckonLoads 25 2 1 28 := ⟨by decide, by decide +kernel, rfl⟩
theorem eD_reckonLoads_28 : pd_go mD_reckonLoads 28 2 := ⟨-26, by decide +kernel, by decide⟩
theorem eD_reckonLoads_31 : pd_al mD_reckonLoads 31 0 32 := Or.inl ⟨0, rfl, by decide +kernel, rfl⟩
theorem eD_reckonLoads_32 : pd_gf mD_reckonLoads 32 11 11 35 := ⟨79, _, ⟨by decide +kernel, rfl⟩, fD_79_11⟩
theorem eD_reckonLoads_35 : pd_gf mD_reckonLoads 35 4 7 38 := ⟨189, _, ⟨by decide +kernel, rfl⟩, fD_189_4⟩
theorem eD_reckonLoads_38 : pd_ic mD_reckonLoads 38 1 39 := Or.inl ⟨by decide +kernel, rfl⟩
theorem eD_reckonLoads_39 : pd_i mD_reckonLoads 39 (.isub) 1 40 := ⟨by decide +kernel, rfl⟩
theorem eD_reckonLoads_40 : pd_is mD_reckonLoads 40 2 41 := ⟨by decide, Or.inl ⟨2, rfl, by decide +kernel, rfl⟩⟩
theorem eD_reckonLoads_41 : pd_il mD_reckonLoads 41 2 42 := Or.inl ⟨2, rfl, by decide +kernel, rfl⟩
theorem eD_reckonLoads_42 : pd_b1 mD_reckonLoads 42 .lt 45 147 := ⟨105, ⟨by decide +kernel, rfl⟩, by decide⟩
theorem eD_reckonLoads_45 : pd_al mD_reckonLoads 45 0 46 := Or.inl ⟨0, rfl, by decide +kernel, rfl⟩
theorem eD_reckonLoads_46 : pd_gf mD_reckonLoads 46 11 1 49 := ⟨19, _, ⟨by decide +kernel, rfl⟩, fD_19_11⟩
theorem eD_reckonLoads_49 : pd_gf mD_reckonLoads 49 6 0 52 := ⟨130, _, ⟨by decide +kernel, rfl⟩, fD_130_6⟩
theorem eD_reckonLoads_52 : pd_al mD_reckonLoads 52 0 53 := Or.inl ⟨0, rfl, by decide +kernel, rfl⟩
theorem eD_reckonLoads_53 : pd_gf mD_reckonLoads 53 11 11 56 := ⟨79, _, ⟨by decide +kernel, rfl⟩, fD_79_11⟩
theorem eD_reckonLoads_56 : pd_il mD_reckonLoads 56 2 57 := Or.inl ⟨2, rfl, by decide +kernel, rfl⟩
theorem eD_reckonLoads_57 : pd_kv mD_reckonLoads 57 mS_open 2 60 := ⟨142, ⟨by decide +kernel, rfl⟩, (pd_m 456 (by decide +kernel) (by decide +kernel)), (pd_m 457 (by decide +kernel) (by decide +kernel)), (pd_m 458 (by decide +kernel) (by decide +kernel)), kS_open⟩
theorem eD_reckonLoads_60 : pd_is mD_reckonLoads 60 3 61 := ⟨by decide, Or.inl ⟨3, rfl, by decide +kernel, rfl⟩⟩
theorem eD_reckonLoads_61 : pd_ic mD_reckonLoads 61 0 62 := Or.inl ⟨by decide +kernel, rfl⟩
theorem eD_reckonLoads_62 : pd_is mD_reckonLoads 62 4 64 := ⟨by decide, Or.inr ⟨by decide +kernel, rfl⟩⟩
theorem eD_reckonLoads_64 : pd_il mD_reckonLoads 64 4 66 := Or.inr ⟨by decide +kernel, rfl⟩
theorem eD_reckonLoads_66 : pd_il mD_reckonLoads 66 1 67 := Or.inl ⟨1, rfl, by decide +kernel, rfl⟩
theorem eD_reckonLoads_67 : pd_b2 mD_reckonLoads 67 .gt 70 141 := ⟨74, ⟨by decide +kernel, rfl⟩, by decide⟩
theorem eD_reckonLoads_70 : pd_ic mD_reckonLoads 70 0 71 := Or.inl ⟨by decide +kernel, rfl⟩
theorem eD_reckonLoads_71 : pd_is mD_reckonLoads 71 5 73 := ⟨by decide, Or.inr ⟨by decide +kernel, rfl⟩⟩
theorem eD_reckonLoads_73 : pd_ic mD_reckonLoads 73 0 74 := Or.inl ⟨by decide +kernel, rfl⟩
theorem eD_reckonLoads_74 : pd_is mD_reckonLoads 74 6 76 := ⟨by decide, Or.inr ⟨by decide +kernel, rfl⟩⟩
theorem eD_reckonLoads_76 : pd_il mD_reckonLoads 76 6 78 := Or.inr ⟨by decide +kernel, rfl⟩
theorem eD_reckonLoads_78 : pd_il mD_reckonLoads 78 3 79 := Or.inl ⟨3, rfl, by decide +kernel, rfl⟩
theorem eD_reckonLoads_79 : pd_b2 mD_reckonLoads 79 .gt 82 121 := ⟨42, ⟨by decide +kernel, rfl⟩, by decide⟩
theorem eD_reckonLoads_82 : pd_il mD_reckonLoads 82 6 84 := Or.inr ⟨by decide +kernel, rfl⟩
theorem eD_reckonLoads_84 : pd_al mD_reckonLoads 84 0 85 := Or.inl ⟨0, rfl, by decide +kernel, rfl⟩
theorem eD_reckonLoads_85 : pd_gf mD_reckonLoads 85 11 11 88 := ⟨79, _, ⟨by decide +kernel, rfl⟩, fD_79_11⟩
theorem eD_reckonLoads_88 : pd_gf mD_reckonLoads 88 4 2 91 := ⟨124, _, ⟨by decide +kernel, rfl⟩, fD_124_4⟩
theorem eD_reckonLoads_91 : pd_il mD_reckonLoads 91 2 92 := Or.inl ⟨2, rfl, by decide +kernel, rfl⟩
theorem eD_reckonLoads_92 : pd_i mD_reckonLoads 92 (.iaload) 1 93 := ⟨by decide +kernel, rfl⟩
theorem eD_reckonLoads_93 : pd_i mD_reckonLoads 93 (.imul) 1 94 := ⟨by decide +kernel, rfl⟩
theorem eD_reckonLoads_94 : pd_il mD_reckonLoads 94 4 96 := Or.inr ⟨by decide +kernel, rfl⟩
theorem eD_reckonLoads_96 : pd_b2 mD_reckonLoads 96 .gt 99 121 := ⟨25, ⟨by decide +kernel, rfl⟩, by decide⟩
theorem eD_reckonLoads_99 : pd_il mD_reckonLoads 99 5 101 := Or.inr ⟨by decide +kernel, rfl⟩
theorem eD_reckonLoads_101 : pd_al mD_reckonLoads 101 0 102 := Or.inl ⟨0, rfl, by decide +kernel, rfl⟩
theorem eD_reckonLoads_102 : pd_il mD_reckonLoads 102 2 103 := Or.inl ⟨2, rfl, by decide +kernel, rfl⟩
theorem eD_reckonLoads_103 : pd_il mD_reckonLoads 103 6 105 := Or.inr ⟨by decide +kernel, rfl⟩
theorem eD_reckonLoads_105 : pd_il mD_reckonLoads 105 4 107 := Or.inr ⟨by decide +kernel, rfl⟩
theorem eD_reckonLoads_107 : pd_kv mD_reckonLoads 107 mD_worthWith 3 110 := ⟨225, ⟨by decide +kernel, rfl⟩, (pd_m 602 (by decide +kernel) (by decide +kernel)), (pd_m 604 (by decide +kernel) (by decide +kernel)), (pd_m 18 (by decide +kernel) (by decide +kernel)), kD_worthWith⟩
theorem eD_reckonLoads_110 : pd_max mD_reckonLoads 110 113 := ⟨228, ⟨by decide +kernel, rfl⟩, (pd_m 606 (by decide +kernel) (by decide +kernel))⟩
theorem eD_reckonLoads_113 : pd_is mD_reckonLoads 113 5 115 := ⟨by decide, Or.inr ⟨by decide +kernel, rfl⟩⟩
theorem eD_reckonLoads_115 : pd_ii mD_reckonLoads 115 6 1 118 := ⟨by decide, by decide +kernel, rfl⟩
theorem eD_reckonLoads_118 : pd_go mD_reckonLoads 118 76 := ⟨-42, by decide +kernel, by decide⟩
theorem eD_reckonLoads_121 : pd_al mD_reckonLoads 121 0 122 := Or.inl ⟨0, rfl, by decide +kernel, rfl⟩
theorem eD_reckonLoads_122 : pd_gf mD_reckonLoads 122 11 8 125 := ⟨44, _, ⟨by decide +kernel, rfl⟩, fD_44_11⟩
theorem eD_reckonLoads_125 : pd_il mD_reckonLoads 125 2 126 := Or.inl ⟨2, rfl, by decide +kernel, rfl⟩
theorem eD_reckonLoads_126 : pd_ic mD_reckonLoads 126 61 128 := Or.inr (Or.inl ⟨⟨by decide +kernel, rfl⟩, by decide⟩)
theorem eD_reckonLoads_128 : pd_i mD_reckonLoads 128 (.imul) 1 129 := ⟨by decide +kernel, rfl⟩
theorem eD_reckonLoads_129 : pd_il mD_reckonLoads 129 4 131 := Or.inr ⟨by decide +kernel, rfl⟩
theorem eD_reckonLoads_131 : pd_i mD_reckonLoads 131 (.iadd) 1 132 := ⟨by decide +kernel, rfl⟩
theorem eD_reckonLoads_132 : pd_il mD_reckonLoads 132 5 134 := Or.inr ⟨by decide +kernel, rfl⟩
theorem eD_reckonLoads_134 : pd_i mD_reckonLoads 134 (.iastore) 1 135 := ⟨by decide +kernel, rfl⟩
theorem eD_reckonLoads_135 : pd_ii mD_reckonLoads 135 4 1 138 := ⟨by decide, by decide +kernel, rfl⟩
theorem eD_reckonLoads_138 : pd_go mD_reckonLoads 138 64 := ⟨-74, by decide +kernel, by decide⟩
theorem eD_reckonLoads_141 : pd_ii mD_reckonLoads 141 2 (-1) 144 := ⟨by decide, by decide +kernel, rfl⟩
theorem eD_reckonLoads_144 : pd_go mD_reckonLoads 144 41 := ⟨-103, by decide +kernel, by decide⟩
theorem eD_reckonLoads_147 : pd_rd mD_reckonLoads 147 none := (by decide +kernel : decode mD_reckonLoads.2.1 147 = .ok (.return_, 1))
theorem eD_worthWith_0 : pd_il mD_worthWith 0 2 1 := Or.inl ⟨2, rfl, by decide +kernel, rfl⟩
theorem eD_worthWith_1 : pd_al mD_worthWith 1 0 2 := Or.inl ⟨0, rfl, by decide +kernel, rfl⟩
theorem eD_worthWith_2 : pd_gf mD_worthWith 2 11 11 5 := ⟨79, _, ⟨by decide +kernel, rfl⟩, fD_79_11⟩
theorem eD_worthWith_5 : pd_gf mD_worthWith 5 4 3 8 := ⟨127, _, ⟨by decide +kernel, rfl⟩, fD_127_4⟩
theorem eD_worthWith_8 : pd_il mD_worthWith 8 1 9 := Or.inl ⟨1, rfl, by decide +kernel, rfl⟩
theorem eD_worthWith_9 : pd_i mD_worthWith 9 (.iaload) 1 10 := ⟨by decide +kernel, rfl⟩
theorem eD_worthWith_10 : pd_i mD_worthWith 10 (.imul) 1 11 := ⟨by decide +kernel, rfl⟩
theorem eD_worthWith_11 : pd_al mD_worthWith 11 0 12 := Or.inl ⟨0, rfl, by decide +kernel, rfl⟩
theorem eD_worthWith_12 : pd_gf mD_worthWith 12 11 8 15 := ⟨44, _, ⟨by decide +kernel, rfl⟩, fD_44_11⟩
theorem eD_worthWith_15 : pd_il mD_worthWith 15 1 16 := Or.inl ⟨1, rfl, by decide +kernel, rfl⟩
theorem eD_worthWith_16 : pd_ic mD_worthWith 16 1 17 := Or.inl ⟨by decide +kernel, rfl⟩
theorem eD_worthWith_17 : pd_i mD_worthWith 17 (.iadd) 1 18 := ⟨by decide +kernel, rfl⟩
theorem eD_worthWith_18 : pd_ic mD_worthWith 18 61 20 := Or.inr (Or.inl ⟨⟨by decide +kernel, rfl⟩, by decide⟩)
theorem eD_worthWith_20 : pd_i mD_worthWith 20 (.imul) 1 21 := ⟨by decide +kernel, rfl⟩
theorem eD_worthWith_21 : pd_il mD_worthWith 21 3 22 := Or.inl ⟨3, rfl, by decide +kernel, rfl⟩
theorem eD_worthWith_22 : pd_i mD_worthWith 22 (.iadd) 1 23 := ⟨by decide +kernel, rfl⟩
theorem eD_worthWith_23 : pd_il mD_worthWith 23 2 24 := Or.inl ⟨2, rfl, by decide +kernel, rfl⟩
theorem eD_worthWith_24 : pd_al mD_worthWith 24 0 25 := Or.inl ⟨0, rfl, by decide +kernel, rfl⟩
theorem eD_worthWith_25 : pd_gf mD_worthWith 25 11 11 28 := ⟨79, _, ⟨by decide +kernel, rfl⟩, fD_79_11⟩
theorem eD_worthWith_28 : pd_gf mD_worthWith 28 4 2 31 := ⟨124, _, ⟨by decide +kernel, rfl⟩, fD_124_4⟩
theorem eD_worthWith_31 : pd_il mD_worthWith 31 1 32 := Or.inl ⟨1, rfl, by decide +kernel, rfl⟩
theorem eD_worthWith_32 : pd_i mD_worthWith 32 (.iaload) 1 33 := ⟨by decide +kernel, rfl⟩
theorem eD_worthWith_33 : pd_i mD_worthWith 33 (.imul) 1 34 := ⟨by decide +kernel, rfl⟩
theorem eD_worthWith_34 : pd_i mD_worthWith 34 (.isub) 1 35 := ⟨by decide +kernel, rfl⟩
theorem eD_worthWith_35 : pd_i mD_worthWith 35 (.iaload) 1 36 := ⟨by decide +kernel, rfl⟩
theorem eD_worthWith_36 : pd_i mD_worthWith 36 (.iadd) 1 37 := ⟨by decide +kernel, rfl⟩
theorem eD_worthWith_37 {z : Int} : pd_rd mD_worthWith 37 (some (vi z)) := (by decide +kernel : decode mD_worthWith.2.1 37 = .ok (.ireturn, 1))
theorem eD_leastCarried_0 : pd_al mD_leastCarried 0 0 1 := Or.inl ⟨0, rfl, by decide +kernel, rfl⟩
theorem eD_leastCarried_1 : pd_gf mD_leastCarried 1 11 1 4 := ⟨19, _, ⟨by decide +kernel, rfl⟩, fD_19_11⟩
theorem eD_leastCarried_4 : pd_gf mD_leastCarried 4 6 0 7 := ⟨130, _, ⟨by decide +kernel, rfl⟩, fD_130_6⟩
theorem eD_leastCarried_7 : pd_al mD_leastCarried 7 0 8 := Or.inl ⟨0, rfl, by decide +kernel, rfl⟩
theorem eD_leastCarried_8 : pd_gf mD_leastCarried 8 11 11 11 := ⟨79, _, ⟨by decide +kernel, rfl⟩, fD_79_11⟩
theorem eD_leastCarried_11 : pd_il mD_leastCarried 11 1 12 := Or.inl ⟨1, rfl, by decide +kernel, rfl⟩
theorem eD_leastCarried_12 : pd_kv mD_leastCarried 12 mS_open 2 15 := ⟨142, ⟨by decide +kernel, rfl⟩, (pd_m 456 (by decide +kernel) (by decide +kernel)), (pd_m 457 (by decide +kernel) (by decide +kernel)), (pd_m 458 (by decide +kernel) (by decide +kernel)), kS_open⟩
theorem eD_leastCarried_15 : pd_is mD_leastCarried 15 3 16 := ⟨by decide, Or.inl ⟨3, rfl, by decide +kernel, rfl⟩⟩
theorem eD_leastCarried_16 : pd_ic mD_leastCarried 16 0 17 := Or.inl ⟨by decide +kernel, rfl⟩
theorem eD_leastCarried_17 : pd_is mD_leastCarried 17 4 19 := ⟨by decide, Or.inr ⟨by decide +kernel, rfl⟩⟩
theorem eD_leastCarried_19 : pd_il mD_leastCarried 19 4 21 := Or.inr ⟨by decide +kernel, rfl⟩
theorem eD_leastCarried_21 : pd_il mD_leastCarried 21 3 22 := Or.inl ⟨3, rfl, by decide +kernel, rfl⟩
theorem eD_leastCarried_22 : pd_b2 mD_leastCarried 22 .gt 25 72 := ⟨50, ⟨by decide +kernel, rfl⟩, by decide⟩
theorem eD_leastCarried_25 : pd_il mD_leastCarried 25 4 27 := Or.inr ⟨by decide +kernel, rfl⟩
theorem eD_leastCarried_27 : pd_al mD_leastCarried 27 0 28 := Or.inl ⟨0, rfl, by decide +kernel, rfl⟩
theorem eD_leastCarried_28 : pd_gf mD_leastCarried 28 11 11 31 := ⟨79, _, ⟨by decide +kernel, rfl⟩, fD_79_11⟩
theorem eD_leastCarried_31 : pd_gf mD_leastCarried 31 4 2 34 := ⟨124, _, ⟨by decide +kernel, rfl⟩, fD_124_4⟩
theorem eD_leastCarried_34 : pd_il mD_leastCarried 34 1 35 := Or.inl ⟨1, rfl, by decide +kernel, rfl⟩
theorem eD_leastCarried_35 : pd_i mD_leastCarried 35 (.iaload) 1 36 := ⟨by decide +kernel, rfl⟩
theorem eD_leastCarried_36 : pd_i mD_leastCarried 36 (.imul) 1 37 := ⟨by decide +kernel, rfl⟩
theorem eD_leastCarried_37 : pd_il mD_leastCarried 37 2 38 := Or.inl ⟨2, rfl, by decide +kernel, rfl⟩
theorem eD_leastCarried_38 : pd_b2 mD_leastCarried 38 .gt 41 72 := ⟨34, ⟨by decide +kernel, rfl⟩, by decide⟩
theorem eD_leastCarried_41 : pd_al mD_leastCarried 41 0 42 := Or.inl ⟨0, rfl, by decide +kernel, rfl⟩
theorem eD_leastCarried_42 : pd_il mD_leastCarried 42 1 43 := Or.inl ⟨1, rfl, by decide +kernel, rfl⟩
theorem eD_leastCarried_43 : pd_il mD_leastCarried 43 4 45 := Or.inr ⟨by decide +kernel, rfl⟩
theorem eD_leastCarried_45 : pd_il mD_leastCarried 45 2 46 := Or.inl ⟨2, rfl, by decide +kernel, rfl⟩
theorem eD_leastCarried_46 : pd_kv mD_leastCarried 46 mD_worthWith 3 49 := ⟨225, ⟨by decide +kernel, rfl⟩, (pd_m 602 (by decide +kernel) (by decide +kernel)), (pd_m 604 (by decide +kernel) (by decide +kernel)), (pd_m 18 (by decide +kernel) (by decide +kernel)), kD_worthWith⟩
theorem eD_leastCarried_49 : pd_al mD_leastCarried 49 0 50 := Or.inl ⟨0, rfl, by decide +kernel, rfl⟩
theorem eD_leastCarried_50 : pd_gf mD_leastCarried 50 11 8 53 := ⟨44, _, ⟨by decide +kernel, rfl⟩, fD_44_11⟩
theorem eD_leastCarried_53 : pd_il mD_leastCarried 53 1 54 := Or.inl ⟨1, rfl, by decide +kernel, rfl⟩
theorem eD_leastCarried_54 : pd_ic mD_leastCarried 54 61 56 := Or.inr (Or.inl ⟨⟨by decide +kernel, rfl⟩, by decide⟩)
theorem eD_leastCarried_56 : pd_i mD_leastCarried 56 (.imul) 1 57 := ⟨by decide +kernel, rfl⟩
theorem eD_leastCarried_57 : pd_il mD_leastCarried 57 2 58 := Or.inl ⟨2, rfl, by decide +kernel, rfl⟩
theorem eD_leastCarried_58 : pd_i mD_leastCarried 58 (.iadd) 1 59 := ⟨by decide +kernel, rfl⟩
theorem eD_leastCarried_59 : pd_i mD_leastCarried 59 (.iaload) 1 60 := ⟨by decide +kernel, rfl⟩
theorem eD_leastCarried_60 : pd_b2 mD_leastCarried 60 .ne 63 66 := ⟨6, ⟨by decide +kernel, rfl⟩, by decide⟩
theorem eD_leastCarried_63 : pd_il mD_leastCarried 63 4 65 := Or.inr ⟨by decide +kernel, rfl⟩
theorem eD_leastCarried_65 {z : Int} : pd_rd mD_leastCarried 65 (some (vi z)) := (by decide +kernel : decode mD_leastCarried.2.1 65 = .ok (.ireturn, 1))
theorem eD_leastCarried_66 : pd_ii mD_leastCarried 66 4 1 69 := ⟨by decide, by decide +kernel, rfl⟩
theorem eD_leastCarried_69 : pd_go mD_leastCarried 69 19 := ⟨-50, by decide +kernel, by decide⟩
theorem eD_leastCarried_72 : pd_ic mD_leastCarried 72 0 73 := Or.inl ⟨by decide +kernel, rfl⟩
theorem eD_leastCarried_73 {z : Int} : pd_rd mD_leastCarried 73 (some (vi z)) := (by decide +kernel : decode mD_leastCarried.2.1 73 = .ok (.ireturn, 1))
theorem eD_odds_0 : pd_il mD_odds 0 1 1 := Or.inl ⟨1, rfl, by decide +kernel, rfl⟩
theorem eD_odds_1 : pd_ic mD_odds 1 0 2 := Or.inl ⟨by decide +kernel, rfl⟩
theorem eD_odds_2 : pd_ic mD_odds 2 10 4 := Or.inr (Or.inl ⟨⟨by decide +kernel, rfl⟩, by decide⟩)
theorem eD_odds_4 : pd_ks mD_odds 4 mD_within 3 7 := ⟨86, ⟨by decide +kernel, rfl⟩, Or.inl (pd_m 356 (by decide +kernel) (by decide +kernel)), (pd_m 357 (by decide +kernel) (by decide +kernel)), kD_within⟩
theorem eD_odds_7 : pd_b1 mD_odds 7 .eq 10 29 := ⟨22, ⟨by decide +kernel, rfl⟩, by decide⟩
theorem eD_odds_10 : pd_il mD_odds 10 2 11 := Or.inl ⟨2, rfl, by decide +kernel, rfl⟩
theorem eD_odds_11 : pd_ic mD_odds 11 0 12 := Or.inl ⟨by decide +kernel, rfl⟩
theorem eD_odds_12 : pd_ic mD_odds 12 9 14 := Or.inr (Or.inl ⟨⟨by decide +kernel, rfl⟩, by decide⟩)
theorem eD_odds_14 : pd_ks mD_odds 14 mD_within 3 17 := ⟨86, ⟨by decide +kernel, rfl⟩, Or.inl (pd_m 356 (by decide +kernel) (by decide +kernel)), (pd_m 357 (by decide +kernel) (by decide +kernel)), kD_within⟩
theorem eD_odds_17 : pd_b1 mD_odds 17 .eq 20 29 := ⟨12, ⟨by decide +kernel, rfl⟩, by decide⟩
theorem eD_odds_20 : pd_il mD_odds 20 3 21 := Or.inl ⟨3, rfl, by decide +kernel, rfl⟩
theorem eD_odds_21 : pd_ic mD_odds 21 0 22 := Or.inl ⟨by decide +kernel, rfl⟩
theorem eD_odds_22 : pd_ic mD_odds 22 1 23 := Or.inl ⟨by decide +kernel, rfl⟩
theorem eD_odds_23 : pd_ks mD_odds 23 mD_within 3 26 := ⟨86, ⟨by decide +kernel, rfl⟩, Or.inl (pd_m 356 (by decide +kernel) (by decide +kernel)), (pd_m 357 (by decide +kernel) (by decide +kernel)), kD_within⟩
theorem eD_odds_26 : pd_b1 mD_odds 26 .ne 29 31 := ⟨5, ⟨by decide +kernel, rfl⟩, by decide⟩
theorem eD_odds_29 : pd_ic mD_odds 29 (-1) 30 := Or.inl ⟨by decide +kernel, rfl⟩
theorem eD_odds_30 {z : Int} : pd_rd mD_odds 30 (some (vi z)) := (by decide +kernel : decode mD_odds.2.1 30 = .ok (.ireturn, 1))
theorem eD_odds_31 : pd_ic mD_odds 31 1 32 := Or.inl ⟨by decide +kernel, rfl⟩
theorem eD_odds_32 : pd_is mD_odds 32 4 34 := ⟨by decide, Or.inr ⟨by decide +kernel, rfl⟩⟩
theorem eD_odds_34 : pd_ic mD_odds 34 1 35 := Or.inl ⟨by decide +kernel, rfl⟩
theorem eD_odds_35 : pd_is mD_odds 35 5 37 := ⟨by decide, Or.inr ⟨by decide +kernel, rfl⟩⟩
theorem eD_odds_37 : pd_ic mD_odds 37 0 38 := Or.inl ⟨by decide +kernel, rfl⟩
theorem eD_odds_38 : pd_is mD_odds 38 6 40 := ⟨by decide, Or.inr ⟨by decide +kernel, rfl⟩⟩
theorem eD_odds_40 : pd_il mD_odds 40 6 42 := Or.inr ⟨by decide +kernel, rfl⟩
theorem eD_odds_42 : pd_il mD_odds 42 2 43 := Or.inl ⟨2, rfl, by decide +kernel, rfl⟩
theorem eD_odds_43 : pd_b2 mD_odds 43 .ge 46 65 := ⟨22, ⟨by decide +kernel, rfl⟩, by decide⟩
theorem eD_odds_46 : pd_il mD_odds 46 4 48 := Or.inr ⟨by decide +kernel, rfl⟩
theorem eD_odds_48 : pd_ic mD_odds 48 10 50 := Or.inr (Or.inl ⟨⟨by decide +kernel, rfl⟩, by decide⟩)
theorem eD_odds_50 : pd_i mD_odds 50 (.imul) 1 51 := ⟨by decide +kernel, rfl⟩
theorem eD_odds_51 : pd_is mD_odds 51 4 53 := ⟨by decide, Or.inr ⟨by decide +kernel, rfl⟩⟩
theorem eD_odds_53 : pd_il mD_odds 53 5 55 := Or.inr ⟨by decide +kernel, rfl⟩
theorem eD_odds_55 : pd_il mD_odds 55 1 56 := Or.inl ⟨1, rfl, by decide +kernel, rfl⟩
theorem eD_odds_56 : pd_i mD_odds 56 (.imul) 1 57 := ⟨by decide +kernel, rfl⟩
theorem eD_odds_57 : pd_is mD_odds 57 5 59 := ⟨by decide, Or.inr ⟨by decide +kernel, rfl⟩⟩
theorem eD_odds_59 : pd_ii mD_odds 59 6 1 62 := ⟨by decide, by decide +kernel, rfl⟩
theorem eD_odds_62 : pd_go mD_odds 62 40 := ⟨-22, by decide +kernel, by decide⟩
theorem eD_odds_65 : pd_il mD_odds 65 4 67 := Or.inr ⟨by decide +kernel, rfl⟩
theorem eD_odds_67 : pd_il mD_odds 67 5 69 := Or.inr ⟨by decide +kernel, rfl⟩
theorem eD_odds_69 : pd_i mD_odds 69 (.isub) 1 70 := ⟨by decide +kernel, rfl⟩
theorem eD_odds_70 : pd_il mD_odds 70 4 72 := Or.inr ⟨by decide +kernel, rfl⟩
theorem eD_odds_72 : pd_ic mD_odds 72 2 73 := Or.inl ⟨by decide +kernel, rfl⟩
theorem eD_odds_73 : pd_il mD_odds 73 2 74 := Or.inl ⟨2, rfl, by decide +kernel, rfl⟩
theorem eD_odds_74 : pd_ks mD_odds 74 mD_commonFactors 4 77 := ⟨231, ⟨by decide +kernel, rfl⟩, Or.inl (pd_m 615 (by decide +kernel) (by decide +kernel)), (pd_m 616 (by decide +kernel) (by decide +kernel)), kD_commonFactors⟩
theorem eD_odds_77 : pd_il mD_odds 77 4 79 := Or.inr ⟨by decide +kernel, rfl⟩
theorem eD_odds_79 : pd_il mD_odds 79 5 81 := Or.inr ⟨by decide +kernel, rfl⟩
theorem eD_odds_81 : pd_i mD_odds 81 (.isub) 1 82 := ⟨by decide +kernel, rfl⟩
theorem eD_odds_82 : pd_il mD_odds 82 4 84 := Or.inr ⟨by decide +kernel, rfl⟩
theorem eD_odds_84 : pd_ic mD_odds 84 5 85 := Or.inl ⟨by decide +kernel, rfl⟩
theorem eD_odds_85 : pd_il mD_odds 85 2 86 := Or.inl ⟨2, rfl, by decide +kernel, rfl⟩
theorem eD_odds_86 : pd_ks mD_odds 86 mD_commonFactors 4 89 := ⟨231, ⟨by decide +kernel, rfl⟩, Or.inl (pd_m 615 (by decide +kernel) (by decide +kernel)), (pd_m 616 (by decide +kernel) (by decide +kernel)), kD_commonFactors⟩
theorem eD_odds_89 : pd_i mD_odds 89 (.imul) 1 90 := ⟨by decide +kernel, rfl⟩
theorem eD_odds_90 : pd_is mD_odds 90 6 92 := ⟨by decide, Or.inr ⟨by decide +kernel, rfl⟩⟩
theorem eD_odds_92 : pd_il mD_odds 92 6 94 := Or.inr ⟨by decide +kernel, rfl⟩
theorem eD_odds_94 : pd_ic mD_odds 94 1 95 := Or.inl ⟨by decide +kernel, rfl⟩
theorem eD_odds_95 : pd_b2 mD_odds 95 .ge 98 100 := ⟨5, ⟨by decide +kernel, rfl⟩, by decide⟩
theorem eD_odds_98 : pd_ic mD_odds 98 (-1) 99 := Or.inl ⟨by decide +kernel, rfl⟩
theorem eD_odds_99 {z : Int} : pd_rd mD_odds 99 (some (vi z)) := (by decide +kernel : decode mD_odds.2.1 99 = .ok (.ireturn, 1))
theorem eD_odds_100 : pd_il mD_odds 100 3 101 := Or.inl ⟨3, rfl, by decide +kernel, rfl⟩
theorem eD_odds_101 : pd_b1 mD_odds 101 .ne 104 112 := ⟨11, ⟨by decide +kernel, rfl⟩, by decide⟩
theorem eD_odds_104 : pd_il mD_odds 104 4 106 := Or.inr ⟨by decide +kernel, rfl⟩
theorem eD_odds_106 : pd_il mD_odds 106 5 108 := Or.inr ⟨by decide +kernel, rfl⟩
theorem eD_odds_108 : pd_i mD_odds 108 (.isub) 1 109 := ⟨by decide +kernel, rfl⟩
theorem eD_odds_109 : pd_go mD_odds 109 114 := ⟨5, by decide +kernel, by decide⟩
theorem eD_odds_112 : pd_il mD_odds 112 4 114 := Or.inr ⟨by decide +kernel, rfl⟩
theorem eD_odds_114 : pd_il mD_odds 114 6 116 := Or.inr ⟨by decide +kernel, rfl⟩
theorem eD_odds_116 : pd_i mD_odds 116 (.idiv) 1 117 := ⟨by decide +kernel, rfl⟩
theorem eD_odds_117 {z : Int} : pd_rd mD_odds 117 (some (vi z)) := (by decide +kernel : decode mD_odds.2.1 117 = .ok (.ireturn, 1))
theorem eD_commonFactors_0 : pd_ic mD_commonFactors 0 1 1 := Or.inl ⟨by decide +kernel, rfl⟩
theorem eD_commonFactors_1 : pd_is mD_commonFactors 1 4 3 := ⟨by decide, Or.inr ⟨by decide +kernel, rfl⟩⟩
theorem eD_commonFactors_3 : pd_ic mD_commonFactors 3 0 4 := Or.inl ⟨by decide +kernel, rfl⟩
theorem eD_commonFactors_4 : pd_is mD_commonFactors 4 5 6 := ⟨by decide, Or.inr ⟨by decide +kernel, rfl⟩⟩
theorem eD_commonFactors_6 : pd_il mD_commonFactors 6 5 8 := Or.inr ⟨by decide +kernel, rfl⟩
theorem eD_commonFactors_8 : pd_il mD_commonFactors 8 3 9 := Or.inl ⟨3, rfl, by decide +kernel, rfl⟩
theorem eD_commonFactors_9 : pd_b2 mD_commonFactors 9 .ge 12 51 := ⟨42, ⟨by decide +kernel, rfl⟩, by decide⟩
theorem eD_commonFactors_12 : pd_il mD_commonFactors 12 4 14 := Or.inr ⟨by decide +kernel, rfl⟩
theorem eD_commonFactors_14 : pd_il mD_commonFactors 14 2 15 := Or.inl ⟨2, rfl, by decide +kernel, rfl⟩
theorem eD_commonFactors_15 : pd_i mD_commonFactors 15 (.imul) 1 16 := ⟨by decide +kernel, rfl⟩
theorem eD_commonFactors_16 : pd_is mD_commonFactors 16 6 18 := ⟨by decide, Or.inr ⟨by decide +kernel, rfl⟩⟩
theorem eD_commonFactors_18 : pd_il mD_commonFactors 18 6 20 := Or.inr ⟨by decide +kernel, rfl⟩
theorem eD_commonFactors_20 : pd_ic mD_commonFactors 20 1 21 := Or.inl ⟨by decide +kernel, rfl⟩
theorem eD_commonFactors_21 : pd_b2 mD_commonFactors 21 .lt 24 38 := ⟨17, ⟨by decide +kernel, rfl⟩, by decide⟩
theorem eD_commonFactors_24 : pd_il mD_commonFactors 24 0 25 := Or.inl ⟨0, rfl, by decide +kernel, rfl⟩
theorem eD_commonFactors_25 : pd_il mD_commonFactors 25 6 27 := Or.inr ⟨by decide +kernel, rfl⟩
theorem eD_commonFactors_27 : pd_i mD_commonFactors 27 (.irem) 1 28 := ⟨by decide +kernel, rfl⟩
theorem eD_commonFactors_28 : pd_b1 mD_commonFactors 28 .ne 31 38 := ⟨10, ⟨by decide +kernel, rfl⟩, by decide⟩
theorem eD_commonFactors_31 : pd_il mD_commonFactors 31 1 32 := Or.inl ⟨1, rfl, by decide +kernel, rfl⟩
theorem eD_commonFactors_32 : pd_il mD_commonFactors 32 6 34 := Or.inr ⟨by decide +kernel, rfl⟩
theorem eD_commonFactors_34 : pd_i mD_commonFactors 34 (.irem) 1 35 := ⟨by decide +kernel, rfl⟩
theorem eD_commonFactors_35 : pd_b1 mD_commonFactors 35 .eq 38 41 := ⟨6, ⟨by decide +kernel, rfl⟩, by decide⟩
theorem eD_commonFactors_38 : pd_il mD_commonFactors 38 4 40 := Or.inr ⟨by decide +kernel, rfl⟩
theorem eD_commonFactors_40 {z : Int} : pd_rd mD_commonFactors 40 (some (vi z)) := (by decide +kernel : decode mD_commonFactors.2.1 40 = .ok (.ireturn, 1))
theorem eD_commonFactors_41 : pd_il mD_commonFactors 41 6 43 := Or.inr ⟨by decide +kernel, rfl⟩
theorem eD_commonFactors_43 : pd_is mD_commonFactors 43 4 45 := ⟨by decide, Or.inr ⟨by decide +kernel, rfl⟩⟩
theorem eD_commonFactors_45 : pd_ii mD_commonFactors 45 5 1 48 := ⟨by decide, by decide +kernel, rfl⟩
theorem eD_commonFactors_48 : pd_go mD_commonFactors 48 6 := ⟨-42, by decide +kernel, by decide⟩
theorem eD_commonFactors_51 : pd_il mD_commonFactors 51 4 53 := Or.inr ⟨by decide +kernel, rfl⟩
theorem eD_commonFactors_53 {z : Int} : pd_rd mD_commonFactors 53 (some (vi z)) := (by decide +kernel : decode mD_commonFactors.2.1 53 = .ok (.ireturn, 1))
theorem eD_store_0 : pd_il mD_store 0 1 1 := Or.inl ⟨1, rfl, by decide +kernel, rfl⟩
theorem eD_store_1 : pd_ic mD_store 1 0 2 := Or.inl ⟨by decide +kernel, rfl⟩
theorem eD_store_2 : pd_ic mD_store 2 20 4 := Or.inr (Or.inl ⟨⟨by decide +kernel, rfl⟩, by decide⟩)
theorem eD_store_4 : pd_ks mD_store 4 mD_within 3 7 := ⟨86, ⟨by decide +kernel, rfl⟩, Or.inl (pd_m 356 (by decide +kernel) (by decide +kernel)), (pd_m 357 (by decide +kernel) (by decide +kernel)), kD_within⟩
theorem eD_store_7 : pd_b1 mD_store 7 .eq 10 21 := ⟨14, ⟨by decide +kernel, rfl⟩, by decide⟩
theorem eD_store_10 : pd_al mD_store 10 0 11 := Or.inl ⟨0, rfl, by decide +kernel, rfl⟩
theorem eD_store_11 : pd_gf mD_store 11 11 11 14 := ⟨79, _, ⟨by decide +kernel, rfl⟩, fD_79_11⟩
theorem eD_store_14 : pd_il mD_store 14 2 15 := Or.inl ⟨2, rfl, by decide +kernel, rfl⟩
theorem eD_store_15 : pd_kv mD_store 15 mH_has 1 18 := ⟨114, ⟨by decide +kernel, rfl⟩, (pd_m 455 (by decide +kernel) (by decide +kernel)), (pd_m 447 (by decide +kernel) (by decide +kernel)), (pd_m 448 (by decide +kernel) (by decide +kernel)), kH_has⟩
theorem eD_store_18 : pd_b1 mD_store 18 .ne 21 23 := ⟨5, ⟨by decide +kernel, rfl⟩, by decide⟩
theorem eD_store_21 : pd_ic mD_store 21 (-1) 22 := Or.inl ⟨by decide +kernel, rfl⟩
theorem eD_store_22 {z : Int} : pd_rd mD_store 22 (some (vi z)) := (by decide +kernel : decode mD_store.2.1 22 = .ok (.ireturn, 1))
theorem eD_store_23 : pd_al mD_store 23 0 24 := Or.inl ⟨0, rfl, by decide +kernel, rfl⟩
theorem eD_store_24 : pd_gf mD_store 24 11 11 27 := ⟨79, _, ⟨by decide +kernel, rfl⟩, fD_79_11⟩
theorem eD_store_27 : pd_gf mD_store 27 4 6 30 := ⟨235, _, ⟨by decide +kernel, rfl⟩, fD_235_4⟩
theorem eD_store_30 : pd_il mD_store 30 1 31 := Or.inl ⟨1, rfl, by decide +kernel, rfl⟩
theorem eD_store_31 : pd_ic mD_store 31 4 32 := Or.inl ⟨by decide +kernel, rfl⟩
theorem eD_store_32 : pd_i mD_store 32 (.imul) 1 33 := ⟨by decide +kernel, rfl⟩
theorem eD_store_33 : pd_il mD_store 33 2 34 := Or.inl ⟨2, rfl, by decide +kernel, rfl⟩
theorem eD_store_34 : pd_i mD_store 34 (.iadd) 1 35 := ⟨by decide +kernel, rfl⟩
theorem eD_store_35 : pd_i mD_store 35 (.iaload) 1 36 := ⟨by decide +kernel, rfl⟩
theorem eD_store_36 {z : Int} : pd_rd mD_store 36 (some (vi z)) := (by decide +kernel : decode mD_store.2.1 36 = .ok (.ireturn, 1))
theorem eD_saw_0 : pd_al mD_saw 0 0 1 := Or.inl ⟨0, rfl, by decide +kernel, rfl⟩
theorem eD_saw_1 : pd_gf mD_saw 1 11 11 4 := ⟨79, _, ⟨by decide +kernel, rfl⟩, fD_79_11⟩
theorem eD_saw_4 : pd_il mD_saw 4 1 5 := Or.inl ⟨1, rfl, by decide +kernel, rfl⟩
theorem eD_saw_5 : pd_kv mD_saw 5 mH_has 1 8 := ⟨114, ⟨by decide +kernel, rfl⟩, (pd_m 455 (by decide +kernel) (by decide +kernel)), (pd_m 447 (by decide +kernel) (by decide +kernel)), (pd_m 448 (by decide +kernel) (by decide +kernel)), kH_has⟩
theorem eD_saw_8 : pd_b1 mD_saw 8 .eq 11 22 := ⟨14, ⟨by decide +kernel, rfl⟩, by decide⟩
theorem eD_saw_11 : pd_il mD_saw 11 2 12 := Or.inl ⟨2, rfl, by decide +kernel, rfl⟩
theorem eD_saw_12 : pd_ic mD_saw 12 0 13 := Or.inl ⟨by decide +kernel, rfl⟩
theorem eD_saw_13 : pd_ic mD_saw 13 999 16 := Or.inr (Or.inr (Or.inl ⟨⟨by decide +kernel, rfl⟩, by decide⟩))
theorem eD_saw_16 : pd_ks mD_saw 16 mD_within 3 19 := ⟨86, ⟨by decide +kernel, rfl⟩, Or.inl (pd_m 356 (by decide +kernel) (by decide +kernel)), (pd_m 357 (by decide +kernel) (by decide +kernel)), kD_within⟩
theorem eD_saw_19 : pd_b1 mD_saw 19 .ne 22 24 := ⟨5, ⟨by decide +kernel, rfl⟩, by decide⟩
theorem eD_saw_22 : pd_ic mD_saw 22 (-1) 23 := Or.inl ⟨by decide +kernel, rfl⟩
theorem eD_saw_23 {z : Int} : pd_rd mD_saw 23 (some (vi z)) := (by decide +kernel : decode mD_saw.2.1 23 = .ok (.ireturn, 1))
theorem eD_saw_24 : pd_al mD_saw 24 0 25 := Or.inl ⟨0, rfl, by decide +kernel, rfl⟩
theorem eD_saw_25 : pd_gf mD_saw 25 11 13 28 := ⟨108, _, ⟨by decide +kernel, rfl⟩, fD_108_11⟩
theorem eD_saw_28 : pd_ic mD_saw 28 4 29 := Or.inl ⟨by decide +kernel, rfl⟩
theorem eD_saw_29 : pd_b2 mD_saw 29 .lt 32 35 := ⟨6, ⟨by decide +kernel, rfl⟩, by decide⟩
theorem eD_saw_32 : pd_ic mD_saw 32 (-3) 34 := Or.inr (Or.inl ⟨⟨by decide +kernel, rfl⟩, by decide⟩)
theorem eD_saw_34 {z : Int} : pd_rd mD_saw 34 (some (vi z)) := (by decide +kernel : decode mD_saw.2.1 34 = .ok (.ireturn, 1))
theorem eD_saw_35 : pd_al mD_saw 35 0 36 := Or.inl ⟨0, rfl, by decide +kernel, rfl⟩
theorem eD_saw_36 : pd_gf mD_saw 36 11 4 39 := ⟨31, _, ⟨by decide +kernel, rfl⟩, fD_31_11⟩
theorem eD_saw_39 : pd_al mD_saw 39 0 40 := Or.inl ⟨0, rfl, by decide +kernel, rfl⟩
theorem eD_saw_40 : pd_gf mD_saw 40 11 13 43 := ⟨108, _, ⟨by decide +kernel, rfl⟩, fD_108_11⟩
theorem eD_saw_43 : pd_il mD_saw 43 1 44 := Or.inl ⟨1, rfl, by decide +kernel, rfl⟩
theorem eD_saw_44 : pd_i mD_saw 44 (.iastore) 1 45 := ⟨by decide +kernel, rfl⟩
theorem eD_saw_45 : pd_al mD_saw 45 0 46 := Or.inl ⟨0, rfl, by decide +kernel, rfl⟩
theorem eD_saw_46 : pd_gf mD_saw 46 11 5 49 := ⟨35, _, ⟨by decide +kernel, rfl⟩, fD_35_11⟩
theorem eD_saw_49 : pd_al mD_saw 49 0 50 := Or.inl ⟨0, rfl, by decide +kernel, rfl⟩
theorem eD_saw_50 : pd_gf mD_saw 50 11 13 53 := ⟨108, _, ⟨by decide +kernel, rfl⟩, fD_108_11⟩
theorem eD_saw_53 : pd_il mD_saw 53 2 54 := Or.inl ⟨2, rfl, by decide +kernel, rfl⟩
theorem eD_saw_54 : pd_i mD_saw 54 (.iastore) 1 55 := ⟨by decide +kernel, rfl⟩
theorem eD_saw_55 : pd_al mD_saw 55 0 56 := Or.inl ⟨0, rfl, by decide +kernel, rfl⟩
theorem eD_saw_56 : pd_i mD_saw 56 (.dup) 1 57 := ⟨by decide +kernel, rfl⟩
theorem eD_saw_57 : pd_gf mD_saw 57 11 13 60 := ⟨108, _, ⟨by decide +kernel, rfl⟩, fD_108_11⟩
theorem eD_saw_60 : pd_ic mD_saw 60 1 61 := Or.inl ⟨by decide +kernel, rfl⟩
theorem eD_saw_61 : pd_i mD_saw 61 (.iadd) 1 62 := ⟨by decide +kernel, rfl⟩
theorem eD_saw_62 : pd_pf mD_saw 62 11 13 .int 65 := ⟨108, ⟨by decide +kernel, rfl⟩, fD_108_11, Or.inl ⟨_, rfl⟩⟩
theorem eD_saw_65 : pd_al mD_saw 65 0 66 := Or.inl ⟨0, rfl, by decide +kernel, rfl⟩
theorem eD_saw_66 : pd_gf mD_saw 66 11 13 69 := ⟨108, _, ⟨by decide +kernel, rfl⟩, fD_108_11⟩
theorem eD_saw_69 {z : Int} : pd_rd mD_saw 69 (some (vi z)) := (by decide +kernel : decode mD_saw.2.1 69 = .ok (.ireturn, 1))
theorem eD_days_0 : pd_ic mD_days 0 0 1 := Or.inl ⟨by decide +kernel, rfl⟩
theorem eD_days_1 : pd_is mD_days 1 1 2 := ⟨by decide, Or.inl ⟨1, rfl, by decide +kernel, rfl⟩⟩
theorem eD_days_2 : pd_ic mD_days 2 0 3 := Or.inl ⟨by decide +kernel, rfl⟩
theorem eD_days_3 : pd_is mD_days 3 2 4 := ⟨by decide, Or.inl ⟨2, rfl, by decide +kernel, rfl⟩⟩
theorem eD_days_4 : pd_il mD_days 4 2 5 := Or.inl ⟨2, rfl, by decide +kernel, rfl⟩
theorem eD_days_5 : pd_ic mD_days 5 20 7 := Or.inr (Or.inl ⟨⟨by decide +kernel, rfl⟩, by decide⟩)
theorem eD_days_7 : pd_b2 mD_days 7 .gt 10 30 := ⟨23, ⟨by decide +kernel, rfl⟩, by decide⟩
theorem eD_days_10 : pd_al mD_days 10 0 11 := Or.inl ⟨0, rfl, by decide +kernel, rfl⟩
theorem eD_days_11 : pd_il mD_days 11 2 12 := Or.inl ⟨2, rfl, by decide +kernel, rfl⟩
theorem eD_days_12 : pd_kv mD_days 12 mD_isAsSeen 1 15 := ⟨238, ⟨by decide +kernel, rfl⟩, (pd_m 630 (by decide +kernel) (by decide +kernel)), (pd_m 632 (by decide +kernel) (by decide +kernel)), (pd_m 20 (by decide +kernel) (by decide +kernel)), kD_isAsSeen⟩
theorem eD_days_15 : pd_b1 mD_days 15 .eq 18 24 := ⟨9, ⟨by decide +kernel, rfl⟩, by decide⟩
theorem eD_days_18 : pd_il mD_days 18 1 19 := Or.inl ⟨1, rfl, by decide +kernel, rfl⟩
theorem eD_days_19 : pd_ic mD_days 19 1 20 := Or.inl ⟨by decide +kernel, rfl⟩
theorem eD_days_20 : pd_il mD_days 20 2 21 := Or.inl ⟨2, rfl, by decide +kernel, rfl⟩
theorem eD_days_21 : pd_i mD_days 21 (.ishl) 1 22 := ⟨by decide +kernel, rfl⟩
theorem eD_days_22 : pd_i mD_days 22 (.ior) 1 23 := ⟨by decide +kernel, rfl⟩
theorem eD_days_23 : pd_is mD_days 23 1 24 := ⟨by decide, Or.inl ⟨1, rfl, by decide +kernel, rfl⟩⟩
theorem eD_days_24 : pd_ii mD_days 24 2 1 27 := ⟨by decide, by decide +kernel, rfl⟩
theorem eD_days_27 : pd_go mD_days 27 4 := ⟨-23, by decide +kernel, by decide⟩
theorem eD_days_30 : pd_il mD_days 30 1 31 := Or.inl ⟨1, rfl, by decide +kernel, rfl⟩
theorem eD_days_31 {z : Int} : pd_rd mD_days 31 (some (vi z)) := (by decide +kernel : decode mD_days.2.1 31 = .ok (.ireturn, 1))
theorem eD_isAsSeen_0 : pd_ic mD_isAsSeen 0 0 1 := Or.inl ⟨by decide +kernel, rfl⟩
theorem eD_isAsSeen_1 : pd_is mD_isAsSeen 1 2 2 := ⟨by decide, Or.inl ⟨2, rfl, by decide +kernel, rfl⟩⟩
theorem eD_isAsSeen_2 : pd_il mD_isAsSeen 2 2 3 := Or.inl ⟨2, rfl, by decide +kernel, rfl⟩
theorem eD_isAsSeen_3 : pd_al mD_isAsSeen 3 0 4 := Or.inl ⟨0, rfl, by decide +kernel, rfl⟩
theorem eD_isAsSeen_4 : pd_gf mD_isAsSeen 4 11 13 7 := ⟨108, _, ⟨by decide +kernel, rfl⟩, fD_108_11⟩
theorem eD_isAsSeen_7 : pd_b2 mD_isAsSeen 7 .ge 10 45 := ⟨38, ⟨by decide +kernel, rfl⟩, by decide⟩
theorem eD_isAsSeen_10 : pd_al mD_isAsSeen 10 0 11 := Or.inl ⟨0, rfl, by decide +kernel, rfl⟩
theorem eD_isAsSeen_11 : pd_gf mD_isAsSeen 11 11 11 14 := ⟨79, _, ⟨by decide +kernel, rfl⟩, fD_79_11⟩
theorem eD_isAsSeen_14 : pd_gf mD_isAsSeen 14 4 6 17 := ⟨235, _, ⟨by decide +kernel, rfl⟩, fD_235_4⟩
theorem eD_isAsSeen_17 : pd_il mD_isAsSeen 17 1 18 := Or.inl ⟨1, rfl, by decide +kernel, rfl⟩
theorem eD_isAsSeen_18 : pd_ic mD_isAsSeen 18 4 19 := Or.inl ⟨by decide +kernel, rfl⟩
theorem eD_isAsSeen_19 : pd_i mD_isAsSeen 19 (.imul) 1 20 := ⟨by decide +kernel, rfl⟩
theorem eD_isAsSeen_20 : pd_al mD_isAsSeen 20 0 21 := Or.inl ⟨0, rfl, by decide +kernel, rfl⟩
theorem eD_isAsSeen_21 : pd_gf mD_isAsSeen 21 11 4 24 := ⟨31, _, ⟨by decide +kernel, rfl⟩, fD_31_11⟩
theorem eD_isAsSeen_24 : pd_il mD_isAsSeen 24 2 25 := Or.inl ⟨2, rfl, by decide +kernel, rfl⟩
theorem eD_isAsSeen_25 : pd_i mD_isAsSeen 25 (.iaload) 1 26 := ⟨by decide +kernel, rfl⟩
theorem eD_isAsSeen_26 : pd_i mD_isAsSeen 26 (.iadd) 1 27 := ⟨by decide +kernel, rfl⟩
theorem eD_isAsSeen_27 : pd_i mD_isAsSeen 27 (.iaload) 1 28 := ⟨by decide +kernel, rfl⟩
theorem eD_isAsSeen_28 : pd_al mD_isAsSeen 28 0 29 := Or.inl ⟨0, rfl, by decide +kernel, rfl⟩
theorem eD_isAsSeen_29 : pd_gf mD_isAsSeen 29 11 5 32 := ⟨35, _, ⟨by decide +kernel, rfl⟩, fD_35_11⟩
theorem eD_isAsSeen_32 : pd_il mD_isAsSeen 32 2 33 := Or.inl ⟨2, rfl, by decide +kernel, rfl⟩
theorem eD_isAsSeen_33 : pd_i mD_isAsSeen 33 (.iaload) 1 34 := ⟨by decide +kernel, rfl⟩
theorem eD_isAsSeen_34 : pd_b2 mD_isAsSeen 34 .eq 37 39 := ⟨5, ⟨by decide +kernel, rfl⟩, by decide⟩
theorem eD_isAsSeen_37 : pd_ic mD_isAsSeen 37 0 38 := Or.inl ⟨by decide +kernel, rfl⟩
theorem eD_isAsSeen_38 {z : Int} (h : z = 0 ∨ z = 1) : pd_rd mD_isAsSeen 38 (some (vi z)) := ⟨by decide +kernel, h⟩
theorem eD_isAsSeen_39 : pd_ii mD_isAsSeen 39 2 1 42 := ⟨by decide, by decide +kernel, rfl⟩
theorem eD_isAsSeen_42 : pd_go mD_isAsSeen 42 2 := ⟨-40, by decide +kernel, by decide⟩
theorem eD_isAsSeen_45 : pd_ic mD_isAsSeen 45 1 46 := Or.inl ⟨by decide +kernel, rfl⟩
theorem eD_isAsSeen_46 {z : Int} (h : z = 0 ∨ z = 1) : pd_rd mD_isAsSeen 46 (some (vi z)) := ⟨by decide +kernel, h⟩
theorem eD_look_0 : pd_al mD_look 0 0 1 := Or.inl ⟨0, rfl, by decide +kernel, rfl⟩
theorem eD_look_1 : pd_kv mD_look 1 mD_days 0 4 := ⟨241, ⟨by decide +kernel, rfl⟩, (pd_m 638 (by decide +kernel) (by decide +kernel)), (pd_m 627 (by decide +kernel) (by decide +kernel)), (pd_m 628 (by decide +kernel) (by decide +kernel)), kD_days⟩
theorem eD_look_4 : pd_is mD_look 4 1 5 := ⟨by decide, Or.inl ⟨1, rfl, by decide +kernel, rfl⟩⟩
theorem eD_look_5 : pd_il mD_look 5 1 6 := Or.inl ⟨1, rfl, by decide +kernel, rfl⟩
theorem eD_look_6 : pd_b1 mD_look 6 .ne 9 12 := ⟨6, ⟨by decide +kernel, rfl⟩, by decide⟩
theorem eD_look_9 : pd_ic mD_look 9 (-9) 11 := Or.inr (Or.inl ⟨⟨by decide +kernel, rfl⟩, by decide⟩)
theorem eD_look_11 {z : Int} : pd_rd mD_look 11 (some (vi z)) := (by decide +kernel : decode mD_look.2.1 11 = .ok (.ireturn, 1))
theorem eD_look_12 : pd_ic mD_look 12 (-9) 14 := Or.inr (Or.inl ⟨⟨by decide +kernel, rfl⟩, by decide⟩)
theorem eD_look_14 : pd_is mD_look 14 2 15 := ⟨by decide, Or.inl ⟨2, rfl, by decide +kernel, rfl⟩⟩
theorem eD_look_15 : pd_ic mD_look 15 22 17 := Or.inr (Or.inl ⟨⟨by decide +kernel, rfl⟩, by decide⟩)
theorem eD_look_17 : pd_is mD_look 17 3 18 := ⟨by decide, Or.inl ⟨3, rfl, by decide +kernel, rfl⟩⟩
theorem eD_look_18 : pd_ic mD_look 18 0 19 := Or.inl ⟨by decide +kernel, rfl⟩
theorem eD_look_19 : pd_is mD_look 19 4 21 := ⟨by decide, Or.inr ⟨by decide +kernel, rfl⟩⟩
theorem eD_look_21 : pd_il mD_look 21 4 23 := Or.inr ⟨by decide +kernel, rfl⟩
theorem eD_look_23 : pd_al mD_look 23 0 24 := Or.inl ⟨0, rfl, by decide +kernel, rfl⟩
theorem eD_look_24 : pd_gf mD_look 24 11 11 27 := ⟨79, _, ⟨by decide +kernel, rfl⟩, fD_79_11⟩
theorem eD_look_27 : pd_gf mD_look 27 4 7 30 := ⟨189, _, ⟨by decide +kernel, rfl⟩, fD_189_4⟩
theorem eD_look_30 : pd_b2 mD_look 30 .ge 33 60 := ⟨30, ⟨by decide +kernel, rfl⟩, by decide⟩
theorem eD_look_33 : pd_al mD_look 33 0 34 := Or.inl ⟨0, rfl, by decide +kernel, rfl⟩
theorem eD_look_34 : pd_il mD_look 34 4 36 := Or.inr ⟨by decide +kernel, rfl⟩
theorem eD_look_36 : pd_il mD_look 36 1 37 := Or.inl ⟨1, rfl, by decide +kernel, rfl⟩
theorem eD_look_37 : pd_kv mD_look 37 mD_mostAlike 2 40 := ⟨244, ⟨by decide +kernel, rfl⟩, (pd_m 639 (by decide +kernel) (by decide +kernel)), (pd_m 641 (by decide +kernel) (by decide +kernel)), (pd_m 21 (by decide +kernel) (by decide +kernel)), kD_mostAlike⟩
theorem eD_look_40 : pd_is mD_look 40 5 42 := ⟨by decide, Or.inr ⟨by decide +kernel, rfl⟩⟩
theorem eD_look_42 : pd_il mD_look 42 5 44 := Or.inr ⟨by decide +kernel, rfl⟩
theorem eD_look_44 : pd_il mD_look 44 3 45 := Or.inl ⟨3, rfl, by decide +kernel, rfl⟩
theorem eD_look_45 : pd_b2 mD_look 45 .ge 48 54 := ⟨9, ⟨by decide +kernel, rfl⟩, by decide⟩
theorem eD_look_48 : pd_il mD_look 48 5 50 := Or.inr ⟨by decide +kernel, rfl⟩
theorem eD_look_50 : pd_is mD_look 50 3 51 := ⟨by decide, Or.inl ⟨3, rfl, by decide +kernel, rfl⟩⟩
theorem eD_look_51 : pd_il mD_look 51 4 53 := Or.inr ⟨by decide +kernel, rfl⟩
theorem eD_look_53 : pd_is mD_look 53 2 54 := ⟨by decide, Or.inl ⟨2, rfl, by decide +kernel, rfl⟩⟩
theorem eD_look_54 : pd_ii mD_look 54 4 1 57 := ⟨by decide, by decide +kernel, rfl⟩
theorem eD_look_57 : pd_go mD_look 57 21 := ⟨-36, by decide +kernel, by decide⟩
theorem eD_look_60 : pd_il mD_look 60 2 61 := Or.inl ⟨2, rfl, by decide +kernel, rfl⟩
theorem eD_look_61 {z : Int} : pd_rd mD_look 61 (some (vi z)) := (by decide +kernel : decode mD_look.2.1 61 = .ok (.ireturn, 1))
theorem eD_mostAlike_0 : pd_ic mD_mostAlike 0 0 1 := Or.inl ⟨by decide +kernel, rfl⟩
theorem eD_mostAlike_1 : pd_is mD_mostAlike 1 3 2 := ⟨by decide, Or.inl ⟨3, rfl, by decide +kernel, rfl⟩⟩
theorem eD_mostAlike_2 : pd_ic mD_mostAlike 2 0 3 := Or.inl ⟨by decide +kernel, rfl⟩
theorem eD_mostAlike_3 : pd_is mD_mostAlike 3 4 5 := ⟨by decide, Or.inr ⟨by decide +kernel, rfl⟩⟩
theorem eD_mostAlike_5 : pd_il mD_mostAlike 5 4 7 := Or.inr ⟨by decide +kernel, rfl⟩
theorem eD_mostAlike_7 : pd_ic mD_mostAlike 7 20 9 := Or.inr (Or.inl ⟨⟨by decide +kernel, rfl⟩, by decide⟩)
theorem eD_mostAlike_9 : pd_b2 mD_mostAlike 9 .gt 12 41 := ⟨32, ⟨by decide +kernel, rfl⟩, by decide⟩
theorem eD_mostAlike_12 : pd_il mD_mostAlike 12 2 13 := Or.inl ⟨2, rfl, by decide +kernel, rfl⟩
theorem eD_mostAlike_13 : pd_il mD_mostAlike 13 4 15 := Or.inr ⟨by decide +kernel, rfl⟩
theorem eD_mostAlike_15 : pd_i mD_mostAlike 15 (.ishr) 1 16 := ⟨by decide +kernel, rfl⟩
theorem eD_mostAlike_16 : pd_ic mD_mostAlike 16 1 17 := Or.inl ⟨by decide +kernel, rfl⟩
theorem eD_mostAlike_17 : pd_i mD_mostAlike 17 (.iand) 1 18 := ⟨by decide +kernel, rfl⟩
theorem eD_mostAlike_18 : pd_ic mD_mostAlike 18 1 19 := Or.inl ⟨by decide +kernel, rfl⟩
theorem eD_mostAlike_19 : pd_b2 mD_mostAlike 19 .ne 22 35 := ⟨16, ⟨by decide +kernel, rfl⟩, by decide⟩
theorem eD_mostAlike_22 : pd_il mD_mostAlike 22 3 23 := Or.inl ⟨3, rfl, by decide +kernel, rfl⟩
theorem eD_mostAlike_23 : pd_al mD_mostAlike 23 0 24 := Or.inl ⟨0, rfl, by decide +kernel, rfl⟩
theorem eD_mostAlike_24 : pd_il mD_mostAlike 24 4 26 := Or.inr ⟨by decide +kernel, rfl⟩
theorem eD_mostAlike_26 : pd_il mD_mostAlike 26 1 27 := Or.inl ⟨1, rfl, by decide +kernel, rfl⟩
theorem eD_mostAlike_27 : pd_il mD_mostAlike 27 2 28 := Or.inl ⟨2, rfl, by decide +kernel, rfl⟩
theorem eD_mostAlike_28 : pd_kv mD_mostAlike 28 mD_alike 3 31 := ⟨247, ⟨by decide +kernel, rfl⟩, (pd_m 643 (by decide +kernel) (by decide +kernel)), (pd_m 645 (by decide +kernel) (by decide +kernel)), (pd_m 22 (by decide +kernel) (by decide +kernel)), kD_alike⟩
theorem eD_mostAlike_31 : pd_max mD_mostAlike 31 34 := ⟨228, ⟨by decide +kernel, rfl⟩, (pd_m 606 (by decide +kernel) (by decide +kernel))⟩
theorem eD_mostAlike_34 : pd_is mD_mostAlike 34 3 35 := ⟨by decide, Or.inl ⟨3, rfl, by decide +kernel, rfl⟩⟩
theorem eD_mostAlike_35 : pd_ii mD_mostAlike 35 4 1 38 := ⟨by decide, by decide +kernel, rfl⟩
theorem eD_mostAlike_38 : pd_go mD_mostAlike 38 5 := ⟨-33, by decide +kernel, by decide⟩
theorem eD_mostAlike_41 : pd_il mD_mostAlike 41 3 42 := Or.inl ⟨3, rfl, by decide +kernel, rfl⟩
theorem eD_mostAlike_42 {z : Int} : pd_rd mD_mostAlike 42 (some (vi z)) := (by decide +kernel : decode mD_mostAlike.2.1 42 = .ok (.ireturn, 1))
theorem eD_alike_0 : pd_ic mD_alike 0 0 1 := Or.inl ⟨by decide +kernel, rfl⟩
theorem eD_alike_1 : pd_is mD_alike 1 4 3 := ⟨by decide, Or.inr ⟨by decide +kernel, rfl⟩⟩
theorem eD_alike_3 : pd_ic mD_alike 3 0 4 := Or.inl ⟨by decide +kernel, rfl⟩
theorem eD_alike_4 : pd_is mD_alike 4 5 6 := ⟨by decide, Or.inr ⟨by decide +kernel, rfl⟩⟩
theorem eD_alike_6 : pd_il mD_alike 6 5 8 := Or.inr ⟨by decide +kernel, rfl⟩
theorem eD_alike_8 : pd_ic mD_alike 8 20 10 := Or.inr (Or.inl ⟨⟨by decide +kernel, rfl⟩, by decide⟩)
theorem eD_alike_10 : pd_b2 mD_alike 10 .gt 13 62 := ⟨52, ⟨by decide +kernel, rfl⟩, by decide⟩
theorem eD_alike_13 : pd_il mD_alike 13 3 14 := Or.inl ⟨3, rfl, by decide +kernel, rfl⟩
theorem eD_alike_14 : pd_il mD_alike 14 5 16 := Or.inr ⟨by decide +kernel, rfl⟩
theorem eD_alike_16 : pd_i mD_alike 16 (.ishr) 1 17 := ⟨by decide +kernel, rfl⟩
theorem eD_alike_17 : pd_ic mD_alike 17 1 18 := Or.inl ⟨by decide +kernel, rfl⟩
theorem eD_alike_18 : pd_i mD_alike 18 (.iand) 1 19 := ⟨by decide +kernel, rfl⟩
theorem eD_alike_19 : pd_ic mD_alike 19 1 20 := Or.inl ⟨by decide +kernel, rfl⟩
theorem eD_alike_20 : pd_b2 mD_alike 20 .ne 23 56 := ⟨36, ⟨by decide +kernel, rfl⟩, by decide⟩
theorem eD_alike_23 : pd_al mD_alike 23 0 24 := Or.inl ⟨0, rfl, by decide +kernel, rfl⟩
theorem eD_alike_24 : pd_gf mD_alike 24 11 11 27 := ⟨79, _, ⟨by decide +kernel, rfl⟩, fD_79_11⟩
theorem eD_alike_27 : pd_gf mD_alike 27 4 6 30 := ⟨235, _, ⟨by decide +kernel, rfl⟩, fD_235_4⟩
theorem eD_alike_30 : pd_il mD_alike 30 5 32 := Or.inr ⟨by decide +kernel, rfl⟩
theorem eD_alike_32 : pd_ic mD_alike 32 4 33 := Or.inl ⟨by decide +kernel, rfl⟩
theorem eD_alike_33 : pd_i mD_alike 33 (.imul) 1 34 := ⟨by decide +kernel, rfl⟩
theorem eD_alike_34 : pd_il mD_alike 34 2 35 := Or.inl ⟨2, rfl, by decide +kernel, rfl⟩
theorem eD_alike_35 : pd_i mD_alike 35 (.iadd) 1 36 := ⟨by decide +kernel, rfl⟩
theorem eD_alike_36 : pd_i mD_alike 36 (.iaload) 1 37 := ⟨by decide +kernel, rfl⟩
theorem eD_alike_37 : pd_al mD_alike 37 0 38 := Or.inl ⟨0, rfl, by decide +kernel, rfl⟩
theorem eD_alike_38 : pd_gf mD_alike 38 11 11 41 := ⟨79, _, ⟨by decide +kernel, rfl⟩, fD_79_11⟩
theorem eD_alike_41 : pd_gf mD_alike 41 4 6 44 := ⟨235, _, ⟨by decide +kernel, rfl⟩, fD_235_4⟩
theorem eD_alike_44 : pd_il mD_alike 44 1 45 := Or.inl ⟨1, rfl, by decide +kernel, rfl⟩
theorem eD_alike_45 : pd_ic mD_alike 45 4 46 := Or.inl ⟨by decide +kernel, rfl⟩
theorem eD_alike_46 : pd_i mD_alike 46 (.imul) 1 47 := ⟨by decide +kernel, rfl⟩
theorem eD_alike_47 : pd_il mD_alike 47 2 48 := Or.inl ⟨2, rfl, by decide +kernel, rfl⟩
theorem eD_alike_48 : pd_i mD_alike 48 (.iadd) 1 49 := ⟨by decide +kernel, rfl⟩
theorem eD_alike_49 : pd_i mD_alike 49 (.iaload) 1 50 := ⟨by decide +kernel, rfl⟩
theorem eD_alike_50 : pd_b2 mD_alike 50 .ne 53 56 := ⟨6, ⟨by decide +kernel, rfl⟩, by decide⟩
theorem eD_alike_53 : pd_ii mD_alike 53 4 1 56 := ⟨by decide, by decide +kernel, rfl⟩
theorem eD_alike_56 : pd_ii mD_alike 56 5 1 59 := ⟨by decide, by decide +kernel, rfl⟩
theorem eD_alike_59 : pd_go mD_alike 59 6 := ⟨-53, by decide +kernel, by decide⟩
theorem eD_alike_62 : pd_il mD_alike 62 4 64 := Or.inr ⟨by decide +kernel, rfl⟩
theorem eD_alike_64 {z : Int} : pd_rd mD_alike 64 (some (vi z)) := (by decide +kernel : decode mD_alike.2.1 64 = .ok (.ireturn, 1))
theorem eD_gave_0 : pd_il mD_gave 0 1 1 := Or.inl ⟨1, rfl, by decide +kernel, rfl⟩
theorem eD_gave_1 : pd_ic mD_gave 1 0 2 := Or.inl ⟨by decide +kernel, rfl⟩
theorem eD_gave_2 : pd_ic mD_gave 2 19 4 := Or.inr (Or.inl ⟨⟨by decide +kernel, rfl⟩, by decide⟩)
theorem eD_gave_4 : pd_ks mD_gave 4 mD_within 3 7 := ⟨86, ⟨by decide +kernel, rfl⟩, Or.inl (pd_m 356 (by decide +kernel) (by decide +kernel)), (pd_m 357 (by decide +kernel) (by decide +kernel)), kD_within⟩
theorem eD_gave_7 : pd_b1 mD_gave 7 .eq 10 20 := ⟨13, ⟨by decide +kernel, rfl⟩, by decide⟩
theorem eD_gave_10 : pd_il mD_gave 10 2 11 := Or.inl ⟨2, rfl, by decide +kernel, rfl⟩
theorem eD_gave_11 : pd_ic mD_gave 11 (-1) 12 := Or.inl ⟨by decide +kernel, rfl⟩
theorem eD_gave_12 : pd_ic mD_gave 12 19 14 := Or.inr (Or.inl ⟨⟨by decide +kernel, rfl⟩, by decide⟩)
theorem eD_gave_14 : pd_ks mD_gave 14 mD_within 3 17 := ⟨86, ⟨by decide +kernel, rfl⟩, Or.inl (pd_m 356 (by decide +kernel) (by decide +kernel)), (pd_m 357 (by decide +kernel) (by decide +kernel)), kD_within⟩
theorem eD_gave_17 : pd_b1 mD_gave 17 .ne 20 22 := ⟨5, ⟨by decide +kernel, rfl⟩, by decide⟩
theorem eD_gave_20 : pd_ic mD_gave 20 (-1) 21 := Or.inl ⟨by decide +kernel, rfl⟩
theorem eD_gave_21 {z : Int} : pd_rd mD_gave 21 (some (vi z)) := (by decide +kernel : decode mD_gave.2.1 21 = .ok (.ireturn, 1))
theorem eD_gave_22 : pd_al mD_gave 22 0 23 := Or.inl ⟨0, rfl, by decide +kernel, rfl⟩
theorem eD_gave_23 : pd_gf mD_gave 23 11 14 26 := ⟨111, _, ⟨by decide +kernel, rfl⟩, fD_111_11⟩
theorem eD_gave_26 : pd_ic mD_gave 26 4 27 := Or.inl ⟨by decide +kernel, rfl⟩
theorem eD_gave_27 : pd_b2 mD_gave 27 .lt 30 33 := ⟨6, ⟨by decide +kernel, rfl⟩, by decide⟩
theorem eD_gave_30 : pd_ic mD_gave 30 (-3) 32 := Or.inr (Or.inl ⟨⟨by decide +kernel, rfl⟩, by decide⟩)
theorem eD_gave_32 {z : Int} : pd_rd mD_gave 32 (some (vi z)) := (by decide +kernel : decode mD_gave.2.1 32 = .ok (.ireturn, 1))
theorem eD_gave_33 : pd_al mD_gave 33 0 34 := Or.inl ⟨0, rfl, by decide +kernel, rfl⟩
theorem eD_gave_34 : pd_gf mD_gave 34 11 6 37 := ⟨38, _, ⟨by decide +kernel, rfl⟩, fD_38_11⟩
theorem eD_gave_37 : pd_al mD_gave 37 0 38 := Or.inl ⟨0, rfl, by decide +kernel, rfl⟩
theorem eD_gave_38 : pd_gf mD_gave 38 11 14 41 := ⟨111, _, ⟨by decide +kernel, rfl⟩, fD_111_11⟩
theorem eD_gave_41 : pd_il mD_gave 41 1 42 := Or.inl ⟨1, rfl, by decide +kernel, rfl⟩
theorem eD_gave_42 : pd_i mD_gave 42 (.iastore) 1 43 := ⟨by decide +kernel, rfl⟩
theorem eD_gave_43 : pd_al mD_gave 43 0 44 := Or.inl ⟨0, rfl, by decide +kernel, rfl⟩
theorem eD_gave_44 : pd_gf mD_gave 44 11 7 47 := ⟨41, _, ⟨by decide +kernel, rfl⟩, fD_41_11⟩
theorem eD_gave_47 : pd_al mD_gave 47 0 48 := Or.inl ⟨0, rfl, by decide +kernel, rfl⟩
theorem eD_gave_48 : pd_gf mD_gave 48 11 14 51 := ⟨111, _, ⟨by decide +kernel, rfl⟩, fD_111_11⟩
theorem eD_gave_51 : pd_il mD_gave 51 2 52 := Or.inl ⟨2, rfl, by decide +kernel, rfl⟩
theorem eD_gave_52 : pd_ic mD_gave 52 (-1) 53 := Or.inl ⟨by decide +kernel, rfl⟩
theorem eD_gave_53 : pd_b2 mD_gave 53 .ne 56 61 := ⟨8, ⟨by decide +kernel, rfl⟩, by decide⟩
theorem eD_gave_56 : pd_ic mD_gave 56 (-9) 58 := Or.inr (Or.inl ⟨⟨by decide +kernel, rfl⟩, by decide⟩)
theorem eD_gave_58 : pd_go mD_gave 58 62 := ⟨4, by decide +kernel, by decide⟩
theorem eD_gave_61 : pd_il mD_gave 61 2 62 := Or.inl ⟨2, rfl, by decide +kernel, rfl⟩
theorem eD_gave_62 : pd_i mD_gave 62 (.iastore) 1 63 := ⟨by decide +kernel, rfl⟩
theorem eD_gave_63 : pd_al mD_gave 63 0 64 := Or.inl ⟨0, rfl, by decide +kernel, rfl⟩
theorem eD_gave_64 : pd_i mD_gave 64 (.dup) 1 65 := ⟨by decide +kernel, rfl⟩
theorem eD_gave_65 : pd_gf mD_gave 65 11 14 68 := ⟨111, _, ⟨by decide +kernel, rfl⟩, fD_111_11⟩
theorem eD_gave_68 : pd_ic mD_gave 68 1 69 := Or.inl ⟨by decide +kernel, rfl⟩
theorem eD_gave_69 : pd_i mD_gave 69 (.iadd) 1 70 := ⟨by decide +kernel, rfl⟩
theorem eD_gave_70 : pd_pf mD_gave 70 11 14 .int 73 := ⟨111, ⟨by decide +kernel, rfl⟩, fD_111_11, Or.inl ⟨_, rfl⟩⟩
theorem eD_gave_73 : pd_al mD_gave 73 0 74 := Or.inl ⟨0, rfl, by decide +kernel, rfl⟩
theorem eD_gave_74 : pd_gf mD_gave 74 11 14 77 := ⟨111, _, ⟨by decide +kernel, rfl⟩, fD_111_11⟩
theorem eD_gave_77 {z : Int} : pd_rd mD_gave 77 (some (vi z)) := (by decide +kernel : decode mD_gave.2.1 77 = .ok (.ireturn, 1))
theorem eD_laws_0 : pd_il mD_laws 0 1 1 := Or.inl ⟨1, rfl, by decide +kernel, rfl⟩
theorem eD_laws_1 : pd_ic mD_laws 1 0 2 := Or.inl ⟨by decide +kernel, rfl⟩
theorem eD_laws_2 : pd_ic mD_laws 2 1 3 := Or.inl ⟨by decide +kernel, rfl⟩
theorem eD_laws_3 : pd_ks mD_laws 3 mD_within 3 6 := ⟨86, ⟨by decide +kernel, rfl⟩, Or.inl (pd_m 356 (by decide +kernel) (by decide +kernel)), (pd_m 357 (by decide +kernel) (by decide +kernel)), kD_within⟩
theorem eD_laws_6 : pd_b1 mD_laws 6 .ne 9 11 := ⟨5, ⟨by decide +kernel, rfl⟩, by decide⟩
theorem eD_laws_9 : pd_ic mD_laws 9 (-1) 10 := Or.inl ⟨by decide +kernel, rfl⟩
theorem eD_laws_10 {z : Int} : pd_rd mD_laws 10 (some (vi z)) := (by decide +kernel : decode mD_laws.2.1 10 = .ok (.ireturn, 1))
theorem eD_laws_11 : pd_ic mD_laws 11 0 12 := Or.inl ⟨by decide +kernel, rfl⟩
theorem eD_laws_12 : pd_is mD_laws 12 2 13 := ⟨by decide, Or.inl ⟨2, rfl, by decide +kernel, rfl⟩⟩
theorem eD_laws_13 : pd_ic mD_laws 13 (-9) 15 := Or.inr (Or.inl ⟨⟨by decide +kernel, rfl⟩, by decide⟩)
theorem eD_laws_15 : pd_is mD_laws 15 3 16 := ⟨by decide, Or.inl ⟨3, rfl, by decide +kernel, rfl⟩⟩
theorem eD_laws_16 : pd_ic mD_laws 16 1 17 := Or.inl ⟨by decide +kernel, rfl⟩
theorem eD_laws_17 : pd_is mD_laws 17 4 19 := ⟨by decide, Or.inr ⟨by decide +kernel, rfl⟩⟩
theorem eD_laws_19 : pd_il mD_laws 19 4 21 := Or.inr ⟨by decide +kernel, rfl⟩
theorem eD_laws_21 : pd_ic mD_laws 21 9 23 := Or.inr (Or.inl ⟨⟨by decide +kernel, rfl⟩, by decide⟩)
theorem eD_laws_23 : pd_b2 mD_laws 23 .gt 26 81 := ⟨58, ⟨by decide +kernel, rfl⟩, by decide⟩
theorem eD_laws_26 : pd_ic mD_laws 26 1 27 := Or.inl ⟨by decide +kernel, rfl⟩
theorem eD_laws_27 : pd_is mD_laws 27 5 29 := ⟨by decide, Or.inr ⟨by decide +kernel, rfl⟩⟩
theorem eD_laws_29 : pd_il mD_laws 29 5 31 := Or.inr ⟨by decide +kernel, rfl⟩
theorem eD_laws_31 : pd_ic mD_laws 31 9 33 := Or.inr (Or.inl ⟨⟨by decide +kernel, rfl⟩, by decide⟩)
theorem eD_laws_33 : pd_b2 mD_laws 33 .gt 36 75 := ⟨42, ⟨by decide +kernel, rfl⟩, by decide⟩
theorem eD_laws_36 : pd_al mD_laws 36 0 37 := Or.inl ⟨0, rfl, by decide +kernel, rfl⟩
theorem eD_laws_37 : pd_il mD_laws 37 4 39 := Or.inr ⟨by decide +kernel, rfl⟩
theorem eD_laws_39 : pd_il mD_laws 39 5 41 := Or.inr ⟨by decide +kernel, rfl⟩
theorem eD_laws_41 : pd_kv mD_laws 41 mD_isAsGave 2 44 := ⟨250, ⟨by decide +kernel, rfl⟩, (pd_m 655 (by decide +kernel) (by decide +kernel)), (pd_m 657 (by decide +kernel) (by decide +kernel)), (pd_m 23 (by decide +kernel) (by decide +kernel)), kD_isAsGave⟩
theorem eD_laws_44 : pd_b1 mD_laws 44 .eq 47 69 := ⟨25, ⟨by decide +kernel, rfl⟩, by decide⟩
theorem eD_laws_47 : pd_ii mD_laws 47 2 1 50 := ⟨by decide, by decide +kernel, rfl⟩
theorem eD_laws_50 : pd_il mD_laws 50 3 51 := Or.inl ⟨3, rfl, by decide +kernel, rfl⟩
theorem eD_laws_51 : pd_ic mD_laws 51 (-9) 53 := Or.inr (Or.inl ⟨⟨by decide +kernel, rfl⟩, by decide⟩)
theorem eD_laws_53 : pd_b2 mD_laws 53 .ne 56 67 := ⟨14, ⟨by decide +kernel, rfl⟩, by decide⟩
theorem eD_laws_56 : pd_ic mD_laws 56 10 58 := Or.inr (Or.inl ⟨⟨by decide +kernel, rfl⟩, by decide⟩)
theorem eD_laws_58 : pd_il mD_laws 58 4 60 := Or.inr ⟨by decide +kernel, rfl⟩
theorem eD_laws_60 : pd_i mD_laws 60 (.imul) 1 61 := ⟨by decide +kernel, rfl⟩
theorem eD_laws_61 : pd_il mD_laws 61 5 63 := Or.inr ⟨by decide +kernel, rfl⟩
theorem eD_laws_63 : pd_i mD_laws 63 (.iadd) 1 64 := ⟨by decide +kernel, rfl⟩
theorem eD_laws_64 : pd_go mD_laws 64 68 := ⟨4, by decide +kernel, by decide⟩
theorem eD_laws_67 : pd_il mD_laws 67 3 68 := Or.inl ⟨3, rfl, by decide +kernel, rfl⟩
theorem eD_laws_68 : pd_is mD_laws 68 3 69 := ⟨by decide, Or.inl ⟨3, rfl, by decide +kernel, rfl⟩⟩
theorem eD_laws_69 : pd_ii mD_laws 69 5 1 72 := ⟨by decide, by decide +kernel, rfl⟩
theorem eD_laws_72 : pd_go mD_laws 72 29 := ⟨-43, by decide +kernel, by decide⟩
theorem eD_laws_75 : pd_ii mD_laws 75 4 1 78 := ⟨by decide, by decide +kernel, rfl⟩
theorem eD_laws_78 : pd_go mD_laws 78 19 := ⟨-59, by decide +kernel, by decide⟩
theorem eD_laws_81 : pd_il mD_laws 81 1 82 := Or.inl ⟨1, rfl, by decide +kernel, rfl⟩
theorem eD_laws_82 : pd_b1 mD_laws 82 .ne 85 89 := ⟨7, ⟨by decide +kernel, rfl⟩, by decide⟩
theorem eD_laws_85 : pd_il mD_laws 85 2 86 := Or.inl ⟨2, rfl, by decide +kernel, rfl⟩
theorem eD_laws_86 : pd_go mD_laws 86 90 := ⟨4, by decide +kernel, by decide⟩
theorem eD_laws_89 : pd_il mD_laws 89 3 90 := Or.inl ⟨3, rfl, by decide +kernel, rfl⟩
theorem eD_laws_90 {z : Int} : pd_rd mD_laws 90 (some (vi z)) := (by decide +kernel : decode mD_laws.2.1 90 = .ok (.ireturn, 1))
theorem eD_isAsGave_0 : pd_ic mD_isAsGave 0 0 1 := Or.inl ⟨by decide +kernel, rfl⟩
theorem eD_isAsGave_1 : pd_is mD_isAsGave 1 3 2 := ⟨by decide, Or.inl ⟨3, rfl, by decide +kernel, rfl⟩⟩
theorem eD_isAsGave_2 : pd_il mD_isAsGave 2 3 3 := Or.inl ⟨3, rfl, by decide +kernel, rfl⟩
theorem eD_isAsGave_3 : pd_al mD_isAsGave 3 0 4 := Or.inl ⟨0, rfl, by decide +kernel, rfl⟩
theorem eD_isAsGave_4 : pd_gf mD_isAsGave 4 11 14 7 := ⟨111, _, ⟨by decide +kernel, rfl⟩, fD_111_11⟩
theorem eD_isAsGave_7 : pd_b2 mD_isAsGave 7 .ge 10 38 := ⟨31, ⟨by decide +kernel, rfl⟩, by decide⟩
theorem eD_isAsGave_10 : pd_il mD_isAsGave 10 1 11 := Or.inl ⟨1, rfl, by decide +kernel, rfl⟩
theorem eD_isAsGave_11 : pd_il mD_isAsGave 11 2 12 := Or.inl ⟨2, rfl, by decide +kernel, rfl⟩
theorem eD_isAsGave_12 : pd_al mD_isAsGave 12 0 13 := Or.inl ⟨0, rfl, by decide +kernel, rfl⟩
theorem eD_isAsGave_13 : pd_gf mD_isAsGave 13 11 6 16 := ⟨38, _, ⟨by decide +kernel, rfl⟩, fD_38_11⟩
theorem eD_isAsGave_16 : pd_il mD_isAsGave 16 3 17 := Or.inl ⟨3, rfl, by decide +kernel, rfl⟩
theorem eD_isAsGave_17 : pd_i mD_isAsGave 17 (.iaload) 1 18 := ⟨by decide +kernel, rfl⟩
theorem eD_isAsGave_18 : pd_ks mD_isAsGave 18 mD_leadsBy 3 21 := ⟨254, ⟨by decide +kernel, rfl⟩, Or.inl (pd_m 659 (by decide +kernel) (by decide +kernel)), (pd_m 469 (by decide +kernel) (by decide +kernel)), kD_leadsBy⟩
theorem eD_isAsGave_21 : pd_al mD_isAsGave 21 0 22 := Or.inl ⟨0, rfl, by decide +kernel, rfl⟩
theorem eD_isAsGave_22 : pd_gf mD_isAsGave 22 11 7 25 := ⟨41, _, ⟨by decide +kernel, rfl⟩, fD_41_11⟩
theorem eD_isAsGave_25 : pd_il mD_isAsGave 25 3 26 := Or.inl ⟨3, rfl, by decide +kernel, rfl⟩
theorem eD_isAsGave_26 : pd_i mD_isAsGave 26 (.iaload) 1 27 := ⟨by decide +kernel, rfl⟩
theorem eD_isAsGave_27 : pd_b2 mD_isAsGave 27 .eq 30 32 := ⟨5, ⟨by decide +kernel, rfl⟩, by decide⟩
theorem eD_isAsGave_30 : pd_ic mD_isAsGave 30 0 31 := Or.inl ⟨by decide +kernel, rfl⟩
theorem eD_isAsGave_31 {z : Int} (h : z = 0 ∨ z = 1) : pd_rd mD_isAsGave 31 (some (vi z)) := ⟨by decide +kernel, h⟩
theorem eD_isAsGave_32 : pd_ii mD_isAsGave 32 3 1 35 := ⟨by decide, by decide +kernel, rfl⟩
theorem eD_isAsGave_35 : pd_go mD_isAsGave 35 2 := ⟨-33, by decide +kernel, by decide⟩
theorem eD_isAsGave_38 : pd_ic mD_isAsGave 38 1 39 := Or.inl ⟨by decide +kernel, rfl⟩
theorem eD_isAsGave_39 {z : Int} (h : z = 0 ∨ z = 1) : pd_rd mD_isAsGave 39 (some (vi z)) := ⟨by decide +kernel, h⟩
theorem eD_forget_0 : pd_al mD_forget 0 0 1 := Or.inl ⟨0, rfl, by decide +kernel, rfl⟩
theorem eD_forget_1 : pd_gf mD_forget 1 11 13 4 := ⟨108, _, ⟨by decide +kernel, rfl⟩, fD_108_11⟩
theorem eD_forget_4 : pd_al mD_forget 4 0 5 := Or.inl ⟨0, rfl, by decide +kernel, rfl⟩
theorem eD_forget_5 : pd_gf mD_forget 5 11 14 8 := ⟨111, _, ⟨by decide +kernel, rfl⟩, fD_111_11⟩
theorem eD_forget_8 : pd_i mD_forget 8 (.iadd) 1 9 := ⟨by decide +kernel, rfl⟩
theorem eD_forget_9 : pd_is mD_forget 9 1 10 := ⟨by decide, Or.inl ⟨1, rfl, by decide +kernel, rfl⟩⟩
theorem eD_forget_10 : pd_al mD_forget 10 0 11 := Or.inl ⟨0, rfl, by decide +kernel, rfl⟩
theorem eD_forget_11 : pd_ic mD_forget 11 0 12 := Or.inl ⟨by decide +kernel, rfl⟩
theorem eD_forget_12 : pd_pf mD_forget 12 11 13 .int 15 := ⟨108, ⟨by decide +kernel, rfl⟩, fD_108_11, Or.inl ⟨_, rfl⟩⟩
theorem eD_forget_15 : pd_al mD_forget 15 0 16 := Or.inl ⟨0, rfl, by decide +kernel, rfl⟩
theorem eD_forget_16 : pd_ic mD_forget 16 0 17 := Or.inl ⟨by decide +kernel, rfl⟩
theorem eD_forget_17 : pd_pf mD_forget 17 11 14 .int 20 := ⟨111, ⟨by decide +kernel, rfl⟩, fD_111_11, Or.inl ⟨_, rfl⟩⟩
theorem eD_forget_20 : pd_il mD_forget 20 1 21 := Or.inl ⟨1, rfl, by decide +kernel, rfl⟩
theorem eD_forget_21 {z : Int} : pd_rd mD_forget 21 (some (vi z)) := (by decide +kernel : decode mD_forget.2.1 21 = .ok (.ireturn, 1))
theorem eD_mark_0 : pd_il mD_mark 0 1 1 := Or.inl ⟨1, rfl, by decide +kernel, rfl⟩
theorem eD_mark_1 : pd_ic mD_mark 1 0 2 := Or.inl ⟨by decide +kernel, rfl⟩
theorem eD_mark_2 : pd_al mD_mark 2 0 3 := Or.inl ⟨0, rfl, by decide +kernel, rfl⟩
theorem eD_mark_3 : pd_gf mD_mark 3 11 10 6 := ⟨72, _, ⟨by decide +kernel, rfl⟩, fD_72_11⟩
theorem eD_mark_6 : pd_i mD_mark 6 (.arraylength) 1 7 := ⟨by decide +kernel, rfl⟩
theorem eD_mark_7 : pd_ic mD_mark 7 1 8 := Or.inl ⟨by decide +kernel, rfl⟩
theorem eD_mark_8 : pd_i mD_mark 8 (.isub) 1 9 := ⟨by decide +kernel, rfl⟩
theorem eD_mark_9 : pd_ks mD_mark 9 mD_within 3 12 := ⟨86, ⟨by decide +kernel, rfl⟩, Or.inl (pd_m 356 (by decide +kernel) (by decide +kernel)), (pd_m 357 (by decide +kernel) (by decide +kernel)), kD_within⟩
theorem eD_mark_12 : pd_b1 mD_mark 12 .eq 15 26 := ⟨14, ⟨by decide +kernel, rfl⟩, by decide⟩
theorem eD_mark_15 : pd_al mD_mark 15 0 16 := Or.inl ⟨0, rfl, by decide +kernel, rfl⟩
theorem eD_mark_16 : pd_gf mD_mark 16 11 11 19 := ⟨79, _, ⟨by decide +kernel, rfl⟩, fD_79_11⟩
theorem eD_mark_19 : pd_il mD_mark 19 2 20 := Or.inl ⟨2, rfl, by decide +kernel, rfl⟩
theorem eD_mark_20 : pd_kv mD_mark 20 mH_has 1 23 := ⟨114, ⟨by decide +kernel, rfl⟩, (pd_m 455 (by decide +kernel) (by decide +kernel)), (pd_m 447 (by decide +kernel) (by decide +kernel)), (pd_m 448 (by decide +kernel) (by decide +kernel)), kH_has⟩
theorem eD_mark_23 : pd_b1 mD_mark 23 .ne 26 30 := ⟨7, ⟨by decide +kernel, rfl⟩, by decide⟩
theorem eD_mark_26 : pd_ic mD_mark 26 (-1000000) 29 := Or.inr (Or.inr (Or.inr (Or.inr ⟨257, ⟨by decide +kernel, rfl⟩, (pd_m 668 (by decide +kernel) (by decide +kernel))⟩)))
theorem eD_mark_29 {z : Int} : pd_rd mD_mark 29 (some (vi z)) := (by decide +kernel : decode mD_mark.2.1 29 = .ok (.ireturn, 1))
theorem eD_mark_30 : pd_al mD_mark 30 0 31 := Or.inl ⟨0, rfl, by decide +kernel, rfl⟩
theorem eD_mark_31 : pd_gf mD_mark 31 11 10 34 := ⟨72, _, ⟨by decide +kernel, rfl⟩, fD_72_11⟩
theorem eD_mark_34 : pd_il mD_mark 34 1 35 := Or.inl ⟨1, rfl, by decide +kernel, rfl⟩
theorem eD_mark_35 : pd_i mD_mark 35 (.aaload) 1 36 := ⟨by decide +kernel, rfl⟩
theorem eD_mark_36 : pd_al mD_mark 36 0 37 := Or.inl ⟨0, rfl, by decide +kernel, rfl⟩
theorem eD_mark_37 : pd_gf mD_mark 37 11 11 40 := ⟨79, _, ⟨by decide +kernel, rfl⟩, fD_79_11⟩
theorem eD_mark_40 : pd_al mD_mark 40 0 41 := Or.inl ⟨0, rfl, by decide +kernel, rfl⟩
theorem eD_mark_41 : pd_gf mD_mark 41 11 1 44 := ⟨19, _, ⟨by decide +kernel, rfl⟩, fD_19_11⟩
theorem eD_mark_44 : pd_gf mD_mark 44 6 0 47 := ⟨130, _, ⟨by decide +kernel, rfl⟩, fD_130_6⟩
theorem eD_mark_47 : pd_il mD_mark 47 2 48 := Or.inl ⟨2, rfl, by decide +kernel, rfl⟩
theorem eD_mark_48_2 : pd_kv mD_mark 48 mG_marks 3 51 := ⟨258, ⟨by decide +kernel, rfl⟩, (pd_m 669 (by decide +kernel) (by decide +kernel)), (pd_m 670 (by decide +kernel) (by decide +kernel)), (pd_m 671 (by decide +kernel) (by decide +kernel)), kG_marks⟩
theorem eD_mark_48_9 : pd_ku mD_mark 48 mG_marks mSu_marks 3 51 := ⟨258, ⟨by decide +kernel, rfl⟩, (pd_m 669 (by decide +kernel) (by decide +kernel)), (pd_m 672 (by decide +kernel) (by decide +kernel)), (pd_m 670 (by decide +kernel) (by decide +kernel)), (pd_m 697 (by decide +kernel) (by decide +kernel)), (pd_m 683 (by decide +kernel) (by decide +kernel)), kG_marks, kSu_marks, rfl⟩
theorem eD_mark_48_3 : pd_ku mD_mark 48 mG_marks mHa_marks 3 51 := ⟨258, ⟨by decide +kernel, rfl⟩, (pd_m 669 (by decide +kernel) (by decide +kernel)), (pd_m 672 (by decide +kernel) (by decide +kernel)), (pd_m 670 (by decide +kernel) (by decide +kernel)), (pd_m 687 (by decide +kernel) (by decide +kernel)), (pd_m 688 (by decide +kernel) (by decide +kernel)), kG_marks, kHa_marks, rfl⟩
theorem eD_mark_48_1 : pd_ku mD_mark 48 mG_marks mCo_marks 3 51 := ⟨258, ⟨by decide +kernel, rfl⟩, (pd_m 669 (by decide +kernel) (by decide +kernel)), (pd_m 672 (by decide +kernel) (by decide +kernel)), (pd_m 670 (by decide +kernel) (by decide +kernel)), (pd_m 678 (by decide +kernel) (by decide +kernel)), (pd_m 679 (by decide +kernel) (by decide +kernel)), kG_marks, kCo_marks, rfl⟩
theorem eD_mark_48_5 : pd_ku mD_mark 48 mG_marks mJe_marks 3 51 := ⟨258, ⟨by decide +kernel, rfl⟩, (pd_m 669 (by decide +kernel) (by decide +kernel)), (pd_m 672 (by decide +kernel) (by decide +kernel)), (pd_m 670 (by decide +kernel) (by decide +kernel)), (pd_m 692 (by decide +kernel) (by decide +kernel)), (pd_m 693 (by decide +kernel) (by decide +kernel)), kG_marks, kJe_marks, rfl⟩
theorem eD_mark_48_0 : pd_ku mD_mark 48 mG_marks mCa_marks 3 51 := ⟨258, ⟨by decide +kernel, rfl⟩, (pd_m 669 (by decide +kernel) (by decide +kernel)), (pd_m 672 (by decide +kernel) (by decide +kernel)), (pd_m 670 (by decide +kernel) (by decide +kernel)), (pd_m 673 (by decide +kernel) (by decide +kernel)), (pd_m 674 (by decide +kernel) (by decide +kernel)), kG_marks, kCa_marks, rfl⟩
theorem eD_mark_51 {z : Int} : pd_rd mD_mark 51 (some (vi z)) := (by decide +kernel : decode mD_mark.2.1 51 = .ok (.ireturn, 1))
theorem eD_keep_0 : pd_il mD_keep 0 1 1 := Or.inl ⟨1, rfl, by decide +kernel, rfl⟩
theorem eD_keep_1 : pd_ic mD_keep 1 0 2 := Or.inl ⟨by decide +kernel, rfl⟩
theorem eD_keep_2 : pd_ic mD_keep 2 1 3 := Or.inl ⟨by decide +kernel, rfl⟩
theorem eD_keep_3 : pd_ks mD_keep 3 mD_within 3 6 := ⟨86, ⟨by decide +kernel, rfl⟩, Or.inl (pd_m 356 (by decide +kernel) (by decide +kernel)), (pd_m 357 (by decide +kernel) (by decide +kernel)), kD_within⟩
theorem eD_keep_6 : pd_b1 mD_keep 6 .ne 9 11 := ⟨5, ⟨by decide +kernel, rfl⟩, by decide⟩
theorem eD_keep_9 : pd_ic mD_keep 9 (-1) 10 := Or.inl ⟨by decide +kernel, rfl⟩
theorem eD_keep_10 {z : Int} : pd_rd mD_keep 10 (some (vi z)) := (by decide +kernel : decode mD_keep.2.1 10 = .ok (.ireturn, 1))
theorem eD_keep_11 : pd_al mD_keep 11 0 12 := Or.inl ⟨0, rfl, by decide +kernel, rfl⟩
theorem eD_keep_12 : pd_gf mD_keep 12 11 2 15 := ⟨23, _, ⟨by decide +kernel, rfl⟩, fD_23_11⟩
theorem eD_keep_15 : pd_il mD_keep 15 1 16 := Or.inl ⟨1, rfl, by decide +kernel, rfl⟩
theorem eD_keep_16 : pd_i mD_keep 16 (.aaload) 1 17 := ⟨by decide +kernel, rfl⟩
theorem eD_keep_17 : pd_al mD_keep 17 0 18 := Or.inl ⟨0, rfl, by decide +kernel, rfl⟩
theorem eD_keep_18 : pd_gf mD_keep 18 11 1 21 := ⟨19, _, ⟨by decide +kernel, rfl⟩, fD_19_11⟩
theorem eD_keep_21 : pd_kv mD_keep 21 mL_copy 1 24 := ⟨261, ⟨by decide +kernel, rfl⟩, (pd_m 703 (by decide +kernel) (by decide +kernel)), (pd_m 704 (by decide +kernel) (by decide +kernel)), (pd_m 705 (by decide +kernel) (by decide +kernel)), kL_copy⟩
theorem eD_keep_24 : pd_al mD_keep 24 0 25 := Or.inl ⟨0, rfl, by decide +kernel, rfl⟩
theorem eD_keep_25 : pd_gf mD_keep 25 11 3 28 := ⟨27, _, ⟨by decide +kernel, rfl⟩, fD_27_11⟩
theorem eD_keep_28 : pd_il mD_keep 28 1 29 := Or.inl ⟨1, rfl, by decide +kernel, rfl⟩
theorem eD_keep_29 : pd_ic mD_keep 29 1 30 := Or.inl ⟨by decide +kernel, rfl⟩
theorem eD_keep_30 : pd_i mD_keep 30 (.bastore) 1 31 := ⟨by decide +kernel, rfl⟩
theorem eD_keep_31 : pd_al mD_keep 31 0 32 := Or.inl ⟨0, rfl, by decide +kernel, rfl⟩
theorem eD_keep_32 : pd_gf mD_keep 32 11 1 35 := ⟨19, _, ⟨by decide +kernel, rfl⟩, fD_19_11⟩
theorem eD_keep_35 : pd_gf mD_keep 35 6 0 38 := ⟨130, _, ⟨by decide +kernel, rfl⟩, fD_130_6⟩
theorem eD_keep_38 : pd_gf mD_keep 38 8 3 41 := ⟨155, _, ⟨by decide +kernel, rfl⟩, fD_155_8⟩
theorem eD_keep_41 {z : Int} : pd_rd mD_keep 41 (some (vi z)) := (by decide +kernel : decode mD_keep.2.1 41 = .ok (.ireturn, 1))
theorem eD_back_0 : pd_il mD_back 0 1 1 := Or.inl ⟨1, rfl, by decide +kernel, rfl⟩
theorem eD_back_1 : pd_ic mD_back 1 0 2 := Or.inl ⟨by decide +kernel, rfl⟩
theorem eD_back_2 : pd_ic mD_back 2 1 3 := Or.inl ⟨by decide +kernel, rfl⟩
theorem eD_back_3 : pd_ks mD_back 3 mD_within 3 6 := ⟨86, ⟨by decide +kernel, rfl⟩, Or.inl (pd_m 356 (by decide +kernel) (by decide +kernel)), (pd_m 357 (by decide +kernel) (by decide +kernel)), kD_within⟩
theorem eD_back_6 : pd_b1 mD_back 6 .ne 9 11 := ⟨5, ⟨by decide +kernel, rfl⟩, by decide⟩
theorem eD_back_9 : pd_ic mD_back 9 (-1) 10 := Or.inl ⟨by decide +kernel, rfl⟩
theorem eD_back_10 {z : Int} : pd_rd mD_back 10 (some (vi z)) := (by decide +kernel : decode mD_back.2.1 10 = .ok (.ireturn, 1))
theorem eD_back_11 : pd_al mD_back 11 0 12 := Or.inl ⟨0, rfl, by decide +kernel, rfl⟩
theorem eD_back_12 : pd_gf mD_back 12 11 3 15 := ⟨27, _, ⟨by decide +kernel, rfl⟩, fD_27_11⟩
theorem eD_back_15 : pd_il mD_back 15 1 16 := Or.inl ⟨1, rfl, by decide +kernel, rfl⟩
theorem eD_back_16 : pd_i mD_back 16 (.baload) 1 17 := ⟨by decide +kernel, rfl⟩
theorem eD_back_17 : pd_b1 mD_back 17 .ne 20 23 := ⟨6, ⟨by decide +kernel, rfl⟩, by decide⟩
theorem eD_back_20 : pd_ic mD_back 20 (-2) 22 := Or.inr (Or.inl ⟨⟨by decide +kernel, rfl⟩, by decide⟩)
theorem eD_back_22 {z : Int} : pd_rd mD_back 22 (some (vi z)) := (by decide +kernel : decode mD_back.2.1 22 = .ok (.ireturn, 1))
theorem eD_back_23 : pd_al mD_back 23 0 24 := Or.inl ⟨0, rfl, by decide +kernel, rfl⟩
theorem eD_back_24 : pd_gf mD_back 24 11 1 27 := ⟨19, _, ⟨by decide +kernel, rfl⟩, fD_19_11⟩
theorem eD_back_27 : pd_al mD_back 27 0 28 := Or.inl ⟨0, rfl, by decide +kernel, rfl⟩
theorem eD_back_28 : pd_gf mD_back 28 11 2 31 := ⟨23, _, ⟨by decide +kernel, rfl⟩, fD_23_11⟩
theorem eD_back_31 : pd_il mD_back 31 1 32 := Or.inl ⟨1, rfl, by decide +kernel, rfl⟩
theorem eD_back_32 : pd_i mD_back 32 (.aaload) 1 33 := ⟨by decide +kernel, rfl⟩
theorem eD_back_33 : pd_kv mD_back 33 mL_copy 1 36 := ⟨261, ⟨by decide +kernel, rfl⟩, (pd_m 703 (by decide +kernel) (by decide +kernel)), (pd_m 704 (by decide +kernel) (by decide +kernel)), (pd_m 705 (by decide +kernel) (by decide +kernel)), kL_copy⟩
theorem eD_back_36 : pd_al mD_back 36 0 37 := Or.inl ⟨0, rfl, by decide +kernel, rfl⟩
theorem eD_back_37 : pd_gf mD_back 37 11 1 40 := ⟨19, _, ⟨by decide +kernel, rfl⟩, fD_19_11⟩
theorem eD_back_40 : pd_gf mD_back 40 6 0 43 := ⟨130, _, ⟨by decide +kernel, rfl⟩, fD_130_6⟩
theorem eD_back_43 : pd_gf mD_back 43 8 3 46 := ⟨155, _, ⟨by decide +kernel, rfl⟩, fD_155_8⟩
theorem eD_back_46 {z : Int} : pd_rd mD_back 46 (some (vi z)) := (by decide +kernel : decode mD_back.2.1 46 = .ok (.ireturn, 1))
theorem eD_count_0 : pd_il mD_count 0 1 1 := Or.inl ⟨1, rfl, by decide +kernel, rfl⟩
theorem eD_count_1 : pd_i mD_count 1 (.tableswitch 93 0 6 #[43, 51, 59, 67, 72, 77, 85]) 43 44 := ⟨by decide +kernel, rfl⟩
theorem eD_count_44 : pd_al mD_count 44 0 45 := Or.inl ⟨0, rfl, by decide +kernel, rfl⟩
theorem eD_count_45 : pd_gf mD_count 45 11 11 48 := ⟨79, _, ⟨by decide +kernel, rfl⟩, fD_79_11⟩
theorem eD_count_48 : pd_gf mD_count 48 4 7 51 := ⟨189, _, ⟨by decide +kernel, rfl⟩, fD_189_4⟩
theorem eD_count_51 {z : Int} : pd_rd mD_count 51 (some (vi z)) := (by decide +kernel : decode mD_count.2.1 51 = .ok (.ireturn, 1))
theorem eD_count_52 : pd_al mD_count 52 0 53 := Or.inl ⟨0, rfl, by decide +kernel, rfl⟩
theorem eD_count_53 : pd_gf mD_count 53 11 11 56 := ⟨79, _, ⟨by decide +kernel, rfl⟩, fD_79_11⟩
theorem eD_count_56 : pd_gf mD_count 56 4 8 59 := ⟨265, _, ⟨by decide +kernel, rfl⟩, fD_265_4⟩
theorem eD_count_59 {z : Int} : pd_rd mD_count 59 (some (vi z)) := (by decide +kernel : decode mD_count.2.1 59 = .ok (.ireturn, 1))
theorem eD_count_60 : pd_al mD_count 60 0 61 := Or.inl ⟨0, rfl, by decide +kernel, rfl⟩
theorem eD_count_61 : pd_gf mD_count 61 11 11 64 := ⟨79, _, ⟨by decide +kernel, rfl⟩, fD_79_11⟩
theorem eD_count_64 : pd_gf mD_count 64 4 9 67 := ⟨268, _, ⟨by decide +kernel, rfl⟩, fD_268_4⟩
theorem eD_count_67 {z : Int} : pd_rd mD_count 67 (some (vi z)) := (by decide +kernel : decode mD_count.2.1 67 = .ok (.ireturn, 1))
theorem eD_count_68 : pd_al mD_count 68 0 69 := Or.inl ⟨0, rfl, by decide +kernel, rfl⟩
theorem eD_count_69 : pd_gf mD_count 69 11 13 72 := ⟨108, _, ⟨by decide +kernel, rfl⟩, fD_108_11⟩
theorem eD_count_72 {z : Int} : pd_rd mD_count 72 (some (vi z)) := (by decide +kernel : decode mD_count.2.1 72 = .ok (.ireturn, 1))
theorem eD_count_73 : pd_al mD_count 73 0 74 := Or.inl ⟨0, rfl, by decide +kernel, rfl⟩
theorem eD_count_74 : pd_gf mD_count 74 11 14 77 := ⟨111, _, ⟨by decide +kernel, rfl⟩, fD_111_11⟩
theorem eD_count_77 {z : Int} : pd_rd mD_count 77 (some (vi z)) := (by decide +kernel : decode mD_count.2.1 77 = .ok (.ireturn, 1))
theorem eD_count_78 : pd_al mD_count 78 0 79 := Or.inl ⟨0, rfl, by decide +kernel, rfl⟩
theorem eD_count_79 : pd_gf mD_count 79 11 1 82 := ⟨19, _, ⟨by decide +kernel, rfl⟩, fD_19_11⟩
theorem eD_count_82 : pd_gf mD_count 82 6 2 85 := ⟨175, _, ⟨by decide +kernel, rfl⟩, fD_175_6⟩
theorem eD_count_85 {z : Int} : pd_rd mD_count 85 (some (vi z)) := (by decide +kernel : decode mD_count.2.1 85 = .ok (.ireturn, 1))
theorem eD_count_86 : pd_al mD_count 86 0 87 := Or.inl ⟨0, rfl, by decide +kernel, rfl⟩
theorem eD_count_87 : pd_gf mD_count 87 11 0 90 := ⟨12, _, ⟨by decide +kernel, rfl⟩, fD_12_11⟩
theorem eD_count_90 : pd_gf mD_count 90 10 1 93 := ⟨90, _, ⟨by decide +kernel, rfl⟩, fD_90_10⟩
theorem eD_count_93 {z : Int} : pd_rd mD_count 93 (some (vi z)) := (by decide +kernel : decode mD_count.2.1 93 = .ok (.ireturn, 1))
theorem eD_count_94 : pd_ic mD_count 94 (-1) 95 := Or.inl ⟨by decide +kernel, rfl⟩
theorem eD_count_95 {z : Int} : pd_rd mD_count 95 (some (vi z)) := (by decide +kernel : decode mD_count.2.1 95 = .ok (.ireturn, 1))
theorem eD_trace_0 : pd_jc mD_trace 0 0 1 := Or.inl ⟨0, ⟨by decide +kernel, rfl⟩, by decide⟩
theorem eD_trace_1 : pd_js mD_trace 1 1 2 := ⟨by decide, Or.inl ⟨1, rfl, by decide +kernel, rfl⟩⟩
theorem eD_trace_2 : pd_ic mD_trace 2 0 3 := Or.inl ⟨by decide +kernel, rfl⟩
theorem eD_trace_3 : pd_is mD_trace 3 3 4 := ⟨by decide, Or.inl ⟨3, rfl, by decide +kernel, rfl⟩⟩
theorem eD_trace_4 : pd_il mD_trace 4 3 5 := Or.inl ⟨3, rfl, by decide +kernel, rfl⟩
theorem eD_trace_5 : pd_al mD_trace 5 0 6 := Or.inl ⟨0, rfl, by decide +kernel, rfl⟩
theorem eD_trace_6 : pd_gf mD_trace 6 11 10 9 := ⟨72, _, ⟨by decide +kernel, rfl⟩, fD_72_11⟩
theorem eD_trace_9 : pd_i mD_trace 9 (.arraylength) 1 10 := ⟨by decide +kernel, rfl⟩
theorem eD_trace_10 : pd_b2 mD_trace 10 .ge 13 31 := ⟨21, ⟨by decide +kernel, rfl⟩, by decide⟩
theorem eD_trace_13 : pd_jl mD_trace 13 1 14 := Or.inl ⟨1, rfl, by decide +kernel, rfl⟩
theorem eD_trace_14 : pd_al mD_trace 14 0 15 := Or.inl ⟨0, rfl, by decide +kernel, rfl⟩
theorem eD_trace_15 : pd_gf mD_trace 15 11 10 18 := ⟨72, _, ⟨by decide +kernel, rfl⟩, fD_72_11⟩
theorem eD_trace_18 : pd_il mD_trace 18 3 19 := Or.inl ⟨3, rfl, by decide +kernel, rfl⟩
theorem eD_trace_19 : pd_i mD_trace 19 (.aaload) 1 20 := ⟨by decide +kernel, rfl⟩
theorem eD_trace_20_2 : pd_gf mD_trace 20 2 0 23 := ⟨271, _, ⟨by decide +kernel, rfl⟩, fD_271_2⟩
theorem eD_trace_20_9 : pd_gf mD_trace 20 9 0 23 := ⟨271, _, ⟨by decide +kernel, rfl⟩, fD_271_9⟩
theorem eD_trace_20_3 : pd_gf mD_trace 20 3 0 23 := ⟨271, _, ⟨by decide +kernel, rfl⟩, fD_271_3⟩
theorem eD_trace_20_1 : pd_gf mD_trace 20 1 0 23 := ⟨271, _, ⟨by decide +kernel, rfl⟩, fD_271_1⟩
theorem eD_trace_20_5 : pd_gf mD_trace 20 5 0 23 := ⟨271, _, ⟨by decide +kernel, rfl⟩, fD_271_5⟩
theorem eD_trace_20_0 : pd_gf mD_trace 20 0 0 23 := ⟨271, _, ⟨by decide +kernel, rfl⟩, fD_271_0⟩
theorem eD_trace_23 : pd_i mD_trace 23 (.ladd) 1 24 := ⟨by decide +kernel, rfl⟩
theorem eD_trace_24 : pd_js mD_trace 24 1 25 := ⟨by decide, Or.inl ⟨1, rfl, by decide +kernel, rfl⟩⟩
theorem eD_trace_25 : pd_ii mD_trace 25 3 1 28 := ⟨by decide, by decide +kernel, rfl⟩
theorem eD_trace_28 : pd_go mD_trace 28 4 := ⟨-24, by decide +kernel, by decide⟩
theorem eD_trace_31 : pd_jl mD_trace 31 1 32 := Or.inl ⟨1, rfl, by decide +kernel, rfl⟩
theorem eD_trace_32 {z : Int} : pd_rd mD_trace 32 (some (vl z)) := (by decide +kernel : decode mD_trace.2.1 32 = .ok (.lreturn, 1))
theorem eD_within_0 : pd_il mD_within 0 0 1 := Or.inl ⟨0, rfl, by decide +kernel, rfl⟩
theorem eD_within_1 : pd_il mD_within 1 1 2 := Or.inl ⟨1, rfl, by decide +kernel, rfl⟩
theorem eD_within_2 : pd_b2 mD_within 2 .lt 5 14 := ⟨12, ⟨by decide +kernel, rfl⟩, by decide⟩
theorem eD_within_5 : pd_il mD_within 5 0 6 := Or.inl ⟨0, rfl, by decide +kernel, rfl⟩
theorem eD_within_6 : pd_il mD_within 6 2 7 := Or.inl ⟨2, rfl, by decide +kernel, rfl⟩
theorem eD_within_7 : pd_b2 mD_within 7 .gt 10 14 := ⟨7, ⟨by decide +kernel, rfl⟩, by decide⟩
theorem eD_within_10 : pd_ic mD_within 10 1 11 := Or.inl ⟨by decide +kernel, rfl⟩
theorem eD_within_11 : pd_go mD_within 11 15 := ⟨4, by decide +kernel, by decide⟩
theorem eD_within_14 : pd_ic mD_within 14 0 15 := Or.inl ⟨by decide +kernel, rfl⟩
theorem eD_within_15 {z : Int} (h : z = 0 ∨ z = 1) : pd_rd mD_within 15 (some (vi z)) := ⟨by decide +kernel, h⟩
theorem eD_sum_0 : pd_ic mD_sum 0 0 1 := Or.inl ⟨by decide +kernel, rfl⟩
theorem eD_sum_1 : pd_is mD_sum 1 1 2 := ⟨by decide, Or.inl ⟨1, rfl, by decide +kernel, rfl⟩⟩
theorem eD_sum_2 : pd_ic mD_sum 2 0 3 := Or.inl ⟨by decide +kernel, rfl⟩
theorem eD_sum_3 : pd_is mD_sum 3 2 4 := ⟨by decide, Or.inl ⟨2, rfl, by decide +kernel, rfl⟩⟩
theorem eD_sum_4 : pd_il mD_sum 4 2 5 := Or.inl ⟨2, rfl, by decide +kernel, rfl⟩
theorem eD_sum_5 : pd_al mD_sum 5 0 6 := Or.inl ⟨0, rfl, by decide +kernel, rfl⟩
theorem eD_sum_6 : pd_i mD_sum 6 (.arraylength) 1 7 := ⟨by decide +kernel, rfl⟩
theorem eD_sum_7 : pd_b2 mD_sum 7 .ge 10 22 := ⟨15, ⟨by decide +kernel, rfl⟩, by decide⟩
theorem eD_sum_10 : pd_il mD_sum 10 1 11 := Or.inl ⟨1, rfl, by decide +kernel, rfl⟩
theorem eD_sum_11 : pd_al mD_sum 11 0 12 := Or.inl ⟨0, rfl, by decide +kernel, rfl⟩
theorem eD_sum_12 : pd_il mD_sum 12 2 13 := Or.inl ⟨2, rfl, by decide +kernel, rfl⟩
theorem eD_sum_13 : pd_i mD_sum 13 (.iaload) 1 14 := ⟨by decide +kernel, rfl⟩
theorem eD_sum_14 : pd_i mD_sum 14 (.iadd) 1 15 := ⟨by decide +kernel, rfl⟩
theorem eD_sum_15 : pd_is mD_sum 15 1 16 := ⟨by decide, Or.inl ⟨1, rfl, by decide +kernel, rfl⟩⟩
theorem eD_sum_16 : pd_ii mD_sum 16 2 1 19 := ⟨by decide, by decide +kernel, rfl⟩
theorem eD_sum_19 : pd_go mD_sum 19 4 := ⟨-15, by decide +kernel, by decide⟩
theorem eD_sum_22 : pd_il mD_sum 22 1 23 := Or.inl ⟨1, rfl, by decide +kernel, rfl⟩
theorem eD_sum_23 {z : Int} : pd_rd mD_sum 23 (some (vi z)) := (by decide +kernel : decode mD_sum.2.1 23 = .ok (.ireturn, 1))
theorem eD_leadsBy_0 : pd_il mD_leadsBy 0 0 1 := Or.inl ⟨0, rfl, by decide +kernel, rfl⟩
theorem eD_leadsBy_1 : pd_ic mD_leadsBy 1 1 2 := Or.inl ⟨by decide +kernel, rfl⟩
theorem eD_leadsBy_2 : pd_b2 mD_leadsBy 2 .lt 5 21 := ⟨19, ⟨by decide +kernel, rfl⟩, by decide⟩
theorem eD_leadsBy_5 : pd_il mD_leadsBy 5 2 6 := Or.inl ⟨2, rfl, by decide +kernel, rfl⟩
theorem eD_leadsBy_6 : pd_il mD_leadsBy 6 1 7 := Or.inl ⟨1, rfl, by decide +kernel, rfl⟩
theorem eD_leadsBy_7 : pd_ic mD_leadsBy 7 19 9 := Or.inr (Or.inl ⟨⟨by decide +kernel, rfl⟩, by decide⟩)
theorem eD_leadsBy_9 : pd_ks mD_leadsBy 9 mD_within 3 12 := ⟨86, ⟨by decide +kernel, rfl⟩, Or.inl (pd_m 356 (by decide +kernel) (by decide +kernel)), (pd_m 357 (by decide +kernel) (by decide +kernel)), kD_within⟩
theorem eD_leadsBy_12 : pd_b1 mD_leadsBy 12 .eq 15 21 := ⟨9, ⟨by decide +kernel, rfl⟩, by decide⟩
theorem eD_leadsBy_15 : pd_il mD_leadsBy 15 2 16 := Or.inl ⟨2, rfl, by decide +kernel, rfl⟩
theorem eD_leadsBy_16 : pd_il mD_leadsBy 16 0 17 := Or.inl ⟨0, rfl, by decide +kernel, rfl⟩
theorem eD_leadsBy_17 : pd_i mD_leadsBy 17 (.irem) 1 18 := ⟨by decide +kernel, rfl⟩
theorem eD_leadsBy_18 : pd_b1 mD_leadsBy 18 .eq 21 24 := ⟨6, ⟨by decide +kernel, rfl⟩, by decide⟩
theorem eD_leadsBy_21 : pd_ic mD_leadsBy 21 (-9) 23 := Or.inr (Or.inl ⟨⟨by decide +kernel, rfl⟩, by decide⟩)
theorem eD_leadsBy_23 {z : Int} : pd_rd mD_leadsBy 23 (some (vi z)) := (by decide +kernel : decode mD_leadsBy.2.1 23 = .ok (.ireturn, 1))
theorem eD_leadsBy_24 : pd_il mD_leadsBy 24 2 25 := Or.inl ⟨2, rfl, by decide +kernel, rfl⟩
theorem eD_leadsBy_25 : pd_il mD_leadsBy 25 1 26 := Or.inl ⟨1, rfl, by decide +kernel, rfl⟩
theorem eD_leadsBy_26 : pd_i mD_leadsBy 26 (.isub) 1 27 := ⟨by decide +kernel, rfl⟩
theorem eD_leadsBy_27 {z : Int} : pd_rd mD_leadsBy 27 (some (vi z)) := (by decide +kernel : decode mD_leadsBy.2.1 27 = .ok (.ireturn, 1))
end
section
theorem eR_init_0 : pd_al mR_init 0 0 1 := Or.inl ⟨0, rfl, by decide +kernel, rfl⟩
theorem eR_init_1 : ∃ idx, pd_i mR_init 1 (.invokespecial idx) 3 4 ∧ Cond.methodLink mR_init.1.cls idx objectInit ∈ pd_tbl := ⟨1, ⟨by decide +kernel, rfl⟩, (pd_m 724 (by decide +kernel) (by decide +kernel))⟩
theorem eR_init_4 : pd_al mR_init 4 0 5 := Or.inl ⟨0, rfl, by decide +kernel, rfl⟩
theorem eR_init_5 : pd_ic mR_init 5 150 8 := Or.inr (Or.inr (Or.inl ⟨⟨by decide +kernel, rfl⟩, by decide⟩))
theorem eR_init_8 : pd_i mR_init 8 (.newarray .byte) 2 10 := ⟨by decide +kernel, rfl⟩
theorem eR_init_10 : pd_pf mR_init 10 12 0 (.array .byte) 13 := ⟨7, ⟨by decide +kernel, rfl⟩, fR_7_12, Or.inr ⟨rfl, rfl⟩⟩
theorem eR_init_13 : pd_al mR_init 13 0 14 := Or.inl ⟨0, rfl, by decide +kernel, rfl⟩
theorem eR_init_14 : pd_ic mR_init 14 4 15 := Or.inl ⟨by decide +kernel, rfl⟩
theorem eR_init_15 : pd_i mR_init 15 (.newarray .int) 2 17 := ⟨by decide +kernel, rfl⟩
theorem eR_init_17 : pd_pf mR_init 17 12 2 (.array .int) 20 := ⟨13, ⟨by decide +kernel, rfl⟩, fR_13_12, Or.inr ⟨rfl, rfl⟩⟩
theorem eR_init_20 : pd_al mR_init 20 0 21 := Or.inl ⟨0, rfl, by decide +kernel, rfl⟩
theorem eR_init_21 : pd_ic mR_init 21 2 22 := Or.inl ⟨by decide +kernel, rfl⟩
theorem eR_init_22 : pd_i mR_init 22 (.newarray .int) 2 24 := ⟨by decide +kernel, rfl⟩
theorem eR_init_24 : pd_pf mR_init 24 12 3 (.array .int) 27 := ⟨17, ⟨by decide +kernel, rfl⟩, fR_17_12, Or.inr ⟨rfl, rfl⟩⟩
theorem eR_init_27 : pd_al mR_init 27 0 28 := Or.inl ⟨0, rfl, by decide +kernel, rfl⟩
theorem eR_init_28 : pd_ic mR_init 28 8 30 := Or.inr (Or.inl ⟨⟨by decide +kernel, rfl⟩, by decide⟩)
theorem eR_init_30 : pd_i mR_init 30 (.newarray .int) 2 32 := ⟨by decide +kernel, rfl⟩
theorem eR_init_32 : pd_pf mR_init 32 12 4 (.array .int) 35 := ⟨20, ⟨by decide +kernel, rfl⟩, fR_20_12, Or.inr ⟨rfl, rfl⟩⟩
theorem eR_init_35 : pd_al mR_init 35 0 36 := Or.inl ⟨0, rfl, by decide +kernel, rfl⟩
theorem eR_init_36 : pd_ic mR_init 36 8 38 := Or.inr (Or.inl ⟨⟨by decide +kernel, rfl⟩, by decide⟩)
theorem eR_init_38 : pd_i mR_init 38 (.newarray .int) 2 40 := ⟨by decide +kernel, rfl⟩
theorem eR_init_40 : pd_pf mR_init 40 12 5 (.array .int) 43 := ⟨23, ⟨by decide +kernel, rfl⟩, fR_23_12, Or.inr ⟨rfl, rfl⟩⟩
theorem eR_init_43 : pd_al mR_init 43 0 44 := Or.inl ⟨0, rfl, by decide +kernel, rfl⟩
theorem eR_init_44 : pd_ic mR_init 44 8 46 := Or.inr (Or.inl ⟨⟨by decide +kernel, rfl⟩, by decide⟩)
theorem eR_init_46 : pd_i mR_init 46 (.newarray .int) 2 48 := ⟨by decide +kernel, rfl⟩
theorem eR_init_48 : pd_pf mR_init 48 12 6 (.array .int) 51 := ⟨26, ⟨by decide +kernel, rfl⟩, fR_26_12, Or.inr ⟨rfl, rfl⟩⟩
theorem eR_init_51 : pd_al mR_init 51 0 52 := Or.inl ⟨0, rfl, by decide +kernel, rfl⟩
theorem eR_init_52 : pd_ic mR_init 52 8 54 := Or.inr (Or.inl ⟨⟨by decide +kernel, rfl⟩, by decide⟩)
theorem eR_init_54 : pd_i mR_init 54 (.newarray .int) 2 56 := ⟨by decide +kernel, rfl⟩
theorem eR_init_56 : pd_pf mR_init 56 12 7 (.array .int) 59 := ⟨29, ⟨by decide +kernel, rfl⟩, fR_29_12, Or.inr ⟨rfl, rfl⟩⟩
theorem eR_init_59 : pd_al mR_init 59 0 60 := Or.inl ⟨0, rfl, by decide +kernel, rfl⟩
theorem eR_init_60 : pd_ic mR_init 60 160 63 := Or.inr (Or.inr (Or.inl ⟨⟨by decide +kernel, rfl⟩, by decide⟩))
theorem eR_init_63 : pd_i mR_init 63 (.newarray .int) 2 65 := ⟨by decide +kernel, rfl⟩
theorem eR_init_65 : pd_pf mR_init 65 12 8 (.array .int) 68 := ⟨32, ⟨by decide +kernel, rfl⟩, fR_32_12, Or.inr ⟨rfl, rfl⟩⟩
theorem eR_init_68 : pd_al mR_init 68 0 69 := Or.inl ⟨0, rfl, by decide +kernel, rfl⟩
theorem eR_init_69 : pd_ic mR_init 69 160 72 := Or.inr (Or.inr (Or.inl ⟨⟨by decide +kernel, rfl⟩, by decide⟩))
theorem eR_init_72 : pd_i mR_init 72 (.newarray .int) 2 74 := ⟨by decide +kernel, rfl⟩
theorem eR_init_74 : pd_pf mR_init 74 12 9 (.array .int) 77 := ⟨35, ⟨by decide +kernel, rfl⟩, fR_35_12, Or.inr ⟨rfl, rfl⟩⟩
theorem eR_init_77 : pd_al mR_init 77 0 78 := Or.inl ⟨0, rfl, by decide +kernel, rfl⟩
theorem eR_init_78 : pd_ic mR_init 78 90 80 := Or.inr (Or.inl ⟨⟨by decide +kernel, rfl⟩, by decide⟩)
theorem eR_init_80 : pd_i mR_init 80 (.newarray .int) 2 82 := ⟨by decide +kernel, rfl⟩
theorem eR_init_82 : pd_pf mR_init 82 12 17 (.array .int) 85 := ⟨38, ⟨by decide +kernel, rfl⟩, fR_38_12, Or.inr ⟨rfl, rfl⟩⟩
theorem eR_init_85 : pd_al mR_init 85 0 86 := Or.inl ⟨0, rfl, by decide +kernel, rfl⟩
theorem eR_init_86 : pd_ic mR_init 86 3 87 := Or.inl ⟨by decide +kernel, rfl⟩
theorem eR_init_87 : pd_i mR_init 87 (.newarray .int) 2 89 := ⟨by decide +kernel, rfl⟩
theorem eR_init_89 : pd_pf mR_init 89 12 18 (.array .int) 92 := ⟨41, ⟨by decide +kernel, rfl⟩, fR_41_12, Or.inr ⟨rfl, rfl⟩⟩
theorem eR_init_92 : pd_al mR_init 92 0 93 := Or.inl ⟨0, rfl, by decide +kernel, rfl⟩
theorem eR_init_93 : pd_ic mR_init 93 2700 96 := Or.inr (Or.inr (Or.inl ⟨⟨by decide +kernel, rfl⟩, by decide⟩))
theorem eR_init_96 : pd_i mR_init 96 (.newarray .int) 2 98 := ⟨by decide +kernel, rfl⟩
theorem eR_init_98 : pd_pf mR_init 98 12 19 (.array .int) 101 := ⟨44, ⟨by decide +kernel, rfl⟩, fR_44_12, Or.inr ⟨rfl, rfl⟩⟩
theorem eR_init_101 : pd_al mR_init 101 0 102 := Or.inl ⟨0, rfl, by decide +kernel, rfl⟩
theorem eR_init_102 : pd_ic mR_init 102 180 105 := Or.inr (Or.inr (Or.inl ⟨⟨by decide +kernel, rfl⟩, by decide⟩))
theorem eR_init_105 : pd_i mR_init 105 (.newarray .int) 2 107 := ⟨by decide +kernel, rfl⟩
theorem eR_init_107 : pd_pf mR_init 107 12 20 (.array .int) 110 := ⟨47, ⟨by decide +kernel, rfl⟩, fR_47_12, Or.inr ⟨rfl, rfl⟩⟩
theorem eR_init_110 : pd_al mR_init 110 0 111 := Or.inl ⟨0, rfl, by decide +kernel, rfl⟩
theorem eR_init_111 : pd_ic mR_init 111 2 112 := Or.inl ⟨by decide +kernel, rfl⟩
theorem eR_init_112 : pd_i mR_init 112 (.newarray .boolean) 2 114 := ⟨by decide +kernel, rfl⟩
theorem eR_init_114 : pd_pf mR_init 114 12 21 (.array .boolean) 117 := ⟨50, ⟨by decide +kernel, rfl⟩, fR_50_12, Or.inr ⟨rfl, rfl⟩⟩
theorem eR_init_117 : pd_al mR_init 117 0 118 := Or.inl ⟨0, rfl, by decide +kernel, rfl⟩
theorem eR_init_118 : pd_ic mR_init 118 90 120 := Or.inr (Or.inl ⟨⟨by decide +kernel, rfl⟩, by decide⟩)
theorem eR_init_120 : pd_i mR_init 120 (.newarray .int) 2 122 := ⟨by decide +kernel, rfl⟩
theorem eR_init_122 : pd_pf mR_init 122 12 22 (.array .int) 125 := ⟨54, ⟨by decide +kernel, rfl⟩, fR_54_12, Or.inr ⟨rfl, rfl⟩⟩
theorem eR_init_125 : pd_al mR_init 125 0 126 := Or.inl ⟨0, rfl, by decide +kernel, rfl⟩
theorem eR_init_126 : pd_ic mR_init 126 305 129 := Or.inr (Or.inr (Or.inl ⟨⟨by decide +kernel, rfl⟩, by decide⟩))
theorem eR_init_129 : pd_i mR_init 129 (.newarray .int) 2 131 := ⟨by decide +kernel, rfl⟩
theorem eR_init_131 : pd_pf mR_init 131 12 23 (.array .int) 134 := ⟨57, ⟨by decide +kernel, rfl⟩, fR_57_12, Or.inr ⟨rfl, rfl⟩⟩
theorem eR_init_134 : pd_al mR_init 134 0 135 := Or.inl ⟨0, rfl, by decide +kernel, rfl⟩
theorem eR_init_135 : pd_ic mR_init 135 4 136 := Or.inl ⟨by decide +kernel, rfl⟩
theorem eR_init_136 : pd_i mR_init 136 (.newarray .int) 2 138 := ⟨by decide +kernel, rfl⟩
theorem eR_init_138 : pd_pf mR_init 138 12 24 (.array .int) 141 := ⟨60, ⟨by decide +kernel, rfl⟩, fR_60_12, Or.inr ⟨rfl, rfl⟩⟩
theorem eR_init_141 : pd_al mR_init 141 0 142 := Or.inl ⟨0, rfl, by decide +kernel, rfl⟩
theorem eR_init_142 : pd_ic mR_init 142 4 143 := Or.inl ⟨by decide +kernel, rfl⟩
theorem eR_init_143 : pd_i mR_init 143 (.newarray .int) 2 145 := ⟨by decide +kernel, rfl⟩
theorem eR_init_145 : pd_pf mR_init 145 12 25 (.array .int) 148 := ⟨63, ⟨by decide +kernel, rfl⟩, fR_63_12, Or.inr ⟨rfl, rfl⟩⟩
theorem eR_init_148 : pd_al mR_init 148 0 149 := Or.inl ⟨0, rfl, by decide +kernel, rfl⟩
theorem eR_init_149 : pd_ic mR_init 149 4 150 := Or.inl ⟨by decide +kernel, rfl⟩
theorem eR_init_150 : pd_i mR_init 150 (.newarray .int) 2 152 := ⟨by decide +kernel, rfl⟩
theorem eR_init_152 : pd_pf mR_init 152 12 27 (.array .int) 155 := ⟨66, ⟨by decide +kernel, rfl⟩, fR_66_12, Or.inr ⟨rfl, rfl⟩⟩
theorem eR_init_155 : pd_al mR_init 155 0 156 := Or.inl ⟨0, rfl, by decide +kernel, rfl⟩
theorem eR_init_156 : pd_ic mR_init 156 4 157 := Or.inl ⟨by decide +kernel, rfl⟩
theorem eR_init_157 : pd_i mR_init 157 (.newarray .int) 2 159 := ⟨by decide +kernel, rfl⟩
theorem eR_init_159 : pd_pf mR_init 159 12 28 (.array .int) 162 := ⟨69, ⟨by decide +kernel, rfl⟩, fR_69_12, Or.inr ⟨rfl, rfl⟩⟩
theorem eR_init_162 : pd_al mR_init 162 0 163 := Or.inl ⟨0, rfl, by decide +kernel, rfl⟩
theorem eR_init_163 : pd_ic mR_init 163 21 165 := Or.inr (Or.inl ⟨⟨by decide +kernel, rfl⟩, by decide⟩)
theorem eR_init_165 : pd_i mR_init 165 (.newarray .int) 2 167 := ⟨by decide +kernel, rfl⟩
theorem eR_init_167 : pd_pf mR_init 167 12 30 (.array .int) 170 := ⟨72, ⟨by decide +kernel, rfl⟩, fR_72_12, Or.inr ⟨rfl, rfl⟩⟩
theorem eR_init_170 : pd_al mR_init 170 0 171 := Or.inl ⟨0, rfl, by decide +kernel, rfl⟩
theorem eR_init_171 : pd_gf mR_init 171 12 2 174 := ⟨13, _, ⟨by decide +kernel, rfl⟩, fR_13_12⟩
theorem eR_init_174 : pd_ic mR_init 174 0 175 := Or.inl ⟨by decide +kernel, rfl⟩
theorem eR_init_175 : pd_ic mR_init 175 2 176 := Or.inl ⟨by decide +kernel, rfl⟩
theorem eR_init_176 : pd_i mR_init 176 (.iastore) 1 177 := ⟨by decide +kernel, rfl⟩
theorem eR_init_177 : pd_al mR_init 177 0 178 := Or.inl ⟨0, rfl, by decide +kernel, rfl⟩
theorem eR_init_178 : pd_gf mR_init 178 12 2 181 := ⟨13, _, ⟨by decide +kernel, rfl⟩, fR_13_12⟩
theorem eR_init_181 : pd_ic mR_init 181 1 182 := Or.inl ⟨by decide +kernel, rfl⟩
theorem eR_init_182 : pd_ic mR_init 182 3 183 := Or.inl ⟨by decide +kernel, rfl⟩
theorem eR_init_183 : pd_i mR_init 183 (.iastore) 1 184 := ⟨by decide +kernel, rfl⟩
theorem eR_init_184 : pd_rd mR_init 184 none := (by decide +kernel : decode mR_init.2.1 184 = .ok (.return_, 1))
theorem eR_in_0 : pd_il mR_in 0 0 1 := Or.inl ⟨0, rfl, by decide +kernel, rfl⟩
theorem eR_in_1 : pd_il mR_in 1 1 2 := Or.inl ⟨1, rfl, by decide +kernel, rfl⟩
theorem eR_in_2 : pd_b2 mR_in 2 .lt 5 14 := ⟨12, ⟨by decide +kernel, rfl⟩, by decide⟩
theorem eR_in_5 : pd_il mR_in 5 0 6 := Or.inl ⟨0, rfl, by decide +kernel, rfl⟩
theorem eR_in_6 : pd_il mR_in 6 2 7 := Or.inl ⟨2, rfl, by decide +kernel, rfl⟩
theorem eR_in_7 : pd_b2 mR_in 7 .gt 10 14 := ⟨7, ⟨by decide +kernel, rfl⟩, by decide⟩
theorem eR_in_10 : pd_ic mR_in 10 1 11 := Or.inl ⟨by decide +kernel, rfl⟩
theorem eR_in_11 : pd_go mR_in 11 15 := ⟨4, by decide +kernel, by decide⟩
theorem eR_in_14 : pd_ic mR_in 14 0 15 := Or.inl ⟨by decide +kernel, rfl⟩
theorem eR_in_15 {z : Int} (h : z = 0 ∨ z = 1) : pd_rd mR_in 15 (some (vi z)) := ⟨by decide +kernel, h⟩
theorem eR_has_0 : pd_il mR_has 0 0 1 := Or.inl ⟨0, rfl, by decide +kernel, rfl⟩
theorem eR_has_1 : pd_il mR_has 1 1 2 := Or.inl ⟨1, rfl, by decide +kernel, rfl⟩
theorem eR_has_2 : pd_i mR_has 2 (.ishr) 1 3 := ⟨by decide +kernel, rfl⟩
theorem eR_has_3 : pd_ic mR_has 3 1 4 := Or.inl ⟨by decide +kernel, rfl⟩
theorem eR_has_4 : pd_i mR_has 4 (.iand) 1 5 := ⟨by decide +kernel, rfl⟩
theorem eR_has_5 : pd_ic mR_has 5 1 6 := Or.inl ⟨by decide +kernel, rfl⟩
theorem eR_has_6 : pd_b2 mR_has 6 .ne 9 13 := ⟨7, ⟨by decide +kernel, rfl⟩, by decide⟩
theorem eR_has_9 : pd_ic mR_has 9 1 10 := Or.inl ⟨by decide +kernel, rfl⟩
theorem eR_has_10 : pd_go mR_has 10 14 := ⟨4, by decide +kernel, by decide⟩
theorem eR_has_13 : pd_ic mR_has 13 0 14 := Or.inl ⟨by decide +kernel, rfl⟩
theorem eR_has_14 {z : Int} (h : z = 0 ∨ z = 1) : pd_rd mR_has 14 (some (vi z)) := ⟨by decide +kernel, h⟩
theorem eR_type_0 : pd_il mR_type 0 1 1 := Or.inl ⟨1, rfl, by decide +kernel, rfl⟩
theorem eR_type_1 : pd_ic mR_type 1 0 2 := Or.inl ⟨by decide +kernel, rfl⟩
theorem eR_type_2 : pd_ic mR_type 2 255 5 := Or.inr (Or.inr (Or.inl ⟨⟨by decide +kernel, rfl⟩, by decide⟩))
theorem eR_type_5 : pd_ks mR_type 5 mR_in 3 8 := ⟨75, ⟨by decide +kernel, rfl⟩, Or.inl (pd_m 827 (by decide +kernel) (by decide +kernel)), (pd_m 828 (by decide +kernel) (by decide +kernel)), kR_in⟩
theorem eR_type_8 : pd_b1 mR_type 8 .ne 11 13 := ⟨5, ⟨by decide +kernel, rfl⟩, by decide⟩
theorem eR_type_11 : pd_ic mR_type 11 (-1) 12 := Or.inl ⟨by decide +kernel, rfl⟩
theorem eR_type_12 {z : Int} : pd_rd mR_type 12 (some (vi z)) := (by decide +kernel : decode mR_type.2.1 12 = .ok (.ireturn, 1))
theorem eR_type_13 : pd_al mR_type 13 0 14 := Or.inl ⟨0, rfl, by decide +kernel, rfl⟩
theorem eR_type_14 : pd_gf mR_type 14 12 1 17 := ⟨79, _, ⟨by decide +kernel, rfl⟩, fR_79_12⟩
theorem eR_type_17 : pd_ic mR_type 17 150 20 := Or.inr (Or.inr (Or.inl ⟨⟨by decide +kernel, rfl⟩, by decide⟩))
theorem eR_type_20 : pd_b2 mR_type 20 .ne 23 26 := ⟨6, ⟨by decide +kernel, rfl⟩, by decide⟩
theorem eR_type_23 : pd_ic mR_type 23 (-3) 25 := Or.inr (Or.inl ⟨⟨by decide +kernel, rfl⟩, by decide⟩)
theorem eR_type_25 {z : Int} : pd_rd mR_type 25 (some (vi z)) := (by decide +kernel : decode mR_type.2.1 25 = .ok (.ireturn, 1))
theorem eR_type_26 : pd_al mR_type 26 0 27 := Or.inl ⟨0, rfl, by decide +kernel, rfl⟩
theorem eR_type_27 : pd_gf mR_type 27 12 0 30 := ⟨7, _, ⟨by decide +kernel, rfl⟩, fR_7_12⟩
theorem eR_type_30 : pd_al mR_type 30 0 31 := Or.inl ⟨0, rfl, by decide +kernel, rfl⟩
theorem eR_type_31 : pd_gf mR_type 31 12 1 34 := ⟨79, _, ⟨by decide +kernel, rfl⟩, fR_79_12⟩
theorem eR_type_34 : pd_il mR_type 34 1 35 := Or.inl ⟨1, rfl, by decide +kernel, rfl⟩
theorem eR_type_35 : pd_i mR_type 35 (.i2b) 1 36 := ⟨by decide +kernel, rfl⟩
theorem eR_type_36 : pd_i mR_type 36 (.bastore) 1 37 := ⟨by decide +kernel, rfl⟩
theorem eR_type_37 : pd_al mR_type 37 0 38 := Or.inl ⟨0, rfl, by decide +kernel, rfl⟩
theorem eR_type_38 : pd_i mR_type 38 (.dup) 1 39 := ⟨by decide +kernel, rfl⟩
theorem eR_type_39 : pd_gf mR_type 39 12 1 42 := ⟨79, _, ⟨by decide +kernel, rfl⟩, fR_79_12⟩
theorem eR_type_42 : pd_ic mR_type 42 1 43 := Or.inl ⟨by decide +kernel, rfl⟩
theorem eR_type_43 : pd_i mR_type 43 (.iadd) 1 44 := ⟨by decide +kernel, rfl⟩
theorem eR_type_44 : pd_pf mR_type 44 12 1 .int 47 := ⟨79, ⟨by decide +kernel, rfl⟩, fR_79_12, Or.inl ⟨_, rfl⟩⟩
theorem eR_type_47 : pd_al mR_type 47 0 48 := Or.inl ⟨0, rfl, by decide +kernel, rfl⟩
theorem eR_type_48 : pd_gf mR_type 48 12 1 51 := ⟨79, _, ⟨by decide +kernel, rfl⟩, fR_79_12⟩
theorem eR_type_51 {z : Int} : pd_rd mR_type 51 (some (vi z)) := (by decide +kernel : decode mR_type.2.1 51 = .ok (.ireturn, 1))
theorem eR_clear_0 : pd_al mR_clear 0 0 1 := Or.inl ⟨0, rfl, by decide +kernel, rfl⟩
theorem eR_clear_1 : pd_gf mR_clear 1 12 1 4 := ⟨79, _, ⟨by decide +kernel, rfl⟩, fR_79_12⟩
theorem eR_clear_4 : pd_is mR_clear 4 1 5 := ⟨by decide, Or.inl ⟨1, rfl, by decide +kernel, rfl⟩⟩
theorem eR_clear_5 : pd_al mR_clear 5 0 6 := Or.inl ⟨0, rfl, by decide +kernel, rfl⟩
theorem eR_clear_6 : pd_ic mR_clear 6 0 7 := Or.inl ⟨by decide +kernel, rfl⟩
theorem eR_clear_7 : pd_pf mR_clear 7 12 1 .int 10 := ⟨79, ⟨by decide +kernel, rfl⟩, fR_79_12, Or.inl ⟨_, rfl⟩⟩
theorem eR_clear_10 : pd_il mR_clear 10 1 11 := Or.inl ⟨1, rfl, by decide +kernel, rfl⟩
theorem eR_clear_11 {z : Int} : pd_rd mR_clear 11 (some (vi z)) := (by decide +kernel : decode mR_clear.2.1 11 = .ok (.ireturn, 1))
theorem eR_here_0 : pd_al mR_here 0 0 1 := Or.inl ⟨0, rfl, by decide +kernel, rfl⟩
theorem eR_here_1 : pd_gf mR_here 1 12 10 4 := ⟨83, _, ⟨by decide +kernel, rfl⟩, fR_83_12⟩
theorem eR_here_4 : pd_al mR_here 4 0 5 := Or.inl ⟨0, rfl, by decide +kernel, rfl⟩
theorem eR_here_5 : pd_gf mR_here 5 12 1 8 := ⟨79, _, ⟨by decide +kernel, rfl⟩, fR_79_12⟩
theorem eR_here_8 : pd_b2 mR_here 8 .ge 11 27 := ⟨19, ⟨by decide +kernel, rfl⟩, by decide⟩
theorem eR_here_11 : pd_al mR_here 11 0 12 := Or.inl ⟨0, rfl, by decide +kernel, rfl⟩
theorem eR_here_12 : pd_gf mR_here 12 12 0 15 := ⟨7, _, ⟨by decide +kernel, rfl⟩, fR_7_12⟩
theorem eR_here_15 : pd_al mR_here 15 0 16 := Or.inl ⟨0, rfl, by decide +kernel, rfl⟩
theorem eR_here_16 : pd_gf mR_here 16 12 10 19 := ⟨83, _, ⟨by decide +kernel, rfl⟩, fR_83_12⟩
theorem eR_here_19 : pd_i mR_here 19 (.baload) 1 20 := ⟨by decide +kernel, rfl⟩
theorem eR_here_20 : pd_ic mR_here 20 255 23 := Or.inr (Or.inr (Or.inl ⟨⟨by decide +kernel, rfl⟩, by decide⟩))
theorem eR_here_23 : pd_i mR_here 23 (.iand) 1 24 := ⟨by decide +kernel, rfl⟩
theorem eR_here_24 : pd_go mR_here 24 29 := ⟨5, by decide +kernel, by decide⟩
theorem eR_here_27 : pd_ic mR_here 27 (-9) 29 := Or.inr (Or.inl ⟨⟨by decide +kernel, rfl⟩, by decide⟩)
theorem eR_here_29 {z : Int} : pd_rd mR_here 29 (some (vi z)) := (by decide +kernel : decode mR_here.2.1 29 = .ok (.ireturn, 1))
theorem eR_step_0 : pd_al mR_step 0 0 1 := Or.inl ⟨0, rfl, by decide +kernel, rfl⟩
theorem eR_step_1 : pd_kv mR_step 1 mR_here 0 4 := ⟨86, ⟨by decide +kernel, rfl⟩, (pd_m 846 (by decide +kernel) (by decide +kernel)), (pd_m 848 (by decide +kernel) (by decide +kernel)), (pd_m 26 (by decide +kernel) (by decide +kernel)), kR_here⟩
theorem eR_step_4 : pd_ic mR_step 4 32 6 := Or.inr (Or.inl ⟨⟨by decide +kernel, rfl⟩, by decide⟩)
theorem eR_step_6 : pd_b2 mR_step 6 .ne 9 22 := ⟨16, ⟨by decide +kernel, rfl⟩, by decide⟩
theorem eR_step_9 : pd_al mR_step 9 0 10 := Or.inl ⟨0, rfl, by decide +kernel, rfl⟩
theorem eR_step_10 : pd_i mR_step 10 (.dup) 1 11 := ⟨by decide +kernel, rfl⟩
theorem eR_step_11 : pd_gf mR_step 11 12 10 14 := ⟨83, _, ⟨by decide +kernel, rfl⟩, fR_83_12⟩
theorem eR_step_14 : pd_ic mR_step 14 1 15 := Or.inl ⟨by decide +kernel, rfl⟩
theorem eR_step_15 : pd_i mR_step 15 (.iadd) 1 16 := ⟨by decide +kernel, rfl⟩
theorem eR_step_16 : pd_pf mR_step 16 12 10 .int 19 := ⟨83, ⟨by decide +kernel, rfl⟩, fR_83_12, Or.inl ⟨_, rfl⟩⟩
theorem eR_step_19 : pd_go mR_step 19 0 := ⟨-19, by decide +kernel, by decide⟩
theorem eR_step_22 : pd_al mR_step 22 0 23 := Or.inl ⟨0, rfl, by decide +kernel, rfl⟩
theorem eR_step_23 : pd_al mR_step 23 0 24 := Or.inl ⟨0, rfl, by decide +kernel, rfl⟩
theorem eR_step_24 : pd_gf mR_step 24 12 10 27 := ⟨83, _, ⟨by decide +kernel, rfl⟩, fR_83_12⟩
theorem eR_step_27 : pd_pf mR_step 27 12 11 .int 30 := ⟨90, ⟨by decide +kernel, rfl⟩, fR_90_12, Or.inl ⟨_, rfl⟩⟩
theorem eR_step_30 : pd_al mR_step 30 0 31 := Or.inl ⟨0, rfl, by decide +kernel, rfl⟩
theorem eR_step_31 : pd_ic mR_step 31 0 32 := Or.inl ⟨by decide +kernel, rfl⟩
theorem eR_step_32 : pd_pf mR_step 32 12 13 .int 35 := ⟨93, ⟨by decide +kernel, rfl⟩, fR_93_12, Or.inl ⟨_, rfl⟩⟩
theorem eR_step_35 : pd_al mR_step 35 0 36 := Or.inl ⟨0, rfl, by decide +kernel, rfl⟩
theorem eR_step_36 : pd_kv mR_step 36 mR_here 0 39 := ⟨86, ⟨by decide +kernel, rfl⟩, (pd_m 846 (by decide +kernel) (by decide +kernel)), (pd_m 848 (by decide +kernel) (by decide +kernel)), (pd_m 26 (by decide +kernel) (by decide +kernel)), kR_here⟩
theorem eR_step_39 : pd_is mR_step 39 1 40 := ⟨by decide, Or.inl ⟨1, rfl, by decide +kernel, rfl⟩⟩
theorem eR_step_40 : pd_il mR_step 40 1 41 := Or.inl ⟨1, rfl, by decide +kernel, rfl⟩
theorem eR_step_41 : pd_ic mR_step 41 (-9) 43 := Or.inr (Or.inl ⟨⟨by decide +kernel, rfl⟩, by decide⟩)
theorem eR_step_43 : pd_b2 mR_step 43 .ne 46 54 := ⟨11, ⟨by decide +kernel, rfl⟩, by decide⟩
theorem eR_step_46 : pd_al mR_step 46 0 47 := Or.inl ⟨0, rfl, by decide +kernel, rfl⟩
theorem eR_step_47 : pd_ic mR_step 47 4 48 := Or.inl ⟨by decide +kernel, rfl⟩
theorem eR_step_48 : pd_pf mR_step 48 12 12 .int 51 := ⟨96, ⟨by decide +kernel, rfl⟩, fR_96_12, Or.inl ⟨_, rfl⟩⟩
theorem eR_step_51 : pd_go mR_step 51 260 := ⟨209, by decide +kernel, by decide⟩
theorem eR_step_54 : pd_il mR_step 54 1 55 := Or.inl ⟨1, rfl, by decide +kernel, rfl⟩
theorem eR_step_55 : pd_ic mR_step 55 48 57 := Or.inr (Or.inl ⟨⟨by decide +kernel, rfl⟩, by decide⟩)
theorem eR_step_57 : pd_ic mR_step 57 57 59 := Or.inr (Or.inl ⟨⟨by decide +kernel, rfl⟩, by decide⟩)
theorem eR_step_59 : pd_ks mR_step 59 mR_in 3 62 := ⟨75, ⟨by decide +kernel, rfl⟩, Or.inl (pd_m 827 (by decide +kernel) (by decide +kernel)), (pd_m 828 (by decide +kernel) (by decide +kernel)), kR_in⟩
theorem eR_step_62 : pd_b1 mR_step 62 .eq 65 167 := ⟨105, ⟨by decide +kernel, rfl⟩, by decide⟩
theorem eR_step_65 : pd_al mR_step 65 0 66 := Or.inl ⟨0, rfl, by decide +kernel, rfl⟩
theorem eR_step_66 : pd_kv mR_step 66 mR_here 0 69 := ⟨86, ⟨by decide +kernel, rfl⟩, (pd_m 846 (by decide +kernel) (by decide +kernel)), (pd_m 848 (by decide +kernel) (by decide +kernel)), (pd_m 26 (by decide +kernel) (by decide +kernel)), kR_here⟩
theorem eR_step_69 : pd_ic mR_step 69 48 71 := Or.inr (Or.inl ⟨⟨by decide +kernel, rfl⟩, by decide⟩)
theorem eR_step_71 : pd_ic mR_step 71 57 73 := Or.inr (Or.inl ⟨⟨by decide +kernel, rfl⟩, by decide⟩)
theorem eR_step_73 : pd_ks mR_step 73 mR_in 3 76 := ⟨75, ⟨by decide +kernel, rfl⟩, Or.inl (pd_m 827 (by decide +kernel) (by decide +kernel)), (pd_m 828 (by decide +kernel) (by decide +kernel)), kR_in⟩
theorem eR_step_76 : pd_b1 mR_step 76 .eq 79 127 := ⟨51, ⟨by decide +kernel, rfl⟩, by decide⟩
theorem eR_step_79 : pd_al mR_step 79 0 80 := Or.inl ⟨0, rfl, by decide +kernel, rfl⟩
theorem eR_step_80 : pd_al mR_step 80 0 81 := Or.inl ⟨0, rfl, by decide +kernel, rfl⟩
theorem eR_step_81 : pd_gf mR_step 81 12 13 84 := ⟨93, _, ⟨by decide +kernel, rfl⟩, fR_93_12⟩
theorem eR_step_84 : pd_ic mR_step 84 99 86 := Or.inr (Or.inl ⟨⟨by decide +kernel, rfl⟩, by decide⟩)
theorem eR_step_86 : pd_b2 mR_step 86 .le 89 96 := ⟨10, ⟨by decide +kernel, rfl⟩, by decide⟩
theorem eR_step_89 : pd_al mR_step 89 0 90 := Or.inl ⟨0, rfl, by decide +kernel, rfl⟩
theorem eR_step_90 : pd_gf mR_step 90 12 13 93 := ⟨93, _, ⟨by decide +kernel, rfl⟩, fR_93_12⟩
theorem eR_step_93 : pd_go mR_step 93 111 := ⟨18, by decide +kernel, by decide⟩
theorem eR_step_96 : pd_ic mR_step 96 10 98 := Or.inr (Or.inl ⟨⟨by decide +kernel, rfl⟩, by decide⟩)
theorem eR_step_98 : pd_al mR_step 98 0 99 := Or.inl ⟨0, rfl, by decide +kernel, rfl⟩
theorem eR_step_99 : pd_gf mR_step 99 12 13 102 := ⟨93, _, ⟨by decide +kernel, rfl⟩, fR_93_12⟩
theorem eR_step_102 : pd_i mR_step 102 (.imul) 1 103 := ⟨by decide +kernel, rfl⟩
theorem eR_step_103 : pd_al mR_step 103 0 104 := Or.inl ⟨0, rfl, by decide +kernel, rfl⟩
theorem eR_step_104 : pd_kv mR_step 104 mR_here 0 107 := ⟨86, ⟨by decide +kernel, rfl⟩, (pd_m 846 (by decide +kernel) (by decide +kernel)), (pd_m 848 (by decide +kernel) (by decide +kernel)), (pd_m 26 (by decide +kernel) (by decide +kernel)), kR_here⟩
theorem eR_step_107 : pd_i mR_step 107 (.iadd) 1 108 := ⟨by decide +kernel, rfl⟩
theorem eR_step_108 : pd_ic mR_step 108 48 110 := Or.inr (Or.inl ⟨⟨by decide +kernel, rfl⟩, by decide⟩)
theorem eR_step_110 : pd_i mR_step 110 (.isub) 1 111 := ⟨by decide +kernel, rfl⟩
theorem eR_step_111 : pd_pf mR_step 111 12 13 .int 114 := ⟨93, ⟨by decide +kernel, rfl⟩, fR_93_12, Or.inl ⟨_, rfl⟩⟩
theorem eR_step_114 : pd_al mR_step 114 0 115 := Or.inl ⟨0, rfl, by decide +kernel, rfl⟩
theorem eR_step_115 : pd_i mR_step 115 (.dup) 1 116 := ⟨by decide +kernel, rfl⟩
theorem eR_step_116 : pd_gf mR_step 116 12 10 119 := ⟨83, _, ⟨by decide +kernel, rfl⟩, fR_83_12⟩
theorem eR_step_119 : pd_ic mR_step 119 1 120 := Or.inl ⟨by decide +kernel, rfl⟩
theorem eR_step_120 : pd_i mR_step 120 (.iadd) 1 121 := ⟨by decide +kernel, rfl⟩
theorem eR_step_121 : pd_pf mR_step 121 12 10 .int 124 := ⟨83, ⟨by decide +kernel, rfl⟩, fR_83_12, Or.inl ⟨_, rfl⟩⟩
theorem eR_step_124 : pd_go mR_step 124 65 := ⟨-59, by decide +kernel, by decide⟩
theorem eR_step_127 : pd_al mR_step 127 0 128 := Or.inl ⟨0, rfl, by decide +kernel, rfl⟩
theorem eR_step_128 : pd_al mR_step 128 0 129 := Or.inl ⟨0, rfl, by decide +kernel, rfl⟩
theorem eR_step_129 : pd_gf mR_step 129 12 13 132 := ⟨93, _, ⟨by decide +kernel, rfl⟩, fR_93_12⟩
theorem eR_step_132 : pd_ic mR_step 132 99 134 := Or.inr (Or.inl ⟨⟨by decide +kernel, rfl⟩, by decide⟩)
theorem eR_step_134 : pd_b2 mR_step 134 .gt 137 156 := ⟨22, ⟨by decide +kernel, rfl⟩, by decide⟩
theorem eR_step_137 : pd_il mR_step 137 1 138 := Or.inl ⟨1, rfl, by decide +kernel, rfl⟩
theorem eR_step_138 : pd_ic mR_step 138 48 140 := Or.inr (Or.inl ⟨⟨by decide +kernel, rfl⟩, by decide⟩)
theorem eR_step_140 : pd_b2 mR_step 140 .ne 143 160 := ⟨20, ⟨by decide +kernel, rfl⟩, by decide⟩
theorem eR_step_143 : pd_al mR_step 143 0 144 := Or.inl ⟨0, rfl, by decide +kernel, rfl⟩
theorem eR_step_144 : pd_gf mR_step 144 12 10 147 := ⟨83, _, ⟨by decide +kernel, rfl⟩, fR_83_12⟩
theorem eR_step_147 : pd_al mR_step 147 0 148 := Or.inl ⟨0, rfl, by decide +kernel, rfl⟩
theorem eR_step_148 : pd_gf mR_step 148 12 11 151 := ⟨90, _, ⟨by decide +kernel, rfl⟩, fR_90_12⟩
theorem eR_step_151 : pd_i mR_step 151 (.isub) 1 152 := ⟨by decide +kernel, rfl⟩
theorem eR_step_152 : pd_ic mR_step 152 1 153 := Or.inl ⟨by decide +kernel, rfl⟩
theorem eR_step_153 : pd_b2 mR_step 153 .le 156 160 := ⟨7, ⟨by decide +kernel, rfl⟩, by decide⟩
theorem eR_step_156 : pd_ic mR_step 156 5 157 := Or.inl ⟨by decide +kernel, rfl⟩
theorem eR_step_157 : pd_go mR_step 157 161 := ⟨4, by decide +kernel, by decide⟩
theorem eR_step_160 : pd_ic mR_step 160 2 161 := Or.inl ⟨by decide +kernel, rfl⟩
theorem eR_step_161 : pd_pf mR_step 161 12 12 .int 164 := ⟨96, ⟨by decide +kernel, rfl⟩, fR_96_12, Or.inl ⟨_, rfl⟩⟩
theorem eR_step_164 : pd_go mR_step 164 260 := ⟨96, by decide +kernel, by decide⟩
theorem eR_step_167 : pd_il mR_step 167 1 168 := Or.inl ⟨1, rfl, by decide +kernel, rfl⟩
theorem eR_step_168 : pd_ic mR_step 168 97 170 := Or.inr (Or.inl ⟨⟨by decide +kernel, rfl⟩, by decide⟩)
theorem eR_step_170 : pd_ic mR_step 170 122 172 := Or.inr (Or.inl ⟨⟨by decide +kernel, rfl⟩, by decide⟩)
theorem eR_step_172 : pd_ks mR_step 172 mR_in 3 175 := ⟨75, ⟨by decide +kernel, rfl⟩, Or.inl (pd_m 827 (by decide +kernel) (by decide +kernel)), (pd_m 828 (by decide +kernel) (by decide +kernel)), kR_in⟩
theorem eR_step_175 : pd_b1 mR_step 175 .eq 178 235 := ⟨60, ⟨by decide +kernel, rfl⟩, by decide⟩
theorem eR_step_178 : pd_al mR_step 178 0 179 := Or.inl ⟨0, rfl, by decide +kernel, rfl⟩
theorem eR_step_179 : pd_kv mR_step 179 mR_here 0 182 := ⟨86, ⟨by decide +kernel, rfl⟩, (pd_m 846 (by decide +kernel) (by decide +kernel)), (pd_m 848 (by decide +kernel) (by decide +kernel)), (pd_m 26 (by decide +kernel) (by decide +kernel)), kR_here⟩
theorem eR_step_182 : pd_ic mR_step 182 97 184 := Or.inr (Or.inl ⟨⟨by decide +kernel, rfl⟩, by decide⟩)
theorem eR_step_184 : pd_ic mR_step 184 122 186 := Or.inr (Or.inl ⟨⟨by decide +kernel, rfl⟩, by decide⟩)
theorem eR_step_186 : pd_ks mR_step 186 mR_in 3 189 := ⟨75, ⟨by decide +kernel, rfl⟩, Or.inl (pd_m 827 (by decide +kernel) (by decide +kernel)), (pd_m 828 (by decide +kernel) (by decide +kernel)), kR_in⟩
theorem eR_step_189 : pd_b1 mR_step 189 .eq 192 205 := ⟨16, ⟨by decide +kernel, rfl⟩, by decide⟩
theorem eR_step_192 : pd_al mR_step 192 0 193 := Or.inl ⟨0, rfl, by decide +kernel, rfl⟩
theorem eR_step_193 : pd_i mR_step 193 (.dup) 1 194 := ⟨by decide +kernel, rfl⟩
theorem eR_step_194 : pd_gf mR_step 194 12 10 197 := ⟨83, _, ⟨by decide +kernel, rfl⟩, fR_83_12⟩
theorem eR_step_197 : pd_ic mR_step 197 1 198 := Or.inl ⟨by decide +kernel, rfl⟩
theorem eR_step_198 : pd_i mR_step 198 (.iadd) 1 199 := ⟨by decide +kernel, rfl⟩
theorem eR_step_199 : pd_pf mR_step 199 12 10 .int 202 := ⟨83, ⟨by decide +kernel, rfl⟩, fR_83_12, Or.inl ⟨_, rfl⟩⟩
theorem eR_step_202 : pd_go mR_step 202 178 := ⟨-24, by decide +kernel, by decide⟩
theorem eR_step_205 : pd_al mR_step 205 0 206 := Or.inl ⟨0, rfl, by decide +kernel, rfl⟩
theorem eR_step_206 : pd_al mR_step 206 0 207 := Or.inl ⟨0, rfl, by decide +kernel, rfl⟩
theorem eR_step_207 : pd_gf mR_step 207 12 10 210 := ⟨83, _, ⟨by decide +kernel, rfl⟩, fR_83_12⟩
theorem eR_step_210 : pd_al mR_step 210 0 211 := Or.inl ⟨0, rfl, by decide +kernel, rfl⟩
theorem eR_step_211 : pd_gf mR_step 211 12 11 214 := ⟨90, _, ⟨by decide +kernel, rfl⟩, fR_90_12⟩
theorem eR_step_214 : pd_i mR_step 214 (.isub) 1 215 := ⟨by decide +kernel, rfl⟩
theorem eR_step_215 : pd_ic mR_step 215 1 216 := Or.inl ⟨by decide +kernel, rfl⟩
theorem eR_step_216 : pd_b2 mR_step 216 .ne 219 223 := ⟨7, ⟨by decide +kernel, rfl⟩, by decide⟩
theorem eR_step_219 : pd_il mR_step 219 1 220 := Or.inl ⟨1, rfl, by decide +kernel, rfl⟩
theorem eR_step_220 : pd_go mR_step 220 224 := ⟨4, by decide +kernel, by decide⟩
theorem eR_step_223 : pd_ic mR_step 223 0 224 := Or.inl ⟨by decide +kernel, rfl⟩
theorem eR_step_224 : pd_pf mR_step 224 12 13 .int 227 := ⟨93, ⟨by decide +kernel, rfl⟩, fR_93_12, Or.inl ⟨_, rfl⟩⟩
theorem eR_step_227 : pd_al mR_step 227 0 228 := Or.inl ⟨0, rfl, by decide +kernel, rfl⟩
theorem eR_step_228 : pd_ic mR_step 228 1 229 := Or.inl ⟨by decide +kernel, rfl⟩
theorem eR_step_229 : pd_pf mR_step 229 12 12 .int 232 := ⟨96, ⟨by decide +kernel, rfl⟩, fR_96_12, Or.inl ⟨_, rfl⟩⟩
theorem eR_step_232 : pd_go mR_step 232 260 := ⟨28, by decide +kernel, by decide⟩
theorem eR_step_235 : pd_al mR_step 235 0 236 := Or.inl ⟨0, rfl, by decide +kernel, rfl⟩
theorem eR_step_236 : pd_i mR_step 236 (.dup) 1 237 := ⟨by decide +kernel, rfl⟩
theorem eR_step_237 : pd_gf mR_step 237 12 10 240 := ⟨83, _, ⟨by decide +kernel, rfl⟩, fR_83_12⟩
theorem eR_step_240 : pd_ic mR_step 240 1 241 := Or.inl ⟨by decide +kernel, rfl⟩
theorem eR_step_241 : pd_i mR_step 241 (.iadd) 1 242 := ⟨by decide +kernel, rfl⟩
theorem eR_step_242 : pd_pf mR_step 242 12 10 .int 245 := ⟨83, ⟨by decide +kernel, rfl⟩, fR_83_12, Or.inl ⟨_, rfl⟩⟩
theorem eR_step_245 : pd_al mR_step 245 0 246 := Or.inl ⟨0, rfl, by decide +kernel, rfl⟩
theorem eR_step_246 : pd_il mR_step 246 1 247 := Or.inl ⟨1, rfl, by decide +kernel, rfl⟩
theorem eR_step_247 : pd_ic mR_step 247 59 249 := Or.inr (Or.inl ⟨⟨by decide +kernel, rfl⟩, by decide⟩)
theorem eR_step_249 : pd_b2 mR_step 249 .ne 252 256 := ⟨7, ⟨by decide +kernel, rfl⟩, by decide⟩
theorem eR_step_252 : pd_ic mR_step 252 3 253 := Or.inl ⟨by decide +kernel, rfl⟩
theorem eR_step_253 : pd_go mR_step 253 257 := ⟨4, by decide +kernel, by decide⟩
theorem eR_step_256 : pd_ic mR_step 256 5 257 := Or.inl ⟨by decide +kernel, rfl⟩
theorem eR_step_257 : pd_pf mR_step 257 12 12 .int 260 := ⟨96, ⟨by decide +kernel, rfl⟩, fR_96_12, Or.inl ⟨_, rfl⟩⟩
theorem eR_step_260 : pd_rd mR_step 260 none := (by decide +kernel : decode mR_step.2.1 260 = .ok (.return_, 1))
theorem eR_due_0 : pd_al mR_due 0 0 1 := Or.inl ⟨0, rfl, by decide +kernel, rfl⟩
theorem eR_due_1 : pd_gf mR_due 1 12 14 4 := ⟨99, _, ⟨by decide +kernel, rfl⟩, fR_99_12⟩
theorem eR_due_4 : pd_b1 mR_due 4 .eq 7 8 := ⟨4, ⟨by decide +kernel, rfl⟩, by decide⟩
theorem eR_due_7 : pd_rd mR_due 7 none := (by decide +kernel : decode mR_due.2.1 7 = .ok (.return_, 1))
theorem eR_due_8 : pd_il mR_due 8 1 9 := Or.inl ⟨1, rfl, by decide +kernel, rfl⟩
theorem eR_due_9 : pd_b1 mR_due 9 .eq 12 19 := ⟨10, ⟨by decide +kernel, rfl⟩, by decide⟩
theorem eR_due_12 : pd_al mR_due 12 0 13 := Or.inl ⟨0, rfl, by decide +kernel, rfl⟩
theorem eR_due_13 : pd_kv mR_due 13 mR_step 0 16 := ⟨103, ⟨by decide +kernel, rfl⟩, (pd_m 842 (by decide +kernel) (by decide +kernel)), (pd_m 844 (by decide +kernel) (by decide +kernel)), (pd_m 25 (by decide +kernel) (by decide +kernel)), kR_step⟩
theorem eR_due_16 : pd_go mR_due 16 24 := ⟨8, by decide +kernel, by decide⟩
theorem eR_due_19 : pd_al mR_due 19 0 20 := Or.inl ⟨0, rfl, by decide +kernel, rfl⟩
theorem eR_due_20 : pd_ic mR_due 20 1 21 := Or.inl ⟨by decide +kernel, rfl⟩
theorem eR_due_21 : pd_pf mR_due 21 12 14 .boolean 24 := ⟨99, ⟨by decide +kernel, rfl⟩, fR_99_12, Or.inl ⟨_, rfl⟩⟩
theorem eR_due_24 : pd_rd mR_due 24 none := (by decide +kernel : decode mR_due.2.1 24 = .ok (.return_, 1))
theorem eR_number_0 : pd_al mR_number 0 0 1 := Or.inl ⟨0, rfl, by decide +kernel, rfl⟩
theorem eR_number_1 : pd_gf mR_number 1 12 13 4 := ⟨93, _, ⟨by decide +kernel, rfl⟩, fR_93_12⟩
theorem eR_number_4 : pd_is mR_number 4 3 5 := ⟨by decide, Or.inl ⟨3, rfl, by decide +kernel, rfl⟩⟩
theorem eR_number_5 : pd_al mR_number 5 0 6 := Or.inl ⟨0, rfl, by decide +kernel, rfl⟩
theorem eR_number_6 : pd_al mR_number 6 0 7 := Or.inl ⟨0, rfl, by decide +kernel, rfl⟩
theorem eR_number_7 : pd_gf mR_number 7 12 12 10 := ⟨96, _, ⟨by decide +kernel, rfl⟩, fR_96_12⟩
theorem eR_number_10 : pd_ic mR_number 10 2 11 := Or.inl ⟨by decide +kernel, rfl⟩
theorem eR_number_11 : pd_b2 mR_number 11 .ne 14 27 := ⟨16, ⟨by decide +kernel, rfl⟩, by decide⟩
theorem eR_number_14 : pd_il mR_number 14 3 15 := Or.inl ⟨3, rfl, by decide +kernel, rfl⟩
theorem eR_number_15 : pd_il mR_number 15 1 16 := Or.inl ⟨1, rfl, by decide +kernel, rfl⟩
theorem eR_number_16 : pd_il mR_number 16 2 17 := Or.inl ⟨2, rfl, by decide +kernel, rfl⟩
theorem eR_number_17 : pd_ks mR_number 17 mR_in 3 20 := ⟨75, ⟨by decide +kernel, rfl⟩, Or.inl (pd_m 827 (by decide +kernel) (by decide +kernel)), (pd_m 828 (by decide +kernel) (by decide +kernel)), kR_in⟩
theorem eR_number_20 : pd_b1 mR_number 20 .eq 23 27 := ⟨7, ⟨by decide +kernel, rfl⟩, by decide⟩
theorem eR_number_23 : pd_ic mR_number 23 1 24 := Or.inl ⟨by decide +kernel, rfl⟩
theorem eR_number_24 : pd_go mR_number 24 28 := ⟨4, by decide +kernel, by decide⟩
theorem eR_number_27 : pd_ic mR_number 27 0 28 := Or.inl ⟨by decide +kernel, rfl⟩
theorem eR_number_28 : pd_kv mR_number 28 mR_due 1 31 := ⟨106, ⟨by decide +kernel, rfl⟩, (pd_m 854 (by decide +kernel) (by decide +kernel)), (pd_m 856 (by decide +kernel) (by decide +kernel)), (pd_m 28 (by decide +kernel) (by decide +kernel)), kR_due⟩
theorem eR_number_31 : pd_il mR_number 31 3 32 := Or.inl ⟨3, rfl, by decide +kernel, rfl⟩
theorem eR_number_32 {z : Int} : pd_rd mR_number 32 (some (vi z)) := (by decide +kernel : decode mR_number.2.1 32 = .ok (.ireturn, 1))
theorem eR_readGood_0 : pd_ic mR_readGood 0 4 1 := Or.inl ⟨by decide +kernel, rfl⟩
theorem eR_readGood_1 : pd_al mR_readGood 1 0 2 := Or.inl ⟨0, rfl, by decide +kernel, rfl⟩
theorem eR_readGood_2 : pd_gf mR_readGood 2 12 3 5 := ⟨17, _, ⟨by decide +kernel, rfl⟩, fR_17_12⟩
theorem eR_readGood_5 : pd_ic mR_readGood 5 1 6 := Or.inl ⟨by decide +kernel, rfl⟩
theorem eR_readGood_6 : pd_i mR_readGood 6 (.iaload) 1 7 := ⟨by decide +kernel, rfl⟩
theorem eR_readGood_7 : pd_i mR_readGood 7 (.iadd) 1 8 := ⟨by decide +kernel, rfl⟩
theorem eR_readGood_8 : pd_is mR_readGood 8 1 9 := ⟨by decide, Or.inl ⟨1, rfl, by decide +kernel, rfl⟩⟩
theorem eR_readGood_9 : pd_al mR_readGood 9 0 10 := Or.inl ⟨0, rfl, by decide +kernel, rfl⟩
theorem eR_readGood_10 : pd_gf mR_readGood 10 12 4 13 := ⟨20, _, ⟨by decide +kernel, rfl⟩, fR_20_12⟩
theorem eR_readGood_13 : pd_il mR_readGood 13 1 14 := Or.inl ⟨1, rfl, by decide +kernel, rfl⟩
theorem eR_readGood_14 : pd_al mR_readGood 14 0 15 := Or.inl ⟨0, rfl, by decide +kernel, rfl⟩
theorem eR_readGood_15 : pd_ic mR_readGood 15 0 16 := Or.inl ⟨by decide +kernel, rfl⟩
theorem eR_readGood_16 : pd_ic mR_readGood 16 60 18 := Or.inr (Or.inl ⟨⟨by decide +kernel, rfl⟩, by decide⟩)
theorem eR_readGood_18 : pd_kv mR_readGood 18 mR_number 2 21 := ⟨110, ⟨by decide +kernel, rfl⟩, (pd_m 866 (by decide +kernel) (by decide +kernel)), (pd_m 868 (by decide +kernel) (by decide +kernel)), (pd_m 31 (by decide +kernel) (by decide +kernel)), kR_number⟩
theorem eR_readGood_21 : pd_i mR_readGood 21 (.iastore) 1 22 := ⟨by decide +kernel, rfl⟩
theorem eR_readGood_22 : pd_al mR_readGood 22 0 23 := Or.inl ⟨0, rfl, by decide +kernel, rfl⟩
theorem eR_readGood_23 : pd_gf mR_readGood 23 12 5 26 := ⟨23, _, ⟨by decide +kernel, rfl⟩, fR_23_12⟩
theorem eR_readGood_26 : pd_il mR_readGood 26 1 27 := Or.inl ⟨1, rfl, by decide +kernel, rfl⟩
theorem eR_readGood_27 : pd_al mR_readGood 27 0 28 := Or.inl ⟨0, rfl, by decide +kernel, rfl⟩
theorem eR_readGood_28 : pd_ic mR_readGood 28 0 29 := Or.inl ⟨by decide +kernel, rfl⟩
theorem eR_readGood_29 : pd_ic mR_readGood 29 9 31 := Or.inr (Or.inl ⟨⟨by decide +kernel, rfl⟩, by decide⟩)
theorem eR_readGood_31 : pd_kv mR_readGood 31 mR_number 2 34 := ⟨110, ⟨by decide +kernel, rfl⟩, (pd_m 866 (by decide +kernel) (by decide +kernel)), (pd_m 868 (by decide +kernel) (by decide +kernel)), (pd_m 31 (by decide +kernel) (by decide +kernel)), kR_number⟩
theorem eR_readGood_34 : pd_i mR_readGood 34 (.iastore) 1 35 := ⟨by decide +kernel, rfl⟩
theorem eR_readGood_35 : pd_al mR_readGood 35 0 36 := Or.inl ⟨0, rfl, by decide +kernel, rfl⟩
theorem eR_readGood_36 : pd_gf mR_readGood 36 12 6 39 := ⟨26, _, ⟨by decide +kernel, rfl⟩, fR_26_12⟩
theorem eR_readGood_39 : pd_il mR_readGood 39 1 40 := Or.inl ⟨1, rfl, by decide +kernel, rfl⟩
theorem eR_readGood_40 : pd_al mR_readGood 40 0 41 := Or.inl ⟨0, rfl, by decide +kernel, rfl⟩
theorem eR_readGood_41 : pd_ic mR_readGood 41 1 42 := Or.inl ⟨by decide +kernel, rfl⟩
theorem eR_readGood_42 : pd_ic mR_readGood 42 9 44 := Or.inr (Or.inl ⟨⟨by decide +kernel, rfl⟩, by decide⟩)
theorem eR_readGood_44 : pd_kv mR_readGood 44 mR_number 2 47 := ⟨110, ⟨by decide +kernel, rfl⟩, (pd_m 866 (by decide +kernel) (by decide +kernel)), (pd_m 868 (by decide +kernel) (by decide +kernel)), (pd_m 31 (by decide +kernel) (by decide +kernel)), kR_number⟩
theorem eR_readGood_47 : pd_i mR_readGood 47 (.iastore) 1 48 := ⟨by decide +kernel, rfl⟩
theorem eR_readGood_48 : pd_al mR_readGood 48 0 49 := Or.inl ⟨0, rfl, by decide +kernel, rfl⟩
theorem eR_readGood_49 : pd_gf mR_readGood 49 12 7 52 := ⟨29, _, ⟨by decide +kernel, rfl⟩, fR_29_12⟩
theorem eR_readGood_52 : pd_il mR_readGood 52 1 53 := Or.inl ⟨1, rfl, by decide +kernel, rfl⟩
theorem eR_readGood_53 : pd_al mR_readGood 53 0 54 := Or.inl ⟨0, rfl, by decide +kernel, rfl⟩
theorem eR_readGood_54 : pd_ic mR_readGood 54 0 55 := Or.inl ⟨by decide +kernel, rfl⟩
theorem eR_readGood_55 : pd_ic mR_readGood 55 9 57 := Or.inr (Or.inl ⟨⟨by decide +kernel, rfl⟩, by decide⟩)
theorem eR_readGood_57 : pd_kv mR_readGood 57 mR_number 2 60 := ⟨110, ⟨by decide +kernel, rfl⟩, (pd_m 866 (by decide +kernel) (by decide +kernel)), (pd_m 868 (by decide +kernel) (by decide +kernel)), (pd_m 31 (by decide +kernel) (by decide +kernel)), kR_number⟩
theorem eR_readGood_60 : pd_i mR_readGood 60 (.iastore) 1 61 := ⟨by decide +kernel, rfl⟩
theorem eR_readGood_61 : pd_al mR_readGood 61 0 62 := Or.inl ⟨0, rfl, by decide +kernel, rfl⟩
theorem eR_readGood_62 : pd_gf mR_readGood 62 12 3 65 := ⟨17, _, ⟨by decide +kernel, rfl⟩, fR_17_12⟩
theorem eR_readGood_65 : pd_ic mR_readGood 65 1 66 := Or.inl ⟨by decide +kernel, rfl⟩
theorem eR_readGood_66 : pd_i mR_readGood 66 (.dup2) 1 67 := ⟨by decide +kernel, rfl⟩
theorem eR_readGood_67 : pd_i mR_readGood 67 (.iaload) 1 68 := ⟨by decide +kernel, rfl⟩
theorem eR_readGood_68 : pd_ic mR_readGood 68 1 69 := Or.inl ⟨by decide +kernel, rfl⟩
theorem eR_readGood_69 : pd_i mR_readGood 69 (.iadd) 1 70 := ⟨by decide +kernel, rfl⟩
theorem eR_readGood_70 : pd_i mR_readGood 70 (.iastore) 1 71 := ⟨by decide +kernel, rfl⟩
theorem eR_readGood_71 : pd_rd mR_readGood 71 none := (by decide +kernel : decode mR_readGood.2.1 71 = .ok (.return_, 1))
theorem eR_readOf_0 : pd_al mR_readOf 0 0 1 := Or.inl ⟨0, rfl, by decide +kernel, rfl⟩
theorem eR_readOf_1 : pd_ic mR_readOf 1 0 2 := Or.inl ⟨by decide +kernel, rfl⟩
theorem eR_readOf_2 : pd_ic mR_readOf 2 19 4 := Or.inr (Or.inl ⟨⟨by decide +kernel, rfl⟩, by decide⟩)
theorem eR_readOf_4 : pd_kv mR_readOf 4 mR_number 2 7 := ⟨110, ⟨by decide +kernel, rfl⟩, (pd_m 866 (by decide +kernel) (by decide +kernel)), (pd_m 868 (by decide +kernel) (by decide +kernel)), (pd_m 31 (by decide +kernel) (by decide +kernel)), kR_number⟩
theorem eR_readOf_7 : pd_is mR_readOf 7 2 8 := ⟨by decide, Or.inl ⟨2, rfl, by decide +kernel, rfl⟩⟩
theorem eR_readOf_8 : pd_al mR_readOf 8 0 9 := Or.inl ⟨0, rfl, by decide +kernel, rfl⟩
theorem eR_readOf_9 : pd_ic mR_readOf 9 0 10 := Or.inl ⟨by decide +kernel, rfl⟩
theorem eR_readOf_10 : pd_al mR_readOf 10 0 11 := Or.inl ⟨0, rfl, by decide +kernel, rfl⟩
theorem eR_readOf_11 : pd_gf mR_readOf 11 12 3 14 := ⟨17, _, ⟨by decide +kernel, rfl⟩, fR_17_12⟩
theorem eR_readOf_14 : pd_ic mR_readOf 14 1 15 := Or.inl ⟨by decide +kernel, rfl⟩
theorem eR_readOf_15 : pd_i mR_readOf 15 (.iaload) 1 16 := ⟨by decide +kernel, rfl⟩
theorem eR_readOf_16 : pd_ic mR_readOf 16 1 17 := Or.inl ⟨by decide +kernel, rfl⟩
theorem eR_readOf_17 : pd_i mR_readOf 17 (.isub) 1 18 := ⟨by decide +kernel, rfl⟩
theorem eR_readOf_18 : pd_kv mR_readOf 18 mR_number 2 21 := ⟨110, ⟨by decide +kernel, rfl⟩, (pd_m 866 (by decide +kernel) (by decide +kernel)), (pd_m 868 (by decide +kernel) (by decide +kernel)), (pd_m 31 (by decide +kernel) (by decide +kernel)), kR_number⟩
theorem eR_readOf_21 : pd_is mR_readOf 21 3 22 := ⟨by decide, Or.inl ⟨3, rfl, by decide +kernel, rfl⟩⟩
theorem eR_readOf_22 : pd_al mR_readOf 22 0 23 := Or.inl ⟨0, rfl, by decide +kernel, rfl⟩
theorem eR_readOf_23 : pd_ic mR_readOf 23 0 24 := Or.inl ⟨by decide +kernel, rfl⟩
theorem eR_readOf_24 : pd_ic mR_readOf 24 30 26 := Or.inr (Or.inl ⟨⟨by decide +kernel, rfl⟩, by decide⟩)
theorem eR_readOf_26 : pd_kv mR_readOf 26 mR_number 2 29 := ⟨110, ⟨by decide +kernel, rfl⟩, (pd_m 866 (by decide +kernel) (by decide +kernel)), (pd_m 868 (by decide +kernel) (by decide +kernel)), (pd_m 31 (by decide +kernel) (by decide +kernel)), kR_number⟩
theorem eR_readOf_29 : pd_is mR_readOf 29 4 31 := ⟨by decide, Or.inr ⟨by decide +kernel, rfl⟩⟩
theorem eR_readOf_31 : pd_al mR_readOf 31 0 32 := Or.inl ⟨0, rfl, by decide +kernel, rfl⟩
theorem eR_readOf_32 : pd_gf mR_readOf 32 12 14 35 := ⟨99, _, ⟨by decide +kernel, rfl⟩, fR_99_12⟩
theorem eR_readOf_35 : pd_b1 mR_readOf 35 .ne 38 50 := ⟨15, ⟨by decide +kernel, rfl⟩, by decide⟩
theorem eR_readOf_38 : pd_al mR_readOf 38 1 39 := Or.inl ⟨1, rfl, by decide +kernel, rfl⟩
theorem eR_readOf_39 : pd_ic mR_readOf 39 80 41 := Or.inr (Or.inl ⟨⟨by decide +kernel, rfl⟩, by decide⟩)
theorem eR_readOf_41 : pd_ic mR_readOf 41 4 42 := Or.inl ⟨by decide +kernel, rfl⟩
theorem eR_readOf_42 : pd_il mR_readOf 42 2 43 := Or.inl ⟨2, rfl, by decide +kernel, rfl⟩
theorem eR_readOf_43 : pd_i mR_readOf 43 (.imul) 1 44 := ⟨by decide +kernel, rfl⟩
theorem eR_readOf_44 : pd_i mR_readOf 44 (.iadd) 1 45 := ⟨by decide +kernel, rfl⟩
theorem eR_readOf_45 : pd_il mR_readOf 45 3 46 := Or.inl ⟨3, rfl, by decide +kernel, rfl⟩
theorem eR_readOf_46 : pd_i mR_readOf 46 (.iadd) 1 47 := ⟨by decide +kernel, rfl⟩
theorem eR_readOf_47 : pd_il mR_readOf 47 4 49 := Or.inr ⟨by decide +kernel, rfl⟩
theorem eR_readOf_49 : pd_i mR_readOf 49 (.iastore) 1 50 := ⟨by decide +kernel, rfl⟩
theorem eR_readOf_50 : pd_rd mR_readOf 50 none := (by decide +kernel : decode mR_readOf.2.1 50 = .ok (.return_, 1))
theorem eR_item_0 : pd_il mR_item 0 1 1 := Or.inl ⟨1, rfl, by decide +kernel, rfl⟩
theorem eR_item_1 : pd_i mR_item 1 (.lookupswitch 64 #[(98, 42), (103, 35), (109, 53)]) 35 36 := ⟨by decide +kernel, rfl⟩
theorem eR_item_36 : pd_al mR_item 36 0 37 := Or.inl ⟨0, rfl, by decide +kernel, rfl⟩
theorem eR_item_37 : pd_kv mR_item 37 mR_readGood 0 40 := ⟨114, ⟨by decide +kernel, rfl⟩, (pd_m 862 (by decide +kernel) (by decide +kernel)), (pd_m 864 (by decide +kernel) (by decide +kernel)), (pd_m 30 (by decide +kernel) (by decide +kernel)), kR_readGood⟩
theorem eR_item_40 : pd_go mR_item 40 96 := ⟨56, by decide +kernel, by decide⟩
theorem eR_item_43 : pd_al mR_item 43 0 44 := Or.inl ⟨0, rfl, by decide +kernel, rfl⟩
theorem eR_item_44 : pd_al mR_item 44 0 45 := Or.inl ⟨0, rfl, by decide +kernel, rfl⟩
theorem eR_item_45 : pd_gf mR_item 45 12 8 48 := ⟨32, _, ⟨by decide +kernel, rfl⟩, fR_32_12⟩
theorem eR_item_48 : pd_kv mR_item 48 mR_readOf 1 51 := ⟨117, ⟨by decide +kernel, rfl⟩, (pd_m 870 (by decide +kernel) (by decide +kernel)), (pd_m 872 (by decide +kernel) (by decide +kernel)), (pd_m 32 (by decide +kernel) (by decide +kernel)), kR_readOf⟩
theorem eR_item_51 : pd_go mR_item 51 96 := ⟨45, by decide +kernel, by decide⟩
theorem eR_item_54 : pd_al mR_item 54 0 55 := Or.inl ⟨0, rfl, by decide +kernel, rfl⟩
theorem eR_item_55 : pd_al mR_item 55 0 56 := Or.inl ⟨0, rfl, by decide +kernel, rfl⟩
theorem eR_item_56 : pd_gf mR_item 56 12 9 59 := ⟨35, _, ⟨by decide +kernel, rfl⟩, fR_35_12⟩
theorem eR_item_59 : pd_kv mR_item 59 mR_readOf 1 62 := ⟨117, ⟨by decide +kernel, rfl⟩, (pd_m 870 (by decide +kernel) (by decide +kernel)), (pd_m 872 (by decide +kernel) (by decide +kernel)), (pd_m 32 (by decide +kernel) (by decide +kernel)), kR_readOf⟩
theorem eR_item_62 : pd_go mR_item 62 96 := ⟨34, by decide +kernel, by decide⟩
theorem eR_item_65 : pd_al mR_item 65 0 66 := Or.inl ⟨0, rfl, by decide +kernel, rfl⟩
theorem eR_item_66 : pd_gf mR_item 66 12 2 69 := ⟨13, _, ⟨by decide +kernel, rfl⟩, fR_13_12⟩
theorem eR_item_69 : pd_ic mR_item 69 2 70 := Or.inl ⟨by decide +kernel, rfl⟩
theorem eR_item_70 : pd_al mR_item 70 0 71 := Or.inl ⟨0, rfl, by decide +kernel, rfl⟩
theorem eR_item_71 : pd_ic mR_item 71 1 72 := Or.inl ⟨by decide +kernel, rfl⟩
theorem eR_item_72 : pd_ic mR_item 72 9 74 := Or.inr (Or.inl ⟨⟨by decide +kernel, rfl⟩, by decide⟩)
theorem eR_item_74 : pd_kv mR_item 74 mR_number 2 77 := ⟨110, ⟨by decide +kernel, rfl⟩, (pd_m 866 (by decide +kernel) (by decide +kernel)), (pd_m 868 (by decide +kernel) (by decide +kernel)), (pd_m 31 (by decide +kernel) (by decide +kernel)), kR_number⟩
theorem eR_item_77 : pd_i mR_item 77 (.iastore) 1 78 := ⟨by decide +kernel, rfl⟩
theorem eR_item_78 : pd_al mR_item 78 0 79 := Or.inl ⟨0, rfl, by decide +kernel, rfl⟩
theorem eR_item_79 : pd_gf mR_item 79 12 2 82 := ⟨13, _, ⟨by decide +kernel, rfl⟩, fR_13_12⟩
theorem eR_item_82 : pd_ic mR_item 82 3 83 := Or.inl ⟨by decide +kernel, rfl⟩
theorem eR_item_83 : pd_al mR_item 83 0 84 := Or.inl ⟨0, rfl, by decide +kernel, rfl⟩
theorem eR_item_84 : pd_ic mR_item 84 1 85 := Or.inl ⟨by decide +kernel, rfl⟩
theorem eR_item_85 : pd_ic mR_item 85 9 87 := Or.inr (Or.inl ⟨⟨by decide +kernel, rfl⟩, by decide⟩)
theorem eR_item_87 : pd_kv mR_item 87 mR_number 2 90 := ⟨110, ⟨by decide +kernel, rfl⟩, (pd_m 866 (by decide +kernel) (by decide +kernel)), (pd_m 868 (by decide +kernel) (by decide +kernel)), (pd_m 31 (by decide +kernel) (by decide +kernel)), kR_number⟩
theorem eR_item_90 : pd_i mR_item 90 (.iastore) 1 91 := ⟨by decide +kernel, rfl⟩
theorem eR_item_91 : pd_al mR_item 91 0 92 := Or.inl ⟨0, rfl, by decide +kernel, rfl⟩
theorem eR_item_92 : pd_ic mR_item 92 1 93 := Or.inl ⟨by decide +kernel, rfl⟩
theorem eR_item_93 : pd_pf mR_item 93 12 16 .boolean 96 := ⟨121, ⟨by decide +kernel, rfl⟩, fR_121_12, Or.inl ⟨_, rfl⟩⟩
theorem eR_item_96 : pd_rd mR_item 96 none := (by decide +kernel : decode mR_item.2.1 96 = .ok (.return_, 1))
theorem eR_may_0 : pd_il mR_may 0 1 1 := Or.inl ⟨1, rfl, by decide +kernel, rfl⟩
theorem eR_may_1 : pd_i mR_may 1 (.lookupswitch 53 #[(98, 51), (103, 35), (109, 51)]) 35 36 := ⟨by decide +kernel, rfl⟩
theorem eR_may_36 : pd_al mR_may 36 0 37 := Or.inl ⟨0, rfl, by decide +kernel, rfl⟩
theorem eR_may_37 : pd_gf mR_may 37 12 3 40 := ⟨17, _, ⟨by decide +kernel, rfl⟩, fR_17_12⟩
theorem eR_may_40 : pd_ic mR_may 40 1 41 := Or.inl ⟨by decide +kernel, rfl⟩
theorem eR_may_41 : pd_i mR_may 41 (.iaload) 1 42 := ⟨by decide +kernel, rfl⟩
theorem eR_may_42 : pd_ic mR_may 42 4 43 := Or.inl ⟨by decide +kernel, rfl⟩
theorem eR_may_43 : pd_b2 mR_may 43 .ge 46 50 := ⟨7, ⟨by decide +kernel, rfl⟩, by decide⟩
theorem eR_may_46 : pd_ic mR_may 46 1 47 := Or.inl ⟨by decide +kernel, rfl⟩
theorem eR_may_47 : pd_go mR_may 47 51 := ⟨4, by decide +kernel, by decide⟩
theorem eR_may_50 : pd_ic mR_may 50 0 51 := Or.inl ⟨by decide +kernel, rfl⟩
theorem eR_may_51 {z : Int} (h : z = 0 ∨ z = 1) : pd_rd mR_may 51 (some (vi z)) := ⟨by decide +kernel, h⟩
theorem eR_may_52 : pd_ic mR_may 52 1 53 := Or.inl ⟨by decide +kernel, rfl⟩
theorem eR_may_53 {z : Int} (h : z = 0 ∨ z = 1) : pd_rd mR_may 53 (some (vi z)) := ⟨by decide +kernel, h⟩
theorem eR_may_54 : pd_il mR_may 54 1 55 := Or.inl ⟨1, rfl, by decide +kernel, rfl⟩
theorem eR_may_55 : pd_ic mR_may 55 100 57 := Or.inr (Or.inl ⟨⟨by decide +kernel, rfl⟩, by decide⟩)
theorem eR_may_57 : pd_b2 mR_may 57 .ne 60 71 := ⟨14, ⟨by decide +kernel, rfl⟩, by decide⟩
theorem eR_may_60 : pd_al mR_may 60 0 61 := Or.inl ⟨0, rfl, by decide +kernel, rfl⟩
theorem eR_may_61 : pd_gf mR_may 61 12 16 64 := ⟨121, _, ⟨by decide +kernel, rfl⟩, fR_121_12⟩
theorem eR_may_64 : pd_b1 mR_may 64 .ne 67 71 := ⟨7, ⟨by decide +kernel, rfl⟩, by decide⟩
theorem eR_may_67 : pd_ic mR_may 67 1 68 := Or.inl ⟨by decide +kernel, rfl⟩
theorem eR_may_68 : pd_go mR_may 68 72 := ⟨4, by decide +kernel, by decide⟩
theorem eR_may_71 : pd_ic mR_may 71 0 72 := Or.inl ⟨by decide +kernel, rfl⟩
theorem eR_may_72 {z : Int} (h : z = 0 ∨ z = 1) : pd_rd mR_may 72 (some (vi z)) := ⟨by decide +kernel, h⟩
theorem eR_read_0 : pd_al mR_read 0 0 1 := Or.inl ⟨0, rfl, by decide +kernel, rfl⟩
theorem eR_read_1 : pd_ic mR_read 1 0 2 := Or.inl ⟨by decide +kernel, rfl⟩
theorem eR_read_2 : pd_pf mR_read 2 12 10 .int 5 := ⟨83, ⟨by decide +kernel, rfl⟩, fR_83_12, Or.inl ⟨_, rfl⟩⟩
theorem eR_read_5 : pd_al mR_read 5 0 6 := Or.inl ⟨0, rfl, by decide +kernel, rfl⟩
theorem eR_read_6 : pd_ic mR_read 6 0 7 := Or.inl ⟨by decide +kernel, rfl⟩
theorem eR_read_7 : pd_pf mR_read 7 12 14 .boolean 10 := ⟨99, ⟨by decide +kernel, rfl⟩, fR_99_12, Or.inl ⟨_, rfl⟩⟩
theorem eR_read_10 : pd_al mR_read 10 0 11 := Or.inl ⟨0, rfl, by decide +kernel, rfl⟩
theorem eR_read_11 : pd_ic mR_read 11 0 12 := Or.inl ⟨by decide +kernel, rfl⟩
theorem eR_read_12 : pd_pf mR_read 12 12 15 .int 15 := ⟨124, ⟨by decide +kernel, rfl⟩, fR_124_12, Or.inl ⟨_, rfl⟩⟩
theorem eR_read_15 : pd_al mR_read 15 0 16 := Or.inl ⟨0, rfl, by decide +kernel, rfl⟩
theorem eR_read_16 : pd_ic mR_read 16 0 17 := Or.inl ⟨by decide +kernel, rfl⟩
theorem eR_read_17 : pd_pf mR_read 17 12 16 .boolean 20 := ⟨121, ⟨by decide +kernel, rfl⟩, fR_121_12, Or.inl ⟨_, rfl⟩⟩
theorem eR_read_20 : pd_al mR_read 20 0 21 := Or.inl ⟨0, rfl, by decide +kernel, rfl⟩
theorem eR_read_21 : pd_gf mR_read 21 12 3 24 := ⟨17, _, ⟨by decide +kernel, rfl⟩, fR_17_12⟩
theorem eR_read_24 : pd_ic mR_read 24 1 25 := Or.inl ⟨by decide +kernel, rfl⟩
theorem eR_read_25 : pd_ic mR_read 25 0 26 := Or.inl ⟨by decide +kernel, rfl⟩
theorem eR_read_26 : pd_i mR_read 26 (.iastore) 1 27 := ⟨by decide +kernel, rfl⟩
theorem eR_read_27 : pd_al mR_read 27 0 28 := Or.inl ⟨0, rfl, by decide +kernel, rfl⟩
theorem eR_read_28 : pd_gf mR_read 28 12 2 31 := ⟨13, _, ⟨by decide +kernel, rfl⟩, fR_13_12⟩
theorem eR_read_31 : pd_ic mR_read 31 2 32 := Or.inl ⟨by decide +kernel, rfl⟩
theorem eR_read_32 : pd_ic mR_read 32 2 33 := Or.inl ⟨by decide +kernel, rfl⟩
theorem eR_read_33 : pd_i mR_read 33 (.iastore) 1 34 := ⟨by decide +kernel, rfl⟩
theorem eR_read_34 : pd_al mR_read 34 0 35 := Or.inl ⟨0, rfl, by decide +kernel, rfl⟩
theorem eR_read_35 : pd_gf mR_read 35 12 2 38 := ⟨13, _, ⟨by decide +kernel, rfl⟩, fR_13_12⟩
theorem eR_read_38 : pd_ic mR_read 38 3 39 := Or.inl ⟨by decide +kernel, rfl⟩
theorem eR_read_39 : pd_ic mR_read 39 3 40 := Or.inl ⟨by decide +kernel, rfl⟩
theorem eR_read_40 : pd_i mR_read 40 (.iastore) 1 41 := ⟨by decide +kernel, rfl⟩
theorem eR_read_41 : pd_ic mR_read 41 80 43 := Or.inr (Or.inl ⟨⟨by decide +kernel, rfl⟩, by decide⟩)
theorem eR_read_43 : pd_is mR_read 43 1 44 := ⟨by decide, Or.inl ⟨1, rfl, by decide +kernel, rfl⟩⟩
theorem eR_read_44 : pd_il mR_read 44 1 45 := Or.inl ⟨1, rfl, by decide +kernel, rfl⟩
theorem eR_read_45 : pd_ic mR_read 45 160 48 := Or.inr (Or.inr (Or.inl ⟨⟨by decide +kernel, rfl⟩, by decide⟩))
theorem eR_read_48 : pd_b2 mR_read 48 .ge 51 71 := ⟨23, ⟨by decide +kernel, rfl⟩, by decide⟩
theorem eR_read_51 : pd_al mR_read 51 0 52 := Or.inl ⟨0, rfl, by decide +kernel, rfl⟩
theorem eR_read_52 : pd_gf mR_read 52 12 8 55 := ⟨32, _, ⟨by decide +kernel, rfl⟩, fR_32_12⟩
theorem eR_read_55 : pd_il mR_read 55 1 56 := Or.inl ⟨1, rfl, by decide +kernel, rfl⟩
theorem eR_read_56 : pd_ic mR_read 56 0 57 := Or.inl ⟨by decide +kernel, rfl⟩
theorem eR_read_57 : pd_i mR_read 57 (.iastore) 1 58 := ⟨by decide +kernel, rfl⟩
theorem eR_read_58 : pd_al mR_read 58 0 59 := Or.inl ⟨0, rfl, by decide +kernel, rfl⟩
theorem eR_read_59 : pd_gf mR_read 59 12 9 62 := ⟨35, _, ⟨by decide +kernel, rfl⟩, fR_35_12⟩
theorem eR_read_62 : pd_il mR_read 62 1 63 := Or.inl ⟨1, rfl, by decide +kernel, rfl⟩
theorem eR_read_63 : pd_ic mR_read 63 0 64 := Or.inl ⟨by decide +kernel, rfl⟩
theorem eR_read_64 : pd_i mR_read 64 (.iastore) 1 65 := ⟨by decide +kernel, rfl⟩
theorem eR_read_65 : pd_ii mR_read 65 1 1 68 := ⟨by decide, by decide +kernel, rfl⟩
theorem eR_read_68 : pd_go mR_read 68 44 := ⟨-24, by decide +kernel, by decide⟩
theorem eR_read_71 : pd_al mR_read 71 0 72 := Or.inl ⟨0, rfl, by decide +kernel, rfl⟩
theorem eR_read_72 : pd_kv mR_read 72 mR_step 0 75 := ⟨103, ⟨by decide +kernel, rfl⟩, (pd_m 842 (by decide +kernel) (by decide +kernel)), (pd_m 844 (by decide +kernel) (by decide +kernel)), (pd_m 25 (by decide +kernel) (by decide +kernel)), kR_step⟩
theorem eR_read_75 : pd_al mR_read 75 0 76 := Or.inl ⟨0, rfl, by decide +kernel, rfl⟩
theorem eR_read_76 : pd_gf mR_read 76 12 12 79 := ⟨96, _, ⟨by decide +kernel, rfl⟩, fR_96_12⟩
theorem eR_read_79 : pd_ic mR_read 79 4 80 := Or.inl ⟨by decide +kernel, rfl⟩
theorem eR_read_80 : pd_b2 mR_read 80 .eq 83 174 := ⟨94, ⟨by decide +kernel, rfl⟩, by decide⟩
theorem eR_read_83 : pd_al mR_read 83 0 84 := Or.inl ⟨0, rfl, by decide +kernel, rfl⟩
theorem eR_read_84 : pd_gf mR_read 84 12 14 87 := ⟨99, _, ⟨by decide +kernel, rfl⟩, fR_99_12⟩
theorem eR_read_87 : pd_b1 mR_read 87 .ne 90 174 := ⟨87, ⟨by decide +kernel, rfl⟩, by decide⟩
theorem eR_read_90 : pd_al mR_read 90 0 91 := Or.inl ⟨0, rfl, by decide +kernel, rfl⟩
theorem eR_read_91 : pd_gf mR_read 91 12 12 94 := ⟨96, _, ⟨by decide +kernel, rfl⟩, fR_96_12⟩
theorem eR_read_94 : pd_ic mR_read 94 1 95 := Or.inl ⟨by decide +kernel, rfl⟩
theorem eR_read_95 : pd_b2 mR_read 95 .ne 98 105 := ⟨10, ⟨by decide +kernel, rfl⟩, by decide⟩
theorem eR_read_98 : pd_al mR_read 98 0 99 := Or.inl ⟨0, rfl, by decide +kernel, rfl⟩
theorem eR_read_99 : pd_gf mR_read 99 12 13 102 := ⟨93, _, ⟨by decide +kernel, rfl⟩, fR_93_12⟩
theorem eR_read_102 : pd_go mR_read 102 106 := ⟨4, by decide +kernel, by decide⟩
theorem eR_read_105 : pd_ic mR_read 105 0 106 := Or.inl ⟨by decide +kernel, rfl⟩
theorem eR_read_106 : pd_is mR_read 106 1 107 := ⟨by decide, Or.inl ⟨1, rfl, by decide +kernel, rfl⟩⟩
theorem eR_read_107 : pd_al mR_read 107 0 108 := Or.inl ⟨0, rfl, by decide +kernel, rfl⟩
theorem eR_read_108 : pd_al mR_read 108 0 109 := Or.inl ⟨0, rfl, by decide +kernel, rfl⟩
theorem eR_read_109 : pd_gf mR_read 109 12 12 112 := ⟨96, _, ⟨by decide +kernel, rfl⟩, fR_96_12⟩
theorem eR_read_112 : pd_ic mR_read 112 1 113 := Or.inl ⟨by decide +kernel, rfl⟩
theorem eR_read_113 : pd_b2 mR_read 113 .ne 116 128 := ⟨15, ⟨by decide +kernel, rfl⟩, by decide⟩
theorem eR_read_116 : pd_al mR_read 116 0 117 := Or.inl ⟨0, rfl, by decide +kernel, rfl⟩
theorem eR_read_117 : pd_il mR_read 117 1 118 := Or.inl ⟨1, rfl, by decide +kernel, rfl⟩
theorem eR_read_118 : pd_kv mR_read 118 mR_may 1 121 := ⟨127, ⟨by decide +kernel, rfl⟩, (pd_m 850 (by decide +kernel) (by decide +kernel)), (pd_m 852 (by decide +kernel) (by decide +kernel)), (pd_m 27 (by decide +kernel) (by decide +kernel)), kR_may⟩
theorem eR_read_121 : pd_b1 mR_read 121 .eq 124 128 := ⟨7, ⟨by decide +kernel, rfl⟩, by decide⟩
theorem eR_read_124 : pd_ic mR_read 124 1 125 := Or.inl ⟨by decide +kernel, rfl⟩
theorem eR_read_125 : pd_go mR_read 125 129 := ⟨4, by decide +kernel, by decide⟩
theorem eR_read_128 : pd_ic mR_read 128 0 129 := Or.inl ⟨by decide +kernel, rfl⟩
theorem eR_read_129 : pd_kv mR_read 129 mR_due 1 132 := ⟨106, ⟨by decide +kernel, rfl⟩, (pd_m 854 (by decide +kernel) (by decide +kernel)), (pd_m 856 (by decide +kernel) (by decide +kernel)), (pd_m 28 (by decide +kernel) (by decide +kernel)), kR_due⟩
theorem eR_read_132 : pd_al mR_read 132 0 133 := Or.inl ⟨0, rfl, by decide +kernel, rfl⟩
theorem eR_read_133 : pd_gf mR_read 133 12 14 136 := ⟨99, _, ⟨by decide +kernel, rfl⟩, fR_99_12⟩
theorem eR_read_136 : pd_b1 mR_read 136 .ne 139 171 := ⟨35, ⟨by decide +kernel, rfl⟩, by decide⟩
theorem eR_read_139 : pd_al mR_read 139 0 140 := Or.inl ⟨0, rfl, by decide +kernel, rfl⟩
theorem eR_read_140 : pd_il mR_read 140 1 141 := Or.inl ⟨1, rfl, by decide +kernel, rfl⟩
theorem eR_read_141 : pd_kv mR_read 141 mR_item 1 144 := ⟨131, ⟨by decide +kernel, rfl⟩, (pd_m 858 (by decide +kernel) (by decide +kernel)), (pd_m 860 (by decide +kernel) (by decide +kernel)), (pd_m 29 (by decide +kernel) (by decide +kernel)), kR_item⟩
theorem eR_read_144 : pd_al mR_read 144 0 145 := Or.inl ⟨0, rfl, by decide +kernel, rfl⟩
theorem eR_read_145 : pd_al mR_read 145 0 146 := Or.inl ⟨0, rfl, by decide +kernel, rfl⟩
theorem eR_read_146 : pd_gf mR_read 146 12 12 149 := ⟨96, _, ⟨by decide +kernel, rfl⟩, fR_96_12⟩
theorem eR_read_149 : pd_ic mR_read 149 3 150 := Or.inl ⟨by decide +kernel, rfl⟩
theorem eR_read_150 : pd_b2 mR_read 150 .ne 153 157 := ⟨7, ⟨by decide +kernel, rfl⟩, by decide⟩
theorem eR_read_153 : pd_ic mR_read 153 1 154 := Or.inl ⟨by decide +kernel, rfl⟩
theorem eR_read_154 : pd_go mR_read 154 158 := ⟨4, by decide +kernel, by decide⟩
theorem eR_read_157 : pd_ic mR_read 157 0 158 := Or.inl ⟨by decide +kernel, rfl⟩
theorem eR_read_158 : pd_kv mR_read 158 mR_due 1 161 := ⟨106, ⟨by decide +kernel, rfl⟩, (pd_m 854 (by decide +kernel) (by decide +kernel)), (pd_m 856 (by decide +kernel) (by decide +kernel)), (pd_m 28 (by decide +kernel) (by decide +kernel)), kR_due⟩
theorem eR_read_161 : pd_al mR_read 161 0 162 := Or.inl ⟨0, rfl, by decide +kernel, rfl⟩
theorem eR_read_162 : pd_i mR_read 162 (.dup) 1 163 := ⟨by decide +kernel, rfl⟩
theorem eR_read_163 : pd_gf mR_read 163 12 15 166 := ⟨124, _, ⟨by decide +kernel, rfl⟩, fR_124_12⟩
theorem eR_read_166 : pd_ic mR_read 166 1 167 := Or.inl ⟨by decide +kernel, rfl⟩
theorem eR_read_167 : pd_i mR_read 167 (.iadd) 1 168 := ⟨by decide +kernel, rfl⟩
theorem eR_read_168 : pd_pf mR_read 168 12 15 .int 171 := ⟨124, ⟨by decide +kernel, rfl⟩, fR_124_12, Or.inl ⟨_, rfl⟩⟩
theorem eR_read_171 : pd_go mR_read 171 75 := ⟨-96, by decide +kernel, by decide⟩
theorem eR_read_174 : pd_rd mR_read 174 none := (by decide +kernel : decode mR_read.2.1 174 = .ok (.return_, 1))
theorem eR_house_0 : pd_al mR_house 0 0 1 := Or.inl ⟨0, rfl, by decide +kernel, rfl⟩
theorem eR_house_1 : pd_kv mR_house 1 mR_read 0 4 := ⟨135, ⟨by decide +kernel, rfl⟩, (pd_m 838 (by decide +kernel) (by decide +kernel)), (pd_m 840 (by decide +kernel) (by decide +kernel)), (pd_m 24 (by decide +kernel) (by decide +kernel)), kR_read⟩
theorem eR_house_4 : pd_al mR_house 4 0 5 := Or.inl ⟨0, rfl, by decide +kernel, rfl⟩
theorem eR_house_5 : pd_gf mR_house 5 12 14 8 := ⟨99, _, ⟨by decide +kernel, rfl⟩, fR_99_12⟩
theorem eR_house_8 : pd_b1 mR_house 8 .eq 11 19 := ⟨11, ⟨by decide +kernel, rfl⟩, by decide⟩
theorem eR_house_11 : pd_ic mR_house 11 (-10) 13 := Or.inr (Or.inl ⟨⟨by decide +kernel, rfl⟩, by decide⟩)
theorem eR_house_13 : pd_al mR_house 13 0 14 := Or.inl ⟨0, rfl, by decide +kernel, rfl⟩
theorem eR_house_14 : pd_gf mR_house 14 12 11 17 := ⟨90, _, ⟨by decide +kernel, rfl⟩, fR_90_12⟩
theorem eR_house_17 : pd_i mR_house 17 (.isub) 1 18 := ⟨by decide +kernel, rfl⟩
theorem eR_house_18 {z : Int} : pd_rd mR_house 18 (some (vi z)) := (by decide +kernel : decode mR_house.2.1 18 = .ok (.ireturn, 1))
theorem eR_house_19 : pd_al mR_house 19 0 20 := Or.inl ⟨0, rfl, by decide +kernel, rfl⟩
theorem eR_house_20 : pd_gf mR_house 20 12 2 23 := ⟨13, _, ⟨by decide +kernel, rfl⟩, fR_13_12⟩
theorem eR_house_23 : pd_ic mR_house 23 0 24 := Or.inl ⟨by decide +kernel, rfl⟩
theorem eR_house_24 : pd_al mR_house 24 0 25 := Or.inl ⟨0, rfl, by decide +kernel, rfl⟩
theorem eR_house_25 : pd_gf mR_house 25 12 2 28 := ⟨13, _, ⟨by decide +kernel, rfl⟩, fR_13_12⟩
theorem eR_house_28 : pd_ic mR_house 28 2 29 := Or.inl ⟨by decide +kernel, rfl⟩
theorem eR_house_29 : pd_i mR_house 29 (.iaload) 1 30 := ⟨by decide +kernel, rfl⟩
theorem eR_house_30 : pd_i mR_house 30 (.iastore) 1 31 := ⟨by decide +kernel, rfl⟩
theorem eR_house_31 : pd_al mR_house 31 0 32 := Or.inl ⟨0, rfl, by decide +kernel, rfl⟩
theorem eR_house_32 : pd_gf mR_house 32 12 2 35 := ⟨13, _, ⟨by decide +kernel, rfl⟩, fR_13_12⟩
theorem eR_house_35 : pd_ic mR_house 35 1 36 := Or.inl ⟨by decide +kernel, rfl⟩
theorem eR_house_36 : pd_al mR_house 36 0 37 := Or.inl ⟨0, rfl, by decide +kernel, rfl⟩
theorem eR_house_37 : pd_gf mR_house 37 12 2 40 := ⟨13, _, ⟨by decide +kernel, rfl⟩, fR_13_12⟩
theorem eR_house_40 : pd_ic mR_house 40 3 41 := Or.inl ⟨by decide +kernel, rfl⟩
theorem eR_house_41 : pd_i mR_house 41 (.iaload) 1 42 := ⟨by decide +kernel, rfl⟩
theorem eR_house_42 : pd_i mR_house 42 (.iastore) 1 43 := ⟨by decide +kernel, rfl⟩
theorem eR_house_43 : pd_al mR_house 43 0 44 := Or.inl ⟨0, rfl, by decide +kernel, rfl⟩
theorem eR_house_44 : pd_gf mR_house 44 12 3 47 := ⟨17, _, ⟨by decide +kernel, rfl⟩, fR_17_12⟩
theorem eR_house_47 : pd_ic mR_house 47 0 48 := Or.inl ⟨by decide +kernel, rfl⟩
theorem eR_house_48 : pd_al mR_house 48 0 49 := Or.inl ⟨0, rfl, by decide +kernel, rfl⟩
theorem eR_house_49 : pd_gf mR_house 49 12 3 52 := ⟨17, _, ⟨by decide +kernel, rfl⟩, fR_17_12⟩
theorem eR_house_52 : pd_ic mR_house 52 1 53 := Or.inl ⟨by decide +kernel, rfl⟩
theorem eR_house_53 : pd_i mR_house 53 (.iaload) 1 54 := ⟨by decide +kernel, rfl⟩
theorem eR_house_54 : pd_i mR_house 54 (.iastore) 1 55 := ⟨by decide +kernel, rfl⟩
theorem eR_house_55 : pd_ic mR_house 55 0 56 := Or.inl ⟨by decide +kernel, rfl⟩
theorem eR_house_56 : pd_is mR_house 56 1 57 := ⟨by decide, Or.inl ⟨1, rfl, by decide +kernel, rfl⟩⟩
theorem eR_house_57 : pd_il mR_house 57 1 58 := Or.inl ⟨1, rfl, by decide +kernel, rfl⟩
theorem eR_house_58 : pd_ic mR_house 58 90 60 := Or.inr (Or.inl ⟨⟨by decide +kernel, rfl⟩, by decide⟩)
theorem eR_house_60 : pd_b2 mR_house 60 .ge 63 76 := ⟨16, ⟨by decide +kernel, rfl⟩, by decide⟩
theorem eR_house_63 : pd_al mR_house 63 0 64 := Or.inl ⟨0, rfl, by decide +kernel, rfl⟩
theorem eR_house_64 : pd_gf mR_house 64 12 17 67 := ⟨38, _, ⟨by decide +kernel, rfl⟩, fR_38_12⟩
theorem eR_house_67 : pd_il mR_house 67 1 68 := Or.inl ⟨1, rfl, by decide +kernel, rfl⟩
theorem eR_house_68 : pd_ic mR_house 68 0 69 := Or.inl ⟨by decide +kernel, rfl⟩
theorem eR_house_69 : pd_i mR_house 69 (.iastore) 1 70 := ⟨by decide +kernel, rfl⟩
theorem eR_house_70 : pd_ii mR_house 70 1 1 73 := ⟨by decide, by decide +kernel, rfl⟩
theorem eR_house_73 : pd_go mR_house 73 57 := ⟨-16, by decide +kernel, by decide⟩
theorem eR_house_76 : pd_ic mR_house 76 0 77 := Or.inl ⟨by decide +kernel, rfl⟩
theorem eR_house_77 : pd_is mR_house 77 1 78 := ⟨by decide, Or.inl ⟨1, rfl, by decide +kernel, rfl⟩⟩
theorem eR_house_78 : pd_il mR_house 78 1 79 := Or.inl ⟨1, rfl, by decide +kernel, rfl⟩
theorem eR_house_79 : pd_ic mR_house 79 4 80 := Or.inl ⟨by decide +kernel, rfl⟩
theorem eR_house_80 : pd_b2 mR_house 80 .ge 83 173 := ⟨93, ⟨by decide +kernel, rfl⟩, by decide⟩
theorem eR_house_83 : pd_al mR_house 83 0 84 := Or.inl ⟨0, rfl, by decide +kernel, rfl⟩
theorem eR_house_84 : pd_gf mR_house 84 12 4 87 := ⟨20, _, ⟨by decide +kernel, rfl⟩, fR_20_12⟩
theorem eR_house_87 : pd_il mR_house 87 1 88 := Or.inl ⟨1, rfl, by decide +kernel, rfl⟩
theorem eR_house_88 : pd_al mR_house 88 0 89 := Or.inl ⟨0, rfl, by decide +kernel, rfl⟩
theorem eR_house_89 : pd_gf mR_house 89 12 4 92 := ⟨20, _, ⟨by decide +kernel, rfl⟩, fR_20_12⟩
theorem eR_house_92 : pd_ic mR_house 92 4 93 := Or.inl ⟨by decide +kernel, rfl⟩
theorem eR_house_93 : pd_il mR_house 93 1 94 := Or.inl ⟨1, rfl, by decide +kernel, rfl⟩
theorem eR_house_94 : pd_i mR_house 94 (.iadd) 1 95 := ⟨by decide +kernel, rfl⟩
theorem eR_house_95 : pd_i mR_house 95 (.iaload) 1 96 := ⟨by decide +kernel, rfl⟩
theorem eR_house_96 : pd_i mR_house 96 (.iastore) 1 97 := ⟨by decide +kernel, rfl⟩
theorem eR_house_97 : pd_al mR_house 97 0 98 := Or.inl ⟨0, rfl, by decide +kernel, rfl⟩
theorem eR_house_98 : pd_gf mR_house 98 12 5 101 := ⟨23, _, ⟨by decide +kernel, rfl⟩, fR_23_12⟩
theorem eR_house_101 : pd_il mR_house 101 1 102 := Or.inl ⟨1, rfl, by decide +kernel, rfl⟩
theorem eR_house_102 : pd_al mR_house 102 0 103 := Or.inl ⟨0, rfl, by decide +kernel, rfl⟩
theorem eR_house_103 : pd_gf mR_house 103 12 5 106 := ⟨23, _, ⟨by decide +kernel, rfl⟩, fR_23_12⟩
theorem eR_house_106 : pd_ic mR_house 106 4 107 := Or.inl ⟨by decide +kernel, rfl⟩
theorem eR_house_107 : pd_il mR_house 107 1 108 := Or.inl ⟨1, rfl, by decide +kernel, rfl⟩
theorem eR_house_108 : pd_i mR_house 108 (.iadd) 1 109 := ⟨by decide +kernel, rfl⟩
theorem eR_house_109 : pd_i mR_house 109 (.iaload) 1 110 := ⟨by decide +kernel, rfl⟩
theorem eR_house_110 : pd_i mR_house 110 (.iastore) 1 111 := ⟨by decide +kernel, rfl⟩
theorem eR_house_111 : pd_al mR_house 111 0 112 := Or.inl ⟨0, rfl, by decide +kernel, rfl⟩
theorem eR_house_112 : pd_gf mR_house 112 12 6 115 := ⟨26, _, ⟨by decide +kernel, rfl⟩, fR_26_12⟩
theorem eR_house_115 : pd_il mR_house 115 1 116 := Or.inl ⟨1, rfl, by decide +kernel, rfl⟩
theorem eR_house_116 : pd_al mR_house 116 0 117 := Or.inl ⟨0, rfl, by decide +kernel, rfl⟩
theorem eR_house_117 : pd_gf mR_house 117 12 6 120 := ⟨26, _, ⟨by decide +kernel, rfl⟩, fR_26_12⟩
theorem eR_house_120 : pd_ic mR_house 120 4 121 := Or.inl ⟨by decide +kernel, rfl⟩
theorem eR_house_121 : pd_il mR_house 121 1 122 := Or.inl ⟨1, rfl, by decide +kernel, rfl⟩
theorem eR_house_122 : pd_i mR_house 122 (.iadd) 1 123 := ⟨by decide +kernel, rfl⟩
theorem eR_house_123 : pd_i mR_house 123 (.iaload) 1 124 := ⟨by decide +kernel, rfl⟩
theorem eR_house_124 : pd_i mR_house 124 (.iastore) 1 125 := ⟨by decide +kernel, rfl⟩
theorem eR_house_125 : pd_al mR_house 125 0 126 := Or.inl ⟨0, rfl, by decide +kernel, rfl⟩
theorem eR_house_126 : pd_gf mR_house 126 12 7 129 := ⟨29, _, ⟨by decide +kernel, rfl⟩, fR_29_12⟩
theorem eR_house_129 : pd_il mR_house 129 1 130 := Or.inl ⟨1, rfl, by decide +kernel, rfl⟩
theorem eR_house_130 : pd_al mR_house 130 0 131 := Or.inl ⟨0, rfl, by decide +kernel, rfl⟩
theorem eR_house_131 : pd_gf mR_house 131 12 7 134 := ⟨29, _, ⟨by decide +kernel, rfl⟩, fR_29_12⟩
theorem eR_house_134 : pd_ic mR_house 134 4 135 := Or.inl ⟨by decide +kernel, rfl⟩
theorem eR_house_135 : pd_il mR_house 135 1 136 := Or.inl ⟨1, rfl, by decide +kernel, rfl⟩
theorem eR_house_136 : pd_i mR_house 136 (.iadd) 1 137 := ⟨by decide +kernel, rfl⟩
theorem eR_house_137 : pd_i mR_house 137 (.iaload) 1 138 := ⟨by decide +kernel, rfl⟩
theorem eR_house_138 : pd_i mR_house 138 (.iastore) 1 139 := ⟨by decide +kernel, rfl⟩
theorem eR_house_139 : pd_al mR_house 139 0 140 := Or.inl ⟨0, rfl, by decide +kernel, rfl⟩
theorem eR_house_140 : pd_gf mR_house 140 12 17 143 := ⟨38, _, ⟨by decide +kernel, rfl⟩, fR_38_12⟩
theorem eR_house_143 : pd_ic mR_house 143 2 144 := Or.inl ⟨by decide +kernel, rfl⟩
theorem eR_house_144 : pd_il mR_house 144 1 145 := Or.inl ⟨1, rfl, by decide +kernel, rfl⟩
theorem eR_house_145 : pd_i mR_house 145 (.iadd) 1 146 := ⟨by decide +kernel, rfl⟩
theorem eR_house_146 : pd_il mR_house 146 1 147 := Or.inl ⟨1, rfl, by decide +kernel, rfl⟩
theorem eR_house_147 : pd_al mR_house 147 0 148 := Or.inl ⟨0, rfl, by decide +kernel, rfl⟩
theorem eR_house_148 : pd_gf mR_house 148 12 3 151 := ⟨17, _, ⟨by decide +kernel, rfl⟩, fR_17_12⟩
theorem eR_house_151 : pd_ic mR_house 151 0 152 := Or.inl ⟨by decide +kernel, rfl⟩
theorem eR_house_152 : pd_i mR_house 152 (.iaload) 1 153 := ⟨by decide +kernel, rfl⟩
theorem eR_house_153 : pd_b2 mR_house 153 .ge 156 165 := ⟨12, ⟨by decide +kernel, rfl⟩, by decide⟩
theorem eR_house_156 : pd_al mR_house 156 0 157 := Or.inl ⟨0, rfl, by decide +kernel, rfl⟩
theorem eR_house_157 : pd_gf mR_house 157 12 4 160 := ⟨20, _, ⟨by decide +kernel, rfl⟩, fR_20_12⟩
theorem eR_house_160 : pd_il mR_house 160 1 161 := Or.inl ⟨1, rfl, by decide +kernel, rfl⟩
theorem eR_house_161 : pd_i mR_house 161 (.iaload) 1 162 := ⟨by decide +kernel, rfl⟩
theorem eR_house_162 : pd_go mR_house 162 166 := ⟨4, by decide +kernel, by decide⟩
theorem eR_house_165 : pd_ic mR_house 165 0 166 := Or.inl ⟨by decide +kernel, rfl⟩
theorem eR_house_166 : pd_i mR_house 166 (.iastore) 1 167 := ⟨by decide +kernel, rfl⟩
theorem eR_house_167 : pd_ii mR_house 167 1 1 170 := ⟨by decide, by decide +kernel, rfl⟩
theorem eR_house_170 : pd_go mR_house 170 78 := ⟨-92, by decide +kernel, by decide⟩
theorem eR_house_173 : pd_ic mR_house 173 0 174 := Or.inl ⟨by decide +kernel, rfl⟩
theorem eR_house_174 : pd_is mR_house 174 1 175 := ⟨by decide, Or.inl ⟨1, rfl, by decide +kernel, rfl⟩⟩
theorem eR_house_175 : pd_il mR_house 175 1 176 := Or.inl ⟨1, rfl, by decide +kernel, rfl⟩
theorem eR_house_176 : pd_ic mR_house 176 80 178 := Or.inr (Or.inl ⟨⟨by decide +kernel, rfl⟩, by decide⟩)
theorem eR_house_178 : pd_b2 mR_house 178 .ge 181 217 := ⟨39, ⟨by decide +kernel, rfl⟩, by decide⟩
theorem eR_house_181 : pd_al mR_house 181 0 182 := Or.inl ⟨0, rfl, by decide +kernel, rfl⟩
theorem eR_house_182 : pd_gf mR_house 182 12 8 185 := ⟨32, _, ⟨by decide +kernel, rfl⟩, fR_32_12⟩
theorem eR_house_185 : pd_il mR_house 185 1 186 := Or.inl ⟨1, rfl, by decide +kernel, rfl⟩
theorem eR_house_186 : pd_al mR_house 186 0 187 := Or.inl ⟨0, rfl, by decide +kernel, rfl⟩
theorem eR_house_187 : pd_gf mR_house 187 12 8 190 := ⟨32, _, ⟨by decide +kernel, rfl⟩, fR_32_12⟩
theorem eR_house_190 : pd_ic mR_house 190 80 192 := Or.inr (Or.inl ⟨⟨by decide +kernel, rfl⟩, by decide⟩)
theorem eR_house_192 : pd_il mR_house 192 1 193 := Or.inl ⟨1, rfl, by decide +kernel, rfl⟩
theorem eR_house_193 : pd_i mR_house 193 (.iadd) 1 194 := ⟨by decide +kernel, rfl⟩
theorem eR_house_194 : pd_i mR_house 194 (.iaload) 1 195 := ⟨by decide +kernel, rfl⟩
theorem eR_house_195 : pd_i mR_house 195 (.iastore) 1 196 := ⟨by decide +kernel, rfl⟩
theorem eR_house_196 : pd_al mR_house 196 0 197 := Or.inl ⟨0, rfl, by decide +kernel, rfl⟩
theorem eR_house_197 : pd_gf mR_house 197 12 9 200 := ⟨35, _, ⟨by decide +kernel, rfl⟩, fR_35_12⟩
theorem eR_house_200 : pd_il mR_house 200 1 201 := Or.inl ⟨1, rfl, by decide +kernel, rfl⟩
theorem eR_house_201 : pd_al mR_house 201 0 202 := Or.inl ⟨0, rfl, by decide +kernel, rfl⟩
theorem eR_house_202 : pd_gf mR_house 202 12 9 205 := ⟨35, _, ⟨by decide +kernel, rfl⟩, fR_35_12⟩
theorem eR_house_205 : pd_ic mR_house 205 80 207 := Or.inr (Or.inl ⟨⟨by decide +kernel, rfl⟩, by decide⟩)
theorem eR_house_207 : pd_il mR_house 207 1 208 := Or.inl ⟨1, rfl, by decide +kernel, rfl⟩
theorem eR_house_208 : pd_i mR_house 208 (.iadd) 1 209 := ⟨by decide +kernel, rfl⟩
theorem eR_house_209 : pd_i mR_house 209 (.iaload) 1 210 := ⟨by decide +kernel, rfl⟩
theorem eR_house_210 : pd_i mR_house 210 (.iastore) 1 211 := ⟨by decide +kernel, rfl⟩
theorem eR_house_211 : pd_ii mR_house 211 1 1 214 := ⟨by decide, by decide +kernel, rfl⟩
theorem eR_house_214 : pd_go mR_house 214 175 := ⟨-39, by decide +kernel, by decide⟩
theorem eR_house_217 : pd_al mR_house 217 0 218 := Or.inl ⟨0, rfl, by decide +kernel, rfl⟩
theorem eR_house_218 : pd_gf mR_house 218 12 18 221 := ⟨41, _, ⟨by decide +kernel, rfl⟩, fR_41_12⟩
theorem eR_house_221 : pd_ic mR_house 221 0 222 := Or.inl ⟨by decide +kernel, rfl⟩
theorem eR_house_222 : pd_ic mR_house 222 0 223 := Or.inl ⟨by decide +kernel, rfl⟩
theorem eR_house_223 : pd_i mR_house 223 (.iastore) 1 224 := ⟨by decide +kernel, rfl⟩
theorem eR_house_224 : pd_al mR_house 224 0 225 := Or.inl ⟨0, rfl, by decide +kernel, rfl⟩
theorem eR_house_225 : pd_gf mR_house 225 12 21 228 := ⟨50, _, ⟨by decide +kernel, rfl⟩, fR_50_12⟩
theorem eR_house_228 : pd_ic mR_house 228 0 229 := Or.inl ⟨by decide +kernel, rfl⟩
theorem eR_house_229 : pd_ic mR_house 229 0 230 := Or.inl ⟨by decide +kernel, rfl⟩
theorem eR_house_230 : pd_i mR_house 230 (.bastore) 1 231 := ⟨by decide +kernel, rfl⟩
theorem eR_house_231 : pd_al mR_house 231 0 232 := Or.inl ⟨0, rfl, by decide +kernel, rfl⟩
theorem eR_house_232 : pd_gf mR_house 232 12 21 235 := ⟨50, _, ⟨by decide +kernel, rfl⟩, fR_50_12⟩
theorem eR_house_235 : pd_ic mR_house 235 1 236 := Or.inl ⟨by decide +kernel, rfl⟩
theorem eR_house_236 : pd_ic mR_house 236 0 237 := Or.inl ⟨by decide +kernel, rfl⟩
theorem eR_house_237 : pd_i mR_house 237 (.bastore) 1 238 := ⟨by decide +kernel, rfl⟩
theorem eR_house_238 : pd_al mR_house 238 0 239 := Or.inl ⟨0, rfl, by decide +kernel, rfl⟩
theorem eR_house_239 : pd_ic mR_house 239 0 240 := Or.inl ⟨by decide +kernel, rfl⟩
theorem eR_house_240 : pd_pf mR_house 240 12 26 .int 243 := ⟨138, ⟨by decide +kernel, rfl⟩, fR_138_12, Or.inl ⟨_, rfl⟩⟩
theorem eR_house_243 : pd_al mR_house 243 0 244 := Or.inl ⟨0, rfl, by decide +kernel, rfl⟩
theorem eR_house_244 : pd_ic mR_house 244 0 245 := Or.inl ⟨by decide +kernel, rfl⟩
theorem eR_house_245 : pd_pf mR_house 245 12 29 .int 248 := ⟨141, ⟨by decide +kernel, rfl⟩, fR_141_12, Or.inl ⟨_, rfl⟩⟩
theorem eR_house_248 : pd_al mR_house 248 0 249 := Or.inl ⟨0, rfl, by decide +kernel, rfl⟩
theorem eR_house_249 : pd_ic mR_house 249 0 250 := Or.inl ⟨by decide +kernel, rfl⟩
theorem eR_house_250 : pd_pf mR_house 250 12 1 .int 253 := ⟨79, ⟨by decide +kernel, rfl⟩, fR_79_12, Or.inl ⟨_, rfl⟩⟩
theorem eR_house_253 : pd_al mR_house 253 0 254 := Or.inl ⟨0, rfl, by decide +kernel, rfl⟩
theorem eR_house_254 : pd_gf mR_house 254 12 15 257 := ⟨124, _, ⟨by decide +kernel, rfl⟩, fR_124_12⟩
theorem eR_house_257 {z : Int} : pd_rd mR_house 257 (some (vi z)) := (by decide +kernel : decode mR_house.2.1 257 = .ok (.ireturn, 1))
theorem eR_take_0 : pd_ic mR_take 0 0 1 := Or.inl ⟨by decide +kernel, rfl⟩
theorem eR_take_1 : pd_is mR_take 1 1 2 := ⟨by decide, Or.inl ⟨1, rfl, by decide +kernel, rfl⟩⟩
theorem eR_take_2 : pd_il mR_take 2 1 3 := Or.inl ⟨1, rfl, by decide +kernel, rfl⟩
theorem eR_take_3 : pd_ic mR_take 3 90 5 := Or.inr (Or.inl ⟨⟨by decide +kernel, rfl⟩, by decide⟩)
theorem eR_take_5 : pd_b2 mR_take 5 .ge 8 26 := ⟨21, ⟨by decide +kernel, rfl⟩, by decide⟩
theorem eR_take_8 : pd_al mR_take 8 0 9 := Or.inl ⟨0, rfl, by decide +kernel, rfl⟩
theorem eR_take_9 : pd_gf mR_take 9 12 22 12 := ⟨54, _, ⟨by decide +kernel, rfl⟩, fR_54_12⟩
theorem eR_take_12 : pd_il mR_take 12 1 13 := Or.inl ⟨1, rfl, by decide +kernel, rfl⟩
theorem eR_take_13 : pd_al mR_take 13 0 14 := Or.inl ⟨0, rfl, by decide +kernel, rfl⟩
theorem eR_take_14 : pd_gf mR_take 14 12 17 17 := ⟨38, _, ⟨by decide +kernel, rfl⟩, fR_38_12⟩
theorem eR_take_17 : pd_il mR_take 17 1 18 := Or.inl ⟨1, rfl, by decide +kernel, rfl⟩
theorem eR_take_18 : pd_i mR_take 18 (.iaload) 1 19 := ⟨by decide +kernel, rfl⟩
theorem eR_take_19 : pd_i mR_take 19 (.iastore) 1 20 := ⟨by decide +kernel, rfl⟩
theorem eR_take_20 : pd_ii mR_take 20 1 1 23 := ⟨by decide, by decide +kernel, rfl⟩
theorem eR_take_23 : pd_go mR_take 23 2 := ⟨-21, by decide +kernel, by decide⟩
theorem eR_take_26 : pd_rd mR_take 26 none := (by decide +kernel : decode mR_take.2.1 26 = .ok (.return_, 1))
theorem eR_isGood_0 : pd_il mR_isGood 0 1 1 := Or.inl ⟨1, rfl, by decide +kernel, rfl⟩
theorem eR_isGood_1 : pd_ic mR_isGood 1 0 2 := Or.inl ⟨by decide +kernel, rfl⟩
theorem eR_isGood_2 : pd_al mR_isGood 2 0 3 := Or.inl ⟨0, rfl, by decide +kernel, rfl⟩
theorem eR_isGood_3 : pd_gf mR_isGood 3 12 3 6 := ⟨17, _, ⟨by decide +kernel, rfl⟩, fR_17_12⟩
theorem eR_isGood_6 : pd_ic mR_isGood 6 0 7 := Or.inl ⟨by decide +kernel, rfl⟩
theorem eR_isGood_7 : pd_i mR_isGood 7 (.iaload) 1 8 := ⟨by decide +kernel, rfl⟩
theorem eR_isGood_8 : pd_ic mR_isGood 8 1 9 := Or.inl ⟨by decide +kernel, rfl⟩
theorem eR_isGood_9 : pd_i mR_isGood 9 (.isub) 1 10 := ⟨by decide +kernel, rfl⟩
theorem eR_isGood_10 : pd_ks mR_isGood 10 mR_in 3 13 := ⟨75, ⟨by decide +kernel, rfl⟩, Or.inl (pd_m 827 (by decide +kernel) (by decide +kernel)), (pd_m 828 (by decide +kernel) (by decide +kernel)), kR_in⟩
theorem eR_isGood_13 {z : Int} (h : z = 0 ∨ z = 1) : pd_rd mR_isGood 13 (some (vi z)) := ⟨by decide +kernel, h⟩
theorem eR_isDay_0 : pd_il mR_isDay 0 0 1 := Or.inl ⟨0, rfl, by decide +kernel, rfl⟩
theorem eR_isDay_1 : pd_ic mR_isDay 1 0 2 := Or.inl ⟨by decide +kernel, rfl⟩
theorem eR_isDay_2 : pd_ic mR_isDay 2 19 4 := Or.inr (Or.inl ⟨⟨by decide +kernel, rfl⟩, by decide⟩)
theorem eR_isDay_4 : pd_ks mR_isDay 4 mR_in 3 7 := ⟨75, ⟨by decide +kernel, rfl⟩, Or.inl (pd_m 827 (by decide +kernel) (by decide +kernel)), (pd_m 828 (by decide +kernel) (by decide +kernel)), kR_in⟩
theorem eR_isDay_7 {z : Int} (h : z = 0 ∨ z = 1) : pd_rd mR_isDay 7 (some (vi z)) := ⟨by decide +kernel, h⟩
theorem eR_lawOn_0 : pd_il mR_lawOn 0 0 1 := Or.inl ⟨0, rfl, by decide +kernel, rfl⟩
theorem eR_lawOn_1 : pd_ic mR_lawOn 1 20 3 := Or.inr (Or.inl ⟨⟨by decide +kernel, rfl⟩, by decide⟩)
theorem eR_lawOn_3 : pd_b2 mR_lawOn 3 .ge 6 23 := ⟨20, ⟨by decide +kernel, rfl⟩, by decide⟩
theorem eR_lawOn_6 : pd_il mR_lawOn 6 0 7 := Or.inl ⟨0, rfl, by decide +kernel, rfl⟩
theorem eR_lawOn_7 : pd_il mR_lawOn 7 1 8 := Or.inl ⟨1, rfl, by decide +kernel, rfl⟩
theorem eR_lawOn_8 : pd_i mR_lawOn 8 (.irem) 1 9 := ⟨by decide +kernel, rfl⟩
theorem eR_lawOn_9 : pd_b1 mR_lawOn 9 .ne 12 23 := ⟨14, ⟨by decide +kernel, rfl⟩, by decide⟩
theorem eR_lawOn_12 : pd_il mR_lawOn 12 0 13 := Or.inl ⟨0, rfl, by decide +kernel, rfl⟩
theorem eR_lawOn_13 : pd_il mR_lawOn 13 2 14 := Or.inl ⟨2, rfl, by decide +kernel, rfl⟩
theorem eR_lawOn_14 : pd_b2 mR_lawOn 14 .lt 17 23 := ⟨9, ⟨by decide +kernel, rfl⟩, by decide⟩
theorem eR_lawOn_17 : pd_il mR_lawOn 17 0 18 := Or.inl ⟨0, rfl, by decide +kernel, rfl⟩
theorem eR_lawOn_18 : pd_il mR_lawOn 18 2 19 := Or.inl ⟨2, rfl, by decide +kernel, rfl⟩
theorem eR_lawOn_19 : pd_i mR_lawOn 19 (.isub) 1 20 := ⟨by decide +kernel, rfl⟩
theorem eR_lawOn_20 : pd_go mR_lawOn 20 25 := ⟨5, by decide +kernel, by decide⟩
theorem eR_lawOn_23 : pd_ic mR_lawOn 23 (-9) 25 := Or.inr (Or.inl ⟨⟨by decide +kernel, rfl⟩, by decide⟩)
theorem eR_lawOn_25 {z : Int} : pd_rd mR_lawOn 25 (some (vi z)) := (by decide +kernel : decode mR_lawOn.2.1 25 = .ok (.ireturn, 1))
theorem eR_givesOn_0 : pd_il mR_givesOn 0 1 1 := Or.inl ⟨1, rfl, by decide +kernel, rfl⟩
theorem eR_givesOn_1 : pd_al mR_givesOn 1 0 2 := Or.inl ⟨0, rfl, by decide +kernel, rfl⟩
theorem eR_givesOn_2 : pd_gf mR_givesOn 2 12 2 5 := ⟨13, _, ⟨by decide +kernel, rfl⟩, fR_13_12⟩
theorem eR_givesOn_5 : pd_ic mR_givesOn 5 0 6 := Or.inl ⟨by decide +kernel, rfl⟩
theorem eR_givesOn_6 : pd_i mR_givesOn 6 (.iaload) 1 7 := ⟨by decide +kernel, rfl⟩
theorem eR_givesOn_7 : pd_al mR_givesOn 7 0 8 := Or.inl ⟨0, rfl, by decide +kernel, rfl⟩
theorem eR_givesOn_8 : pd_gf mR_givesOn 8 12 2 11 := ⟨13, _, ⟨by decide +kernel, rfl⟩, fR_13_12⟩
theorem eR_givesOn_11 : pd_ic mR_givesOn 11 1 12 := Or.inl ⟨by decide +kernel, rfl⟩
theorem eR_givesOn_12 : pd_i mR_givesOn 12 (.iaload) 1 13 := ⟨by decide +kernel, rfl⟩
theorem eR_givesOn_13 : pd_ks mR_givesOn 13 mR_lawOn 3 16 := ⟨144, ⟨by decide +kernel, rfl⟩, Or.inl (pd_m 894 (by decide +kernel) (by decide +kernel)), (pd_m 895 (by decide +kernel) (by decide +kernel)), kR_lawOn⟩
theorem eR_givesOn_16 {z : Int} : pd_rd mR_givesOn 16 (some (vi z)) := (by decide +kernel : decode mR_givesOn.2.1 16 = .ok (.ireturn, 1))
theorem eR_opens_0 : pd_al mR_opens 0 1 1 := Or.inl ⟨1, rfl, by decide +kernel, rfl⟩
theorem eR_opens_1 : pd_ic mR_opens 1 1 2 := Or.inl ⟨by decide +kernel, rfl⟩
theorem eR_opens_2 : pd_i mR_opens 2 (.iaload) 1 3 := ⟨by decide +kernel, rfl⟩
theorem eR_opens_3 : pd_ic mR_opens 3 1 4 := Or.inl ⟨by decide +kernel, rfl⟩
theorem eR_opens_4 : pd_b2 mR_opens 4 .ne 7 12 := ⟨8, ⟨by decide +kernel, rfl⟩, by decide⟩
theorem eR_opens_7 : pd_ic mR_opens 7 (-9) 9 := Or.inr (Or.inl ⟨⟨by decide +kernel, rfl⟩, by decide⟩)
theorem eR_opens_9 : pd_go mR_opens 9 19 := ⟨10, by decide +kernel, by decide⟩
theorem eR_opens_12 : pd_al mR_opens 12 0 13 := Or.inl ⟨0, rfl, by decide +kernel, rfl⟩
theorem eR_opens_13 : pd_al mR_opens 13 1 14 := Or.inl ⟨1, rfl, by decide +kernel, rfl⟩
theorem eR_opens_14 : pd_ic mR_opens 14 0 15 := Or.inl ⟨by decide +kernel, rfl⟩
theorem eR_opens_15 : pd_i mR_opens 15 (.iaload) 1 16 := ⟨by decide +kernel, rfl⟩
theorem eR_opens_16 : pd_kv mR_opens 16 mR_givesOn 1 19 := ⟨148, ⟨by decide +kernel, rfl⟩, (pd_m 890 (by decide +kernel) (by decide +kernel)), (pd_m 892 (by decide +kernel) (by decide +kernel)), (pd_m 36 (by decide +kernel) (by decide +kernel)), kR_givesOn⟩
theorem eR_opens_19 {z : Int} : pd_rd mR_opens 19 (some (vi z)) := (by decide +kernel : decode mR_opens.2.1 19 = .ok (.ireturn, 1))
theorem eR_canTake_0 : pd_al mR_canTake 0 0 1 := Or.inl ⟨0, rfl, by decide +kernel, rfl⟩
theorem eR_canTake_1 : pd_al mR_canTake 1 1 2 := Or.inl ⟨1, rfl, by decide +kernel, rfl⟩
theorem eR_canTake_2 : pd_kv mR_canTake 2 mR_opens 1 5 := ⟨152, ⟨by decide +kernel, rfl⟩, (pd_m 886 (by decide +kernel) (by decide +kernel)), (pd_m 888 (by decide +kernel) (by decide +kernel)), (pd_m 35 (by decide +kernel) (by decide +kernel)), kR_opens⟩
theorem eR_canTake_5 : pd_is mR_canTake 5 3 6 := ⟨by decide, Or.inl ⟨3, rfl, by decide +kernel, rfl⟩⟩
theorem eR_canTake_6 : pd_il mR_canTake 6 3 7 := Or.inl ⟨3, rfl, by decide +kernel, rfl⟩
theorem eR_canTake_7 : pd_ic mR_canTake 7 (-9) 9 := Or.inr (Or.inl ⟨⟨by decide +kernel, rfl⟩, by decide⟩)
theorem eR_canTake_9 : pd_b2 mR_canTake 9 .ne 12 16 := ⟨7, ⟨by decide +kernel, rfl⟩, by decide⟩
theorem eR_canTake_12 : pd_ic mR_canTake 12 0 13 := Or.inl ⟨by decide +kernel, rfl⟩
theorem eR_canTake_13 : pd_go mR_canTake 13 37 := ⟨24, by decide +kernel, by decide⟩
theorem eR_canTake_16 : pd_al mR_canTake 16 0 17 := Or.inl ⟨0, rfl, by decide +kernel, rfl⟩
theorem eR_canTake_17 : pd_gf mR_canTake 17 12 9 20 := ⟨35, _, ⟨by decide +kernel, rfl⟩, fR_35_12⟩
theorem eR_canTake_20 : pd_ic mR_canTake 20 4 21 := Or.inl ⟨by decide +kernel, rfl⟩
theorem eR_canTake_21 : pd_il mR_canTake 21 3 22 := Or.inl ⟨3, rfl, by decide +kernel, rfl⟩
theorem eR_canTake_22 : pd_i mR_canTake 22 (.imul) 1 23 := ⟨by decide +kernel, rfl⟩
theorem eR_canTake_23 : pd_il mR_canTake 23 2 24 := Or.inl ⟨2, rfl, by decide +kernel, rfl⟩
theorem eR_canTake_24 : pd_i mR_canTake 24 (.iadd) 1 25 := ⟨by decide +kernel, rfl⟩
theorem eR_canTake_25 : pd_i mR_canTake 25 (.iaload) 1 26 := ⟨by decide +kernel, rfl⟩
theorem eR_canTake_26 : pd_al mR_canTake 26 1 27 := Or.inl ⟨1, rfl, by decide +kernel, rfl⟩
theorem eR_canTake_27 : pd_ic mR_canTake 27 10 29 := Or.inr (Or.inl ⟨⟨by decide +kernel, rfl⟩, by decide⟩)
theorem eR_canTake_29 : pd_ic mR_canTake 29 4 30 := Or.inl ⟨by decide +kernel, rfl⟩
theorem eR_canTake_30 : pd_il mR_canTake 30 3 31 := Or.inl ⟨3, rfl, by decide +kernel, rfl⟩
theorem eR_canTake_31 : pd_i mR_canTake 31 (.imul) 1 32 := ⟨by decide +kernel, rfl⟩
theorem eR_canTake_32 : pd_i mR_canTake 32 (.iadd) 1 33 := ⟨by decide +kernel, rfl⟩
theorem eR_canTake_33 : pd_il mR_canTake 33 2 34 := Or.inl ⟨2, rfl, by decide +kernel, rfl⟩
theorem eR_canTake_34 : pd_i mR_canTake 34 (.iadd) 1 35 := ⟨by decide +kernel, rfl⟩
theorem eR_canTake_35 : pd_i mR_canTake 35 (.iaload) 1 36 := ⟨by decide +kernel, rfl⟩
theorem eR_canTake_36 : pd_i mR_canTake 36 (.isub) 1 37 := ⟨by decide +kernel, rfl⟩
theorem eR_canTake_37 {z : Int} : pd_rd mR_canTake 37 (some (vi z)) := (by decide +kernel : decode mR_canTake.2.1 37 = .ok (.ireturn, 1))
theorem eR_atMost_0 : pd_il mR_atMost 0 0 1 := Or.inl ⟨0, rfl, by decide +kernel, rfl⟩
theorem eR_atMost_1 : pd_ic mR_atMost 1 999 4 := Or.inr (Or.inr (Or.inl ⟨⟨by decide +kernel, rfl⟩, by decide⟩))
theorem eR_atMost_4 : pd_b2 mR_atMost 4 .le 7 13 := ⟨9, ⟨by decide +kernel, rfl⟩, by decide⟩
theorem eR_atMost_7 : pd_ic mR_atMost 7 999 10 := Or.inr (Or.inr (Or.inl ⟨⟨by decide +kernel, rfl⟩, by decide⟩))
theorem eR_atMost_10 : pd_go mR_atMost 10 14 := ⟨4, by decide +kernel, by decide⟩
theorem eR_atMost_13 : pd_il mR_atMost 13 0 14 := Or.inl ⟨0, rfl, by decide +kernel, rfl⟩
theorem eR_atMost_14 {z : Int} : pd_rd mR_atMost 14 (some (vi z)) := (by decide +kernel : decode mR_atMost.2.1 14 = .ok (.ireturn, 1))
theorem eR_takeOf_0 : pd_al mR_takeOf 0 1 1 := Or.inl ⟨1, rfl, by decide +kernel, rfl⟩
theorem eR_takeOf_1 : pd_ic mR_takeOf 1 10 3 := Or.inr (Or.inl ⟨⟨by decide +kernel, rfl⟩, by decide⟩)
theorem eR_takeOf_3 : pd_ic mR_takeOf 3 4 4 := Or.inl ⟨by decide +kernel, rfl⟩
theorem eR_takeOf_4 : pd_al mR_takeOf 4 0 5 := Or.inl ⟨0, rfl, by decide +kernel, rfl⟩
theorem eR_takeOf_5 : pd_al mR_takeOf 5 1 6 := Or.inl ⟨1, rfl, by decide +kernel, rfl⟩
theorem eR_takeOf_6 : pd_kv mR_takeOf 6 mR_opens 1 9 := ⟨152, ⟨by decide +kernel, rfl⟩, (pd_m 886 (by decide +kernel) (by decide +kernel)), (pd_m 888 (by decide +kernel) (by decide +kernel)), (pd_m 35 (by decide +kernel) (by decide +kernel)), kR_opens⟩
theorem eR_takeOf_9 : pd_i mR_takeOf 9 (.imul) 1 10 := ⟨by decide +kernel, rfl⟩
theorem eR_takeOf_10 : pd_i mR_takeOf 10 (.iadd) 1 11 := ⟨by decide +kernel, rfl⟩
theorem eR_takeOf_11 : pd_il mR_takeOf 11 2 12 := Or.inl ⟨2, rfl, by decide +kernel, rfl⟩
theorem eR_takeOf_12 : pd_i mR_takeOf 12 (.iadd) 1 13 := ⟨by decide +kernel, rfl⟩
theorem eR_takeOf_13 : pd_i mR_takeOf 13 (.dup2) 1 14 := ⟨by decide +kernel, rfl⟩
theorem eR_takeOf_14 : pd_i mR_takeOf 14 (.iaload) 1 15 := ⟨by decide +kernel, rfl⟩
theorem eR_takeOf_15 : pd_il mR_takeOf 15 3 16 := Or.inl ⟨3, rfl, by decide +kernel, rfl⟩
theorem eR_takeOf_16 : pd_i mR_takeOf 16 (.iadd) 1 17 := ⟨by decide +kernel, rfl⟩
theorem eR_takeOf_17 : pd_i mR_takeOf 17 (.iastore) 1 18 := ⟨by decide +kernel, rfl⟩
theorem eR_takeOf_18 : pd_al mR_takeOf 18 1 19 := Or.inl ⟨1, rfl, by decide +kernel, rfl⟩
theorem eR_takeOf_19 : pd_ic mR_takeOf 19 2 20 := Or.inl ⟨by decide +kernel, rfl⟩
end
section
theorem eR_takeOf_20 : pd_il mR_takeOf 20 2 21 := Or.inl ⟨2, rfl, by decide +kernel, rfl⟩
theorem eR_takeOf_21 : pd_i mR_takeOf 21 (.iadd) 1 22 := ⟨by decide +kernel, rfl⟩
theorem eR_takeOf_22 : pd_al mR_takeOf 22 1 23 := Or.inl ⟨1, rfl, by decide +kernel, rfl⟩
theorem eR_takeOf_23 : pd_ic mR_takeOf 23 2 24 := Or.inl ⟨by decide +kernel, rfl⟩
theorem eR_takeOf_24 : pd_il mR_takeOf 24 2 25 := Or.inl ⟨2, rfl, by decide +kernel, rfl⟩
theorem eR_takeOf_25 : pd_i mR_takeOf 25 (.iadd) 1 26 := ⟨by decide +kernel, rfl⟩
theorem eR_takeOf_26 : pd_i mR_takeOf 26 (.iaload) 1 27 := ⟨by decide +kernel, rfl⟩
theorem eR_takeOf_27 : pd_il mR_takeOf 27 3 28 := Or.inl ⟨3, rfl, by decide +kernel, rfl⟩
theorem eR_takeOf_28 : pd_i mR_takeOf 28 (.iadd) 1 29 := ⟨by decide +kernel, rfl⟩
theorem eR_takeOf_29 : pd_ks mR_takeOf 29 mR_atMost 1 32 := ⟨156, ⟨by decide +kernel, rfl⟩, Or.inl (pd_m 916 (by decide +kernel) (by decide +kernel)), (pd_m 917 (by decide +kernel) (by decide +kernel)), kR_atMost⟩
theorem eR_takeOf_32 : pd_i mR_takeOf 32 (.iastore) 1 33 := ⟨by decide +kernel, rfl⟩
theorem eR_takeOf_33 : pd_rd mR_takeOf 33 none := (by decide +kernel : decode mR_takeOf.2.1 33 = .ok (.return_, 1))
theorem eR_passOn_0 : pd_ic mR_passOn 0 0 1 := Or.inl ⟨by decide +kernel, rfl⟩
theorem eR_passOn_1 : pd_is mR_passOn 1 2 2 := ⟨by decide, Or.inl ⟨2, rfl, by decide +kernel, rfl⟩⟩
theorem eR_passOn_2 : pd_ic mR_passOn 2 0 3 := Or.inl ⟨by decide +kernel, rfl⟩
theorem eR_passOn_3 : pd_is mR_passOn 3 3 4 := ⟨by decide, Or.inl ⟨3, rfl, by decide +kernel, rfl⟩⟩
theorem eR_passOn_4 : pd_il mR_passOn 4 3 5 := Or.inl ⟨3, rfl, by decide +kernel, rfl⟩
theorem eR_passOn_5 : pd_al mR_passOn 5 0 6 := Or.inl ⟨0, rfl, by decide +kernel, rfl⟩
theorem eR_passOn_6 : pd_gf mR_passOn 6 12 3 9 := ⟨17, _, ⟨by decide +kernel, rfl⟩, fR_17_12⟩
theorem eR_passOn_9 : pd_ic mR_passOn 9 0 10 := Or.inl ⟨by decide +kernel, rfl⟩
theorem eR_passOn_10 : pd_i mR_passOn 10 (.iaload) 1 11 := ⟨by decide +kernel, rfl⟩
theorem eR_passOn_11 : pd_b2 mR_passOn 11 .ge 14 110 := ⟨99, ⟨by decide +kernel, rfl⟩, by decide⟩
theorem eR_passOn_14 : pd_al mR_passOn 14 1 15 := Or.inl ⟨1, rfl, by decide +kernel, rfl⟩
theorem eR_passOn_15 : pd_ic mR_passOn 15 2 16 := Or.inl ⟨by decide +kernel, rfl⟩
theorem eR_passOn_16 : pd_il mR_passOn 16 3 17 := Or.inl ⟨3, rfl, by decide +kernel, rfl⟩
theorem eR_passOn_17 : pd_i mR_passOn 17 (.iadd) 1 18 := ⟨by decide +kernel, rfl⟩
theorem eR_passOn_18 : pd_i mR_passOn 18 (.iaload) 1 19 := ⟨by decide +kernel, rfl⟩
theorem eR_passOn_19 : pd_al mR_passOn 19 0 20 := Or.inl ⟨0, rfl, by decide +kernel, rfl⟩
theorem eR_passOn_20 : pd_gf mR_passOn 20 12 8 23 := ⟨32, _, ⟨by decide +kernel, rfl⟩, fR_32_12⟩
theorem eR_passOn_23 : pd_ic mR_passOn 23 4 24 := Or.inl ⟨by decide +kernel, rfl⟩
theorem eR_passOn_24 : pd_al mR_passOn 24 1 25 := Or.inl ⟨1, rfl, by decide +kernel, rfl⟩
theorem eR_passOn_25 : pd_ic mR_passOn 25 0 26 := Or.inl ⟨by decide +kernel, rfl⟩
theorem eR_passOn_26 : pd_i mR_passOn 26 (.iaload) 1 27 := ⟨by decide +kernel, rfl⟩
theorem eR_passOn_27 : pd_i mR_passOn 27 (.imul) 1 28 := ⟨by decide +kernel, rfl⟩
theorem eR_passOn_28 : pd_il mR_passOn 28 3 29 := Or.inl ⟨3, rfl, by decide +kernel, rfl⟩
theorem eR_passOn_29 : pd_i mR_passOn 29 (.iadd) 1 30 := ⟨by decide +kernel, rfl⟩
theorem eR_passOn_30 : pd_i mR_passOn 30 (.iaload) 1 31 := ⟨by decide +kernel, rfl⟩
theorem eR_passOn_31 : pd_i mR_passOn 31 (.iadd) 1 32 := ⟨by decide +kernel, rfl⟩
theorem eR_passOn_32 : pd_ks mR_passOn 32 mR_atMost 1 35 := ⟨156, ⟨by decide +kernel, rfl⟩, Or.inl (pd_m 916 (by decide +kernel) (by decide +kernel)), (pd_m 917 (by decide +kernel) (by decide +kernel)), kR_atMost⟩
theorem eR_passOn_35 : pd_al mR_passOn 35 0 36 := Or.inl ⟨0, rfl, by decide +kernel, rfl⟩
theorem eR_passOn_36 : pd_gf mR_passOn 36 12 9 39 := ⟨35, _, ⟨by decide +kernel, rfl⟩, fR_35_12⟩
theorem eR_passOn_39 : pd_ic mR_passOn 39 4 40 := Or.inl ⟨by decide +kernel, rfl⟩
theorem eR_passOn_40 : pd_al mR_passOn 40 1 41 := Or.inl ⟨1, rfl, by decide +kernel, rfl⟩
theorem eR_passOn_41 : pd_ic mR_passOn 41 0 42 := Or.inl ⟨by decide +kernel, rfl⟩
theorem eR_passOn_42 : pd_i mR_passOn 42 (.iaload) 1 43 := ⟨by decide +kernel, rfl⟩
theorem eR_passOn_43 : pd_i mR_passOn 43 (.imul) 1 44 := ⟨by decide +kernel, rfl⟩
theorem eR_passOn_44 : pd_il mR_passOn 44 3 45 := Or.inl ⟨3, rfl, by decide +kernel, rfl⟩
theorem eR_passOn_45 : pd_i mR_passOn 45 (.iadd) 1 46 := ⟨by decide +kernel, rfl⟩
theorem eR_passOn_46 : pd_i mR_passOn 46 (.iaload) 1 47 := ⟨by decide +kernel, rfl⟩
theorem eR_passOn_47 : pd_i mR_passOn 47 (.isub) 1 48 := ⟨by decide +kernel, rfl⟩
theorem eR_passOn_48 : pd_is mR_passOn 48 4 50 := ⟨by decide, Or.inr ⟨by decide +kernel, rfl⟩⟩
theorem eR_passOn_50 : pd_il mR_passOn 50 4 52 := Or.inr ⟨by decide +kernel, rfl⟩
theorem eR_passOn_52 : pd_b1 mR_passOn 52 .ge 55 59 := ⟨7, ⟨by decide +kernel, rfl⟩, by decide⟩
theorem eR_passOn_55 : pd_ic mR_passOn 55 0 56 := Or.inl ⟨by decide +kernel, rfl⟩
theorem eR_passOn_56 : pd_go mR_passOn 56 61 := ⟨5, by decide +kernel, by decide⟩
theorem eR_passOn_59 : pd_il mR_passOn 59 4 61 := Or.inr ⟨by decide +kernel, rfl⟩
theorem eR_passOn_61 : pd_al mR_passOn 61 0 62 := Or.inl ⟨0, rfl, by decide +kernel, rfl⟩
theorem eR_passOn_62 : pd_gf mR_passOn 62 12 5 65 := ⟨23, _, ⟨by decide +kernel, rfl⟩, fR_23_12⟩
theorem eR_passOn_65 : pd_il mR_passOn 65 3 66 := Or.inl ⟨3, rfl, by decide +kernel, rfl⟩
theorem eR_passOn_66 : pd_i mR_passOn 66 (.iaload) 1 67 := ⟨by decide +kernel, rfl⟩
theorem eR_passOn_67 : pd_i mR_passOn 67 (.isub) 1 68 := ⟨by decide +kernel, rfl⟩
theorem eR_passOn_68 : pd_is mR_passOn 68 4 70 := ⟨by decide, Or.inr ⟨by decide +kernel, rfl⟩⟩
theorem eR_passOn_70 : pd_il mR_passOn 70 4 72 := Or.inr ⟨by decide +kernel, rfl⟩
theorem eR_passOn_72 : pd_b1 mR_passOn 72 .ge 75 88 := ⟨16, ⟨by decide +kernel, rfl⟩, by decide⟩
theorem eR_passOn_75 : pd_al mR_passOn 75 1 76 := Or.inl ⟨1, rfl, by decide +kernel, rfl⟩
theorem eR_passOn_76 : pd_ic mR_passOn 76 6 78 := Or.inr (Or.inl ⟨⟨by decide +kernel, rfl⟩, by decide⟩)
theorem eR_passOn_78 : pd_il mR_passOn 78 3 79 := Or.inl ⟨3, rfl, by decide +kernel, rfl⟩
theorem eR_passOn_79 : pd_i mR_passOn 79 (.iadd) 1 80 := ⟨by decide +kernel, rfl⟩
theorem eR_passOn_80 : pd_i mR_passOn 80 (.dup2) 1 81 := ⟨by decide +kernel, rfl⟩
theorem eR_passOn_81 : pd_i mR_passOn 81 (.iaload) 1 82 := ⟨by decide +kernel, rfl⟩
theorem eR_passOn_82 : pd_ic mR_passOn 82 1 83 := Or.inl ⟨by decide +kernel, rfl⟩
theorem eR_passOn_83 : pd_i mR_passOn 83 (.iadd) 1 84 := ⟨by decide +kernel, rfl⟩
theorem eR_passOn_84 : pd_i mR_passOn 84 (.iastore) 1 85 := ⟨by decide +kernel, rfl⟩
theorem eR_passOn_85 : pd_ii mR_passOn 85 2 1 88 := ⟨by decide, by decide +kernel, rfl⟩
theorem eR_passOn_88 : pd_al mR_passOn 88 1 89 := Or.inl ⟨1, rfl, by decide +kernel, rfl⟩
theorem eR_passOn_89 : pd_ic mR_passOn 89 2 90 := Or.inl ⟨by decide +kernel, rfl⟩
theorem eR_passOn_90 : pd_il mR_passOn 90 3 91 := Or.inl ⟨3, rfl, by decide +kernel, rfl⟩
theorem eR_passOn_91 : pd_i mR_passOn 91 (.iadd) 1 92 := ⟨by decide +kernel, rfl⟩
theorem eR_passOn_92 : pd_il mR_passOn 92 4 94 := Or.inr ⟨by decide +kernel, rfl⟩
theorem eR_passOn_94 : pd_b1 mR_passOn 94 .ge 97 101 := ⟨7, ⟨by decide +kernel, rfl⟩, by decide⟩
theorem eR_passOn_97 : pd_ic mR_passOn 97 0 98 := Or.inl ⟨by decide +kernel, rfl⟩
theorem eR_passOn_98 : pd_go mR_passOn 98 103 := ⟨5, by decide +kernel, by decide⟩
theorem eR_passOn_101 : pd_il mR_passOn 101 4 103 := Or.inr ⟨by decide +kernel, rfl⟩
theorem eR_passOn_103 : pd_i mR_passOn 103 (.iastore) 1 104 := ⟨by decide +kernel, rfl⟩
theorem eR_passOn_104 : pd_ii mR_passOn 104 3 1 107 := ⟨by decide, by decide +kernel, rfl⟩
theorem eR_passOn_107 : pd_go mR_passOn 107 4 := ⟨-103, by decide +kernel, by decide⟩
theorem eR_passOn_110 : pd_al mR_passOn 110 1 111 := Or.inl ⟨1, rfl, by decide +kernel, rfl⟩
theorem eR_passOn_111 : pd_ic mR_passOn 111 0 112 := Or.inl ⟨by decide +kernel, rfl⟩
theorem eR_passOn_112 : pd_i mR_passOn 112 (.dup2) 1 113 := ⟨by decide +kernel, rfl⟩
theorem eR_passOn_113 : pd_i mR_passOn 113 (.iaload) 1 114 := ⟨by decide +kernel, rfl⟩
theorem eR_passOn_114 : pd_ic mR_passOn 114 1 115 := Or.inl ⟨by decide +kernel, rfl⟩
theorem eR_passOn_115 : pd_i mR_passOn 115 (.iadd) 1 116 := ⟨by decide +kernel, rfl⟩
theorem eR_passOn_116 : pd_i mR_passOn 116 (.iastore) 1 117 := ⟨by decide +kernel, rfl⟩
theorem eR_passOn_117 : pd_il mR_passOn 117 2 118 := Or.inl ⟨2, rfl, by decide +kernel, rfl⟩
theorem eR_passOn_118 {z : Int} : pd_rd mR_passOn 118 (some (vi z)) := (by decide +kernel : decode mR_passOn.2.1 118 = .ok (.ireturn, 1))
theorem eR_good_0 : pd_al mR_good 0 0 1 := Or.inl ⟨0, rfl, by decide +kernel, rfl⟩
theorem eR_good_1 : pd_il mR_good 1 1 2 := Or.inl ⟨1, rfl, by decide +kernel, rfl⟩
theorem eR_good_2 : pd_kv mR_good 2 mR_isGood 1 5 := ⟨159, ⟨by decide +kernel, rfl⟩, (pd_m 878 (by decide +kernel) (by decide +kernel)), (pd_m 880 (by decide +kernel) (by decide +kernel)), (pd_m 33 (by decide +kernel) (by decide +kernel)), kR_isGood⟩
theorem eR_good_5 : pd_b1 mR_good 5 .ne 8 10 := ⟨5, ⟨by decide +kernel, rfl⟩, by decide⟩
theorem eR_good_8 : pd_ic mR_good 8 (-1) 9 := Or.inl ⟨by decide +kernel, rfl⟩
theorem eR_good_9 {z : Int} : pd_rd mR_good 9 (some (vi z)) := (by decide +kernel : decode mR_good.2.1 9 = .ok (.ireturn, 1))
theorem eR_good_10 : pd_il mR_good 10 2 11 := Or.inl ⟨2, rfl, by decide +kernel, rfl⟩
theorem eR_good_11 : pd_i mR_good 11 (.tableswitch 98 0 6 #[41, 48, 55, 62, 69, 78, 88]) 41 52 := ⟨by decide +kernel, rfl⟩
theorem eR_good_52 : pd_al mR_good 52 0 53 := Or.inl ⟨0, rfl, by decide +kernel, rfl⟩
theorem eR_good_53 : pd_gf mR_good 53 12 4 56 := ⟨20, _, ⟨by decide +kernel, rfl⟩, fR_20_12⟩
theorem eR_good_56 : pd_il mR_good 56 1 57 := Or.inl ⟨1, rfl, by decide +kernel, rfl⟩
theorem eR_good_57 : pd_i mR_good 57 (.iaload) 1 58 := ⟨by decide +kernel, rfl⟩
theorem eR_good_58 {z : Int} : pd_rd mR_good 58 (some (vi z)) := (by decide +kernel : decode mR_good.2.1 58 = .ok (.ireturn, 1))
theorem eR_good_59 : pd_al mR_good 59 0 60 := Or.inl ⟨0, rfl, by decide +kernel, rfl⟩
theorem eR_good_60 : pd_gf mR_good 60 12 5 63 := ⟨23, _, ⟨by decide +kernel, rfl⟩, fR_23_12⟩
theorem eR_good_63 : pd_il mR_good 63 1 64 := Or.inl ⟨1, rfl, by decide +kernel, rfl⟩
theorem eR_good_64 : pd_i mR_good 64 (.iaload) 1 65 := ⟨by decide +kernel, rfl⟩
theorem eR_good_65 {z : Int} : pd_rd mR_good 65 (some (vi z)) := (by decide +kernel : decode mR_good.2.1 65 = .ok (.ireturn, 1))
theorem eR_good_66 : pd_al mR_good 66 0 67 := Or.inl ⟨0, rfl, by decide +kernel, rfl⟩
theorem eR_good_67 : pd_gf mR_good 67 12 6 70 := ⟨26, _, ⟨by decide +kernel, rfl⟩, fR_26_12⟩
theorem eR_good_70 : pd_il mR_good 70 1 71 := Or.inl ⟨1, rfl, by decide +kernel, rfl⟩
theorem eR_good_71 : pd_i mR_good 71 (.iaload) 1 72 := ⟨by decide +kernel, rfl⟩
theorem eR_good_72 {z : Int} : pd_rd mR_good 72 (some (vi z)) := (by decide +kernel : decode mR_good.2.1 72 = .ok (.ireturn, 1))
theorem eR_good_73 : pd_al mR_good 73 0 74 := Or.inl ⟨0, rfl, by decide +kernel, rfl⟩
theorem eR_good_74 : pd_gf mR_good 74 12 7 77 := ⟨29, _, ⟨by decide +kernel, rfl⟩, fR_29_12⟩
theorem eR_good_77 : pd_il mR_good 77 1 78 := Or.inl ⟨1, rfl, by decide +kernel, rfl⟩
theorem eR_good_78 : pd_i mR_good 78 (.iaload) 1 79 := ⟨by decide +kernel, rfl⟩
theorem eR_good_79 {z : Int} : pd_rd mR_good 79 (some (vi z)) := (by decide +kernel : decode mR_good.2.1 79 = .ok (.ireturn, 1))
theorem eR_good_80 : pd_al mR_good 80 0 81 := Or.inl ⟨0, rfl, by decide +kernel, rfl⟩
theorem eR_good_81 : pd_gf mR_good 81 12 17 84 := ⟨38, _, ⟨by decide +kernel, rfl⟩, fR_38_12⟩
theorem eR_good_84 : pd_ic mR_good 84 2 85 := Or.inl ⟨by decide +kernel, rfl⟩
theorem eR_good_85 : pd_il mR_good 85 1 86 := Or.inl ⟨1, rfl, by decide +kernel, rfl⟩
theorem eR_good_86 : pd_i mR_good 86 (.iadd) 1 87 := ⟨by decide +kernel, rfl⟩
theorem eR_good_87 : pd_i mR_good 87 (.iaload) 1 88 := ⟨by decide +kernel, rfl⟩
theorem eR_good_88 {z : Int} : pd_rd mR_good 88 (some (vi z)) := (by decide +kernel : decode mR_good.2.1 88 = .ok (.ireturn, 1))
theorem eR_good_89 : pd_al mR_good 89 0 90 := Or.inl ⟨0, rfl, by decide +kernel, rfl⟩
theorem eR_good_90 : pd_gf mR_good 90 12 17 93 := ⟨38, _, ⟨by decide +kernel, rfl⟩, fR_38_12⟩
theorem eR_good_93 : pd_ic mR_good 93 6 95 := Or.inr (Or.inl ⟨⟨by decide +kernel, rfl⟩, by decide⟩)
theorem eR_good_95 : pd_il mR_good 95 1 96 := Or.inl ⟨1, rfl, by decide +kernel, rfl⟩
theorem eR_good_96 : pd_i mR_good 96 (.iadd) 1 97 := ⟨by decide +kernel, rfl⟩
theorem eR_good_97 : pd_i mR_good 97 (.iaload) 1 98 := ⟨by decide +kernel, rfl⟩
theorem eR_good_98 {z : Int} : pd_rd mR_good 98 (some (vi z)) := (by decide +kernel : decode mR_good.2.1 98 = .ok (.ireturn, 1))
theorem eR_good_99 : pd_al mR_good 99 0 100 := Or.inl ⟨0, rfl, by decide +kernel, rfl⟩
theorem eR_good_100 : pd_al mR_good 100 0 101 := Or.inl ⟨0, rfl, by decide +kernel, rfl⟩
theorem eR_good_101 : pd_gf mR_good 101 12 17 104 := ⟨38, _, ⟨by decide +kernel, rfl⟩, fR_38_12⟩
theorem eR_good_104 : pd_il mR_good 104 1 105 := Or.inl ⟨1, rfl, by decide +kernel, rfl⟩
theorem eR_good_105 : pd_kv mR_good 105 mR_canTake 2 108 := ⟨162, ⟨by decide +kernel, rfl⟩, (pd_m 882 (by decide +kernel) (by decide +kernel)), (pd_m 884 (by decide +kernel) (by decide +kernel)), (pd_m 34 (by decide +kernel) (by decide +kernel)), kR_canTake⟩
theorem eR_good_108 {z : Int} : pd_rd mR_good 108 (some (vi z)) := (by decide +kernel : decode mR_good.2.1 108 = .ok (.ireturn, 1))
theorem eR_good_109 : pd_ic mR_good 109 (-1) 110 := Or.inl ⟨by decide +kernel, rfl⟩
theorem eR_good_110 {z : Int} : pd_rd mR_good 110 (some (vi z)) := (by decide +kernel : decode mR_good.2.1 110 = .ok (.ireturn, 1))
theorem eR_day_0 : pd_il mR_day 0 1 1 := Or.inl ⟨1, rfl, by decide +kernel, rfl⟩
theorem eR_day_1 : pd_ks mR_day 1 mR_isDay 1 4 := ⟨166, ⟨by decide +kernel, rfl⟩, Or.inl (pd_m 901 (by decide +kernel) (by decide +kernel)), (pd_m 902 (by decide +kernel) (by decide +kernel)), kR_isDay⟩
theorem eR_day_4 : pd_b1 mR_day 4 .eq 7 15 := ⟨11, ⟨by decide +kernel, rfl⟩, by decide⟩
theorem eR_day_7 : pd_al mR_day 7 0 8 := Or.inl ⟨0, rfl, by decide +kernel, rfl⟩
theorem eR_day_8 : pd_il mR_day 8 2 9 := Or.inl ⟨2, rfl, by decide +kernel, rfl⟩
theorem eR_day_9 : pd_kv mR_day 9 mR_isGood 1 12 := ⟨159, ⟨by decide +kernel, rfl⟩, (pd_m 878 (by decide +kernel) (by decide +kernel)), (pd_m 880 (by decide +kernel) (by decide +kernel)), (pd_m 33 (by decide +kernel) (by decide +kernel)), kR_isGood⟩
theorem eR_day_12 : pd_b1 mR_day 12 .ne 15 17 := ⟨5, ⟨by decide +kernel, rfl⟩, by decide⟩
theorem eR_day_15 : pd_ic mR_day 15 (-1) 16 := Or.inl ⟨by decide +kernel, rfl⟩
theorem eR_day_16 {z : Int} : pd_rd mR_day 16 (some (vi z)) := (by decide +kernel : decode mR_day.2.1 16 = .ok (.ireturn, 1))
theorem eR_day_17 : pd_il mR_day 17 3 18 := Or.inl ⟨3, rfl, by decide +kernel, rfl⟩
theorem eR_day_18 : pd_i mR_day 18 (.tableswitch 62 0 2 #[26, 37, 48]) 26 44 := ⟨by decide +kernel, rfl⟩
theorem eR_day_44 : pd_al mR_day 44 0 45 := Or.inl ⟨0, rfl, by decide +kernel, rfl⟩
theorem eR_day_45 : pd_gf mR_day 45 12 8 48 := ⟨32, _, ⟨by decide +kernel, rfl⟩, fR_32_12⟩
theorem eR_day_48 : pd_ic mR_day 48 4 49 := Or.inl ⟨by decide +kernel, rfl⟩
theorem eR_day_49 : pd_il mR_day 49 1 50 := Or.inl ⟨1, rfl, by decide +kernel, rfl⟩
theorem eR_day_50 : pd_i mR_day 50 (.imul) 1 51 := ⟨by decide +kernel, rfl⟩
theorem eR_day_51 : pd_il mR_day 51 2 52 := Or.inl ⟨2, rfl, by decide +kernel, rfl⟩
theorem eR_day_52 : pd_i mR_day 52 (.iadd) 1 53 := ⟨by decide +kernel, rfl⟩
theorem eR_day_53 : pd_i mR_day 53 (.iaload) 1 54 := ⟨by decide +kernel, rfl⟩
theorem eR_day_54 {z : Int} : pd_rd mR_day 54 (some (vi z)) := (by decide +kernel : decode mR_day.2.1 54 = .ok (.ireturn, 1))
theorem eR_day_55 : pd_al mR_day 55 0 56 := Or.inl ⟨0, rfl, by decide +kernel, rfl⟩
theorem eR_day_56 : pd_gf mR_day 56 12 9 59 := ⟨35, _, ⟨by decide +kernel, rfl⟩, fR_35_12⟩
theorem eR_day_59 : pd_ic mR_day 59 4 60 := Or.inl ⟨by decide +kernel, rfl⟩
theorem eR_day_60 : pd_il mR_day 60 1 61 := Or.inl ⟨1, rfl, by decide +kernel, rfl⟩
theorem eR_day_61 : pd_i mR_day 61 (.imul) 1 62 := ⟨by decide +kernel, rfl⟩
theorem eR_day_62 : pd_il mR_day 62 2 63 := Or.inl ⟨2, rfl, by decide +kernel, rfl⟩
theorem eR_day_63 : pd_i mR_day 63 (.iadd) 1 64 := ⟨by decide +kernel, rfl⟩
theorem eR_day_64 : pd_i mR_day 64 (.iaload) 1 65 := ⟨by decide +kernel, rfl⟩
theorem eR_day_65 {z : Int} : pd_rd mR_day 65 (some (vi z)) := (by decide +kernel : decode mR_day.2.1 65 = .ok (.ireturn, 1))
theorem eR_day_66 : pd_al mR_day 66 0 67 := Or.inl ⟨0, rfl, by decide +kernel, rfl⟩
theorem eR_day_67 : pd_gf mR_day 67 12 17 70 := ⟨38, _, ⟨by decide +kernel, rfl⟩, fR_38_12⟩
theorem eR_day_70 : pd_ic mR_day 70 10 72 := Or.inr (Or.inl ⟨⟨by decide +kernel, rfl⟩, by decide⟩)
theorem eR_day_72 : pd_ic mR_day 72 4 73 := Or.inl ⟨by decide +kernel, rfl⟩
theorem eR_day_73 : pd_il mR_day 73 1 74 := Or.inl ⟨1, rfl, by decide +kernel, rfl⟩
theorem eR_day_74 : pd_i mR_day 74 (.imul) 1 75 := ⟨by decide +kernel, rfl⟩
theorem eR_day_75 : pd_i mR_day 75 (.iadd) 1 76 := ⟨by decide +kernel, rfl⟩
theorem eR_day_76 : pd_il mR_day 76 2 77 := Or.inl ⟨2, rfl, by decide +kernel, rfl⟩
theorem eR_day_77 : pd_i mR_day 77 (.iadd) 1 78 := ⟨by decide +kernel, rfl⟩
theorem eR_day_78 : pd_i mR_day 78 (.iaload) 1 79 := ⟨by decide +kernel, rfl⟩
theorem eR_day_79 {z : Int} : pd_rd mR_day 79 (some (vi z)) := (by decide +kernel : decode mR_day.2.1 79 = .ok (.ireturn, 1))
theorem eR_day_80 : pd_ic mR_day 80 (-1) 81 := Or.inl ⟨by decide +kernel, rfl⟩
theorem eR_day_81 {z : Int} : pd_rd mR_day 81 (some (vi z)) := (by decide +kernel : decode mR_day.2.1 81 = .ok (.ireturn, 1))
theorem eR_know_0 : pd_al mR_know 0 0 1 := Or.inl ⟨0, rfl, by decide +kernel, rfl⟩
theorem eR_know_1 : pd_gf mR_know 1 12 18 4 := ⟨41, _, ⟨by decide +kernel, rfl⟩, fR_41_12⟩
theorem eR_know_4 : pd_ic mR_know 4 0 5 := Or.inl ⟨by decide +kernel, rfl⟩
theorem eR_know_5 : pd_i mR_know 5 (.iaload) 1 6 := ⟨by decide +kernel, rfl⟩
theorem eR_know_6 : pd_ic mR_know 6 10 8 := Or.inr (Or.inl ⟨⟨by decide +kernel, rfl⟩, by decide⟩)
theorem eR_know_8 : pd_b2 mR_know 8 .ne 11 51 := ⟨43, ⟨by decide +kernel, rfl⟩, by decide⟩
theorem eR_know_11 : pd_ic mR_know 11 0 12 := Or.inl ⟨by decide +kernel, rfl⟩
theorem eR_know_12 : pd_is mR_know 12 1 13 := ⟨by decide, Or.inl ⟨1, rfl, by decide +kernel, rfl⟩⟩
theorem eR_know_13 : pd_il mR_know 13 1 14 := Or.inl ⟨1, rfl, by decide +kernel, rfl⟩
theorem eR_know_14 : pd_ic mR_know 14 810 17 := Or.inr (Or.inr (Or.inl ⟨⟨by decide +kernel, rfl⟩, by decide⟩))
theorem eR_know_17 : pd_b2 mR_know 17 .ge 20 41 := ⟨24, ⟨by decide +kernel, rfl⟩, by decide⟩
theorem eR_know_20 : pd_al mR_know 20 0 21 := Or.inl ⟨0, rfl, by decide +kernel, rfl⟩
theorem eR_know_21 : pd_gf mR_know 21 12 19 24 := ⟨44, _, ⟨by decide +kernel, rfl⟩, fR_44_12⟩
theorem eR_know_24 : pd_il mR_know 24 1 25 := Or.inl ⟨1, rfl, by decide +kernel, rfl⟩
theorem eR_know_25 : pd_al mR_know 25 0 26 := Or.inl ⟨0, rfl, by decide +kernel, rfl⟩
theorem eR_know_26 : pd_gf mR_know 26 12 19 29 := ⟨44, _, ⟨by decide +kernel, rfl⟩, fR_44_12⟩
theorem eR_know_29 : pd_ic mR_know 29 90 31 := Or.inr (Or.inl ⟨⟨by decide +kernel, rfl⟩, by decide⟩)
theorem eR_know_31 : pd_il mR_know 31 1 32 := Or.inl ⟨1, rfl, by decide +kernel, rfl⟩
theorem eR_know_32 : pd_i mR_know 32 (.iadd) 1 33 := ⟨by decide +kernel, rfl⟩
theorem eR_know_33 : pd_i mR_know 33 (.iaload) 1 34 := ⟨by decide +kernel, rfl⟩
theorem eR_know_34 : pd_i mR_know 34 (.iastore) 1 35 := ⟨by decide +kernel, rfl⟩
theorem eR_know_35 : pd_ii mR_know 35 1 1 38 := ⟨by decide, by decide +kernel, rfl⟩
theorem eR_know_38 : pd_go mR_know 38 13 := ⟨-25, by decide +kernel, by decide⟩
theorem eR_know_41 : pd_al mR_know 41 0 42 := Or.inl ⟨0, rfl, by decide +kernel, rfl⟩
theorem eR_know_42 : pd_gf mR_know 42 12 18 45 := ⟨41, _, ⟨by decide +kernel, rfl⟩, fR_41_12⟩
theorem eR_know_45 : pd_ic mR_know 45 0 46 := Or.inl ⟨by decide +kernel, rfl⟩
theorem eR_know_46 : pd_i mR_know 46 (.dup2) 1 47 := ⟨by decide +kernel, rfl⟩
theorem eR_know_47 : pd_i mR_know 47 (.iaload) 1 48 := ⟨by decide +kernel, rfl⟩
theorem eR_know_48 : pd_ic mR_know 48 1 49 := Or.inl ⟨by decide +kernel, rfl⟩
theorem eR_know_49 : pd_i mR_know 49 (.isub) 1 50 := ⟨by decide +kernel, rfl⟩
theorem eR_know_50 : pd_i mR_know 50 (.iastore) 1 51 := ⟨by decide +kernel, rfl⟩
theorem eR_know_51 : pd_ic mR_know 51 0 52 := Or.inl ⟨by decide +kernel, rfl⟩
theorem eR_know_52 : pd_is mR_know 52 1 53 := ⟨by decide, Or.inl ⟨1, rfl, by decide +kernel, rfl⟩⟩
theorem eR_know_53 : pd_il mR_know 53 1 54 := Or.inl ⟨1, rfl, by decide +kernel, rfl⟩
theorem eR_know_54 : pd_ic mR_know 54 90 56 := Or.inr (Or.inl ⟨⟨by decide +kernel, rfl⟩, by decide⟩)
theorem eR_know_56 : pd_b2 mR_know 56 .ge 59 87 := ⟨31, ⟨by decide +kernel, rfl⟩, by decide⟩
theorem eR_know_59 : pd_al mR_know 59 0 60 := Or.inl ⟨0, rfl, by decide +kernel, rfl⟩
theorem eR_know_60 : pd_gf mR_know 60 12 19 63 := ⟨44, _, ⟨by decide +kernel, rfl⟩, fR_44_12⟩
theorem eR_know_63 : pd_ic mR_know 63 90 65 := Or.inr (Or.inl ⟨⟨by decide +kernel, rfl⟩, by decide⟩)
theorem eR_know_65 : pd_al mR_know 65 0 66 := Or.inl ⟨0, rfl, by decide +kernel, rfl⟩
theorem eR_know_66 : pd_gf mR_know 66 12 18 69 := ⟨41, _, ⟨by decide +kernel, rfl⟩, fR_41_12⟩
theorem eR_know_69 : pd_ic mR_know 69 0 70 := Or.inl ⟨by decide +kernel, rfl⟩
theorem eR_know_70 : pd_i mR_know 70 (.iaload) 1 71 := ⟨by decide +kernel, rfl⟩
theorem eR_know_71 : pd_i mR_know 71 (.imul) 1 72 := ⟨by decide +kernel, rfl⟩
theorem eR_know_72 : pd_il mR_know 72 1 73 := Or.inl ⟨1, rfl, by decide +kernel, rfl⟩
theorem eR_know_73 : pd_i mR_know 73 (.iadd) 1 74 := ⟨by decide +kernel, rfl⟩
theorem eR_know_74 : pd_al mR_know 74 0 75 := Or.inl ⟨0, rfl, by decide +kernel, rfl⟩
theorem eR_know_75 : pd_gf mR_know 75 12 17 78 := ⟨38, _, ⟨by decide +kernel, rfl⟩, fR_38_12⟩
theorem eR_know_78 : pd_il mR_know 78 1 79 := Or.inl ⟨1, rfl, by decide +kernel, rfl⟩
theorem eR_know_79 : pd_i mR_know 79 (.iaload) 1 80 := ⟨by decide +kernel, rfl⟩
theorem eR_know_80 : pd_i mR_know 80 (.iastore) 1 81 := ⟨by decide +kernel, rfl⟩
theorem eR_know_81 : pd_ii mR_know 81 1 1 84 := ⟨by decide, by decide +kernel, rfl⟩
theorem eR_know_84 : pd_go mR_know 84 53 := ⟨-31, by decide +kernel, by decide⟩
theorem eR_know_87 : pd_al mR_know 87 0 88 := Or.inl ⟨0, rfl, by decide +kernel, rfl⟩
theorem eR_know_88 : pd_gf mR_know 88 12 18 91 := ⟨41, _, ⟨by decide +kernel, rfl⟩, fR_41_12⟩
theorem eR_know_91 : pd_ic mR_know 91 0 92 := Or.inl ⟨by decide +kernel, rfl⟩
theorem eR_know_92 : pd_i mR_know 92 (.dup2) 1 93 := ⟨by decide +kernel, rfl⟩
theorem eR_know_93 : pd_i mR_know 93 (.iaload) 1 94 := ⟨by decide +kernel, rfl⟩
theorem eR_know_94 : pd_ic mR_know 94 1 95 := Or.inl ⟨by decide +kernel, rfl⟩
theorem eR_know_95 : pd_i mR_know 95 (.iadd) 1 96 := ⟨by decide +kernel, rfl⟩
theorem eR_know_96 : pd_i mR_know 96 (.iastore) 1 97 := ⟨by decide +kernel, rfl⟩
theorem eR_know_97 : pd_rd mR_know 97 none := (by decide +kernel : decode mR_know.2.1 97 = .ok (.return_, 1))
theorem eR_goes_0 : pd_al mR_goes 0 0 1 := Or.inl ⟨0, rfl, by decide +kernel, rfl⟩
theorem eR_goes_1 : pd_gf mR_goes 1 12 17 4 := ⟨38, _, ⟨by decide +kernel, rfl⟩, fR_38_12⟩
theorem eR_goes_4 : pd_ic mR_goes 4 0 5 := Or.inl ⟨by decide +kernel, rfl⟩
theorem eR_goes_5 : pd_i mR_goes 5 (.iaload) 1 6 := ⟨by decide +kernel, rfl⟩
theorem eR_goes_6 : pd_ic mR_goes 6 20 8 := Or.inr (Or.inl ⟨⟨by decide +kernel, rfl⟩, by decide⟩)
theorem eR_goes_8 : pd_b2 mR_goes 8 .ne 11 14 := ⟨6, ⟨by decide +kernel, rfl⟩, by decide⟩
theorem eR_goes_11 : pd_ic mR_goes 11 (-2) 13 := Or.inr (Or.inl ⟨⟨by decide +kernel, rfl⟩, by decide⟩)
theorem eR_goes_13 {z : Int} : pd_rd mR_goes 13 (some (vi z)) := (by decide +kernel : decode mR_goes.2.1 13 = .ok (.ireturn, 1))
theorem eR_goes_14 : pd_al mR_goes 14 0 15 := Or.inl ⟨0, rfl, by decide +kernel, rfl⟩
theorem eR_goes_15 : pd_kv mR_goes 15 mR_know 0 18 := ⟨169, ⟨by decide +kernel, rfl⟩, (pd_m 908 (by decide +kernel) (by decide +kernel)), (pd_m 910 (by decide +kernel) (by decide +kernel)), (pd_m 37 (by decide +kernel) (by decide +kernel)), kR_know⟩
theorem eR_goes_18 : pd_al mR_goes 18 0 19 := Or.inl ⟨0, rfl, by decide +kernel, rfl⟩
theorem eR_goes_19 : pd_al mR_goes 19 0 20 := Or.inl ⟨0, rfl, by decide +kernel, rfl⟩
theorem eR_goes_20 : pd_gf mR_goes 20 12 17 23 := ⟨38, _, ⟨by decide +kernel, rfl⟩, fR_38_12⟩
theorem eR_goes_23 : pd_kv mR_goes 23 mR_passOn 1 26 := ⟨172, ⟨by decide +kernel, rfl⟩, (pd_m 912 (by decide +kernel) (by decide +kernel)), (pd_m 914 (by decide +kernel) (by decide +kernel)), (pd_m 38 (by decide +kernel) (by decide +kernel)), kR_passOn⟩
theorem eR_goes_26 {z : Int} : pd_rd mR_goes 26 (some (vi z)) := (by decide +kernel : decode mR_goes.2.1 26 = .ok (.ireturn, 1))
theorem eR_takes_0 : pd_al mR_takes 0 0 1 := Or.inl ⟨0, rfl, by decide +kernel, rfl⟩
theorem eR_takes_1 : pd_il mR_takes 1 1 2 := Or.inl ⟨1, rfl, by decide +kernel, rfl⟩
theorem eR_takes_2 : pd_kv mR_takes 2 mR_isGood 1 5 := ⟨159, ⟨by decide +kernel, rfl⟩, (pd_m 878 (by decide +kernel) (by decide +kernel)), (pd_m 880 (by decide +kernel) (by decide +kernel)), (pd_m 33 (by decide +kernel) (by decide +kernel)), kR_isGood⟩
theorem eR_takes_5 : pd_b1 mR_takes 5 .eq 8 18 := ⟨13, ⟨by decide +kernel, rfl⟩, by decide⟩
theorem eR_takes_8 : pd_il mR_takes 8 2 9 := Or.inl ⟨2, rfl, by decide +kernel, rfl⟩
theorem eR_takes_9 : pd_ic mR_takes 9 1 10 := Or.inl ⟨by decide +kernel, rfl⟩
theorem eR_takes_10 : pd_ic mR_takes 10 30 12 := Or.inr (Or.inl ⟨⟨by decide +kernel, rfl⟩, by decide⟩)
theorem eR_takes_12 : pd_ks mR_takes 12 mR_in 3 15 := ⟨75, ⟨by decide +kernel, rfl⟩, Or.inl (pd_m 827 (by decide +kernel) (by decide +kernel)), (pd_m 828 (by decide +kernel) (by decide +kernel)), kR_in⟩
theorem eR_takes_15 : pd_b1 mR_takes 15 .ne 18 20 := ⟨5, ⟨by decide +kernel, rfl⟩, by decide⟩
theorem eR_takes_18 : pd_ic mR_takes 18 (-1) 19 := Or.inl ⟨by decide +kernel, rfl⟩
theorem eR_takes_19 {z : Int} : pd_rd mR_takes 19 (some (vi z)) := (by decide +kernel : decode mR_takes.2.1 19 = .ok (.ireturn, 1))
theorem eR_takes_20 : pd_al mR_takes 20 0 21 := Or.inl ⟨0, rfl, by decide +kernel, rfl⟩
theorem eR_takes_21 : pd_al mR_takes 21 0 22 := Or.inl ⟨0, rfl, by decide +kernel, rfl⟩
theorem eR_takes_22 : pd_gf mR_takes 22 12 17 25 := ⟨38, _, ⟨by decide +kernel, rfl⟩, fR_38_12⟩
theorem eR_takes_25 : pd_kv mR_takes 25 mR_opens 1 28 := ⟨152, ⟨by decide +kernel, rfl⟩, (pd_m 886 (by decide +kernel) (by decide +kernel)), (pd_m 888 (by decide +kernel) (by decide +kernel)), (pd_m 35 (by decide +kernel) (by decide +kernel)), kR_opens⟩
theorem eR_takes_28 : pd_ic mR_takes 28 (-9) 30 := Or.inr (Or.inl ⟨⟨by decide +kernel, rfl⟩, by decide⟩)
theorem eR_takes_30 : pd_b2 mR_takes 30 .eq 33 46 := ⟨16, ⟨by decide +kernel, rfl⟩, by decide⟩
theorem eR_takes_33 : pd_il mR_takes 33 2 34 := Or.inl ⟨2, rfl, by decide +kernel, rfl⟩
theorem eR_takes_34 : pd_al mR_takes 34 0 35 := Or.inl ⟨0, rfl, by decide +kernel, rfl⟩
theorem eR_takes_35 : pd_al mR_takes 35 0 36 := Or.inl ⟨0, rfl, by decide +kernel, rfl⟩
theorem eR_takes_36 : pd_gf mR_takes 36 12 17 39 := ⟨38, _, ⟨by decide +kernel, rfl⟩, fR_38_12⟩
theorem eR_takes_39 : pd_il mR_takes 39 1 40 := Or.inl ⟨1, rfl, by decide +kernel, rfl⟩
theorem eR_takes_40 : pd_kv mR_takes 40 mR_canTake 2 43 := ⟨162, ⟨by decide +kernel, rfl⟩, (pd_m 882 (by decide +kernel) (by decide +kernel)), (pd_m 884 (by decide +kernel) (by decide +kernel)), (pd_m 34 (by decide +kernel) (by decide +kernel)), kR_canTake⟩
theorem eR_takes_43 : pd_b2 mR_takes 43 .le 46 49 := ⟨6, ⟨by decide +kernel, rfl⟩, by decide⟩
theorem eR_takes_46 : pd_ic mR_takes 46 (-2) 48 := Or.inr (Or.inl ⟨⟨by decide +kernel, rfl⟩, by decide⟩)
theorem eR_takes_48 {z : Int} : pd_rd mR_takes 48 (some (vi z)) := (by decide +kernel : decode mR_takes.2.1 48 = .ok (.ireturn, 1))
theorem eR_takes_49 : pd_al mR_takes 49 0 50 := Or.inl ⟨0, rfl, by decide +kernel, rfl⟩
theorem eR_takes_50 : pd_kv mR_takes 50 mR_know 0 53 := ⟨169, ⟨by decide +kernel, rfl⟩, (pd_m 908 (by decide +kernel) (by decide +kernel)), (pd_m 910 (by decide +kernel) (by decide +kernel)), (pd_m 37 (by decide +kernel) (by decide +kernel)), kR_know⟩
theorem eR_takes_53 : pd_al mR_takes 53 0 54 := Or.inl ⟨0, rfl, by decide +kernel, rfl⟩
theorem eR_takes_54 : pd_al mR_takes 54 0 55 := Or.inl ⟨0, rfl, by decide +kernel, rfl⟩
theorem eR_takes_55 : pd_gf mR_takes 55 12 17 58 := ⟨38, _, ⟨by decide +kernel, rfl⟩, fR_38_12⟩
theorem eR_takes_58 : pd_il mR_takes 58 1 59 := Or.inl ⟨1, rfl, by decide +kernel, rfl⟩
theorem eR_takes_59 : pd_il mR_takes 59 2 60 := Or.inl ⟨2, rfl, by decide +kernel, rfl⟩
theorem eR_takes_60 : pd_kv mR_takes 60 mR_takeOf 3 63 := ⟨175, ⟨by decide +kernel, rfl⟩, (pd_m 923 (by decide +kernel) (by decide +kernel)), (pd_m 925 (by decide +kernel) (by decide +kernel)), (pd_m 39 (by decide +kernel) (by decide +kernel)), kR_takeOf⟩
theorem eR_takes_63 : pd_al mR_takes 63 0 64 := Or.inl ⟨0, rfl, by decide +kernel, rfl⟩
theorem eR_takes_64 : pd_gf mR_takes 64 12 17 67 := ⟨38, _, ⟨by decide +kernel, rfl⟩, fR_38_12⟩
theorem eR_takes_67 : pd_ic mR_takes 67 2 68 := Or.inl ⟨by decide +kernel, rfl⟩
theorem eR_takes_68 : pd_il mR_takes 68 1 69 := Or.inl ⟨1, rfl, by decide +kernel, rfl⟩
theorem eR_takes_69 : pd_i mR_takes 69 (.iadd) 1 70 := ⟨by decide +kernel, rfl⟩
theorem eR_takes_70 : pd_i mR_takes 70 (.iaload) 1 71 := ⟨by decide +kernel, rfl⟩
theorem eR_takes_71 {z : Int} : pd_rd mR_takes 71 (some (vi z)) := (by decide +kernel : decode mR_takes.2.1 71 = .ok (.ireturn, 1))
theorem eR_buys_0 : pd_al mR_buys 0 0 1 := Or.inl ⟨0, rfl, by decide +kernel, rfl⟩
theorem eR_buys_1 : pd_il mR_buys 1 1 2 := Or.inl ⟨1, rfl, by decide +kernel, rfl⟩
theorem eR_buys_2 : pd_kv mR_buys 2 mR_isGood 1 5 := ⟨159, ⟨by decide +kernel, rfl⟩, (pd_m 878 (by decide +kernel) (by decide +kernel)), (pd_m 880 (by decide +kernel) (by decide +kernel)), (pd_m 33 (by decide +kernel) (by decide +kernel)), kR_isGood⟩
theorem eR_buys_5 : pd_b1 mR_buys 5 .eq 8 18 := ⟨13, ⟨by decide +kernel, rfl⟩, by decide⟩
theorem eR_buys_8 : pd_il mR_buys 8 2 9 := Or.inl ⟨2, rfl, by decide +kernel, rfl⟩
theorem eR_buys_9 : pd_ic mR_buys 9 1 10 := Or.inl ⟨by decide +kernel, rfl⟩
theorem eR_buys_10 : pd_ic mR_buys 10 9 12 := Or.inr (Or.inl ⟨⟨by decide +kernel, rfl⟩, by decide⟩)
theorem eR_buys_12 : pd_ks mR_buys 12 mR_in 3 15 := ⟨75, ⟨by decide +kernel, rfl⟩, Or.inl (pd_m 827 (by decide +kernel) (by decide +kernel)), (pd_m 828 (by decide +kernel) (by decide +kernel)), kR_in⟩
theorem eR_buys_15 : pd_b1 mR_buys 15 .ne 18 20 := ⟨5, ⟨by decide +kernel, rfl⟩, by decide⟩
theorem eR_buys_18 : pd_ic mR_buys 18 (-1) 19 := Or.inl ⟨by decide +kernel, rfl⟩
theorem eR_buys_19 {z : Int} : pd_rd mR_buys 19 (some (vi z)) := (by decide +kernel : decode mR_buys.2.1 19 = .ok (.ireturn, 1))
theorem eR_buys_20 : pd_al mR_buys 20 0 21 := Or.inl ⟨0, rfl, by decide +kernel, rfl⟩
theorem eR_buys_21 : pd_gf mR_buys 21 12 17 24 := ⟨38, _, ⟨by decide +kernel, rfl⟩, fR_38_12⟩
theorem eR_buys_24 : pd_ic mR_buys 24 2 25 := Or.inl ⟨by decide +kernel, rfl⟩
theorem eR_buys_25 : pd_il mR_buys 25 1 26 := Or.inl ⟨1, rfl, by decide +kernel, rfl⟩
theorem eR_buys_26 : pd_i mR_buys 26 (.iadd) 1 27 := ⟨by decide +kernel, rfl⟩
theorem eR_buys_27 : pd_i mR_buys 27 (.iaload) 1 28 := ⟨by decide +kernel, rfl⟩
theorem eR_buys_28 : pd_ic mR_buys 28 999 31 := Or.inr (Or.inr (Or.inl ⟨⟨by decide +kernel, rfl⟩, by decide⟩))
theorem eR_buys_31 : pd_b2 mR_buys 31 .ne 34 37 := ⟨6, ⟨by decide +kernel, rfl⟩, by decide⟩
theorem eR_buys_34 : pd_ic mR_buys 34 (-2) 36 := Or.inr (Or.inl ⟨⟨by decide +kernel, rfl⟩, by decide⟩)
theorem eR_buys_36 {z : Int} : pd_rd mR_buys 36 (some (vi z)) := (by decide +kernel : decode mR_buys.2.1 36 = .ok (.ireturn, 1))
theorem eR_buys_37 : pd_al mR_buys 37 0 38 := Or.inl ⟨0, rfl, by decide +kernel, rfl⟩
theorem eR_buys_38 : pd_kv mR_buys 38 mR_know 0 41 := ⟨169, ⟨by decide +kernel, rfl⟩, (pd_m 908 (by decide +kernel) (by decide +kernel)), (pd_m 910 (by decide +kernel) (by decide +kernel)), (pd_m 37 (by decide +kernel) (by decide +kernel)), kR_know⟩
theorem eR_buys_41 : pd_al mR_buys 41 0 42 := Or.inl ⟨0, rfl, by decide +kernel, rfl⟩
theorem eR_buys_42 : pd_gf mR_buys 42 12 17 45 := ⟨38, _, ⟨by decide +kernel, rfl⟩, fR_38_12⟩
theorem eR_buys_45 : pd_ic mR_buys 45 2 46 := Or.inl ⟨by decide +kernel, rfl⟩
theorem eR_buys_46 : pd_il mR_buys 46 1 47 := Or.inl ⟨1, rfl, by decide +kernel, rfl⟩
theorem eR_buys_47 : pd_i mR_buys 47 (.iadd) 1 48 := ⟨by decide +kernel, rfl⟩
theorem eR_buys_48 : pd_al mR_buys 48 0 49 := Or.inl ⟨0, rfl, by decide +kernel, rfl⟩
theorem eR_buys_49 : pd_gf mR_buys 49 12 17 52 := ⟨38, _, ⟨by decide +kernel, rfl⟩, fR_38_12⟩
theorem eR_buys_52 : pd_ic mR_buys 52 2 53 := Or.inl ⟨by decide +kernel, rfl⟩
theorem eR_buys_53 : pd_il mR_buys 53 1 54 := Or.inl ⟨1, rfl, by decide +kernel, rfl⟩
theorem eR_buys_54 : pd_i mR_buys 54 (.iadd) 1 55 := ⟨by decide +kernel, rfl⟩
theorem eR_buys_55 : pd_i mR_buys 55 (.iaload) 1 56 := ⟨by decide +kernel, rfl⟩
theorem eR_buys_56 : pd_il mR_buys 56 2 57 := Or.inl ⟨2, rfl, by decide +kernel, rfl⟩
theorem eR_buys_57 : pd_i mR_buys 57 (.iadd) 1 58 := ⟨by decide +kernel, rfl⟩
theorem eR_buys_58 : pd_ks mR_buys 58 mR_atMost 1 61 := ⟨156, ⟨by decide +kernel, rfl⟩, Or.inl (pd_m 916 (by decide +kernel) (by decide +kernel)), (pd_m 917 (by decide +kernel) (by decide +kernel)), kR_atMost⟩
theorem eR_buys_61 : pd_i mR_buys 61 (.iastore) 1 62 := ⟨by decide +kernel, rfl⟩
theorem eR_buys_62 : pd_al mR_buys 62 0 63 := Or.inl ⟨0, rfl, by decide +kernel, rfl⟩
theorem eR_buys_63 : pd_gf mR_buys 63 12 17 66 := ⟨38, _, ⟨by decide +kernel, rfl⟩, fR_38_12⟩
theorem eR_buys_66 : pd_ic mR_buys 66 2 67 := Or.inl ⟨by decide +kernel, rfl⟩
theorem eR_buys_67 : pd_il mR_buys 67 1 68 := Or.inl ⟨1, rfl, by decide +kernel, rfl⟩
theorem eR_buys_68 : pd_i mR_buys 68 (.iadd) 1 69 := ⟨by decide +kernel, rfl⟩
theorem eR_buys_69 : pd_i mR_buys 69 (.iaload) 1 70 := ⟨by decide +kernel, rfl⟩
theorem eR_buys_70 {z : Int} : pd_rd mR_buys 70 (some (vi z)) := (by decide +kernel : decode mR_buys.2.1 70 = .ok (.ireturn, 1))
theorem eR_holds_0 : pd_il mR_holds 0 1 1 := Or.inl ⟨1, rfl, by decide +kernel, rfl⟩
theorem eR_holds_1 : pd_ic mR_holds 1 0 2 := Or.inl ⟨by decide +kernel, rfl⟩
theorem eR_holds_2 : pd_ic mR_holds 2 1 3 := Or.inl ⟨by decide +kernel, rfl⟩
theorem eR_holds_3 : pd_ks mR_holds 3 mR_in 3 6 := ⟨75, ⟨by decide +kernel, rfl⟩, Or.inl (pd_m 827 (by decide +kernel) (by decide +kernel)), (pd_m 828 (by decide +kernel) (by decide +kernel)), kR_in⟩
theorem eR_holds_6 : pd_b1 mR_holds 6 .ne 9 11 := ⟨5, ⟨by decide +kernel, rfl⟩, by decide⟩
theorem eR_holds_9 : pd_ic mR_holds 9 (-1) 10 := Or.inl ⟨by decide +kernel, rfl⟩
theorem eR_holds_10 {z : Int} : pd_rd mR_holds 10 (some (vi z)) := (by decide +kernel : decode mR_holds.2.1 10 = .ok (.ireturn, 1))
theorem eR_holds_11 : pd_al mR_holds 11 0 12 := Or.inl ⟨0, rfl, by decide +kernel, rfl⟩
theorem eR_holds_12 : pd_gf mR_holds 12 12 17 15 := ⟨38, _, ⟨by decide +kernel, rfl⟩, fR_38_12⟩
theorem eR_holds_15 : pd_ic mR_holds 15 1 16 := Or.inl ⟨by decide +kernel, rfl⟩
theorem eR_holds_16 : pd_i mR_holds 16 (.iaload) 1 17 := ⟨by decide +kernel, rfl⟩
theorem eR_holds_17 : pd_il mR_holds 17 1 18 := Or.inl ⟨1, rfl, by decide +kernel, rfl⟩
theorem eR_holds_18 : pd_b2 mR_holds 18 .ne 21 24 := ⟨6, ⟨by decide +kernel, rfl⟩, by decide⟩
theorem eR_holds_21 : pd_ic mR_holds 21 (-2) 23 := Or.inr (Or.inl ⟨⟨by decide +kernel, rfl⟩, by decide⟩)
theorem eR_holds_23 {z : Int} : pd_rd mR_holds 23 (some (vi z)) := (by decide +kernel : decode mR_holds.2.1 23 = .ok (.ireturn, 1))
theorem eR_holds_24 : pd_al mR_holds 24 0 25 := Or.inl ⟨0, rfl, by decide +kernel, rfl⟩
theorem eR_holds_25 : pd_kv mR_holds 25 mR_know 0 28 := ⟨169, ⟨by decide +kernel, rfl⟩, (pd_m 908 (by decide +kernel) (by decide +kernel)), (pd_m 910 (by decide +kernel) (by decide +kernel)), (pd_m 37 (by decide +kernel) (by decide +kernel)), kR_know⟩
theorem eR_holds_28 : pd_al mR_holds 28 0 29 := Or.inl ⟨0, rfl, by decide +kernel, rfl⟩
theorem eR_holds_29 : pd_gf mR_holds 29 12 17 32 := ⟨38, _, ⟨by decide +kernel, rfl⟩, fR_38_12⟩
theorem eR_holds_32 : pd_ic mR_holds 32 1 33 := Or.inl ⟨by decide +kernel, rfl⟩
theorem eR_holds_33 : pd_il mR_holds 33 1 34 := Or.inl ⟨1, rfl, by decide +kernel, rfl⟩
theorem eR_holds_34 : pd_i mR_holds 34 (.iastore) 1 35 := ⟨by decide +kernel, rfl⟩
theorem eR_holds_35 : pd_al mR_holds 35 0 36 := Or.inl ⟨0, rfl, by decide +kernel, rfl⟩
theorem eR_holds_36 : pd_al mR_holds 36 0 37 := Or.inl ⟨0, rfl, by decide +kernel, rfl⟩
theorem eR_holds_37 : pd_gf mR_holds 37 12 17 40 := ⟨38, _, ⟨by decide +kernel, rfl⟩, fR_38_12⟩
theorem eR_holds_40 : pd_kv mR_holds 40 mR_opens 1 43 := ⟨152, ⟨by decide +kernel, rfl⟩, (pd_m 886 (by decide +kernel) (by decide +kernel)), (pd_m 888 (by decide +kernel) (by decide +kernel)), (pd_m 35 (by decide +kernel) (by decide +kernel)), kR_opens⟩
theorem eR_holds_43 {z : Int} : pd_rd mR_holds 43 (some (vi z)) := (by decide +kernel : decode mR_holds.2.1 43 = .ok (.ireturn, 1))
theorem eR_undo_0 : pd_al mR_undo 0 0 1 := Or.inl ⟨0, rfl, by decide +kernel, rfl⟩
theorem eR_undo_1 : pd_gf mR_undo 1 12 18 4 := ⟨41, _, ⟨by decide +kernel, rfl⟩, fR_41_12⟩
theorem eR_undo_4 : pd_ic mR_undo 4 0 5 := Or.inl ⟨by decide +kernel, rfl⟩
theorem eR_undo_5 : pd_i mR_undo 5 (.iaload) 1 6 := ⟨by decide +kernel, rfl⟩
theorem eR_undo_6 : pd_b1 mR_undo 6 .ne 9 12 := ⟨6, ⟨by decide +kernel, rfl⟩, by decide⟩
theorem eR_undo_9 : pd_ic mR_undo 9 (-2) 11 := Or.inr (Or.inl ⟨⟨by decide +kernel, rfl⟩, by decide⟩)
theorem eR_undo_11 {z : Int} : pd_rd mR_undo 11 (some (vi z)) := (by decide +kernel : decode mR_undo.2.1 11 = .ok (.ireturn, 1))
theorem eR_undo_12 : pd_al mR_undo 12 0 13 := Or.inl ⟨0, rfl, by decide +kernel, rfl⟩
theorem eR_undo_13 : pd_gf mR_undo 13 12 18 16 := ⟨41, _, ⟨by decide +kernel, rfl⟩, fR_41_12⟩
theorem eR_undo_16 : pd_ic mR_undo 16 0 17 := Or.inl ⟨by decide +kernel, rfl⟩
theorem eR_undo_17 : pd_i mR_undo 17 (.dup2) 1 18 := ⟨by decide +kernel, rfl⟩
theorem eR_undo_18 : pd_i mR_undo 18 (.iaload) 1 19 := ⟨by decide +kernel, rfl⟩
theorem eR_undo_19 : pd_ic mR_undo 19 1 20 := Or.inl ⟨by decide +kernel, rfl⟩
theorem eR_undo_20 : pd_i mR_undo 20 (.isub) 1 21 := ⟨by decide +kernel, rfl⟩
theorem eR_undo_21 : pd_i mR_undo 21 (.iastore) 1 22 := ⟨by decide +kernel, rfl⟩
theorem eR_undo_22 : pd_ic mR_undo 22 0 23 := Or.inl ⟨by decide +kernel, rfl⟩
theorem eR_undo_23 : pd_is mR_undo 23 1 24 := ⟨by decide, Or.inl ⟨1, rfl, by decide +kernel, rfl⟩⟩
theorem eR_undo_24 : pd_il mR_undo 24 1 25 := Or.inl ⟨1, rfl, by decide +kernel, rfl⟩
theorem eR_undo_25 : pd_ic mR_undo 25 90 27 := Or.inr (Or.inl ⟨⟨by decide +kernel, rfl⟩, by decide⟩)
theorem eR_undo_27 : pd_b2 mR_undo 27 .ge 30 58 := ⟨31, ⟨by decide +kernel, rfl⟩, by decide⟩
theorem eR_undo_30 : pd_al mR_undo 30 0 31 := Or.inl ⟨0, rfl, by decide +kernel, rfl⟩
theorem eR_undo_31 : pd_gf mR_undo 31 12 17 34 := ⟨38, _, ⟨by decide +kernel, rfl⟩, fR_38_12⟩
theorem eR_undo_34 : pd_il mR_undo 34 1 35 := Or.inl ⟨1, rfl, by decide +kernel, rfl⟩
theorem eR_undo_35 : pd_al mR_undo 35 0 36 := Or.inl ⟨0, rfl, by decide +kernel, rfl⟩
theorem eR_undo_36 : pd_gf mR_undo 36 12 19 39 := ⟨44, _, ⟨by decide +kernel, rfl⟩, fR_44_12⟩
theorem eR_undo_39 : pd_ic mR_undo 39 90 41 := Or.inr (Or.inl ⟨⟨by decide +kernel, rfl⟩, by decide⟩)
theorem eR_undo_41 : pd_al mR_undo 41 0 42 := Or.inl ⟨0, rfl, by decide +kernel, rfl⟩
theorem eR_undo_42 : pd_gf mR_undo 42 12 18 45 := ⟨41, _, ⟨by decide +kernel, rfl⟩, fR_41_12⟩
theorem eR_undo_45 : pd_ic mR_undo 45 0 46 := Or.inl ⟨by decide +kernel, rfl⟩
theorem eR_undo_46 : pd_i mR_undo 46 (.iaload) 1 47 := ⟨by decide +kernel, rfl⟩
theorem eR_undo_47 : pd_i mR_undo 47 (.imul) 1 48 := ⟨by decide +kernel, rfl⟩
theorem eR_undo_48 : pd_il mR_undo 48 1 49 := Or.inl ⟨1, rfl, by decide +kernel, rfl⟩
theorem eR_undo_49 : pd_i mR_undo 49 (.iadd) 1 50 := ⟨by decide +kernel, rfl⟩
theorem eR_undo_50 : pd_i mR_undo 50 (.iaload) 1 51 := ⟨by decide +kernel, rfl⟩
theorem eR_undo_51 : pd_i mR_undo 51 (.iastore) 1 52 := ⟨by decide +kernel, rfl⟩
theorem eR_undo_52 : pd_ii mR_undo 52 1 1 55 := ⟨by decide, by decide +kernel, rfl⟩
theorem eR_undo_55 : pd_go mR_undo 55 24 := ⟨-31, by decide +kernel, by decide⟩
theorem eR_undo_58 : pd_al mR_undo 58 0 59 := Or.inl ⟨0, rfl, by decide +kernel, rfl⟩
theorem eR_undo_59 : pd_gf mR_undo 59 12 18 62 := ⟨41, _, ⟨by decide +kernel, rfl⟩, fR_41_12⟩
theorem eR_undo_62 : pd_ic mR_undo 62 0 63 := Or.inl ⟨by decide +kernel, rfl⟩
theorem eR_undo_63 : pd_i mR_undo 63 (.iaload) 1 64 := ⟨by decide +kernel, rfl⟩
theorem eR_undo_64 {z : Int} : pd_rd mR_undo 64 (some (vi z)) := (by decide +kernel : decode mR_undo.2.1 64 = .ok (.ireturn, 1))
theorem eR_firstHungry_0 : pd_al mR_firstHungry 0 0 1 := Or.inl ⟨0, rfl, by decide +kernel, rfl⟩
theorem eR_firstHungry_1 : pd_kv mR_firstHungry 1 mR_take 0 4 := ⟨179, ⟨by decide +kernel, rfl⟩, (pd_m 947 (by decide +kernel) (by decide +kernel)), (pd_m 949 (by decide +kernel) (by decide +kernel)), (pd_m 41 (by decide +kernel) (by decide +kernel)), kR_take⟩
theorem eR_firstHungry_4 : pd_al mR_firstHungry 4 0 5 := Or.inl ⟨0, rfl, by decide +kernel, rfl⟩
theorem eR_firstHungry_5 : pd_gf mR_firstHungry 5 12 22 8 := ⟨54, _, ⟨by decide +kernel, rfl⟩, fR_54_12⟩
theorem eR_firstHungry_8 : pd_ic mR_firstHungry 8 0 9 := Or.inl ⟨by decide +kernel, rfl⟩
theorem eR_firstHungry_9 : pd_i mR_firstHungry 9 (.iaload) 1 10 := ⟨by decide +kernel, rfl⟩
theorem eR_firstHungry_10 : pd_ic mR_firstHungry 10 20 12 := Or.inr (Or.inl ⟨⟨by decide +kernel, rfl⟩, by decide⟩)
theorem eR_firstHungry_12 : pd_b2 mR_firstHungry 12 .ge 15 35 := ⟨23, ⟨by decide +kernel, rfl⟩, by decide⟩
theorem eR_firstHungry_15 : pd_al mR_firstHungry 15 0 16 := Or.inl ⟨0, rfl, by decide +kernel, rfl⟩
theorem eR_firstHungry_16 : pd_al mR_firstHungry 16 0 17 := Or.inl ⟨0, rfl, by decide +kernel, rfl⟩
theorem eR_firstHungry_17 : pd_gf mR_firstHungry 17 12 22 20 := ⟨54, _, ⟨by decide +kernel, rfl⟩, fR_54_12⟩
theorem eR_firstHungry_20 : pd_kv mR_firstHungry 20 mR_passOn 1 23 := ⟨172, ⟨by decide +kernel, rfl⟩, (pd_m 912 (by decide +kernel) (by decide +kernel)), (pd_m 914 (by decide +kernel) (by decide +kernel)), (pd_m 38 (by decide +kernel) (by decide +kernel)), kR_passOn⟩
theorem eR_firstHungry_23 : pd_b1 mR_firstHungry 23 .le 26 4 := ⟨-19, ⟨by decide +kernel, rfl⟩, by decide⟩
theorem eR_firstHungry_26 : pd_al mR_firstHungry 26 0 27 := Or.inl ⟨0, rfl, by decide +kernel, rfl⟩
theorem eR_firstHungry_27 : pd_gf mR_firstHungry 27 12 22 30 := ⟨54, _, ⟨by decide +kernel, rfl⟩, fR_54_12⟩
theorem eR_firstHungry_30 : pd_ic mR_firstHungry 30 0 31 := Or.inl ⟨by decide +kernel, rfl⟩
theorem eR_firstHungry_31 : pd_i mR_firstHungry 31 (.iaload) 1 32 := ⟨by decide +kernel, rfl⟩
theorem eR_firstHungry_32 : pd_ic mR_firstHungry 32 1 33 := Or.inl ⟨by decide +kernel, rfl⟩
theorem eR_firstHungry_33 : pd_i mR_firstHungry 33 (.isub) 1 34 := ⟨by decide +kernel, rfl⟩
theorem eR_firstHungry_34 {z : Int} : pd_rd mR_firstHungry 34 (some (vi z)) := (by decide +kernel : decode mR_firstHungry.2.1 34 = .ok (.ireturn, 1))
theorem eR_firstHungry_35 : pd_ic mR_firstHungry 35 (-9) 37 := Or.inr (Or.inl ⟨⟨by decide +kernel, rfl⟩, by decide⟩)
theorem eR_firstHungry_37 {z : Int} : pd_rd mR_firstHungry 37 (some (vi z)) := (by decide +kernel : decode mR_firstHungry.2.1 37 = .ok (.ireturn, 1))
theorem eR_now_0 : pd_ic mR_now 0 0 1 := Or.inl ⟨by decide +kernel, rfl⟩
theorem eR_now_1 : pd_is mR_now 1 2 2 := ⟨by decide, Or.inl ⟨2, rfl, by decide +kernel, rfl⟩⟩
theorem eR_now_2 : pd_il mR_now 2 1 3 := Or.inl ⟨1, rfl, by decide +kernel, rfl⟩
theorem eR_now_3 : pd_i mR_now 3 (.tableswitch 118 0 5 #[37, 44, 53, 60, 87, 113]) 37 40 := ⟨by decide +kernel, rfl⟩
theorem eR_now_40 : pd_al mR_now 40 0 41 := Or.inl ⟨0, rfl, by decide +kernel, rfl⟩
theorem eR_now_41 : pd_gf mR_now 41 12 17 44 := ⟨38, _, ⟨by decide +kernel, rfl⟩, fR_38_12⟩
theorem eR_now_44 : pd_ic mR_now 44 0 45 := Or.inl ⟨by decide +kernel, rfl⟩
theorem eR_now_45 : pd_i mR_now 45 (.iaload) 1 46 := ⟨by decide +kernel, rfl⟩
theorem eR_now_46 {z : Int} : pd_rd mR_now 46 (some (vi z)) := (by decide +kernel : decode mR_now.2.1 46 = .ok (.ireturn, 1))
theorem eR_now_47 : pd_al mR_now 47 0 48 := Or.inl ⟨0, rfl, by decide +kernel, rfl⟩
theorem eR_now_48 : pd_al mR_now 48 0 49 := Or.inl ⟨0, rfl, by decide +kernel, rfl⟩
theorem eR_now_49 : pd_gf mR_now 49 12 17 52 := ⟨38, _, ⟨by decide +kernel, rfl⟩, fR_38_12⟩
theorem eR_now_52 : pd_kv mR_now 52 mR_opens 1 55 := ⟨152, ⟨by decide +kernel, rfl⟩, (pd_m 886 (by decide +kernel) (by decide +kernel)), (pd_m 888 (by decide +kernel) (by decide +kernel)), (pd_m 35 (by decide +kernel) (by decide +kernel)), kR_opens⟩
theorem eR_now_55 {z : Int} : pd_rd mR_now 55 (some (vi z)) := (by decide +kernel : decode mR_now.2.1 55 = .ok (.ireturn, 1))
theorem eR_now_56 : pd_al mR_now 56 0 57 := Or.inl ⟨0, rfl, by decide +kernel, rfl⟩
theorem eR_now_57 : pd_gf mR_now 57 12 17 60 := ⟨38, _, ⟨by decide +kernel, rfl⟩, fR_38_12⟩
theorem eR_now_60 : pd_ic mR_now 60 1 61 := Or.inl ⟨by decide +kernel, rfl⟩
theorem eR_now_61 : pd_i mR_now 61 (.iaload) 1 62 := ⟨by decide +kernel, rfl⟩
theorem eR_now_62 {z : Int} : pd_rd mR_now 62 (some (vi z)) := (by decide +kernel : decode mR_now.2.1 62 = .ok (.ireturn, 1))
theorem eR_now_63 : pd_ic mR_now 63 0 64 := Or.inl ⟨by decide +kernel, rfl⟩
theorem eR_now_64 : pd_is mR_now 64 3 65 := ⟨by decide, Or.inl ⟨3, rfl, by decide +kernel, rfl⟩⟩
theorem eR_now_65 : pd_il mR_now 65 3 66 := Or.inl ⟨3, rfl, by decide +kernel, rfl⟩
theorem eR_now_66 : pd_ic mR_now 66 4 67 := Or.inl ⟨by decide +kernel, rfl⟩
theorem eR_now_67 : pd_b2 mR_now 67 .ge 70 88 := ⟨21, ⟨by decide +kernel, rfl⟩, by decide⟩
theorem eR_now_70 : pd_il mR_now 70 2 71 := Or.inl ⟨2, rfl, by decide +kernel, rfl⟩
theorem eR_now_71 : pd_al mR_now 71 0 72 := Or.inl ⟨0, rfl, by decide +kernel, rfl⟩
theorem eR_now_72 : pd_gf mR_now 72 12 17 75 := ⟨38, _, ⟨by decide +kernel, rfl⟩, fR_38_12⟩
theorem eR_now_75 : pd_ic mR_now 75 6 77 := Or.inr (Or.inl ⟨⟨by decide +kernel, rfl⟩, by decide⟩)
theorem eR_now_77 : pd_il mR_now 77 3 78 := Or.inl ⟨3, rfl, by decide +kernel, rfl⟩
theorem eR_now_78 : pd_i mR_now 78 (.iadd) 1 79 := ⟨by decide +kernel, rfl⟩
theorem eR_now_79 : pd_i mR_now 79 (.iaload) 1 80 := ⟨by decide +kernel, rfl⟩
theorem eR_now_80 : pd_i mR_now 80 (.iadd) 1 81 := ⟨by decide +kernel, rfl⟩
theorem eR_now_81 : pd_is mR_now 81 2 82 := ⟨by decide, Or.inl ⟨2, rfl, by decide +kernel, rfl⟩⟩
theorem eR_now_82 : pd_ii mR_now 82 3 1 85 := ⟨by decide, by decide +kernel, rfl⟩
theorem eR_now_85 : pd_go mR_now 85 65 := ⟨-20, by decide +kernel, by decide⟩
theorem eR_now_88 : pd_il mR_now 88 2 89 := Or.inl ⟨2, rfl, by decide +kernel, rfl⟩
theorem eR_now_89 {z : Int} : pd_rd mR_now 89 (some (vi z)) := (by decide +kernel : decode mR_now.2.1 89 = .ok (.ireturn, 1))
theorem eR_now_90 : pd_ic mR_now 90 10 92 := Or.inr (Or.inl ⟨⟨by decide +kernel, rfl⟩, by decide⟩)
theorem eR_now_92 : pd_is mR_now 92 3 93 := ⟨by decide, Or.inl ⟨3, rfl, by decide +kernel, rfl⟩⟩
theorem eR_now_93 : pd_il mR_now 93 3 94 := Or.inl ⟨3, rfl, by decide +kernel, rfl⟩
theorem eR_now_94 : pd_ic mR_now 94 90 96 := Or.inr (Or.inl ⟨⟨by decide +kernel, rfl⟩, by decide⟩)
theorem eR_now_96 : pd_b2 mR_now 96 .ge 99 114 := ⟨18, ⟨by decide +kernel, rfl⟩, by decide⟩
theorem eR_now_99 : pd_il mR_now 99 2 100 := Or.inl ⟨2, rfl, by decide +kernel, rfl⟩
theorem eR_now_100 : pd_al mR_now 100 0 101 := Or.inl ⟨0, rfl, by decide +kernel, rfl⟩
theorem eR_now_101 : pd_gf mR_now 101 12 17 104 := ⟨38, _, ⟨by decide +kernel, rfl⟩, fR_38_12⟩
theorem eR_now_104 : pd_il mR_now 104 3 105 := Or.inl ⟨3, rfl, by decide +kernel, rfl⟩
theorem eR_now_105 : pd_i mR_now 105 (.iaload) 1 106 := ⟨by decide +kernel, rfl⟩
theorem eR_now_106 : pd_i mR_now 106 (.iadd) 1 107 := ⟨by decide +kernel, rfl⟩
theorem eR_now_107 : pd_is mR_now 107 2 108 := ⟨by decide, Or.inl ⟨2, rfl, by decide +kernel, rfl⟩⟩
theorem eR_now_108 : pd_ii mR_now 108 3 1 111 := ⟨by decide, by decide +kernel, rfl⟩
theorem eR_now_111 : pd_go mR_now 111 93 := ⟨-18, by decide +kernel, by decide⟩
theorem eR_now_114 : pd_il mR_now 114 2 115 := Or.inl ⟨2, rfl, by decide +kernel, rfl⟩
theorem eR_now_115 {z : Int} : pd_rd mR_now 115 (some (vi z)) := (by decide +kernel : decode mR_now.2.1 115 = .ok (.ireturn, 1))
theorem eR_now_116 : pd_al mR_now 116 0 117 := Or.inl ⟨0, rfl, by decide +kernel, rfl⟩
theorem eR_now_117 : pd_kv mR_now 117 mR_firstHungry 0 120 := ⟨182, ⟨by decide +kernel, rfl⟩, (pd_m 943 (by decide +kernel) (by decide +kernel)), (pd_m 945 (by decide +kernel) (by decide +kernel)), (pd_m 40 (by decide +kernel) (by decide +kernel)), kR_firstHungry⟩
theorem eR_now_120 {z : Int} : pd_rd mR_now 120 (some (vi z)) := (by decide +kernel : decode mR_now.2.1 120 = .ok (.ireturn, 1))
theorem eR_now_121 : pd_ic mR_now 121 (-1) 122 := Or.inl ⟨by decide +kernel, rfl⟩
theorem eR_now_122 {z : Int} : pd_rd mR_now 122 (some (vi z)) := (by decide +kernel : decode mR_now.2.1 122 = .ok (.ireturn, 1))
theorem eR_gives_0 : pd_il mR_gives 0 1 1 := Or.inl ⟨1, rfl, by decide +kernel, rfl⟩
theorem eR_gives_1 : pd_ks mR_gives 1 mR_isDay 1 4 := ⟨166, ⟨by decide +kernel, rfl⟩, Or.inl (pd_m 901 (by decide +kernel) (by decide +kernel)), (pd_m 902 (by decide +kernel) (by decide +kernel)), kR_isDay⟩
theorem eR_gives_4 : pd_b1 mR_gives 4 .eq 7 16 := ⟨12, ⟨by decide +kernel, rfl⟩, by decide⟩
theorem eR_gives_7 : pd_il mR_gives 7 2 8 := Or.inl ⟨2, rfl, by decide +kernel, rfl⟩
theorem eR_gives_8 : pd_ic mR_gives 8 0 9 := Or.inl ⟨by decide +kernel, rfl⟩
theorem eR_gives_9 : pd_ic mR_gives 9 2 10 := Or.inl ⟨by decide +kernel, rfl⟩
theorem eR_gives_10 : pd_ks mR_gives 10 mR_in 3 13 := ⟨75, ⟨by decide +kernel, rfl⟩, Or.inl (pd_m 827 (by decide +kernel) (by decide +kernel)), (pd_m 828 (by decide +kernel) (by decide +kernel)), kR_in⟩
theorem eR_gives_13 : pd_b1 mR_gives 13 .ne 16 18 := ⟨5, ⟨by decide +kernel, rfl⟩, by decide⟩
theorem eR_gives_16 : pd_ic mR_gives 16 (-1) 17 := Or.inl ⟨by decide +kernel, rfl⟩
theorem eR_gives_17 {z : Int} : pd_rd mR_gives 17 (some (vi z)) := (by decide +kernel : decode mR_gives.2.1 17 = .ok (.ireturn, 1))
theorem eR_gives_18 : pd_il mR_gives 18 2 19 := Or.inl ⟨2, rfl, by decide +kernel, rfl⟩
theorem eR_gives_19 : pd_b1 mR_gives 19 .ne 22 28 := ⟨9, ⟨by decide +kernel, rfl⟩, by decide⟩
theorem eR_gives_22 : pd_al mR_gives 22 0 23 := Or.inl ⟨0, rfl, by decide +kernel, rfl⟩
theorem eR_gives_23 : pd_il mR_gives 23 1 24 := Or.inl ⟨1, rfl, by decide +kernel, rfl⟩
theorem eR_gives_24 : pd_kv mR_gives 24 mR_givesOn 1 27 := ⟨148, ⟨by decide +kernel, rfl⟩, (pd_m 890 (by decide +kernel) (by decide +kernel)), (pd_m 892 (by decide +kernel) (by decide +kernel)), (pd_m 36 (by decide +kernel) (by decide +kernel)), kR_givesOn⟩
theorem eR_gives_27 {z : Int} : pd_rd mR_gives 27 (some (vi z)) := (by decide +kernel : decode mR_gives.2.1 27 = .ok (.ireturn, 1))
theorem eR_gives_28 : pd_ic mR_gives 28 0 29 := Or.inl ⟨by decide +kernel, rfl⟩
theorem eR_gives_29 : pd_is mR_gives 29 3 30 := ⟨by decide, Or.inl ⟨3, rfl, by decide +kernel, rfl⟩⟩
theorem eR_gives_30 : pd_il mR_gives 30 2 31 := Or.inl ⟨2, rfl, by decide +kernel, rfl⟩
theorem eR_gives_31 : pd_ic mR_gives 31 1 32 := Or.inl ⟨by decide +kernel, rfl⟩
theorem eR_gives_32 : pd_b2 mR_gives 32 .ne 35 65 := ⟨33, ⟨by decide +kernel, rfl⟩, by decide⟩
theorem eR_gives_35 : pd_al mR_gives 35 0 36 := Or.inl ⟨0, rfl, by decide +kernel, rfl⟩
theorem eR_gives_36 : pd_il mR_gives 36 1 37 := Or.inl ⟨1, rfl, by decide +kernel, rfl⟩
theorem eR_gives_37 : pd_kv mR_gives 37 mR_givesOn 1 40 := ⟨148, ⟨by decide +kernel, rfl⟩, (pd_m 890 (by decide +kernel) (by decide +kernel)), (pd_m 892 (by decide +kernel) (by decide +kernel)), (pd_m 36 (by decide +kernel) (by decide +kernel)), kR_givesOn⟩
theorem eR_gives_40 : pd_is mR_gives 40 4 42 := ⟨by decide, Or.inr ⟨by decide +kernel, rfl⟩⟩
theorem eR_gives_42 : pd_il mR_gives 42 4 44 := Or.inr ⟨by decide +kernel, rfl⟩
theorem eR_gives_44 : pd_ic mR_gives 44 (-9) 46 := Or.inr (Or.inl ⟨⟨by decide +kernel, rfl⟩, by decide⟩)
theorem eR_gives_46 : pd_b2 mR_gives 46 .eq 49 63 := ⟨17, ⟨by decide +kernel, rfl⟩, by decide⟩
theorem eR_gives_49 : pd_ii mR_gives 49 3 1 52 := ⟨by decide, by decide +kernel, rfl⟩
theorem eR_gives_52 : pd_al mR_gives 52 0 53 := Or.inl ⟨0, rfl, by decide +kernel, rfl⟩
theorem eR_gives_53 : pd_il mR_gives 53 4 55 := Or.inr ⟨by decide +kernel, rfl⟩
theorem eR_gives_55 : pd_kv mR_gives 55 mR_givesOn 1 58 := ⟨148, ⟨by decide +kernel, rfl⟩, (pd_m 890 (by decide +kernel) (by decide +kernel)), (pd_m 892 (by decide +kernel) (by decide +kernel)), (pd_m 36 (by decide +kernel) (by decide +kernel)), kR_givesOn⟩
theorem eR_gives_58 : pd_is mR_gives 58 4 60 := ⟨by decide, Or.inr ⟨by decide +kernel, rfl⟩⟩
theorem eR_gives_60 : pd_go mR_gives 60 42 := ⟨-18, by decide +kernel, by decide⟩
theorem eR_gives_63 : pd_il mR_gives 63 3 64 := Or.inl ⟨3, rfl, by decide +kernel, rfl⟩
theorem eR_gives_64 {z : Int} : pd_rd mR_gives 64 (some (vi z)) := (by decide +kernel : decode mR_gives.2.1 64 = .ok (.ireturn, 1))
theorem eR_gives_65 : pd_ic mR_gives 65 0 66 := Or.inl ⟨by decide +kernel, rfl⟩
theorem eR_gives_66 : pd_is mR_gives 66 4 68 := ⟨by decide, Or.inr ⟨by decide +kernel, rfl⟩⟩
theorem eR_gives_68 : pd_il mR_gives 68 4 70 := Or.inr ⟨by decide +kernel, rfl⟩
theorem eR_gives_70 : pd_ic mR_gives 70 20 72 := Or.inr (Or.inl ⟨⟨by decide +kernel, rfl⟩, by decide⟩)
theorem eR_gives_72 : pd_b2 mR_gives 72 .ge 75 117 := ⟨45, ⟨by decide +kernel, rfl⟩, by decide⟩
theorem eR_gives_75 : pd_il mR_gives 75 3 76 := Or.inl ⟨3, rfl, by decide +kernel, rfl⟩
theorem eR_gives_76 : pd_al mR_gives 76 0 77 := Or.inl ⟨0, rfl, by decide +kernel, rfl⟩
theorem eR_gives_77 : pd_il mR_gives 77 4 79 := Or.inr ⟨by decide +kernel, rfl⟩
theorem eR_gives_79 : pd_kv mR_gives 79 mR_givesOn 1 82 := ⟨148, ⟨by decide +kernel, rfl⟩, (pd_m 890 (by decide +kernel) (by decide +kernel)), (pd_m 892 (by decide +kernel) (by decide +kernel)), (pd_m 36 (by decide +kernel) (by decide +kernel)), kR_givesOn⟩
theorem eR_gives_82 : pd_il mR_gives 82 1 83 := Or.inl ⟨1, rfl, by decide +kernel, rfl⟩
theorem eR_gives_83 : pd_b2 mR_gives 83 .ne 86 90 := ⟨7, ⟨by decide +kernel, rfl⟩, by decide⟩
theorem eR_gives_86 : pd_ic mR_gives 86 1 87 := Or.inl ⟨by decide +kernel, rfl⟩
theorem eR_gives_87 : pd_go mR_gives 87 91 := ⟨4, by decide +kernel, by decide⟩
theorem eR_gives_90 : pd_ic mR_gives 90 0 91 := Or.inl ⟨by decide +kernel, rfl⟩
theorem eR_gives_91 : pd_i mR_gives 91 (.iadd) 1 92 := ⟨by decide +kernel, rfl⟩
theorem eR_gives_92 : pd_is mR_gives 92 3 93 := ⟨by decide, Or.inl ⟨3, rfl, by decide +kernel, rfl⟩⟩
theorem eR_gives_93 : pd_il mR_gives 93 3 94 := Or.inl ⟨3, rfl, by decide +kernel, rfl⟩
theorem eR_gives_94 : pd_al mR_gives 94 0 95 := Or.inl ⟨0, rfl, by decide +kernel, rfl⟩
theorem eR_gives_95 : pd_il mR_gives 95 1 96 := Or.inl ⟨1, rfl, by decide +kernel, rfl⟩
theorem eR_gives_96 : pd_kv mR_gives 96 mR_givesOn 1 99 := ⟨148, ⟨by decide +kernel, rfl⟩, (pd_m 890 (by decide +kernel) (by decide +kernel)), (pd_m 892 (by decide +kernel) (by decide +kernel)), (pd_m 36 (by decide +kernel) (by decide +kernel)), kR_givesOn⟩
theorem eR_gives_99 : pd_il mR_gives 99 4 101 := Or.inr ⟨by decide +kernel, rfl⟩
theorem eR_gives_101 : pd_b2 mR_gives 101 .ne 104 108 := ⟨7, ⟨by decide +kernel, rfl⟩, by decide⟩
theorem eR_gives_104 : pd_ic mR_gives 104 1 105 := Or.inl ⟨by decide +kernel, rfl⟩
theorem eR_gives_105 : pd_go mR_gives 105 109 := ⟨4, by decide +kernel, by decide⟩
theorem eR_gives_108 : pd_ic mR_gives 108 0 109 := Or.inl ⟨by decide +kernel, rfl⟩
theorem eR_gives_109 : pd_i mR_gives 109 (.iadd) 1 110 := ⟨by decide +kernel, rfl⟩
theorem eR_gives_110 : pd_is mR_gives 110 3 111 := ⟨by decide, Or.inl ⟨3, rfl, by decide +kernel, rfl⟩⟩
theorem eR_gives_111 : pd_ii mR_gives 111 4 1 114 := ⟨by decide, by decide +kernel, rfl⟩
theorem eR_gives_114 : pd_go mR_gives 114 68 := ⟨-46, by decide +kernel, by decide⟩
theorem eR_gives_117 : pd_il mR_gives 117 3 118 := Or.inl ⟨3, rfl, by decide +kernel, rfl⟩
theorem eR_gives_118 {z : Int} : pd_rd mR_gives 118 (some (vi z)) := (by decide +kernel : decode mR_gives.2.1 118 = .ok (.ireturn, 1))
theorem eR_hungry_0 : pd_al mR_hungry 0 0 1 := Or.inl ⟨0, rfl, by decide +kernel, rfl⟩
theorem eR_hungry_1 : pd_il mR_hungry 1 1 2 := Or.inl ⟨1, rfl, by decide +kernel, rfl⟩
theorem eR_hungry_2 : pd_kv mR_hungry 2 mR_isGood 1 5 := ⟨159, ⟨by decide +kernel, rfl⟩, (pd_m 878 (by decide +kernel) (by decide +kernel)), (pd_m 880 (by decide +kernel) (by decide +kernel)), (pd_m 33 (by decide +kernel) (by decide +kernel)), kR_isGood⟩
theorem eR_hungry_5 : pd_b1 mR_hungry 5 .eq 8 18 := ⟨13, ⟨by decide +kernel, rfl⟩, by decide⟩
theorem eR_hungry_8 : pd_il mR_hungry 8 2 9 := Or.inl ⟨2, rfl, by decide +kernel, rfl⟩
theorem eR_hungry_9 : pd_ic mR_hungry 9 1 10 := Or.inl ⟨by decide +kernel, rfl⟩
theorem eR_hungry_10 : pd_ic mR_hungry 10 20 12 := Or.inr (Or.inl ⟨⟨by decide +kernel, rfl⟩, by decide⟩)
theorem eR_hungry_12 : pd_ks mR_hungry 12 mR_in 3 15 := ⟨75, ⟨by decide +kernel, rfl⟩, Or.inl (pd_m 827 (by decide +kernel) (by decide +kernel)), (pd_m 828 (by decide +kernel) (by decide +kernel)), kR_in⟩
theorem eR_hungry_15 : pd_b1 mR_hungry 15 .ne 18 20 := ⟨5, ⟨by decide +kernel, rfl⟩, by decide⟩
theorem eR_hungry_18 : pd_ic mR_hungry 18 (-1) 19 := Or.inl ⟨by decide +kernel, rfl⟩
theorem eR_hungry_19 {z : Int} : pd_rd mR_hungry 19 (some (vi z)) := (by decide +kernel : decode mR_hungry.2.1 19 = .ok (.ireturn, 1))
theorem eR_hungry_20 : pd_al mR_hungry 20 0 21 := Or.inl ⟨0, rfl, by decide +kernel, rfl⟩
theorem eR_hungry_21 : pd_kv mR_hungry 21 mR_take 0 24 := ⟨179, ⟨by decide +kernel, rfl⟩, (pd_m 947 (by decide +kernel) (by decide +kernel)), (pd_m 949 (by decide +kernel) (by decide +kernel)), (pd_m 41 (by decide +kernel) (by decide +kernel)), kR_take⟩
theorem eR_hungry_24 : pd_ic mR_hungry 24 0 25 := Or.inl ⟨by decide +kernel, rfl⟩
theorem eR_hungry_25 : pd_is mR_hungry 25 3 26 := ⟨by decide, Or.inl ⟨3, rfl, by decide +kernel, rfl⟩⟩
theorem eR_hungry_26 : pd_il mR_hungry 26 3 27 := Or.inl ⟨3, rfl, by decide +kernel, rfl⟩
theorem eR_hungry_27 : pd_il mR_hungry 27 2 28 := Or.inl ⟨2, rfl, by decide +kernel, rfl⟩
theorem eR_hungry_28 : pd_b2 mR_hungry 28 .ge 31 57 := ⟨29, ⟨by decide +kernel, rfl⟩, by decide⟩
theorem eR_hungry_31 : pd_al mR_hungry 31 0 32 := Or.inl ⟨0, rfl, by decide +kernel, rfl⟩
theorem eR_hungry_32 : pd_gf mR_hungry 32 12 22 35 := ⟨54, _, ⟨by decide +kernel, rfl⟩, fR_54_12⟩
theorem eR_hungry_35 : pd_ic mR_hungry 35 0 36 := Or.inl ⟨by decide +kernel, rfl⟩
theorem eR_hungry_36 : pd_i mR_hungry 36 (.iaload) 1 37 := ⟨by decide +kernel, rfl⟩
theorem eR_hungry_37 : pd_ic mR_hungry 37 20 39 := Or.inr (Or.inl ⟨⟨by decide +kernel, rfl⟩, by decide⟩)
theorem eR_hungry_39 : pd_b2 mR_hungry 39 .ge 42 57 := ⟨18, ⟨by decide +kernel, rfl⟩, by decide⟩
theorem eR_hungry_42 : pd_al mR_hungry 42 0 43 := Or.inl ⟨0, rfl, by decide +kernel, rfl⟩
theorem eR_hungry_43 : pd_al mR_hungry 43 0 44 := Or.inl ⟨0, rfl, by decide +kernel, rfl⟩
theorem eR_hungry_44 : pd_gf mR_hungry 44 12 22 47 := ⟨54, _, ⟨by decide +kernel, rfl⟩, fR_54_12⟩
theorem eR_hungry_47 : pd_kv mR_hungry 47 mR_passOn 1 50 := ⟨172, ⟨by decide +kernel, rfl⟩, (pd_m 912 (by decide +kernel) (by decide +kernel)), (pd_m 914 (by decide +kernel) (by decide +kernel)), (pd_m 38 (by decide +kernel) (by decide +kernel)), kR_passOn⟩
theorem eR_hungry_50 : pd_i mR_hungry 50 (.pop) 1 51 := ⟨by decide +kernel, rfl⟩
theorem eR_hungry_51 : pd_ii mR_hungry 51 3 1 54 := ⟨by decide, by decide +kernel, rfl⟩
theorem eR_hungry_54 : pd_go mR_hungry 54 26 := ⟨-28, by decide +kernel, by decide⟩
theorem eR_hungry_57 : pd_al mR_hungry 57 0 58 := Or.inl ⟨0, rfl, by decide +kernel, rfl⟩
theorem eR_hungry_58 : pd_gf mR_hungry 58 12 22 61 := ⟨54, _, ⟨by decide +kernel, rfl⟩, fR_54_12⟩
theorem eR_hungry_61 : pd_ic mR_hungry 61 6 63 := Or.inr (Or.inl ⟨⟨by decide +kernel, rfl⟩, by decide⟩)
theorem eR_hungry_63 : pd_il mR_hungry 63 1 64 := Or.inl ⟨1, rfl, by decide +kernel, rfl⟩
theorem eR_hungry_64 : pd_i mR_hungry 64 (.iadd) 1 65 := ⟨by decide +kernel, rfl⟩
theorem eR_hungry_65 : pd_i mR_hungry 65 (.iaload) 1 66 := ⟨by decide +kernel, rfl⟩
theorem eR_hungry_66 : pd_al mR_hungry 66 0 67 := Or.inl ⟨0, rfl, by decide +kernel, rfl⟩
theorem eR_hungry_67 : pd_gf mR_hungry 67 12 17 70 := ⟨38, _, ⟨by decide +kernel, rfl⟩, fR_38_12⟩
theorem eR_hungry_70 : pd_ic mR_hungry 70 6 72 := Or.inr (Or.inl ⟨⟨by decide +kernel, rfl⟩, by decide⟩)
theorem eR_hungry_72 : pd_il mR_hungry 72 1 73 := Or.inl ⟨1, rfl, by decide +kernel, rfl⟩
theorem eR_hungry_73 : pd_i mR_hungry 73 (.iadd) 1 74 := ⟨by decide +kernel, rfl⟩
theorem eR_hungry_74 : pd_i mR_hungry 74 (.iaload) 1 75 := ⟨by decide +kernel, rfl⟩
theorem eR_hungry_75 : pd_i mR_hungry 75 (.isub) 1 76 := ⟨by decide +kernel, rfl⟩
theorem eR_hungry_76 {z : Int} : pd_rd mR_hungry 76 (some (vi z)) := (by decide +kernel : decode mR_hungry.2.1 76 = .ok (.ireturn, 1))
theorem eR_takenBy_0 : pd_al mR_takenBy 0 0 1 := Or.inl ⟨0, rfl, by decide +kernel, rfl⟩
theorem eR_takenBy_1 : pd_kv mR_takenBy 1 mR_take 0 4 := ⟨179, ⟨by decide +kernel, rfl⟩, (pd_m 947 (by decide +kernel) (by decide +kernel)), (pd_m 949 (by decide +kernel) (by decide +kernel)), (pd_m 41 (by decide +kernel) (by decide +kernel)), kR_take⟩
theorem eR_takenBy_4 : pd_ic mR_takenBy 4 0 5 := Or.inl ⟨by decide +kernel, rfl⟩
theorem eR_takenBy_5 : pd_is mR_takenBy 5 3 6 := ⟨by decide, Or.inl ⟨3, rfl, by decide +kernel, rfl⟩⟩
theorem eR_takenBy_6 : pd_ic mR_takenBy 6 1 7 := Or.inl ⟨by decide +kernel, rfl⟩
theorem eR_takenBy_7 : pd_is mR_takenBy 7 4 9 := ⟨by decide, Or.inr ⟨by decide +kernel, rfl⟩⟩
theorem eR_takenBy_9 : pd_ic mR_takenBy 9 1 10 := Or.inl ⟨by decide +kernel, rfl⟩
theorem eR_takenBy_10 : pd_is mR_takenBy 10 5 12 := ⟨by decide, Or.inr ⟨by decide +kernel, rfl⟩⟩
theorem eR_takenBy_12 : pd_il mR_takenBy 12 5 14 := Or.inr ⟨by decide +kernel, rfl⟩
theorem eR_takenBy_14 : pd_il mR_takenBy 14 2 15 := Or.inl ⟨2, rfl, by decide +kernel, rfl⟩
theorem eR_takenBy_15 : pd_b2 mR_takenBy 15 .ge 18 30 := ⟨15, ⟨by decide +kernel, rfl⟩, by decide⟩
theorem eR_takenBy_18 : pd_il mR_takenBy 18 4 20 := Or.inr ⟨by decide +kernel, rfl⟩
theorem eR_takenBy_20 : pd_ic mR_takenBy 20 5 21 := Or.inl ⟨by decide +kernel, rfl⟩
theorem eR_takenBy_21 : pd_i mR_takenBy 21 (.imul) 1 22 := ⟨by decide +kernel, rfl⟩
theorem eR_takenBy_22 : pd_is mR_takenBy 22 4 24 := ⟨by decide, Or.inr ⟨by decide +kernel, rfl⟩⟩
theorem eR_takenBy_24 : pd_ii mR_takenBy 24 5 1 27 := ⟨by decide, by decide +kernel, rfl⟩
theorem eR_takenBy_27 : pd_go mR_takenBy 27 12 := ⟨-15, by decide +kernel, by decide⟩
theorem eR_takenBy_30 : pd_ic mR_takenBy 30 0 31 := Or.inl ⟨by decide +kernel, rfl⟩
theorem eR_takenBy_31 : pd_is mR_takenBy 31 5 33 := ⟨by decide, Or.inr ⟨by decide +kernel, rfl⟩⟩
theorem eR_takenBy_33 : pd_il mR_takenBy 33 5 35 := Or.inr ⟨by decide +kernel, rfl⟩
theorem eR_takenBy_35 : pd_il mR_takenBy 35 2 36 := Or.inl ⟨2, rfl, by decide +kernel, rfl⟩
theorem eR_takenBy_36 : pd_b2 mR_takenBy 36 .ge 39 129 := ⟨93, ⟨by decide +kernel, rfl⟩, by decide⟩
theorem eR_takenBy_39 : pd_il mR_takenBy 39 1 40 := Or.inl ⟨1, rfl, by decide +kernel, rfl⟩
theorem eR_takenBy_40 : pd_il mR_takenBy 40 4 42 := Or.inr ⟨by decide +kernel, rfl⟩
theorem eR_takenBy_42 : pd_i mR_takenBy 42 (.idiv) 1 43 := ⟨by decide +kernel, rfl⟩
theorem eR_takenBy_43 : pd_ic mR_takenBy 43 5 44 := Or.inl ⟨by decide +kernel, rfl⟩
theorem eR_takenBy_44 : pd_i mR_takenBy 44 (.irem) 1 45 := ⟨by decide +kernel, rfl⟩
theorem eR_takenBy_45 : pd_ic mR_takenBy 45 1 46 := Or.inl ⟨by decide +kernel, rfl⟩
theorem eR_takenBy_46 : pd_i mR_takenBy 46 (.isub) 1 47 := ⟨by decide +kernel, rfl⟩
theorem eR_takenBy_47 : pd_is mR_takenBy 47 6 49 := ⟨by decide, Or.inr ⟨by decide +kernel, rfl⟩⟩
theorem eR_takenBy_49 : pd_il mR_takenBy 49 4 51 := Or.inr ⟨by decide +kernel, rfl⟩
theorem eR_takenBy_51 : pd_ic mR_takenBy 51 5 52 := Or.inl ⟨by decide +kernel, rfl⟩
theorem eR_takenBy_52 : pd_i mR_takenBy 52 (.idiv) 1 53 := ⟨by decide +kernel, rfl⟩
theorem eR_takenBy_53 : pd_is mR_takenBy 53 4 55 := ⟨by decide, Or.inr ⟨by decide +kernel, rfl⟩⟩
theorem eR_takenBy_55 : pd_il mR_takenBy 55 6 57 := Or.inr ⟨by decide +kernel, rfl⟩
theorem eR_takenBy_57 : pd_al mR_takenBy 57 0 58 := Or.inl ⟨0, rfl, by decide +kernel, rfl⟩
theorem eR_takenBy_58 : pd_gf mR_takenBy 58 12 3 61 := ⟨17, _, ⟨by decide +kernel, rfl⟩, fR_17_12⟩
theorem eR_takenBy_61 : pd_ic mR_takenBy 61 0 62 := Or.inl ⟨by decide +kernel, rfl⟩
theorem eR_takenBy_62 : pd_i mR_takenBy 62 (.iaload) 1 63 := ⟨by decide +kernel, rfl⟩
theorem eR_takenBy_63 : pd_b2 mR_takenBy 63 .lt 66 69 := ⟨6, ⟨by decide +kernel, rfl⟩, by decide⟩
theorem eR_takenBy_66 : pd_ic mR_takenBy 66 (-9) 68 := Or.inr (Or.inl ⟨⟨by decide +kernel, rfl⟩, by decide⟩)
theorem eR_takenBy_68 {z : Int} : pd_rd mR_takenBy 68 (some (vi z)) := (by decide +kernel : decode mR_takenBy.2.1 68 = .ok (.ireturn, 1))
theorem eR_takenBy_69 : pd_il mR_takenBy 69 6 71 := Or.inr ⟨by decide +kernel, rfl⟩
theorem eR_takenBy_71 : pd_b1 mR_takenBy 71 .lt 74 109 := ⟨38, ⟨by decide +kernel, rfl⟩, by decide⟩
theorem eR_takenBy_74 : pd_al mR_takenBy 74 0 75 := Or.inl ⟨0, rfl, by decide +kernel, rfl⟩
theorem eR_takenBy_75 : pd_al mR_takenBy 75 0 76 := Or.inl ⟨0, rfl, by decide +kernel, rfl⟩
theorem eR_takenBy_76 : pd_gf mR_takenBy 76 12 22 79 := ⟨54, _, ⟨by decide +kernel, rfl⟩, fR_54_12⟩
theorem eR_takenBy_79 : pd_il mR_takenBy 79 6 81 := Or.inr ⟨by decide +kernel, rfl⟩
theorem eR_takenBy_81 : pd_kv mR_takenBy 81 mR_canTake 2 84 := ⟨162, ⟨by decide +kernel, rfl⟩, (pd_m 882 (by decide +kernel) (by decide +kernel)), (pd_m 884 (by decide +kernel) (by decide +kernel)), (pd_m 34 (by decide +kernel) (by decide +kernel)), kR_canTake⟩
theorem eR_takenBy_84 : pd_is mR_takenBy 84 7 86 := ⟨by decide, Or.inr ⟨by decide +kernel, rfl⟩⟩
theorem eR_takenBy_86 : pd_il mR_takenBy 86 7 88 := Or.inr ⟨by decide +kernel, rfl⟩
theorem eR_takenBy_88 : pd_b1 mR_takenBy 88 .ne 91 94 := ⟨6, ⟨by decide +kernel, rfl⟩, by decide⟩
theorem eR_takenBy_91 : pd_ic mR_takenBy 91 (-9) 93 := Or.inr (Or.inl ⟨⟨by decide +kernel, rfl⟩, by decide⟩)
theorem eR_takenBy_93 {z : Int} : pd_rd mR_takenBy 93 (some (vi z)) := (by decide +kernel : decode mR_takenBy.2.1 93 = .ok (.ireturn, 1))
theorem eR_takenBy_94 : pd_al mR_takenBy 94 0 95 := Or.inl ⟨0, rfl, by decide +kernel, rfl⟩
theorem eR_takenBy_95 : pd_al mR_takenBy 95 0 96 := Or.inl ⟨0, rfl, by decide +kernel, rfl⟩
theorem eR_takenBy_96 : pd_gf mR_takenBy 96 12 22 99 := ⟨54, _, ⟨by decide +kernel, rfl⟩, fR_54_12⟩
theorem eR_takenBy_99 : pd_il mR_takenBy 99 6 101 := Or.inr ⟨by decide +kernel, rfl⟩
theorem eR_takenBy_101 : pd_il mR_takenBy 101 7 103 := Or.inr ⟨by decide +kernel, rfl⟩
theorem eR_takenBy_103 : pd_kv mR_takenBy 103 mR_takeOf 3 106 := ⟨175, ⟨by decide +kernel, rfl⟩, (pd_m 923 (by decide +kernel) (by decide +kernel)), (pd_m 925 (by decide +kernel) (by decide +kernel)), (pd_m 39 (by decide +kernel) (by decide +kernel)), kR_takeOf⟩
theorem eR_takenBy_106 : pd_ii mR_takenBy 106 3 1 109 := ⟨by decide, by decide +kernel, rfl⟩
theorem eR_takenBy_109 : pd_al mR_takenBy 109 0 110 := Or.inl ⟨0, rfl, by decide +kernel, rfl⟩
theorem eR_takenBy_110 : pd_al mR_takenBy 110 0 111 := Or.inl ⟨0, rfl, by decide +kernel, rfl⟩
theorem eR_takenBy_111 : pd_gf mR_takenBy 111 12 22 114 := ⟨54, _, ⟨by decide +kernel, rfl⟩, fR_54_12⟩
theorem eR_takenBy_114 : pd_kv mR_takenBy 114 mR_passOn 1 117 := ⟨172, ⟨by decide +kernel, rfl⟩, (pd_m 912 (by decide +kernel) (by decide +kernel)), (pd_m 914 (by decide +kernel) (by decide +kernel)), (pd_m 38 (by decide +kernel) (by decide +kernel)), kR_passOn⟩
theorem eR_takenBy_117 : pd_b1 mR_takenBy 117 .le 120 123 := ⟨6, ⟨by decide +kernel, rfl⟩, by decide⟩
theorem eR_takenBy_120 : pd_ic mR_takenBy 120 (-9) 122 := Or.inr (Or.inl ⟨⟨by decide +kernel, rfl⟩, by decide⟩)
theorem eR_takenBy_122 {z : Int} : pd_rd mR_takenBy 122 (some (vi z)) := (by decide +kernel : decode mR_takenBy.2.1 122 = .ok (.ireturn, 1))
theorem eR_takenBy_123 : pd_ii mR_takenBy 123 5 1 126 := ⟨by decide, by decide +kernel, rfl⟩
theorem eR_takenBy_126 : pd_go mR_takenBy 126 33 := ⟨-93, by decide +kernel, by decide⟩
theorem eR_takenBy_129 : pd_il mR_takenBy 129 3 130 := Or.inl ⟨3, rfl, by decide +kernel, rfl⟩
theorem eR_takenBy_130 {z : Int} : pd_rd mR_takenBy 130 (some (vi z)) := (by decide +kernel : decode mR_takenBy.2.1 130 = .ok (.ireturn, 1))
theorem eR_fed_0 : pd_il mR_fed 0 1 1 := Or.inl ⟨1, rfl, by decide +kernel, rfl⟩
theorem eR_fed_1 : pd_ic mR_fed 1 1 2 := Or.inl ⟨by decide +kernel, rfl⟩
theorem eR_fed_2 : pd_ic mR_fed 2 6 4 := Or.inr (Or.inl ⟨⟨by decide +kernel, rfl⟩, by decide⟩)
theorem eR_fed_4 : pd_ks mR_fed 4 mR_in 3 7 := ⟨75, ⟨by decide +kernel, rfl⟩, Or.inl (pd_m 827 (by decide +kernel) (by decide +kernel)), (pd_m 828 (by decide +kernel) (by decide +kernel)), kR_in⟩
theorem eR_fed_7 : pd_b1 mR_fed 7 .eq 10 19 := ⟨12, ⟨by decide +kernel, rfl⟩, by decide⟩
theorem eR_fed_10 : pd_il mR_fed 10 2 11 := Or.inl ⟨2, rfl, by decide +kernel, rfl⟩
theorem eR_fed_11 : pd_ic mR_fed 11 (-1) 12 := Or.inl ⟨by decide +kernel, rfl⟩
theorem eR_fed_12 : pd_ic mR_fed 12 5 13 := Or.inl ⟨by decide +kernel, rfl⟩
theorem eR_fed_13 : pd_ks mR_fed 13 mR_in 3 16 := ⟨75, ⟨by decide +kernel, rfl⟩, Or.inl (pd_m 827 (by decide +kernel) (by decide +kernel)), (pd_m 828 (by decide +kernel) (by decide +kernel)), kR_in⟩
theorem eR_fed_16 : pd_b1 mR_fed 16 .ne 19 21 := ⟨5, ⟨by decide +kernel, rfl⟩, by decide⟩
theorem eR_fed_19 : pd_ic mR_fed 19 (-1) 20 := Or.inl ⟨by decide +kernel, rfl⟩
theorem eR_fed_20 {z : Int} : pd_rd mR_fed 20 (some (vi z)) := (by decide +kernel : decode mR_fed.2.1 20 = .ok (.ireturn, 1))
theorem eR_fed_21 : pd_ic mR_fed 21 20 23 := Or.inr (Or.inl ⟨⟨by decide +kernel, rfl⟩, by decide⟩)
theorem eR_fed_23 : pd_al mR_fed 23 0 24 := Or.inl ⟨0, rfl, by decide +kernel, rfl⟩
theorem eR_fed_24 : pd_gf mR_fed 24 12 17 27 := ⟨38, _, ⟨by decide +kernel, rfl⟩, fR_38_12⟩
theorem eR_fed_27 : pd_ic mR_fed 27 0 28 := Or.inl ⟨by decide +kernel, rfl⟩
theorem eR_fed_28 : pd_i mR_fed 28 (.iaload) 1 29 := ⟨by decide +kernel, rfl⟩
theorem eR_fed_29 : pd_i mR_fed 29 (.isub) 1 30 := ⟨by decide +kernel, rfl⟩
theorem eR_fed_30 : pd_il mR_fed 30 1 31 := Or.inl ⟨1, rfl, by decide +kernel, rfl⟩
theorem eR_fed_31 : pd_b2 mR_fed 31 .ge 34 46 := ⟨15, ⟨by decide +kernel, rfl⟩, by decide⟩
theorem eR_fed_34 : pd_ic mR_fed 34 20 36 := Or.inr (Or.inl ⟨⟨by decide +kernel, rfl⟩, by decide⟩)
theorem eR_fed_36 : pd_al mR_fed 36 0 37 := Or.inl ⟨0, rfl, by decide +kernel, rfl⟩
theorem eR_fed_37 : pd_gf mR_fed 37 12 17 40 := ⟨38, _, ⟨by decide +kernel, rfl⟩, fR_38_12⟩
theorem eR_fed_40 : pd_ic mR_fed 40 0 41 := Or.inl ⟨by decide +kernel, rfl⟩
theorem eR_fed_41 : pd_i mR_fed 41 (.iaload) 1 42 := ⟨by decide +kernel, rfl⟩
theorem eR_fed_42 : pd_i mR_fed 42 (.isub) 1 43 := ⟨by decide +kernel, rfl⟩
theorem eR_fed_43 : pd_go mR_fed 43 47 := ⟨4, by decide +kernel, by decide⟩
theorem eR_fed_46 : pd_il mR_fed 46 1 47 := Or.inl ⟨1, rfl, by decide +kernel, rfl⟩
theorem eR_fed_47 : pd_is mR_fed 47 3 48 := ⟨by decide, Or.inl ⟨3, rfl, by decide +kernel, rfl⟩⟩
theorem eR_fed_48 : pd_ic mR_fed 48 1 49 := Or.inl ⟨by decide +kernel, rfl⟩
theorem eR_fed_49 : pd_is mR_fed 49 4 51 := ⟨by decide, Or.inr ⟨by decide +kernel, rfl⟩⟩
theorem eR_fed_51 : pd_ic mR_fed 51 0 52 := Or.inl ⟨by decide +kernel, rfl⟩
theorem eR_fed_52 : pd_is mR_fed 52 5 54 := ⟨by decide, Or.inr ⟨by decide +kernel, rfl⟩⟩
theorem eR_fed_54 : pd_il mR_fed 54 5 56 := Or.inr ⟨by decide +kernel, rfl⟩
theorem eR_fed_56 : pd_il mR_fed 56 3 57 := Or.inl ⟨3, rfl, by decide +kernel, rfl⟩
theorem eR_fed_57 : pd_b2 mR_fed 57 .ge 60 72 := ⟨15, ⟨by decide +kernel, rfl⟩, by decide⟩
theorem eR_fed_60 : pd_il mR_fed 60 4 62 := Or.inr ⟨by decide +kernel, rfl⟩
theorem eR_fed_62 : pd_ic mR_fed 62 5 63 := Or.inl ⟨by decide +kernel, rfl⟩
theorem eR_fed_63 : pd_i mR_fed 63 (.imul) 1 64 := ⟨by decide +kernel, rfl⟩
theorem eR_fed_64 : pd_is mR_fed 64 4 66 := ⟨by decide, Or.inr ⟨by decide +kernel, rfl⟩⟩
theorem eR_fed_66 : pd_ii mR_fed 66 5 1 69 := ⟨by decide, by decide +kernel, rfl⟩
theorem eR_fed_69 : pd_go mR_fed 69 54 := ⟨-15, by decide +kernel, by decide⟩
theorem eR_fed_72 : pd_ic mR_fed 72 (-9) 74 := Or.inr (Or.inl ⟨⟨by decide +kernel, rfl⟩, by decide⟩)
theorem eR_fed_74 : pd_is mR_fed 74 5 76 := ⟨by decide, Or.inr ⟨by decide +kernel, rfl⟩⟩
theorem eR_fed_76 : pd_ic mR_fed 76 (-9) 78 := Or.inr (Or.inl ⟨⟨by decide +kernel, rfl⟩, by decide⟩)
theorem eR_fed_78 : pd_is mR_fed 78 6 80 := ⟨by decide, Or.inr ⟨by decide +kernel, rfl⟩⟩
theorem eR_fed_80 : pd_ic mR_fed 80 0 81 := Or.inl ⟨by decide +kernel, rfl⟩
theorem eR_fed_81 : pd_is mR_fed 81 7 83 := ⟨by decide, Or.inr ⟨by decide +kernel, rfl⟩⟩
theorem eR_fed_83 : pd_il mR_fed 83 7 85 := Or.inr ⟨by decide +kernel, rfl⟩
theorem eR_fed_85 : pd_il mR_fed 85 4 87 := Or.inr ⟨by decide +kernel, rfl⟩
theorem eR_fed_87 : pd_b2 mR_fed 87 .ge 90 139 := ⟨52, ⟨by decide +kernel, rfl⟩, by decide⟩
theorem eR_fed_90 : pd_il mR_fed 90 6 92 := Or.inr ⟨by decide +kernel, rfl⟩
theorem eR_fed_92 : pd_b1 mR_fed 92 .eq 95 139 := ⟨47, ⟨by decide +kernel, rfl⟩, by decide⟩
theorem eR_fed_95 : pd_al mR_fed 95 0 96 := Or.inl ⟨0, rfl, by decide +kernel, rfl⟩
theorem eR_fed_96 : pd_il mR_fed 96 7 98 := Or.inr ⟨by decide +kernel, rfl⟩
theorem eR_fed_98 : pd_il mR_fed 98 3 99 := Or.inl ⟨3, rfl, by decide +kernel, rfl⟩
theorem eR_fed_99 : pd_kv mR_fed 99 mR_takenBy 2 102 := ⟨185, ⟨by decide +kernel, rfl⟩, (pd_m 963 (by decide +kernel) (by decide +kernel)), (pd_m 965 (by decide +kernel) (by decide +kernel)), (pd_m 42 (by decide +kernel) (by decide +kernel)), kR_takenBy⟩
theorem eR_fed_102 : pd_is mR_fed 102 8 104 := ⟨by decide, Or.inr ⟨by decide +kernel, rfl⟩⟩
theorem eR_fed_104 : pd_il mR_fed 104 8 106 := Or.inr ⟨by decide +kernel, rfl⟩
theorem eR_fed_106 : pd_ic mR_fed 106 (-9) 108 := Or.inr (Or.inl ⟨⟨by decide +kernel, rfl⟩, by decide⟩)
theorem eR_fed_108 : pd_b2 mR_fed 108 .eq 111 133 := ⟨25, ⟨by decide +kernel, rfl⟩, by decide⟩
theorem eR_fed_111 : pd_il mR_fed 111 6 113 := Or.inr ⟨by decide +kernel, rfl⟩
theorem eR_fed_113 : pd_ic mR_fed 113 (-9) 115 := Or.inr (Or.inl ⟨⟨by decide +kernel, rfl⟩, by decide⟩)
theorem eR_fed_115 : pd_b2 mR_fed 115 .eq 118 125 := ⟨10, ⟨by decide +kernel, rfl⟩, by decide⟩
theorem eR_fed_118 : pd_il mR_fed 118 8 120 := Or.inr ⟨by decide +kernel, rfl⟩
theorem eR_fed_120 : pd_il mR_fed 120 6 122 := Or.inr ⟨by decide +kernel, rfl⟩
theorem eR_fed_122 : pd_b2 mR_fed 122 .ge 125 133 := ⟨11, ⟨by decide +kernel, rfl⟩, by decide⟩
theorem eR_fed_125 : pd_il mR_fed 125 7 127 := Or.inr ⟨by decide +kernel, rfl⟩
theorem eR_fed_127 : pd_is mR_fed 127 5 129 := ⟨by decide, Or.inr ⟨by decide +kernel, rfl⟩⟩
theorem eR_fed_129 : pd_il mR_fed 129 8 131 := Or.inr ⟨by decide +kernel, rfl⟩
theorem eR_fed_131 : pd_is mR_fed 131 6 133 := ⟨by decide, Or.inr ⟨by decide +kernel, rfl⟩⟩
theorem eR_fed_133 : pd_ii mR_fed 133 7 1 136 := ⟨by decide, by decide +kernel, rfl⟩
theorem eR_fed_136 : pd_go mR_fed 136 83 := ⟨-53, by decide +kernel, by decide⟩
theorem eR_fed_139 : pd_il mR_fed 139 2 140 := Or.inl ⟨2, rfl, by decide +kernel, rfl⟩
theorem eR_fed_140 : pd_ic mR_fed 140 (-1) 141 := Or.inl ⟨by decide +kernel, rfl⟩
theorem eR_fed_141 : pd_b2 mR_fed 141 .eq 144 156 := ⟨15, ⟨by decide +kernel, rfl⟩, by decide⟩
theorem eR_fed_144 : pd_il mR_fed 144 5 146 := Or.inr ⟨by decide +kernel, rfl⟩
theorem eR_fed_146 : pd_ic mR_fed 146 (-9) 148 := Or.inr (Or.inl ⟨⟨by decide +kernel, rfl⟩, by decide⟩)
theorem eR_fed_148 : pd_b2 mR_fed 148 .eq 151 156 := ⟨8, ⟨by decide +kernel, rfl⟩, by decide⟩
theorem eR_fed_151 : pd_il mR_fed 151 2 152 := Or.inl ⟨2, rfl, by decide +kernel, rfl⟩
theorem eR_fed_152 : pd_il mR_fed 152 3 153 := Or.inl ⟨3, rfl, by decide +kernel, rfl⟩
theorem eR_fed_153 : pd_b2 mR_fed 153 .lt 156 169 := ⟨16, ⟨by decide +kernel, rfl⟩, by decide⟩
theorem eR_fed_156 : pd_il mR_fed 156 2 157 := Or.inl ⟨2, rfl, by decide +kernel, rfl⟩
theorem eR_fed_157 : pd_ic mR_fed 157 (-1) 158 := Or.inl ⟨by decide +kernel, rfl⟩
theorem eR_fed_158 : pd_b2 mR_fed 158 .ne 161 166 := ⟨8, ⟨by decide +kernel, rfl⟩, by decide⟩
theorem eR_fed_161 : pd_il mR_fed 161 6 163 := Or.inr ⟨by decide +kernel, rfl⟩
theorem eR_fed_163 : pd_go mR_fed 163 168 := ⟨5, by decide +kernel, by decide⟩
theorem eR_fed_166 : pd_ic mR_fed 166 (-9) 168 := Or.inr (Or.inl ⟨⟨by decide +kernel, rfl⟩, by decide⟩)
theorem eR_fed_168 {z : Int} : pd_rd mR_fed 168 (some (vi z)) := (by decide +kernel : decode mR_fed.2.1 168 = .ok (.ireturn, 1))
theorem eR_fed_169 : pd_il mR_fed 169 3 170 := Or.inl ⟨3, rfl, by decide +kernel, rfl⟩
theorem eR_fed_170 : pd_ic mR_fed 170 1 171 := Or.inl ⟨by decide +kernel, rfl⟩
theorem eR_fed_171 : pd_i mR_fed 171 (.isub) 1 172 := ⟨by decide +kernel, rfl⟩
theorem eR_fed_172 : pd_is mR_fed 172 7 174 := ⟨by decide, Or.inr ⟨by decide +kernel, rfl⟩⟩
theorem eR_fed_174 : pd_il mR_fed 174 7 176 := Or.inr ⟨by decide +kernel, rfl⟩
theorem eR_fed_176 : pd_il mR_fed 176 2 177 := Or.inl ⟨2, rfl, by decide +kernel, rfl⟩
theorem eR_fed_177 : pd_b2 mR_fed 177 .le 180 192 := ⟨15, ⟨by decide +kernel, rfl⟩, by decide⟩
theorem eR_fed_180 : pd_il mR_fed 180 5 182 := Or.inr ⟨by decide +kernel, rfl⟩
theorem eR_fed_182 : pd_ic mR_fed 182 5 183 := Or.inl ⟨by decide +kernel, rfl⟩
theorem eR_fed_183 : pd_i mR_fed 183 (.idiv) 1 184 := ⟨by decide +kernel, rfl⟩
theorem eR_fed_184 : pd_is mR_fed 184 5 186 := ⟨by decide, Or.inr ⟨by decide +kernel, rfl⟩⟩
theorem eR_fed_186 : pd_ii mR_fed 186 7 (-1) 189 := ⟨by decide, by decide +kernel, rfl⟩
theorem eR_fed_189 : pd_go mR_fed 189 174 := ⟨-15, by decide +kernel, by decide⟩
theorem eR_fed_192 : pd_il mR_fed 192 5 194 := Or.inr ⟨by decide +kernel, rfl⟩
theorem eR_fed_194 : pd_ic mR_fed 194 5 195 := Or.inl ⟨by decide +kernel, rfl⟩
theorem eR_fed_195 : pd_i mR_fed 195 (.irem) 1 196 := ⟨by decide +kernel, rfl⟩
theorem eR_fed_196 : pd_b1 mR_fed 196 .ne 199 204 := ⟨8, ⟨by decide +kernel, rfl⟩, by decide⟩
theorem eR_fed_199 : pd_ic mR_fed 199 (-9) 201 := Or.inr (Or.inl ⟨⟨by decide +kernel, rfl⟩, by decide⟩)
theorem eR_fed_201 : pd_go mR_fed 201 210 := ⟨9, by decide +kernel, by decide⟩
theorem eR_fed_204 : pd_il mR_fed 204 5 206 := Or.inr ⟨by decide +kernel, rfl⟩
theorem eR_fed_206 : pd_ic mR_fed 206 5 207 := Or.inl ⟨by decide +kernel, rfl⟩
theorem eR_fed_207 : pd_i mR_fed 207 (.irem) 1 208 := ⟨by decide +kernel, rfl⟩
theorem eR_fed_208 : pd_ic mR_fed 208 1 209 := Or.inl ⟨by decide +kernel, rfl⟩
theorem eR_fed_209 : pd_i mR_fed 209 (.isub) 1 210 := ⟨by decide +kernel, rfl⟩
theorem eR_fed_210 {z : Int} : pd_rd mR_fed 210 (some (vi z)) := (by decide +kernel : decode mR_fed.2.1 210 = .ok (.ireturn, 1))
theorem eR_tellMost_0 : pd_ic mR_tellMost 0 0 1 := Or.inl ⟨by decide +kernel, rfl⟩
theorem eR_tellMost_1 : pd_is mR_tellMost 1 1 2 := ⟨by decide, Or.inl ⟨1, rfl, by decide +kernel, rfl⟩⟩
theorem eR_tellMost_2 : pd_il mR_tellMost 2 1 3 := Or.inl ⟨1, rfl, by decide +kernel, rfl⟩
theorem eR_tellMost_3 : pd_ic mR_tellMost 3 60 5 := Or.inr (Or.inl ⟨⟨by decide +kernel, rfl⟩, by decide⟩)
theorem eR_tellMost_5 : pd_b2 mR_tellMost 5 .gt 8 31 := ⟨26, ⟨by decide +kernel, rfl⟩, by decide⟩
theorem eR_tellMost_8 : pd_al mR_tellMost 8 0 9 := Or.inl ⟨0, rfl, by decide +kernel, rfl⟩
theorem eR_tellMost_9 : pd_gf mR_tellMost 9 12 23 12 := ⟨57, _, ⟨by decide +kernel, rfl⟩, fR_57_12⟩
theorem eR_tellMost_12 : pd_ic mR_tellMost 12 61 14 := Or.inr (Or.inl ⟨⟨by decide +kernel, rfl⟩, by decide⟩)
theorem eR_tellMost_14 : pd_al mR_tellMost 14 0 15 := Or.inl ⟨0, rfl, by decide +kernel, rfl⟩
theorem eR_tellMost_15 : pd_gf mR_tellMost 15 12 3 18 := ⟨17, _, ⟨by decide +kernel, rfl⟩, fR_17_12⟩
theorem eR_tellMost_18 : pd_ic mR_tellMost 18 0 19 := Or.inl ⟨by decide +kernel, rfl⟩
theorem eR_tellMost_19 : pd_i mR_tellMost 19 (.iaload) 1 20 := ⟨by decide +kernel, rfl⟩
theorem eR_tellMost_20 : pd_i mR_tellMost 20 (.imul) 1 21 := ⟨by decide +kernel, rfl⟩
theorem eR_tellMost_21 : pd_il mR_tellMost 21 1 22 := Or.inl ⟨1, rfl, by decide +kernel, rfl⟩
theorem eR_tellMost_22 : pd_i mR_tellMost 22 (.iadd) 1 23 := ⟨by decide +kernel, rfl⟩
theorem eR_tellMost_23 : pd_ic mR_tellMost 23 0 24 := Or.inl ⟨by decide +kernel, rfl⟩
theorem eR_tellMost_24 : pd_i mR_tellMost 24 (.iastore) 1 25 := ⟨by decide +kernel, rfl⟩
theorem eR_tellMost_25 : pd_ii mR_tellMost 25 1 1 28 := ⟨by decide, by decide +kernel, rfl⟩
theorem eR_tellMost_28 : pd_go mR_tellMost 28 2 := ⟨-26, by decide +kernel, by decide⟩
theorem eR_tellMost_31 : pd_al mR_tellMost 31 0 32 := Or.inl ⟨0, rfl, by decide +kernel, rfl⟩
theorem eR_tellMost_32 : pd_gf mR_tellMost 32 12 3 35 := ⟨17, _, ⟨by decide +kernel, rfl⟩, fR_17_12⟩
theorem eR_tellMost_35 : pd_ic mR_tellMost 35 0 36 := Or.inl ⟨by decide +kernel, rfl⟩
theorem eR_tellMost_36 : pd_i mR_tellMost 36 (.iaload) 1 37 := ⟨by decide +kernel, rfl⟩
theorem eR_tellMost_37 : pd_ic mR_tellMost 37 1 38 := Or.inl ⟨by decide +kernel, rfl⟩
theorem eR_tellMost_38 : pd_i mR_tellMost 38 (.isub) 1 39 := ⟨by decide +kernel, rfl⟩
theorem eR_tellMost_39 : pd_is mR_tellMost 39 1 40 := ⟨by decide, Or.inl ⟨1, rfl, by decide +kernel, rfl⟩⟩
theorem eR_tellMost_40 : pd_il mR_tellMost 40 1 41 := Or.inl ⟨1, rfl, by decide +kernel, rfl⟩
theorem eR_tellMost_41 : pd_b1 mR_tellMost 41 .lt 44 162 := ⟨121, ⟨by decide +kernel, rfl⟩, by decide⟩
theorem eR_tellMost_44 : pd_ic mR_tellMost 44 0 45 := Or.inl ⟨by decide +kernel, rfl⟩
theorem eR_tellMost_45 : pd_is mR_tellMost 45 2 46 := ⟨by decide, Or.inl ⟨2, rfl, by decide +kernel, rfl⟩⟩
theorem eR_tellMost_46 : pd_il mR_tellMost 46 2 47 := Or.inl ⟨2, rfl, by decide +kernel, rfl⟩
theorem eR_tellMost_47 : pd_ic mR_tellMost 47 60 49 := Or.inr (Or.inl ⟨⟨by decide +kernel, rfl⟩, by decide⟩)
theorem eR_tellMost_49 : pd_b2 mR_tellMost 49 .gt 52 156 := ⟨107, ⟨by decide +kernel, rfl⟩, by decide⟩
theorem eR_tellMost_52 : pd_ic mR_tellMost 52 0 53 := Or.inl ⟨by decide +kernel, rfl⟩
theorem eR_tellMost_53 : pd_is mR_tellMost 53 3 54 := ⟨by decide, Or.inl ⟨3, rfl, by decide +kernel, rfl⟩⟩
theorem eR_tellMost_54 : pd_ic mR_tellMost 54 0 55 := Or.inl ⟨by decide +kernel, rfl⟩
theorem eR_tellMost_55 : pd_is mR_tellMost 55 4 57 := ⟨by decide, Or.inr ⟨by decide +kernel, rfl⟩⟩
theorem eR_tellMost_57 : pd_il mR_tellMost 57 4 59 := Or.inr ⟨by decide +kernel, rfl⟩
theorem eR_tellMost_59 : pd_al mR_tellMost 59 0 60 := Or.inl ⟨0, rfl, by decide +kernel, rfl⟩
theorem eR_tellMost_60 : pd_al mR_tellMost 60 0 61 := Or.inl ⟨0, rfl, by decide +kernel, rfl⟩
theorem eR_tellMost_61 : pd_gf mR_tellMost 61 12 17 64 := ⟨38, _, ⟨by decide +kernel, rfl⟩, fR_38_12⟩
theorem eR_tellMost_64 : pd_il mR_tellMost 64 1 65 := Or.inl ⟨1, rfl, by decide +kernel, rfl⟩
theorem eR_tellMost_65 : pd_kv mR_tellMost 65 mR_canTake 2 68 := ⟨162, ⟨by decide +kernel, rfl⟩, (pd_m 882 (by decide +kernel) (by decide +kernel)), (pd_m 884 (by decide +kernel) (by decide +kernel)), (pd_m 34 (by decide +kernel) (by decide +kernel)), kR_canTake⟩
theorem eR_tellMost_68 : pd_b2 mR_tellMost 68 .gt 71 138 := ⟨70, ⟨by decide +kernel, rfl⟩, by decide⟩
theorem eR_tellMost_71 : pd_il mR_tellMost 71 4 73 := Or.inr ⟨by decide +kernel, rfl⟩
theorem eR_tellMost_73 : pd_al mR_tellMost 73 0 74 := Or.inl ⟨0, rfl, by decide +kernel, rfl⟩
theorem eR_tellMost_74 : pd_gf mR_tellMost 74 12 6 77 := ⟨26, _, ⟨by decide +kernel, rfl⟩, fR_26_12⟩
theorem eR_tellMost_77 : pd_il mR_tellMost 77 1 78 := Or.inl ⟨1, rfl, by decide +kernel, rfl⟩
theorem eR_tellMost_78 : pd_i mR_tellMost 78 (.iaload) 1 79 := ⟨by decide +kernel, rfl⟩
theorem eR_tellMost_79 : pd_i mR_tellMost 79 (.imul) 1 80 := ⟨by decide +kernel, rfl⟩
theorem eR_tellMost_80 : pd_il mR_tellMost 80 2 81 := Or.inl ⟨2, rfl, by decide +kernel, rfl⟩
theorem eR_tellMost_81 : pd_b2 mR_tellMost 81 .gt 84 138 := ⟨57, ⟨by decide +kernel, rfl⟩, by decide⟩
theorem eR_tellMost_84 : pd_il mR_tellMost 84 4 86 := Or.inr ⟨by decide +kernel, rfl⟩
theorem eR_tellMost_86 : pd_al mR_tellMost 86 0 87 := Or.inl ⟨0, rfl, by decide +kernel, rfl⟩
theorem eR_tellMost_87 : pd_gf mR_tellMost 87 12 7 90 := ⟨29, _, ⟨by decide +kernel, rfl⟩, fR_29_12⟩
theorem eR_tellMost_90 : pd_il mR_tellMost 90 1 91 := Or.inl ⟨1, rfl, by decide +kernel, rfl⟩
theorem eR_tellMost_91 : pd_i mR_tellMost 91 (.iaload) 1 92 := ⟨by decide +kernel, rfl⟩
theorem eR_tellMost_92 : pd_i mR_tellMost 92 (.imul) 1 93 := ⟨by decide +kernel, rfl⟩
theorem eR_tellMost_93 : pd_al mR_tellMost 93 0 94 := Or.inl ⟨0, rfl, by decide +kernel, rfl⟩
theorem eR_tellMost_94 : pd_gf mR_tellMost 94 12 23 97 := ⟨57, _, ⟨by decide +kernel, rfl⟩, fR_57_12⟩
theorem eR_tellMost_97 : pd_ic mR_tellMost 97 61 99 := Or.inr (Or.inl ⟨⟨by decide +kernel, rfl⟩, by decide⟩)
theorem eR_tellMost_99 : pd_il mR_tellMost 99 1 100 := Or.inl ⟨1, rfl, by decide +kernel, rfl⟩
theorem eR_tellMost_100 : pd_ic mR_tellMost 100 1 101 := Or.inl ⟨by decide +kernel, rfl⟩
theorem eR_tellMost_101 : pd_i mR_tellMost 101 (.iadd) 1 102 := ⟨by decide +kernel, rfl⟩
theorem eR_tellMost_102 : pd_i mR_tellMost 102 (.imul) 1 103 := ⟨by decide +kernel, rfl⟩
end
section
theorem eR_tellMost_103 : pd_il mR_tellMost 103 2 104 := Or.inl ⟨2, rfl, by decide +kernel, rfl⟩
theorem eR_tellMost_104 : pd_i mR_tellMost 104 (.iadd) 1 105 := ⟨by decide +kernel, rfl⟩
theorem eR_tellMost_105 : pd_il mR_tellMost 105 4 107 := Or.inr ⟨by decide +kernel, rfl⟩
theorem eR_tellMost_107 : pd_al mR_tellMost 107 0 108 := Or.inl ⟨0, rfl, by decide +kernel, rfl⟩
theorem eR_tellMost_108 : pd_gf mR_tellMost 108 12 6 111 := ⟨26, _, ⟨by decide +kernel, rfl⟩, fR_26_12⟩
theorem eR_tellMost_111 : pd_il mR_tellMost 111 1 112 := Or.inl ⟨1, rfl, by decide +kernel, rfl⟩
theorem eR_tellMost_112 : pd_i mR_tellMost 112 (.iaload) 1 113 := ⟨by decide +kernel, rfl⟩
theorem eR_tellMost_113 : pd_i mR_tellMost 113 (.imul) 1 114 := ⟨by decide +kernel, rfl⟩
theorem eR_tellMost_114 : pd_i mR_tellMost 114 (.isub) 1 115 := ⟨by decide +kernel, rfl⟩
theorem eR_tellMost_115 : pd_i mR_tellMost 115 (.iaload) 1 116 := ⟨by decide +kernel, rfl⟩
theorem eR_tellMost_116 : pd_i mR_tellMost 116 (.iadd) 1 117 := ⟨by decide +kernel, rfl⟩
theorem eR_tellMost_117 : pd_is mR_tellMost 117 5 119 := ⟨by decide, Or.inr ⟨by decide +kernel, rfl⟩⟩
theorem eR_tellMost_119 : pd_il mR_tellMost 119 5 121 := Or.inr ⟨by decide +kernel, rfl⟩
theorem eR_tellMost_121 : pd_il mR_tellMost 121 3 122 := Or.inl ⟨3, rfl, by decide +kernel, rfl⟩
theorem eR_tellMost_122 : pd_b2 mR_tellMost 122 .le 125 130 := ⟨8, ⟨by decide +kernel, rfl⟩, by decide⟩
theorem eR_tellMost_125 : pd_il mR_tellMost 125 5 127 := Or.inr ⟨by decide +kernel, rfl⟩
theorem eR_tellMost_127 : pd_go mR_tellMost 127 131 := ⟨4, by decide +kernel, by decide⟩
theorem eR_tellMost_130 : pd_il mR_tellMost 130 3 131 := Or.inl ⟨3, rfl, by decide +kernel, rfl⟩
theorem eR_tellMost_131 : pd_is mR_tellMost 131 3 132 := ⟨by decide, Or.inl ⟨3, rfl, by decide +kernel, rfl⟩⟩
theorem eR_tellMost_132 : pd_ii mR_tellMost 132 4 1 135 := ⟨by decide, by decide +kernel, rfl⟩
theorem eR_tellMost_135 : pd_go mR_tellMost 135 57 := ⟨-78, by decide +kernel, by decide⟩
theorem eR_tellMost_138 : pd_al mR_tellMost 138 0 139 := Or.inl ⟨0, rfl, by decide +kernel, rfl⟩
theorem eR_tellMost_139 : pd_gf mR_tellMost 139 12 23 142 := ⟨57, _, ⟨by decide +kernel, rfl⟩, fR_57_12⟩
theorem eR_tellMost_142 : pd_ic mR_tellMost 142 61 144 := Or.inr (Or.inl ⟨⟨by decide +kernel, rfl⟩, by decide⟩)
theorem eR_tellMost_144 : pd_il mR_tellMost 144 1 145 := Or.inl ⟨1, rfl, by decide +kernel, rfl⟩
theorem eR_tellMost_145 : pd_i mR_tellMost 145 (.imul) 1 146 := ⟨by decide +kernel, rfl⟩
theorem eR_tellMost_146 : pd_il mR_tellMost 146 2 147 := Or.inl ⟨2, rfl, by decide +kernel, rfl⟩
theorem eR_tellMost_147 : pd_i mR_tellMost 147 (.iadd) 1 148 := ⟨by decide +kernel, rfl⟩
theorem eR_tellMost_148 : pd_il mR_tellMost 148 3 149 := Or.inl ⟨3, rfl, by decide +kernel, rfl⟩
theorem eR_tellMost_149 : pd_i mR_tellMost 149 (.iastore) 1 150 := ⟨by decide +kernel, rfl⟩
theorem eR_tellMost_150 : pd_ii mR_tellMost 150 2 1 153 := ⟨by decide, by decide +kernel, rfl⟩
theorem eR_tellMost_153 : pd_go mR_tellMost 153 46 := ⟨-107, by decide +kernel, by decide⟩
theorem eR_tellMost_156 : pd_ii mR_tellMost 156 1 (-1) 159 := ⟨by decide, by decide +kernel, rfl⟩
theorem eR_tellMost_159 : pd_go mR_tellMost 159 40 := ⟨-119, by decide +kernel, by decide⟩
theorem eR_tellMost_162 : pd_rd mR_tellMost 162 none := (by decide +kernel : decode mR_tellMost.2.1 162 = .ok (.return_, 1))
theorem eR_carry_0 : pd_il mR_carry 0 1 1 := Or.inl ⟨1, rfl, by decide +kernel, rfl⟩
theorem eR_carry_1 : pd_ic mR_carry 1 0 2 := Or.inl ⟨by decide +kernel, rfl⟩
theorem eR_carry_2 : pd_ic mR_carry 2 60 4 := Or.inr (Or.inl ⟨⟨by decide +kernel, rfl⟩, by decide⟩)
theorem eR_carry_4 : pd_ks mR_carry 4 mR_in 3 7 := ⟨75, ⟨by decide +kernel, rfl⟩, Or.inl (pd_m 827 (by decide +kernel) (by decide +kernel)), (pd_m 828 (by decide +kernel) (by decide +kernel)), kR_in⟩
theorem eR_carry_7 : pd_b1 mR_carry 7 .eq 10 23 := ⟨16, ⟨by decide +kernel, rfl⟩, by decide⟩
theorem eR_carry_10 : pd_il mR_carry 10 2 11 := Or.inl ⟨2, rfl, by decide +kernel, rfl⟩
theorem eR_carry_11 : pd_ic mR_carry 11 (-1) 12 := Or.inl ⟨by decide +kernel, rfl⟩
theorem eR_carry_12 : pd_b2 mR_carry 12 .eq 15 25 := ⟨13, ⟨by decide +kernel, rfl⟩, by decide⟩
theorem eR_carry_15 : pd_al mR_carry 15 0 16 := Or.inl ⟨0, rfl, by decide +kernel, rfl⟩
theorem eR_carry_16 : pd_il mR_carry 16 2 17 := Or.inl ⟨2, rfl, by decide +kernel, rfl⟩
theorem eR_carry_17 : pd_kv mR_carry 17 mR_isGood 1 20 := ⟨159, ⟨by decide +kernel, rfl⟩, (pd_m 878 (by decide +kernel) (by decide +kernel)), (pd_m 880 (by decide +kernel) (by decide +kernel)), (pd_m 33 (by decide +kernel) (by decide +kernel)), kR_isGood⟩
theorem eR_carry_20 : pd_b1 mR_carry 20 .ne 23 25 := ⟨5, ⟨by decide +kernel, rfl⟩, by decide⟩
theorem eR_carry_23 : pd_ic mR_carry 23 (-1) 24 := Or.inl ⟨by decide +kernel, rfl⟩
theorem eR_carry_24 {z : Int} : pd_rd mR_carry 24 (some (vi z)) := (by decide +kernel : decode mR_carry.2.1 24 = .ok (.ireturn, 1))
theorem eR_carry_25 : pd_al mR_carry 25 0 26 := Or.inl ⟨0, rfl, by decide +kernel, rfl⟩
theorem eR_carry_26 : pd_al mR_carry 26 0 27 := Or.inl ⟨0, rfl, by decide +kernel, rfl⟩
theorem eR_carry_27 : pd_gf mR_carry 27 12 17 30 := ⟨38, _, ⟨by decide +kernel, rfl⟩, fR_38_12⟩
theorem eR_carry_30 : pd_kv mR_carry 30 mR_opens 1 33 := ⟨152, ⟨by decide +kernel, rfl⟩, (pd_m 886 (by decide +kernel) (by decide +kernel)), (pd_m 888 (by decide +kernel) (by decide +kernel)), (pd_m 35 (by decide +kernel) (by decide +kernel)), kR_opens⟩
theorem eR_carry_33 : pd_ic mR_carry 33 (-9) 35 := Or.inr (Or.inl ⟨⟨by decide +kernel, rfl⟩, by decide⟩)
theorem eR_carry_35 : pd_b2 mR_carry 35 .ne 38 41 := ⟨6, ⟨by decide +kernel, rfl⟩, by decide⟩
theorem eR_carry_38 : pd_ic mR_carry 38 (-9) 40 := Or.inr (Or.inl ⟨⟨by decide +kernel, rfl⟩, by decide⟩)
theorem eR_carry_40 {z : Int} : pd_rd mR_carry 40 (some (vi z)) := (by decide +kernel : decode mR_carry.2.1 40 = .ok (.ireturn, 1))
theorem eR_carry_41 : pd_al mR_carry 41 0 42 := Or.inl ⟨0, rfl, by decide +kernel, rfl⟩
theorem eR_carry_42 : pd_kv mR_carry 42 mR_tellMost 0 45 := ⟨188, ⟨by decide +kernel, rfl⟩, (pd_m 971 (by decide +kernel) (by decide +kernel)), (pd_m 973 (by decide +kernel) (by decide +kernel)), (pd_m 43 (by decide +kernel) (by decide +kernel)), kR_tellMost⟩
theorem eR_carry_45 : pd_il mR_carry 45 2 46 := Or.inl ⟨2, rfl, by decide +kernel, rfl⟩
theorem eR_carry_46 : pd_ic mR_carry 46 (-1) 47 := Or.inl ⟨by decide +kernel, rfl⟩
theorem eR_carry_47 : pd_b2 mR_carry 47 .ne 50 57 := ⟨10, ⟨by decide +kernel, rfl⟩, by decide⟩
theorem eR_carry_50 : pd_al mR_carry 50 0 51 := Or.inl ⟨0, rfl, by decide +kernel, rfl⟩
theorem eR_carry_51 : pd_gf mR_carry 51 12 23 54 := ⟨57, _, ⟨by decide +kernel, rfl⟩, fR_57_12⟩
theorem eR_carry_54 : pd_il mR_carry 54 1 55 := Or.inl ⟨1, rfl, by decide +kernel, rfl⟩
theorem eR_carry_55 : pd_i mR_carry 55 (.iaload) 1 56 := ⟨by decide +kernel, rfl⟩
theorem eR_carry_56 {z : Int} : pd_rd mR_carry 56 (some (vi z)) := (by decide +kernel : decode mR_carry.2.1 56 = .ok (.ireturn, 1))
theorem eR_carry_57 : pd_il mR_carry 57 1 58 := Or.inl ⟨1, rfl, by decide +kernel, rfl⟩
theorem eR_carry_58 : pd_is mR_carry 58 3 59 := ⟨by decide, Or.inl ⟨3, rfl, by decide +kernel, rfl⟩⟩
theorem eR_carry_59 : pd_ic mR_carry 59 0 60 := Or.inl ⟨by decide +kernel, rfl⟩
theorem eR_carry_60 : pd_is mR_carry 60 4 62 := ⟨by decide, Or.inr ⟨by decide +kernel, rfl⟩⟩
theorem eR_carry_62 : pd_ic mR_carry 62 0 63 := Or.inl ⟨by decide +kernel, rfl⟩
theorem eR_carry_63 : pd_is mR_carry 63 5 65 := ⟨by decide, Or.inr ⟨by decide +kernel, rfl⟩⟩
theorem eR_carry_65 : pd_il mR_carry 65 5 67 := Or.inr ⟨by decide +kernel, rfl⟩
theorem eR_carry_67 : pd_il mR_carry 67 2 68 := Or.inl ⟨2, rfl, by decide +kernel, rfl⟩
theorem eR_carry_68 : pd_b2 mR_carry 68 .gt 71 150 := ⟨82, ⟨by decide +kernel, rfl⟩, by decide⟩
theorem eR_carry_71 : pd_ic mR_carry 71 0 72 := Or.inl ⟨by decide +kernel, rfl⟩
theorem eR_carry_72 : pd_is mR_carry 72 4 74 := ⟨by decide, Or.inr ⟨by decide +kernel, rfl⟩⟩
theorem eR_carry_74 : pd_il mR_carry 74 4 76 := Or.inr ⟨by decide +kernel, rfl⟩
theorem eR_carry_76 : pd_al mR_carry 76 0 77 := Or.inl ⟨0, rfl, by decide +kernel, rfl⟩
theorem eR_carry_77 : pd_gf mR_carry 77 12 7 80 := ⟨29, _, ⟨by decide +kernel, rfl⟩, fR_29_12⟩
theorem eR_carry_80 : pd_il mR_carry 80 5 82 := Or.inr ⟨by decide +kernel, rfl⟩
theorem eR_carry_82 : pd_i mR_carry 82 (.iaload) 1 83 := ⟨by decide +kernel, rfl⟩
theorem eR_carry_83 : pd_i mR_carry 83 (.imul) 1 84 := ⟨by decide +kernel, rfl⟩
theorem eR_carry_84 : pd_al mR_carry 84 0 85 := Or.inl ⟨0, rfl, by decide +kernel, rfl⟩
theorem eR_carry_85 : pd_gf mR_carry 85 12 23 88 := ⟨57, _, ⟨by decide +kernel, rfl⟩, fR_57_12⟩
theorem eR_carry_88 : pd_ic mR_carry 88 61 90 := Or.inr (Or.inl ⟨⟨by decide +kernel, rfl⟩, by decide⟩)
theorem eR_carry_90 : pd_il mR_carry 90 5 92 := Or.inr ⟨by decide +kernel, rfl⟩
theorem eR_carry_92 : pd_ic mR_carry 92 1 93 := Or.inl ⟨by decide +kernel, rfl⟩
theorem eR_carry_93 : pd_i mR_carry 93 (.iadd) 1 94 := ⟨by decide +kernel, rfl⟩
theorem eR_carry_94 : pd_i mR_carry 94 (.imul) 1 95 := ⟨by decide +kernel, rfl⟩
theorem eR_carry_95 : pd_il mR_carry 95 3 96 := Or.inl ⟨3, rfl, by decide +kernel, rfl⟩
theorem eR_carry_96 : pd_i mR_carry 96 (.iadd) 1 97 := ⟨by decide +kernel, rfl⟩
theorem eR_carry_97 : pd_il mR_carry 97 4 99 := Or.inr ⟨by decide +kernel, rfl⟩
theorem eR_carry_99 : pd_al mR_carry 99 0 100 := Or.inl ⟨0, rfl, by decide +kernel, rfl⟩
theorem eR_carry_100 : pd_gf mR_carry 100 12 6 103 := ⟨26, _, ⟨by decide +kernel, rfl⟩, fR_26_12⟩
theorem eR_carry_103 : pd_il mR_carry 103 5 105 := Or.inr ⟨by decide +kernel, rfl⟩
theorem eR_carry_105 : pd_i mR_carry 105 (.iaload) 1 106 := ⟨by decide +kernel, rfl⟩
theorem eR_carry_106 : pd_i mR_carry 106 (.imul) 1 107 := ⟨by decide +kernel, rfl⟩
theorem eR_carry_107 : pd_i mR_carry 107 (.isub) 1 108 := ⟨by decide +kernel, rfl⟩
theorem eR_carry_108 : pd_i mR_carry 108 (.iaload) 1 109 := ⟨by decide +kernel, rfl⟩
theorem eR_carry_109 : pd_i mR_carry 109 (.iadd) 1 110 := ⟨by decide +kernel, rfl⟩
theorem eR_carry_110 : pd_al mR_carry 110 0 111 := Or.inl ⟨0, rfl, by decide +kernel, rfl⟩
theorem eR_carry_111 : pd_gf mR_carry 111 12 23 114 := ⟨57, _, ⟨by decide +kernel, rfl⟩, fR_57_12⟩
theorem eR_carry_114 : pd_ic mR_carry 114 61 116 := Or.inr (Or.inl ⟨⟨by decide +kernel, rfl⟩, by decide⟩)
theorem eR_carry_116 : pd_il mR_carry 116 5 118 := Or.inr ⟨by decide +kernel, rfl⟩
theorem eR_carry_118 : pd_i mR_carry 118 (.imul) 1 119 := ⟨by decide +kernel, rfl⟩
theorem eR_carry_119 : pd_il mR_carry 119 3 120 := Or.inl ⟨3, rfl, by decide +kernel, rfl⟩
theorem eR_carry_120 : pd_i mR_carry 120 (.iadd) 1 121 := ⟨by decide +kernel, rfl⟩
theorem eR_carry_121 : pd_i mR_carry 121 (.iaload) 1 122 := ⟨by decide +kernel, rfl⟩
theorem eR_carry_122 : pd_b2 mR_carry 122 .eq 125 131 := ⟨9, ⟨by decide +kernel, rfl⟩, by decide⟩
theorem eR_carry_125 : pd_ii mR_carry 125 4 1 128 := ⟨by decide, by decide +kernel, rfl⟩
theorem eR_carry_128 : pd_go mR_carry 128 74 := ⟨-54, by decide +kernel, by decide⟩
theorem eR_carry_131 : pd_il mR_carry 131 3 132 := Or.inl ⟨3, rfl, by decide +kernel, rfl⟩
theorem eR_carry_132 : pd_il mR_carry 132 4 134 := Or.inr ⟨by decide +kernel, rfl⟩
theorem eR_carry_134 : pd_al mR_carry 134 0 135 := Or.inl ⟨0, rfl, by decide +kernel, rfl⟩
theorem eR_carry_135 : pd_gf mR_carry 135 12 6 138 := ⟨26, _, ⟨by decide +kernel, rfl⟩, fR_26_12⟩
theorem eR_carry_138 : pd_il mR_carry 138 5 140 := Or.inr ⟨by decide +kernel, rfl⟩
theorem eR_carry_140 : pd_i mR_carry 140 (.iaload) 1 141 := ⟨by decide +kernel, rfl⟩
theorem eR_carry_141 : pd_i mR_carry 141 (.imul) 1 142 := ⟨by decide +kernel, rfl⟩
theorem eR_carry_142 : pd_i mR_carry 142 (.isub) 1 143 := ⟨by decide +kernel, rfl⟩
theorem eR_carry_143 : pd_is mR_carry 143 3 144 := ⟨by decide, Or.inl ⟨3, rfl, by decide +kernel, rfl⟩⟩
theorem eR_carry_144 : pd_ii mR_carry 144 5 1 147 := ⟨by decide, by decide +kernel, rfl⟩
theorem eR_carry_147 : pd_go mR_carry 147 65 := ⟨-82, by decide +kernel, by decide⟩
theorem eR_carry_150 : pd_il mR_carry 150 4 152 := Or.inr ⟨by decide +kernel, rfl⟩
theorem eR_carry_152 {z : Int} : pd_rd mR_carry 152 (some (vi z)) := (by decide +kernel : decode mR_carry.2.1 152 = .ok (.ireturn, 1))
theorem eR_odds_0 : pd_il mR_odds 0 1 1 := Or.inl ⟨1, rfl, by decide +kernel, rfl⟩
theorem eR_odds_1 : pd_ic mR_odds 1 0 2 := Or.inl ⟨by decide +kernel, rfl⟩
theorem eR_odds_2 : pd_ic mR_odds 2 10 4 := Or.inr (Or.inl ⟨⟨by decide +kernel, rfl⟩, by decide⟩)
theorem eR_odds_4 : pd_ks mR_odds 4 mR_in 3 7 := ⟨75, ⟨by decide +kernel, rfl⟩, Or.inl (pd_m 827 (by decide +kernel) (by decide +kernel)), (pd_m 828 (by decide +kernel) (by decide +kernel)), kR_in⟩
theorem eR_odds_7 : pd_b1 mR_odds 7 .eq 10 29 := ⟨22, ⟨by decide +kernel, rfl⟩, by decide⟩
theorem eR_odds_10 : pd_il mR_odds 10 2 11 := Or.inl ⟨2, rfl, by decide +kernel, rfl⟩
theorem eR_odds_11 : pd_ic mR_odds 11 0 12 := Or.inl ⟨by decide +kernel, rfl⟩
theorem eR_odds_12 : pd_ic mR_odds 12 9 14 := Or.inr (Or.inl ⟨⟨by decide +kernel, rfl⟩, by decide⟩)
theorem eR_odds_14 : pd_ks mR_odds 14 mR_in 3 17 := ⟨75, ⟨by decide +kernel, rfl⟩, Or.inl (pd_m 827 (by decide +kernel) (by decide +kernel)), (pd_m 828 (by decide +kernel) (by decide +kernel)), kR_in⟩
theorem eR_odds_17 : pd_b1 mR_odds 17 .eq 20 29 := ⟨12, ⟨by decide +kernel, rfl⟩, by decide⟩
theorem eR_odds_20 : pd_il mR_odds 20 3 21 := Or.inl ⟨3, rfl, by decide +kernel, rfl⟩
theorem eR_odds_21 : pd_ic mR_odds 21 0 22 := Or.inl ⟨by decide +kernel, rfl⟩
theorem eR_odds_22 : pd_ic mR_odds 22 1 23 := Or.inl ⟨by decide +kernel, rfl⟩
theorem eR_odds_23 : pd_ks mR_odds 23 mR_in 3 26 := ⟨75, ⟨by decide +kernel, rfl⟩, Or.inl (pd_m 827 (by decide +kernel) (by decide +kernel)), (pd_m 828 (by decide +kernel) (by decide +kernel)), kR_in⟩
theorem eR_odds_26 : pd_b1 mR_odds 26 .ne 29 31 := ⟨5, ⟨by decide +kernel, rfl⟩, by decide⟩
theorem eR_odds_29 : pd_ic mR_odds 29 (-1) 30 := Or.inl ⟨by decide +kernel, rfl⟩
theorem eR_odds_30 {z : Int} : pd_rd mR_odds 30 (some (vi z)) := (by decide +kernel : decode mR_odds.2.1 30 = .ok (.ireturn, 1))
theorem eR_odds_31 : pd_ic mR_odds 31 1 32 := Or.inl ⟨by decide +kernel, rfl⟩
theorem eR_odds_32 : pd_is mR_odds 32 4 34 := ⟨by decide, Or.inr ⟨by decide +kernel, rfl⟩⟩
theorem eR_odds_34 : pd_ic mR_odds 34 1 35 := Or.inl ⟨by decide +kernel, rfl⟩
theorem eR_odds_35 : pd_is mR_odds 35 5 37 := ⟨by decide, Or.inr ⟨by decide +kernel, rfl⟩⟩
theorem eR_odds_37 : pd_ic mR_odds 37 0 38 := Or.inl ⟨by decide +kernel, rfl⟩
theorem eR_odds_38 : pd_is mR_odds 38 6 40 := ⟨by decide, Or.inr ⟨by decide +kernel, rfl⟩⟩
theorem eR_odds_40 : pd_il mR_odds 40 6 42 := Or.inr ⟨by decide +kernel, rfl⟩
theorem eR_odds_42 : pd_il mR_odds 42 2 43 := Or.inl ⟨2, rfl, by decide +kernel, rfl⟩
theorem eR_odds_43 : pd_b2 mR_odds 43 .ge 46 65 := ⟨22, ⟨by decide +kernel, rfl⟩, by decide⟩
theorem eR_odds_46 : pd_il mR_odds 46 4 48 := Or.inr ⟨by decide +kernel, rfl⟩
theorem eR_odds_48 : pd_ic mR_odds 48 10 50 := Or.inr (Or.inl ⟨⟨by decide +kernel, rfl⟩, by decide⟩)
theorem eR_odds_50 : pd_i mR_odds 50 (.imul) 1 51 := ⟨by decide +kernel, rfl⟩
theorem eR_odds_51 : pd_is mR_odds 51 4 53 := ⟨by decide, Or.inr ⟨by decide +kernel, rfl⟩⟩
theorem eR_odds_53 : pd_il mR_odds 53 5 55 := Or.inr ⟨by decide +kernel, rfl⟩
theorem eR_odds_55 : pd_il mR_odds 55 1 56 := Or.inl ⟨1, rfl, by decide +kernel, rfl⟩
theorem eR_odds_56 : pd_i mR_odds 56 (.imul) 1 57 := ⟨by decide +kernel, rfl⟩
theorem eR_odds_57 : pd_is mR_odds 57 5 59 := ⟨by decide, Or.inr ⟨by decide +kernel, rfl⟩⟩
theorem eR_odds_59 : pd_ii mR_odds 59 6 1 62 := ⟨by decide, by decide +kernel, rfl⟩
theorem eR_odds_62 : pd_go mR_odds 62 40 := ⟨-22, by decide +kernel, by decide⟩
theorem eR_odds_65 : pd_il mR_odds 65 4 67 := Or.inr ⟨by decide +kernel, rfl⟩
theorem eR_odds_67 : pd_il mR_odds 67 5 69 := Or.inr ⟨by decide +kernel, rfl⟩
theorem eR_odds_69 : pd_i mR_odds 69 (.isub) 1 70 := ⟨by decide +kernel, rfl⟩
theorem eR_odds_70 : pd_is mR_odds 70 6 72 := ⟨by decide, Or.inr ⟨by decide +kernel, rfl⟩⟩
theorem eR_odds_72 : pd_il mR_odds 72 4 74 := Or.inr ⟨by decide +kernel, rfl⟩
theorem eR_odds_74 : pd_is mR_odds 74 7 76 := ⟨by decide, Or.inr ⟨by decide +kernel, rfl⟩⟩
theorem eR_odds_76 : pd_il mR_odds 76 7 78 := Or.inr ⟨by decide +kernel, rfl⟩
theorem eR_odds_78 : pd_b1 mR_odds 78 .eq 81 99 := ⟨21, ⟨by decide +kernel, rfl⟩, by decide⟩
theorem eR_odds_81 : pd_il mR_odds 81 6 83 := Or.inr ⟨by decide +kernel, rfl⟩
theorem eR_odds_83 : pd_il mR_odds 83 7 85 := Or.inr ⟨by decide +kernel, rfl⟩
theorem eR_odds_85 : pd_i mR_odds 85 (.irem) 1 86 := ⟨by decide +kernel, rfl⟩
theorem eR_odds_86 : pd_is mR_odds 86 8 88 := ⟨by decide, Or.inr ⟨by decide +kernel, rfl⟩⟩
theorem eR_odds_88 : pd_il mR_odds 88 7 90 := Or.inr ⟨by decide +kernel, rfl⟩
theorem eR_odds_90 : pd_is mR_odds 90 6 92 := ⟨by decide, Or.inr ⟨by decide +kernel, rfl⟩⟩
theorem eR_odds_92 : pd_il mR_odds 92 8 94 := Or.inr ⟨by decide +kernel, rfl⟩
theorem eR_odds_94 : pd_is mR_odds 94 7 96 := ⟨by decide, Or.inr ⟨by decide +kernel, rfl⟩⟩
theorem eR_odds_96 : pd_go mR_odds 96 76 := ⟨-20, by decide +kernel, by decide⟩
theorem eR_odds_99 : pd_il mR_odds 99 3 100 := Or.inl ⟨3, rfl, by decide +kernel, rfl⟩
theorem eR_odds_100 : pd_b1 mR_odds 100 .ne 103 114 := ⟨14, ⟨by decide +kernel, rfl⟩, by decide⟩
theorem eR_odds_103 : pd_il mR_odds 103 4 105 := Or.inr ⟨by decide +kernel, rfl⟩
theorem eR_odds_105 : pd_il mR_odds 105 5 107 := Or.inr ⟨by decide +kernel, rfl⟩
theorem eR_odds_107 : pd_i mR_odds 107 (.isub) 1 108 := ⟨by decide +kernel, rfl⟩
theorem eR_odds_108 : pd_il mR_odds 108 6 110 := Or.inr ⟨by decide +kernel, rfl⟩
theorem eR_odds_110 : pd_i mR_odds 110 (.idiv) 1 111 := ⟨by decide +kernel, rfl⟩
theorem eR_odds_111 : pd_go mR_odds 111 119 := ⟨8, by decide +kernel, by decide⟩
theorem eR_odds_114 : pd_il mR_odds 114 4 116 := Or.inr ⟨by decide +kernel, rfl⟩
theorem eR_odds_116 : pd_il mR_odds 116 6 118 := Or.inr ⟨by decide +kernel, rfl⟩
theorem eR_odds_118 : pd_i mR_odds 118 (.idiv) 1 119 := ⟨by decide +kernel, rfl⟩
theorem eR_odds_119 {z : Int} : pd_rd mR_odds 119 (some (vi z)) := (by decide +kernel : decode mR_odds.2.1 119 = .ok (.ireturn, 1))
theorem eR_storeOf_0 : pd_ic mR_storeOf 0 0 1 := Or.inl ⟨by decide +kernel, rfl⟩
theorem eR_storeOf_1 : pd_is mR_storeOf 1 3 2 := ⟨by decide, Or.inl ⟨3, rfl, by decide +kernel, rfl⟩⟩
theorem eR_storeOf_2 : pd_il mR_storeOf 2 3 3 := Or.inl ⟨3, rfl, by decide +kernel, rfl⟩
theorem eR_storeOf_3 : pd_ic mR_storeOf 3 90 5 := Or.inr (Or.inl ⟨⟨by decide +kernel, rfl⟩, by decide⟩)
theorem eR_storeOf_5 : pd_b2 mR_storeOf 5 .ge 8 21 := ⟨16, ⟨by decide +kernel, rfl⟩, by decide⟩
theorem eR_storeOf_8 : pd_al mR_storeOf 8 0 9 := Or.inl ⟨0, rfl, by decide +kernel, rfl⟩
theorem eR_storeOf_9 : pd_gf mR_storeOf 9 12 22 12 := ⟨54, _, ⟨by decide +kernel, rfl⟩, fR_54_12⟩
theorem eR_storeOf_12 : pd_il mR_storeOf 12 3 13 := Or.inl ⟨3, rfl, by decide +kernel, rfl⟩
theorem eR_storeOf_13 : pd_ic mR_storeOf 13 0 14 := Or.inl ⟨by decide +kernel, rfl⟩
theorem eR_storeOf_14 : pd_i mR_storeOf 14 (.iastore) 1 15 := ⟨by decide +kernel, rfl⟩
theorem eR_storeOf_15 : pd_ii mR_storeOf 15 3 1 18 := ⟨by decide, by decide +kernel, rfl⟩
theorem eR_storeOf_18 : pd_go mR_storeOf 18 2 := ⟨-16, by decide +kernel, by decide⟩
theorem eR_storeOf_21 : pd_ic mR_storeOf 21 0 22 := Or.inl ⟨by decide +kernel, rfl⟩
theorem eR_storeOf_22 : pd_is mR_storeOf 22 3 23 := ⟨by decide, Or.inl ⟨3, rfl, by decide +kernel, rfl⟩⟩
theorem eR_storeOf_23 : pd_il mR_storeOf 23 3 24 := Or.inl ⟨3, rfl, by decide +kernel, rfl⟩
theorem eR_storeOf_24 : pd_al mR_storeOf 24 0 25 := Or.inl ⟨0, rfl, by decide +kernel, rfl⟩
theorem eR_storeOf_25 : pd_gf mR_storeOf 25 12 3 28 := ⟨17, _, ⟨by decide +kernel, rfl⟩, fR_17_12⟩
theorem eR_storeOf_28 : pd_ic mR_storeOf 28 0 29 := Or.inl ⟨by decide +kernel, rfl⟩
theorem eR_storeOf_29 : pd_i mR_storeOf 29 (.iaload) 1 30 := ⟨by decide +kernel, rfl⟩
theorem eR_storeOf_30 : pd_b2 mR_storeOf 30 .ge 33 53 := ⟨23, ⟨by decide +kernel, rfl⟩, by decide⟩
theorem eR_storeOf_33 : pd_al mR_storeOf 33 0 34 := Or.inl ⟨0, rfl, by decide +kernel, rfl⟩
theorem eR_storeOf_34 : pd_gf mR_storeOf 34 12 22 37 := ⟨54, _, ⟨by decide +kernel, rfl⟩, fR_54_12⟩
theorem eR_storeOf_37 : pd_ic mR_storeOf 37 2 38 := Or.inl ⟨by decide +kernel, rfl⟩
theorem eR_storeOf_38 : pd_il mR_storeOf 38 3 39 := Or.inl ⟨3, rfl, by decide +kernel, rfl⟩
theorem eR_storeOf_39 : pd_i mR_storeOf 39 (.iadd) 1 40 := ⟨by decide +kernel, rfl⟩
theorem eR_storeOf_40 : pd_al mR_storeOf 40 0 41 := Or.inl ⟨0, rfl, by decide +kernel, rfl⟩
theorem eR_storeOf_41 : pd_gf mR_storeOf 41 12 4 44 := ⟨20, _, ⟨by decide +kernel, rfl⟩, fR_20_12⟩
theorem eR_storeOf_44 : pd_il mR_storeOf 44 3 45 := Or.inl ⟨3, rfl, by decide +kernel, rfl⟩
theorem eR_storeOf_45 : pd_i mR_storeOf 45 (.iaload) 1 46 := ⟨by decide +kernel, rfl⟩
theorem eR_storeOf_46 : pd_i mR_storeOf 46 (.iastore) 1 47 := ⟨by decide +kernel, rfl⟩
theorem eR_storeOf_47 : pd_ii mR_storeOf 47 3 1 50 := ⟨by decide, by decide +kernel, rfl⟩
theorem eR_storeOf_50 : pd_go mR_storeOf 50 23 := ⟨-27, by decide +kernel, by decide⟩
theorem eR_storeOf_53 : pd_ic mR_storeOf 53 0 54 := Or.inl ⟨by decide +kernel, rfl⟩
theorem eR_storeOf_54 : pd_is mR_storeOf 54 3 55 := ⟨by decide, Or.inl ⟨3, rfl, by decide +kernel, rfl⟩⟩
theorem eR_storeOf_55 : pd_il mR_storeOf 55 3 56 := Or.inl ⟨3, rfl, by decide +kernel, rfl⟩
theorem eR_storeOf_56 : pd_il mR_storeOf 56 1 57 := Or.inl ⟨1, rfl, by decide +kernel, rfl⟩
theorem eR_storeOf_57 : pd_b2 mR_storeOf 57 .ge 60 75 := ⟨18, ⟨by decide +kernel, rfl⟩, by decide⟩
theorem eR_storeOf_60 : pd_al mR_storeOf 60 0 61 := Or.inl ⟨0, rfl, by decide +kernel, rfl⟩
theorem eR_storeOf_61 : pd_al mR_storeOf 61 0 62 := Or.inl ⟨0, rfl, by decide +kernel, rfl⟩
theorem eR_storeOf_62 : pd_gf mR_storeOf 62 12 22 65 := ⟨54, _, ⟨by decide +kernel, rfl⟩, fR_54_12⟩
theorem eR_storeOf_65 : pd_kv mR_storeOf 65 mR_passOn 1 68 := ⟨172, ⟨by decide +kernel, rfl⟩, (pd_m 912 (by decide +kernel) (by decide +kernel)), (pd_m 914 (by decide +kernel) (by decide +kernel)), (pd_m 38 (by decide +kernel) (by decide +kernel)), kR_passOn⟩
theorem eR_storeOf_68 : pd_i mR_storeOf 68 (.pop) 1 69 := ⟨by decide +kernel, rfl⟩
theorem eR_storeOf_69 : pd_ii mR_storeOf 69 3 1 72 := ⟨by decide, by decide +kernel, rfl⟩
theorem eR_storeOf_72 : pd_go mR_storeOf 72 55 := ⟨-17, by decide +kernel, by decide⟩
theorem eR_storeOf_75 : pd_al mR_storeOf 75 0 76 := Or.inl ⟨0, rfl, by decide +kernel, rfl⟩
theorem eR_storeOf_76 : pd_gf mR_storeOf 76 12 22 79 := ⟨54, _, ⟨by decide +kernel, rfl⟩, fR_54_12⟩
theorem eR_storeOf_79 : pd_ic mR_storeOf 79 2 80 := Or.inl ⟨by decide +kernel, rfl⟩
theorem eR_storeOf_80 : pd_il mR_storeOf 80 2 81 := Or.inl ⟨2, rfl, by decide +kernel, rfl⟩
theorem eR_storeOf_81 : pd_i mR_storeOf 81 (.iadd) 1 82 := ⟨by decide +kernel, rfl⟩
theorem eR_storeOf_82 : pd_i mR_storeOf 82 (.iaload) 1 83 := ⟨by decide +kernel, rfl⟩
theorem eR_storeOf_83 {z : Int} : pd_rd mR_storeOf 83 (some (vi z)) := (by decide +kernel : decode mR_storeOf.2.1 83 = .ok (.ireturn, 1))
theorem eR_store_0 : pd_il mR_store 0 1 1 := Or.inl ⟨1, rfl, by decide +kernel, rfl⟩
theorem eR_store_1 : pd_ic mR_store 1 0 2 := Or.inl ⟨by decide +kernel, rfl⟩
theorem eR_store_2 : pd_ic mR_store 2 20 4 := Or.inr (Or.inl ⟨⟨by decide +kernel, rfl⟩, by decide⟩)
theorem eR_store_4 : pd_ks mR_store 4 mR_in 3 7 := ⟨75, ⟨by decide +kernel, rfl⟩, Or.inl (pd_m 827 (by decide +kernel) (by decide +kernel)), (pd_m 828 (by decide +kernel) (by decide +kernel)), kR_in⟩
theorem eR_store_7 : pd_b1 mR_store 7 .eq 10 27 := ⟨20, ⟨by decide +kernel, rfl⟩, by decide⟩
theorem eR_store_10 : pd_al mR_store 10 0 11 := Or.inl ⟨0, rfl, by decide +kernel, rfl⟩
theorem eR_store_11 : pd_il mR_store 11 2 12 := Or.inl ⟨2, rfl, by decide +kernel, rfl⟩
theorem eR_store_12 : pd_kv mR_store 12 mR_isGood 1 15 := ⟨159, ⟨by decide +kernel, rfl⟩, (pd_m 878 (by decide +kernel) (by decide +kernel)), (pd_m 880 (by decide +kernel) (by decide +kernel)), (pd_m 33 (by decide +kernel) (by decide +kernel)), kR_isGood⟩
theorem eR_store_15 : pd_b1 mR_store 15 .eq 18 27 := ⟨12, ⟨by decide +kernel, rfl⟩, by decide⟩
theorem eR_store_18 : pd_al mR_store 18 0 19 := Or.inl ⟨0, rfl, by decide +kernel, rfl⟩
theorem eR_store_19 : pd_il mR_store 19 1 20 := Or.inl ⟨1, rfl, by decide +kernel, rfl⟩
theorem eR_store_20 : pd_il mR_store 20 2 21 := Or.inl ⟨2, rfl, by decide +kernel, rfl⟩
theorem eR_store_21 : pd_kv mR_store 21 mR_storeOf 2 24 := ⟨191, ⟨by decide +kernel, rfl⟩, (pd_m 983 (by decide +kernel) (by decide +kernel)), (pd_m 985 (by decide +kernel) (by decide +kernel)), (pd_m 44 (by decide +kernel) (by decide +kernel)), kR_storeOf⟩
theorem eR_store_24 : pd_go mR_store 24 28 := ⟨4, by decide +kernel, by decide⟩
theorem eR_store_27 : pd_ic mR_store 27 (-1) 28 := Or.inl ⟨by decide +kernel, rfl⟩
theorem eR_store_28 {z : Int} : pd_rd mR_store 28 (some (vi z)) := (by decide +kernel : decode mR_store.2.1 28 = .ok (.ireturn, 1))
theorem eR_saw_0 : pd_al mR_saw 0 0 1 := Or.inl ⟨0, rfl, by decide +kernel, rfl⟩
theorem eR_saw_1 : pd_il mR_saw 1 1 2 := Or.inl ⟨1, rfl, by decide +kernel, rfl⟩
theorem eR_saw_2 : pd_kv mR_saw 2 mR_isGood 1 5 := ⟨159, ⟨by decide +kernel, rfl⟩, (pd_m 878 (by decide +kernel) (by decide +kernel)), (pd_m 880 (by decide +kernel) (by decide +kernel)), (pd_m 33 (by decide +kernel) (by decide +kernel)), kR_isGood⟩
theorem eR_saw_5 : pd_b1 mR_saw 5 .eq 8 19 := ⟨14, ⟨by decide +kernel, rfl⟩, by decide⟩
theorem eR_saw_8 : pd_il mR_saw 8 2 9 := Or.inl ⟨2, rfl, by decide +kernel, rfl⟩
theorem eR_saw_9 : pd_ic mR_saw 9 0 10 := Or.inl ⟨by decide +kernel, rfl⟩
theorem eR_saw_10 : pd_ic mR_saw 10 999 13 := Or.inr (Or.inr (Or.inl ⟨⟨by decide +kernel, rfl⟩, by decide⟩))
theorem eR_saw_13 : pd_ks mR_saw 13 mR_in 3 16 := ⟨75, ⟨by decide +kernel, rfl⟩, Or.inl (pd_m 827 (by decide +kernel) (by decide +kernel)), (pd_m 828 (by decide +kernel) (by decide +kernel)), kR_in⟩
theorem eR_saw_16 : pd_b1 mR_saw 16 .ne 19 21 := ⟨5, ⟨by decide +kernel, rfl⟩, by decide⟩
theorem eR_saw_19 : pd_ic mR_saw 19 (-1) 20 := Or.inl ⟨by decide +kernel, rfl⟩
theorem eR_saw_20 {z : Int} : pd_rd mR_saw 20 (some (vi z)) := (by decide +kernel : decode mR_saw.2.1 20 = .ok (.ireturn, 1))
theorem eR_saw_21 : pd_al mR_saw 21 0 22 := Or.inl ⟨0, rfl, by decide +kernel, rfl⟩
theorem eR_saw_22 : pd_gf mR_saw 22 12 26 25 := ⟨138, _, ⟨by decide +kernel, rfl⟩, fR_138_12⟩
theorem eR_saw_25 : pd_ic mR_saw 25 4 26 := Or.inl ⟨by decide +kernel, rfl⟩
theorem eR_saw_26 : pd_b2 mR_saw 26 .ne 29 32 := ⟨6, ⟨by decide +kernel, rfl⟩, by decide⟩
theorem eR_saw_29 : pd_ic mR_saw 29 (-3) 31 := Or.inr (Or.inl ⟨⟨by decide +kernel, rfl⟩, by decide⟩)
theorem eR_saw_31 {z : Int} : pd_rd mR_saw 31 (some (vi z)) := (by decide +kernel : decode mR_saw.2.1 31 = .ok (.ireturn, 1))
theorem eR_saw_32 : pd_al mR_saw 32 0 33 := Or.inl ⟨0, rfl, by decide +kernel, rfl⟩
theorem eR_saw_33 : pd_gf mR_saw 33 12 24 36 := ⟨60, _, ⟨by decide +kernel, rfl⟩, fR_60_12⟩
theorem eR_saw_36 : pd_al mR_saw 36 0 37 := Or.inl ⟨0, rfl, by decide +kernel, rfl⟩
theorem eR_saw_37 : pd_gf mR_saw 37 12 26 40 := ⟨138, _, ⟨by decide +kernel, rfl⟩, fR_138_12⟩
theorem eR_saw_40 : pd_il mR_saw 40 1 41 := Or.inl ⟨1, rfl, by decide +kernel, rfl⟩
theorem eR_saw_41 : pd_i mR_saw 41 (.iastore) 1 42 := ⟨by decide +kernel, rfl⟩
theorem eR_saw_42 : pd_al mR_saw 42 0 43 := Or.inl ⟨0, rfl, by decide +kernel, rfl⟩
theorem eR_saw_43 : pd_gf mR_saw 43 12 25 46 := ⟨63, _, ⟨by decide +kernel, rfl⟩, fR_63_12⟩
theorem eR_saw_46 : pd_al mR_saw 46 0 47 := Or.inl ⟨0, rfl, by decide +kernel, rfl⟩
theorem eR_saw_47 : pd_gf mR_saw 47 12 26 50 := ⟨138, _, ⟨by decide +kernel, rfl⟩, fR_138_12⟩
theorem eR_saw_50 : pd_il mR_saw 50 2 51 := Or.inl ⟨2, rfl, by decide +kernel, rfl⟩
theorem eR_saw_51 : pd_i mR_saw 51 (.iastore) 1 52 := ⟨by decide +kernel, rfl⟩
theorem eR_saw_52 : pd_al mR_saw 52 0 53 := Or.inl ⟨0, rfl, by decide +kernel, rfl⟩
theorem eR_saw_53 : pd_i mR_saw 53 (.dup) 1 54 := ⟨by decide +kernel, rfl⟩
theorem eR_saw_54 : pd_gf mR_saw 54 12 26 57 := ⟨138, _, ⟨by decide +kernel, rfl⟩, fR_138_12⟩
theorem eR_saw_57 : pd_ic mR_saw 57 1 58 := Or.inl ⟨by decide +kernel, rfl⟩
theorem eR_saw_58 : pd_i mR_saw 58 (.iadd) 1 59 := ⟨by decide +kernel, rfl⟩
theorem eR_saw_59 : pd_pf mR_saw 59 12 26 .int 62 := ⟨138, ⟨by decide +kernel, rfl⟩, fR_138_12, Or.inl ⟨_, rfl⟩⟩
theorem eR_saw_62 : pd_al mR_saw 62 0 63 := Or.inl ⟨0, rfl, by decide +kernel, rfl⟩
theorem eR_saw_63 : pd_gf mR_saw 63 12 26 66 := ⟨138, _, ⟨by decide +kernel, rfl⟩, fR_138_12⟩
theorem eR_saw_66 {z : Int} : pd_rd mR_saw 66 (some (vi z)) := (by decide +kernel : decode mR_saw.2.1 66 = .ok (.ireturn, 1))
theorem eR_days_0 : pd_ic mR_days 0 0 1 := Or.inl ⟨by decide +kernel, rfl⟩
theorem eR_days_1 : pd_is mR_days 1 1 2 := ⟨by decide, Or.inl ⟨1, rfl, by decide +kernel, rfl⟩⟩
theorem eR_days_2 : pd_ic mR_days 2 0 3 := Or.inl ⟨by decide +kernel, rfl⟩
theorem eR_days_3 : pd_is mR_days 3 2 4 := ⟨by decide, Or.inl ⟨2, rfl, by decide +kernel, rfl⟩⟩
theorem eR_days_4 : pd_il mR_days 4 2 5 := Or.inl ⟨2, rfl, by decide +kernel, rfl⟩
theorem eR_days_5 : pd_ic mR_days 5 20 7 := Or.inr (Or.inl ⟨⟨by decide +kernel, rfl⟩, by decide⟩)
theorem eR_days_7 : pd_b2 mR_days 7 .gt 10 82 := ⟨75, ⟨by decide +kernel, rfl⟩, by decide⟩
theorem eR_days_10 : pd_ic mR_days 10 1 11 := Or.inl ⟨by decide +kernel, rfl⟩
theorem eR_days_11 : pd_is mR_days 11 3 12 := ⟨by decide, Or.inl ⟨3, rfl, by decide +kernel, rfl⟩⟩
theorem eR_days_12 : pd_ic mR_days 12 0 13 := Or.inl ⟨by decide +kernel, rfl⟩
theorem eR_days_13 : pd_is mR_days 13 4 15 := ⟨by decide, Or.inr ⟨by decide +kernel, rfl⟩⟩
theorem eR_days_15 : pd_il mR_days 15 4 17 := Or.inr ⟨by decide +kernel, rfl⟩
theorem eR_days_17 : pd_al mR_days 17 0 18 := Or.inl ⟨0, rfl, by decide +kernel, rfl⟩
theorem eR_days_18 : pd_gf mR_days 18 12 26 21 := ⟨138, _, ⟨by decide +kernel, rfl⟩, fR_138_12⟩
theorem eR_days_21 : pd_b2 mR_days 21 .ge 24 62 := ⟨41, ⟨by decide +kernel, rfl⟩, by decide⟩
theorem eR_days_24 : pd_il mR_days 24 3 25 := Or.inl ⟨3, rfl, by decide +kernel, rfl⟩
theorem eR_days_25 : pd_b1 mR_days 25 .eq 28 54 := ⟨29, ⟨by decide +kernel, rfl⟩, by decide⟩
theorem eR_days_28 : pd_al mR_days 28 0 29 := Or.inl ⟨0, rfl, by decide +kernel, rfl⟩
theorem eR_days_29 : pd_il mR_days 29 2 30 := Or.inl ⟨2, rfl, by decide +kernel, rfl⟩
theorem eR_days_30 : pd_al mR_days 30 0 31 := Or.inl ⟨0, rfl, by decide +kernel, rfl⟩
theorem eR_days_31 : pd_gf mR_days 31 12 24 34 := ⟨60, _, ⟨by decide +kernel, rfl⟩, fR_60_12⟩
theorem eR_days_34 : pd_il mR_days 34 4 36 := Or.inr ⟨by decide +kernel, rfl⟩
theorem eR_days_36 : pd_i mR_days 36 (.iaload) 1 37 := ⟨by decide +kernel, rfl⟩
theorem eR_days_37 : pd_kv mR_days 37 mR_storeOf 2 40 := ⟨191, ⟨by decide +kernel, rfl⟩, (pd_m 983 (by decide +kernel) (by decide +kernel)), (pd_m 985 (by decide +kernel) (by decide +kernel)), (pd_m 44 (by decide +kernel) (by decide +kernel)), kR_storeOf⟩
theorem eR_days_40 : pd_al mR_days 40 0 41 := Or.inl ⟨0, rfl, by decide +kernel, rfl⟩
theorem eR_days_41 : pd_gf mR_days 41 12 25 44 := ⟨63, _, ⟨by decide +kernel, rfl⟩, fR_63_12⟩
theorem eR_days_44 : pd_il mR_days 44 4 46 := Or.inr ⟨by decide +kernel, rfl⟩
theorem eR_days_46 : pd_i mR_days 46 (.iaload) 1 47 := ⟨by decide +kernel, rfl⟩
theorem eR_days_47 : pd_b2 mR_days 47 .ne 50 54 := ⟨7, ⟨by decide +kernel, rfl⟩, by decide⟩
theorem eR_days_50 : pd_ic mR_days 50 1 51 := Or.inl ⟨by decide +kernel, rfl⟩
theorem eR_days_51 : pd_go mR_days 51 55 := ⟨4, by decide +kernel, by decide⟩
theorem eR_days_54 : pd_ic mR_days 54 0 55 := Or.inl ⟨by decide +kernel, rfl⟩
theorem eR_days_55 : pd_is mR_days 55 3 56 := ⟨by decide, Or.inl ⟨3, rfl, by decide +kernel, rfl⟩⟩
theorem eR_days_56 : pd_ii mR_days 56 4 1 59 := ⟨by decide, by decide +kernel, rfl⟩
theorem eR_days_59 : pd_go mR_days 59 15 := ⟨-44, by decide +kernel, by decide⟩
theorem eR_days_62 : pd_il mR_days 62 1 63 := Or.inl ⟨1, rfl, by decide +kernel, rfl⟩
theorem eR_days_63 : pd_il mR_days 63 3 64 := Or.inl ⟨3, rfl, by decide +kernel, rfl⟩
theorem eR_days_64 : pd_b1 mR_days 64 .eq 67 73 := ⟨9, ⟨by decide +kernel, rfl⟩, by decide⟩
theorem eR_days_67 : pd_ic mR_days 67 1 68 := Or.inl ⟨by decide +kernel, rfl⟩
theorem eR_days_68 : pd_il mR_days 68 2 69 := Or.inl ⟨2, rfl, by decide +kernel, rfl⟩
theorem eR_days_69 : pd_i mR_days 69 (.ishl) 1 70 := ⟨by decide +kernel, rfl⟩
theorem eR_days_70 : pd_go mR_days 70 74 := ⟨4, by decide +kernel, by decide⟩
theorem eR_days_73 : pd_ic mR_days 73 0 74 := Or.inl ⟨by decide +kernel, rfl⟩
theorem eR_days_74 : pd_i mR_days 74 (.ior) 1 75 := ⟨by decide +kernel, rfl⟩
theorem eR_days_75 : pd_is mR_days 75 1 76 := ⟨by decide, Or.inl ⟨1, rfl, by decide +kernel, rfl⟩⟩
theorem eR_days_76 : pd_ii mR_days 76 2 1 79 := ⟨by decide, by decide +kernel, rfl⟩
theorem eR_days_79 : pd_go mR_days 79 4 := ⟨-75, by decide +kernel, by decide⟩
theorem eR_days_82 : pd_il mR_days 82 1 83 := Or.inl ⟨1, rfl, by decide +kernel, rfl⟩
theorem eR_days_83 {z : Int} : pd_rd mR_days 83 (some (vi z)) := (by decide +kernel : decode mR_days.2.1 83 = .ok (.ireturn, 1))
theorem eR_look_0 : pd_al mR_look 0 0 1 := Or.inl ⟨0, rfl, by decide +kernel, rfl⟩
theorem eR_look_1 : pd_kv mR_look 1 mR_days 0 4 := ⟨194, ⟨by decide +kernel, rfl⟩, (pd_m 999 (by decide +kernel) (by decide +kernel)), (pd_m 992 (by decide +kernel) (by decide +kernel)), (pd_m 993 (by decide +kernel) (by decide +kernel)), kR_days⟩
theorem eR_look_4 : pd_is mR_look 4 1 5 := ⟨by decide, Or.inl ⟨1, rfl, by decide +kernel, rfl⟩⟩
theorem eR_look_5 : pd_ic mR_look 5 (-9) 7 := Or.inr (Or.inl ⟨⟨by decide +kernel, rfl⟩, by decide⟩)
theorem eR_look_7 : pd_is mR_look 7 2 8 := ⟨by decide, Or.inl ⟨2, rfl, by decide +kernel, rfl⟩⟩
theorem eR_look_8 : pd_ic mR_look 8 0 9 := Or.inl ⟨by decide +kernel, rfl⟩
theorem eR_look_9 : pd_is mR_look 9 3 10 := ⟨by decide, Or.inl ⟨3, rfl, by decide +kernel, rfl⟩⟩
theorem eR_look_10 : pd_ic mR_look 10 0 11 := Or.inl ⟨by decide +kernel, rfl⟩
theorem eR_look_11 : pd_is mR_look 11 4 13 := ⟨by decide, Or.inr ⟨by decide +kernel, rfl⟩⟩
theorem eR_look_13 : pd_il mR_look 13 4 15 := Or.inr ⟨by decide +kernel, rfl⟩
theorem eR_look_15 : pd_al mR_look 15 0 16 := Or.inl ⟨0, rfl, by decide +kernel, rfl⟩
theorem eR_look_16 : pd_gf mR_look 16 12 3 19 := ⟨17, _, ⟨by decide +kernel, rfl⟩, fR_17_12⟩
theorem eR_look_19 : pd_ic mR_look 19 0 20 := Or.inl ⟨by decide +kernel, rfl⟩
theorem eR_look_20 : pd_i mR_look 20 (.iaload) 1 21 := ⟨by decide +kernel, rfl⟩
theorem eR_look_21 : pd_b2 mR_look 21 .ge 24 182 := ⟨161, ⟨by decide +kernel, rfl⟩, by decide⟩
theorem eR_look_24 : pd_il mR_look 24 1 25 := Or.inl ⟨1, rfl, by decide +kernel, rfl⟩
theorem eR_look_25 : pd_b1 mR_look 25 .eq 28 182 := ⟨157, ⟨by decide +kernel, rfl⟩, by decide⟩
theorem eR_look_28 : pd_ic mR_look 28 0 29 := Or.inl ⟨by decide +kernel, rfl⟩
theorem eR_look_29 : pd_is mR_look 29 5 31 := ⟨by decide, Or.inr ⟨by decide +kernel, rfl⟩⟩
theorem eR_look_31 : pd_il mR_look 31 5 33 := Or.inr ⟨by decide +kernel, rfl⟩
theorem eR_look_33 : pd_ic mR_look 33 20 35 := Or.inr (Or.inl ⟨⟨by decide +kernel, rfl⟩, by decide⟩)
theorem eR_look_35 : pd_b2 mR_look 35 .gt 38 59 := ⟨24, ⟨by decide +kernel, rfl⟩, by decide⟩
theorem eR_look_38 : pd_al mR_look 38 0 39 := Or.inl ⟨0, rfl, by decide +kernel, rfl⟩
theorem eR_look_39 : pd_gf mR_look 39 12 30 42 := ⟨72, _, ⟨by decide +kernel, rfl⟩, fR_72_12⟩
theorem eR_look_42 : pd_il mR_look 42 5 44 := Or.inr ⟨by decide +kernel, rfl⟩
theorem eR_look_44 : pd_al mR_look 44 0 45 := Or.inl ⟨0, rfl, by decide +kernel, rfl⟩
theorem eR_look_45 : pd_il mR_look 45 5 47 := Or.inr ⟨by decide +kernel, rfl⟩
theorem eR_look_47 : pd_il mR_look 47 4 49 := Or.inr ⟨by decide +kernel, rfl⟩
theorem eR_look_49 : pd_kv mR_look 49 mR_storeOf 2 52 := ⟨191, ⟨by decide +kernel, rfl⟩, (pd_m 983 (by decide +kernel) (by decide +kernel)), (pd_m 985 (by decide +kernel) (by decide +kernel)), (pd_m 44 (by decide +kernel) (by decide +kernel)), kR_storeOf⟩
theorem eR_look_52 : pd_i mR_look 52 (.iastore) 1 53 := ⟨by decide +kernel, rfl⟩
theorem eR_look_53 : pd_ii mR_look 53 5 1 56 := ⟨by decide, by decide +kernel, rfl⟩
theorem eR_look_56 : pd_go mR_look 56 31 := ⟨-25, by decide +kernel, by decide⟩
theorem eR_look_59 : pd_ic mR_look 59 0 60 := Or.inl ⟨by decide +kernel, rfl⟩
theorem eR_look_60 : pd_is mR_look 60 5 62 := ⟨by decide, Or.inr ⟨by decide +kernel, rfl⟩⟩
theorem eR_look_62 : pd_ic mR_look 62 0 63 := Or.inl ⟨by decide +kernel, rfl⟩
theorem eR_look_63 : pd_is mR_look 63 6 65 := ⟨by decide, Or.inr ⟨by decide +kernel, rfl⟩⟩
theorem eR_look_65 : pd_il mR_look 65 6 67 := Or.inr ⟨by decide +kernel, rfl⟩
theorem eR_look_67 : pd_ic mR_look 67 20 69 := Or.inr (Or.inl ⟨⟨by decide +kernel, rfl⟩, by decide⟩)
theorem eR_look_69 : pd_b2 mR_look 69 .gt 72 158 := ⟨89, ⟨by decide +kernel, rfl⟩, by decide⟩
theorem eR_look_72 : pd_ic mR_look 72 0 73 := Or.inl ⟨by decide +kernel, rfl⟩
theorem eR_look_73 : pd_is mR_look 73 7 75 := ⟨by decide, Or.inr ⟨by decide +kernel, rfl⟩⟩
theorem eR_look_75 : pd_ic mR_look 75 0 76 := Or.inl ⟨by decide +kernel, rfl⟩
theorem eR_look_76 : pd_is mR_look 76 8 78 := ⟨by decide, Or.inr ⟨by decide +kernel, rfl⟩⟩
theorem eR_look_78 : pd_il mR_look 78 8 80 := Or.inr ⟨by decide +kernel, rfl⟩
theorem eR_look_80 : pd_ic mR_look 80 20 82 := Or.inr (Or.inl ⟨⟨by decide +kernel, rfl⟩, by decide⟩)
theorem eR_look_82 : pd_b2 mR_look 82 .gt 85 136 := ⟨54, ⟨by decide +kernel, rfl⟩, by decide⟩
theorem eR_look_85 : pd_il mR_look 85 7 87 := Or.inr ⟨by decide +kernel, rfl⟩
theorem eR_look_87 : pd_il mR_look 87 1 88 := Or.inl ⟨1, rfl, by decide +kernel, rfl⟩
theorem eR_look_88 : pd_il mR_look 88 6 90 := Or.inr ⟨by decide +kernel, rfl⟩
theorem eR_look_90 : pd_ks mR_look 90 mR_has 2 93 := ⟨197, ⟨by decide +kernel, rfl⟩, Or.inl (pd_m 1000 (by decide +kernel) (by decide +kernel)), (pd_m 1001 (by decide +kernel) (by decide +kernel)), kR_has⟩
theorem eR_look_93 : pd_b1 mR_look 93 .eq 96 126 := ⟨33, ⟨by decide +kernel, rfl⟩, by decide⟩
theorem eR_look_96 : pd_il mR_look 96 1 97 := Or.inl ⟨1, rfl, by decide +kernel, rfl⟩
theorem eR_look_97 : pd_il mR_look 97 8 99 := Or.inr ⟨by decide +kernel, rfl⟩
theorem eR_look_99 : pd_ks mR_look 99 mR_has 2 102 := ⟨197, ⟨by decide +kernel, rfl⟩, Or.inl (pd_m 1000 (by decide +kernel) (by decide +kernel)), (pd_m 1001 (by decide +kernel) (by decide +kernel)), kR_has⟩
theorem eR_look_102 : pd_b1 mR_look 102 .eq 105 126 := ⟨24, ⟨by decide +kernel, rfl⟩, by decide⟩
theorem eR_look_105 : pd_al mR_look 105 0 106 := Or.inl ⟨0, rfl, by decide +kernel, rfl⟩
theorem eR_look_106 : pd_gf mR_look 106 12 30 109 := ⟨72, _, ⟨by decide +kernel, rfl⟩, fR_72_12⟩
theorem eR_look_109 : pd_il mR_look 109 6 111 := Or.inr ⟨by decide +kernel, rfl⟩
theorem eR_look_111 : pd_i mR_look 111 (.iaload) 1 112 := ⟨by decide +kernel, rfl⟩
theorem eR_look_112 : pd_al mR_look 112 0 113 := Or.inl ⟨0, rfl, by decide +kernel, rfl⟩
theorem eR_look_113 : pd_gf mR_look 113 12 30 116 := ⟨72, _, ⟨by decide +kernel, rfl⟩, fR_72_12⟩
theorem eR_look_116 : pd_il mR_look 116 8 118 := Or.inr ⟨by decide +kernel, rfl⟩
theorem eR_look_118 : pd_i mR_look 118 (.iaload) 1 119 := ⟨by decide +kernel, rfl⟩
theorem eR_look_119 : pd_b2 mR_look 119 .ne 122 126 := ⟨7, ⟨by decide +kernel, rfl⟩, by decide⟩
theorem eR_look_122 : pd_ic mR_look 122 1 123 := Or.inl ⟨by decide +kernel, rfl⟩
theorem eR_look_123 : pd_go mR_look 123 127 := ⟨4, by decide +kernel, by decide⟩
theorem eR_look_126 : pd_ic mR_look 126 0 127 := Or.inl ⟨by decide +kernel, rfl⟩
theorem eR_look_127 : pd_i mR_look 127 (.iadd) 1 128 := ⟨by decide +kernel, rfl⟩
theorem eR_look_128 : pd_is mR_look 128 7 130 := ⟨by decide, Or.inr ⟨by decide +kernel, rfl⟩⟩
theorem eR_look_130 : pd_ii mR_look 130 8 1 133 := ⟨by decide, by decide +kernel, rfl⟩
theorem eR_look_133 : pd_go mR_look 133 78 := ⟨-55, by decide +kernel, by decide⟩
theorem eR_look_136 : pd_il mR_look 136 7 138 := Or.inr ⟨by decide +kernel, rfl⟩
theorem eR_look_138 : pd_il mR_look 138 5 140 := Or.inr ⟨by decide +kernel, rfl⟩
theorem eR_look_140 : pd_b2 mR_look 140 .le 143 148 := ⟨8, ⟨by decide +kernel, rfl⟩, by decide⟩
theorem eR_look_143 : pd_il mR_look 143 7 145 := Or.inr ⟨by decide +kernel, rfl⟩
theorem eR_look_145 : pd_go mR_look 145 150 := ⟨5, by decide +kernel, by decide⟩
theorem eR_look_148 : pd_il mR_look 148 5 150 := Or.inr ⟨by decide +kernel, rfl⟩
theorem eR_look_150 : pd_is mR_look 150 5 152 := ⟨by decide, Or.inr ⟨by decide +kernel, rfl⟩⟩
theorem eR_look_152 : pd_ii mR_look 152 6 1 155 := ⟨by decide, by decide +kernel, rfl⟩
theorem eR_look_155 : pd_go mR_look 155 65 := ⟨-90, by decide +kernel, by decide⟩
theorem eR_look_158 : pd_il mR_look 158 2 159 := Or.inl ⟨2, rfl, by decide +kernel, rfl⟩
theorem eR_look_159 : pd_ic mR_look 159 (-9) 161 := Or.inr (Or.inl ⟨⟨by decide +kernel, rfl⟩, by decide⟩)
theorem eR_look_161 : pd_b2 mR_look 161 .eq 164 170 := ⟨9, ⟨by decide +kernel, rfl⟩, by decide⟩
theorem eR_look_164 : pd_il mR_look 164 5 166 := Or.inr ⟨by decide +kernel, rfl⟩
theorem eR_look_166 : pd_il mR_look 166 3 167 := Or.inl ⟨3, rfl, by decide +kernel, rfl⟩
theorem eR_look_167 : pd_b2 mR_look 167 .ge 170 176 := ⟨9, ⟨by decide +kernel, rfl⟩, by decide⟩
theorem eR_look_170 : pd_il mR_look 170 4 172 := Or.inr ⟨by decide +kernel, rfl⟩
theorem eR_look_172 : pd_is mR_look 172 2 173 := ⟨by decide, Or.inl ⟨2, rfl, by decide +kernel, rfl⟩⟩
theorem eR_look_173 : pd_il mR_look 173 5 175 := Or.inr ⟨by decide +kernel, rfl⟩
theorem eR_look_175 : pd_is mR_look 175 3 176 := ⟨by decide, Or.inl ⟨3, rfl, by decide +kernel, rfl⟩⟩
theorem eR_look_176 : pd_ii mR_look 176 4 1 179 := ⟨by decide, by decide +kernel, rfl⟩
theorem eR_look_179 : pd_go mR_look 179 13 := ⟨-166, by decide +kernel, by decide⟩
theorem eR_look_182 : pd_il mR_look 182 2 183 := Or.inl ⟨2, rfl, by decide +kernel, rfl⟩
theorem eR_look_183 {z : Int} : pd_rd mR_look 183 (some (vi z)) := (by decide +kernel : decode mR_look.2.1 183 = .ok (.ireturn, 1))
theorem eR_gave_0 : pd_il mR_gave 0 1 1 := Or.inl ⟨1, rfl, by decide +kernel, rfl⟩
theorem eR_gave_1 : pd_ks mR_gave 1 mR_isDay 1 4 := ⟨166, ⟨by decide +kernel, rfl⟩, Or.inl (pd_m 901 (by decide +kernel) (by decide +kernel)), (pd_m 902 (by decide +kernel) (by decide +kernel)), kR_isDay⟩
theorem eR_gave_4 : pd_b1 mR_gave 4 .eq 7 17 := ⟨13, ⟨by decide +kernel, rfl⟩, by decide⟩
theorem eR_gave_7 : pd_il mR_gave 7 2 8 := Or.inl ⟨2, rfl, by decide +kernel, rfl⟩
theorem eR_gave_8 : pd_ic mR_gave 8 (-1) 9 := Or.inl ⟨by decide +kernel, rfl⟩
theorem eR_gave_9 : pd_ic mR_gave 9 19 11 := Or.inr (Or.inl ⟨⟨by decide +kernel, rfl⟩, by decide⟩)
theorem eR_gave_11 : pd_ks mR_gave 11 mR_in 3 14 := ⟨75, ⟨by decide +kernel, rfl⟩, Or.inl (pd_m 827 (by decide +kernel) (by decide +kernel)), (pd_m 828 (by decide +kernel) (by decide +kernel)), kR_in⟩
theorem eR_gave_14 : pd_b1 mR_gave 14 .ne 17 19 := ⟨5, ⟨by decide +kernel, rfl⟩, by decide⟩
theorem eR_gave_17 : pd_ic mR_gave 17 (-1) 18 := Or.inl ⟨by decide +kernel, rfl⟩
theorem eR_gave_18 {z : Int} : pd_rd mR_gave 18 (some (vi z)) := (by decide +kernel : decode mR_gave.2.1 18 = .ok (.ireturn, 1))
theorem eR_gave_19 : pd_al mR_gave 19 0 20 := Or.inl ⟨0, rfl, by decide +kernel, rfl⟩
theorem eR_gave_20 : pd_gf mR_gave 20 12 29 23 := ⟨141, _, ⟨by decide +kernel, rfl⟩, fR_141_12⟩
theorem eR_gave_23 : pd_ic mR_gave 23 4 24 := Or.inl ⟨by decide +kernel, rfl⟩
theorem eR_gave_24 : pd_b2 mR_gave 24 .ne 27 30 := ⟨6, ⟨by decide +kernel, rfl⟩, by decide⟩
theorem eR_gave_27 : pd_ic mR_gave 27 (-3) 29 := Or.inr (Or.inl ⟨⟨by decide +kernel, rfl⟩, by decide⟩)
theorem eR_gave_29 {z : Int} : pd_rd mR_gave 29 (some (vi z)) := (by decide +kernel : decode mR_gave.2.1 29 = .ok (.ireturn, 1))
theorem eR_gave_30 : pd_al mR_gave 30 0 31 := Or.inl ⟨0, rfl, by decide +kernel, rfl⟩
theorem eR_gave_31 : pd_gf mR_gave 31 12 27 34 := ⟨66, _, ⟨by decide +kernel, rfl⟩, fR_66_12⟩
theorem eR_gave_34 : pd_al mR_gave 34 0 35 := Or.inl ⟨0, rfl, by decide +kernel, rfl⟩
theorem eR_gave_35 : pd_gf mR_gave 35 12 29 38 := ⟨141, _, ⟨by decide +kernel, rfl⟩, fR_141_12⟩
theorem eR_gave_38 : pd_il mR_gave 38 1 39 := Or.inl ⟨1, rfl, by decide +kernel, rfl⟩
theorem eR_gave_39 : pd_i mR_gave 39 (.iastore) 1 40 := ⟨by decide +kernel, rfl⟩
theorem eR_gave_40 : pd_al mR_gave 40 0 41 := Or.inl ⟨0, rfl, by decide +kernel, rfl⟩
theorem eR_gave_41 : pd_gf mR_gave 41 12 28 44 := ⟨69, _, ⟨by decide +kernel, rfl⟩, fR_69_12⟩
theorem eR_gave_44 : pd_al mR_gave 44 0 45 := Or.inl ⟨0, rfl, by decide +kernel, rfl⟩
theorem eR_gave_45 : pd_gf mR_gave 45 12 29 48 := ⟨141, _, ⟨by decide +kernel, rfl⟩, fR_141_12⟩
theorem eR_gave_48 : pd_il mR_gave 48 2 49 := Or.inl ⟨2, rfl, by decide +kernel, rfl⟩
theorem eR_gave_49 : pd_ic mR_gave 49 (-1) 50 := Or.inl ⟨by decide +kernel, rfl⟩
theorem eR_gave_50 : pd_b2 mR_gave 50 .ne 53 58 := ⟨8, ⟨by decide +kernel, rfl⟩, by decide⟩
theorem eR_gave_53 : pd_ic mR_gave 53 (-9) 55 := Or.inr (Or.inl ⟨⟨by decide +kernel, rfl⟩, by decide⟩)
theorem eR_gave_55 : pd_go mR_gave 55 59 := ⟨4, by decide +kernel, by decide⟩
theorem eR_gave_58 : pd_il mR_gave 58 2 59 := Or.inl ⟨2, rfl, by decide +kernel, rfl⟩
theorem eR_gave_59 : pd_i mR_gave 59 (.iastore) 1 60 := ⟨by decide +kernel, rfl⟩
theorem eR_gave_60 : pd_al mR_gave 60 0 61 := Or.inl ⟨0, rfl, by decide +kernel, rfl⟩
theorem eR_gave_61 : pd_i mR_gave 61 (.dup) 1 62 := ⟨by decide +kernel, rfl⟩
theorem eR_gave_62 : pd_gf mR_gave 62 12 29 65 := ⟨141, _, ⟨by decide +kernel, rfl⟩, fR_141_12⟩
theorem eR_gave_65 : pd_ic mR_gave 65 1 66 := Or.inl ⟨by decide +kernel, rfl⟩
theorem eR_gave_66 : pd_i mR_gave 66 (.iadd) 1 67 := ⟨by decide +kernel, rfl⟩
theorem eR_gave_67 : pd_pf mR_gave 67 12 29 .int 70 := ⟨141, ⟨by decide +kernel, rfl⟩, fR_141_12, Or.inl ⟨_, rfl⟩⟩
theorem eR_gave_70 : pd_al mR_gave 70 0 71 := Or.inl ⟨0, rfl, by decide +kernel, rfl⟩
theorem eR_gave_71 : pd_gf mR_gave 71 12 29 74 := ⟨141, _, ⟨by decide +kernel, rfl⟩, fR_141_12⟩
theorem eR_gave_74 {z : Int} : pd_rd mR_gave 74 (some (vi z)) := (by decide +kernel : decode mR_gave.2.1 74 = .ok (.ireturn, 1))
theorem eR_laws_0 : pd_il mR_laws 0 1 1 := Or.inl ⟨1, rfl, by decide +kernel, rfl⟩
theorem eR_laws_1 : pd_ic mR_laws 1 0 2 := Or.inl ⟨by decide +kernel, rfl⟩
theorem eR_laws_2 : pd_ic mR_laws 2 1 3 := Or.inl ⟨by decide +kernel, rfl⟩
theorem eR_laws_3 : pd_ks mR_laws 3 mR_in 3 6 := ⟨75, ⟨by decide +kernel, rfl⟩, Or.inl (pd_m 827 (by decide +kernel) (by decide +kernel)), (pd_m 828 (by decide +kernel) (by decide +kernel)), kR_in⟩
theorem eR_laws_6 : pd_b1 mR_laws 6 .ne 9 11 := ⟨5, ⟨by decide +kernel, rfl⟩, by decide⟩
theorem eR_laws_9 : pd_ic mR_laws 9 (-1) 10 := Or.inl ⟨by decide +kernel, rfl⟩
theorem eR_laws_10 {z : Int} : pd_rd mR_laws 10 (some (vi z)) := (by decide +kernel : decode mR_laws.2.1 10 = .ok (.ireturn, 1))
theorem eR_laws_11 : pd_ic mR_laws 11 0 12 := Or.inl ⟨by decide +kernel, rfl⟩
theorem eR_laws_12 : pd_is mR_laws 12 2 13 := ⟨by decide, Or.inl ⟨2, rfl, by decide +kernel, rfl⟩⟩
theorem eR_laws_13 : pd_ic mR_laws 13 (-9) 15 := Or.inr (Or.inl ⟨⟨by decide +kernel, rfl⟩, by decide⟩)
theorem eR_laws_15 : pd_is mR_laws 15 3 16 := ⟨by decide, Or.inl ⟨3, rfl, by decide +kernel, rfl⟩⟩
theorem eR_laws_16 : pd_ic mR_laws 16 9 18 := Or.inr (Or.inl ⟨⟨by decide +kernel, rfl⟩, by decide⟩)
theorem eR_laws_18 : pd_is mR_laws 18 4 20 := ⟨by decide, Or.inr ⟨by decide +kernel, rfl⟩⟩
theorem eR_laws_20 : pd_il mR_laws 20 4 22 := Or.inr ⟨by decide +kernel, rfl⟩
theorem eR_laws_22 : pd_ic mR_laws 22 1 23 := Or.inl ⟨by decide +kernel, rfl⟩
theorem eR_laws_23 : pd_b2 mR_laws 23 .lt 26 136 := ⟨113, ⟨by decide +kernel, rfl⟩, by decide⟩
theorem eR_laws_26 : pd_ic mR_laws 26 9 28 := Or.inr (Or.inl ⟨⟨by decide +kernel, rfl⟩, by decide⟩)
theorem eR_laws_28 : pd_is mR_laws 28 5 30 := ⟨by decide, Or.inr ⟨by decide +kernel, rfl⟩⟩
theorem eR_laws_30 : pd_il mR_laws 30 5 32 := Or.inr ⟨by decide +kernel, rfl⟩
theorem eR_laws_32 : pd_ic mR_laws 32 1 33 := Or.inl ⟨by decide +kernel, rfl⟩
theorem eR_laws_33 : pd_b2 mR_laws 33 .lt 36 130 := ⟨97, ⟨by decide +kernel, rfl⟩, by decide⟩
theorem eR_laws_36 : pd_ic mR_laws 36 1 37 := Or.inl ⟨by decide +kernel, rfl⟩
theorem eR_laws_37 : pd_is mR_laws 37 6 39 := ⟨by decide, Or.inr ⟨by decide +kernel, rfl⟩⟩
theorem eR_laws_39 : pd_ic mR_laws 39 0 40 := Or.inl ⟨by decide +kernel, rfl⟩
theorem eR_laws_40 : pd_is mR_laws 40 7 42 := ⟨by decide, Or.inr ⟨by decide +kernel, rfl⟩⟩
theorem eR_laws_42 : pd_il mR_laws 42 7 44 := Or.inr ⟨by decide +kernel, rfl⟩
theorem eR_laws_44 : pd_al mR_laws 44 0 45 := Or.inl ⟨0, rfl, by decide +kernel, rfl⟩
theorem eR_laws_45 : pd_gf mR_laws 45 12 29 48 := ⟨141, _, ⟨by decide +kernel, rfl⟩, fR_141_12⟩
theorem eR_laws_48 : pd_b2 mR_laws 48 .ge 51 93 := ⟨45, ⟨by decide +kernel, rfl⟩, by decide⟩
theorem eR_laws_51 : pd_il mR_laws 51 6 53 := Or.inr ⟨by decide +kernel, rfl⟩
theorem eR_laws_53 : pd_b1 mR_laws 53 .eq 56 84 := ⟨31, ⟨by decide +kernel, rfl⟩, by decide⟩
theorem eR_laws_56 : pd_al mR_laws 56 0 57 := Or.inl ⟨0, rfl, by decide +kernel, rfl⟩
theorem eR_laws_57 : pd_gf mR_laws 57 12 27 60 := ⟨66, _, ⟨by decide +kernel, rfl⟩, fR_66_12⟩
theorem eR_laws_60 : pd_il mR_laws 60 7 62 := Or.inr ⟨by decide +kernel, rfl⟩
theorem eR_laws_62 : pd_i mR_laws 62 (.iaload) 1 63 := ⟨by decide +kernel, rfl⟩
theorem eR_laws_63 : pd_il mR_laws 63 4 65 := Or.inr ⟨by decide +kernel, rfl⟩
theorem eR_laws_65 : pd_il mR_laws 65 5 67 := Or.inr ⟨by decide +kernel, rfl⟩
theorem eR_laws_67 : pd_ks mR_laws 67 mR_lawOn 3 70 := ⟨144, ⟨by decide +kernel, rfl⟩, Or.inl (pd_m 894 (by decide +kernel) (by decide +kernel)), (pd_m 895 (by decide +kernel) (by decide +kernel)), kR_lawOn⟩
theorem eR_laws_70 : pd_al mR_laws 70 0 71 := Or.inl ⟨0, rfl, by decide +kernel, rfl⟩
theorem eR_laws_71 : pd_gf mR_laws 71 12 28 74 := ⟨69, _, ⟨by decide +kernel, rfl⟩, fR_69_12⟩
theorem eR_laws_74 : pd_il mR_laws 74 7 76 := Or.inr ⟨by decide +kernel, rfl⟩
theorem eR_laws_76 : pd_i mR_laws 76 (.iaload) 1 77 := ⟨by decide +kernel, rfl⟩
theorem eR_laws_77 : pd_b2 mR_laws 77 .ne 80 84 := ⟨7, ⟨by decide +kernel, rfl⟩, by decide⟩
theorem eR_laws_80 : pd_ic mR_laws 80 1 81 := Or.inl ⟨by decide +kernel, rfl⟩
theorem eR_laws_81 : pd_go mR_laws 81 85 := ⟨4, by decide +kernel, by decide⟩
theorem eR_laws_84 : pd_ic mR_laws 84 0 85 := Or.inl ⟨by decide +kernel, rfl⟩
theorem eR_laws_85 : pd_is mR_laws 85 6 87 := ⟨by decide, Or.inr ⟨by decide +kernel, rfl⟩⟩
theorem eR_laws_87 : pd_ii mR_laws 87 7 1 90 := ⟨by decide, by decide +kernel, rfl⟩
theorem eR_laws_90 : pd_go mR_laws 90 42 := ⟨-48, by decide +kernel, by decide⟩
theorem eR_laws_93 : pd_il mR_laws 93 2 94 := Or.inl ⟨2, rfl, by decide +kernel, rfl⟩
theorem eR_laws_94 : pd_il mR_laws 94 6 96 := Or.inr ⟨by decide +kernel, rfl⟩
theorem eR_laws_96 : pd_b1 mR_laws 96 .eq 99 103 := ⟨7, ⟨by decide +kernel, rfl⟩, by decide⟩
theorem eR_laws_99 : pd_ic mR_laws 99 1 100 := Or.inl ⟨by decide +kernel, rfl⟩
theorem eR_laws_100 : pd_go mR_laws 100 104 := ⟨4, by decide +kernel, by decide⟩
theorem eR_laws_103 : pd_ic mR_laws 103 0 104 := Or.inl ⟨by decide +kernel, rfl⟩
theorem eR_laws_104 : pd_i mR_laws 104 (.iadd) 1 105 := ⟨by decide +kernel, rfl⟩
theorem eR_laws_105 : pd_is mR_laws 105 2 106 := ⟨by decide, Or.inl ⟨2, rfl, by decide +kernel, rfl⟩⟩
theorem eR_laws_106 : pd_il mR_laws 106 6 108 := Or.inr ⟨by decide +kernel, rfl⟩
theorem eR_laws_108 : pd_b1 mR_laws 108 .eq 111 122 := ⟨14, ⟨by decide +kernel, rfl⟩, by decide⟩
theorem eR_laws_111 : pd_ic mR_laws 111 10 113 := Or.inr (Or.inl ⟨⟨by decide +kernel, rfl⟩, by decide⟩)
theorem eR_laws_113 : pd_il mR_laws 113 4 115 := Or.inr ⟨by decide +kernel, rfl⟩
theorem eR_laws_115 : pd_i mR_laws 115 (.imul) 1 116 := ⟨by decide +kernel, rfl⟩
theorem eR_laws_116 : pd_il mR_laws 116 5 118 := Or.inr ⟨by decide +kernel, rfl⟩
theorem eR_laws_118 : pd_i mR_laws 118 (.iadd) 1 119 := ⟨by decide +kernel, rfl⟩
theorem eR_laws_119 : pd_go mR_laws 119 123 := ⟨4, by decide +kernel, by decide⟩
theorem eR_laws_122 : pd_il mR_laws 122 3 123 := Or.inl ⟨3, rfl, by decide +kernel, rfl⟩
theorem eR_laws_123 : pd_is mR_laws 123 3 124 := ⟨by decide, Or.inl ⟨3, rfl, by decide +kernel, rfl⟩⟩
theorem eR_laws_124 : pd_ii mR_laws 124 5 (-1) 127 := ⟨by decide, by decide +kernel, rfl⟩
theorem eR_laws_127 : pd_go mR_laws 127 30 := ⟨-97, by decide +kernel, by decide⟩
theorem eR_laws_130 : pd_ii mR_laws 130 4 (-1) 133 := ⟨by decide, by decide +kernel, rfl⟩
theorem eR_laws_133 : pd_go mR_laws 133 20 := ⟨-113, by decide +kernel, by decide⟩
theorem eR_laws_136 : pd_il mR_laws 136 1 137 := Or.inl ⟨1, rfl, by decide +kernel, rfl⟩
theorem eR_laws_137 : pd_b1 mR_laws 137 .ne 140 144 := ⟨7, ⟨by decide +kernel, rfl⟩, by decide⟩
theorem eR_laws_140 : pd_il mR_laws 140 2 141 := Or.inl ⟨2, rfl, by decide +kernel, rfl⟩
theorem eR_laws_141 : pd_go mR_laws 141 145 := ⟨4, by decide +kernel, by decide⟩
theorem eR_laws_144 : pd_il mR_laws 144 3 145 := Or.inl ⟨3, rfl, by decide +kernel, rfl⟩
theorem eR_laws_145 {z : Int} : pd_rd mR_laws 145 (some (vi z)) := (by decide +kernel : decode mR_laws.2.1 145 = .ok (.ireturn, 1))
theorem eR_forget_0 : pd_al mR_forget 0 0 1 := Or.inl ⟨0, rfl, by decide +kernel, rfl⟩
theorem eR_forget_1 : pd_gf mR_forget 1 12 26 4 := ⟨138, _, ⟨by decide +kernel, rfl⟩, fR_138_12⟩
theorem eR_forget_4 : pd_al mR_forget 4 0 5 := Or.inl ⟨0, rfl, by decide +kernel, rfl⟩
theorem eR_forget_5 : pd_gf mR_forget 5 12 29 8 := ⟨141, _, ⟨by decide +kernel, rfl⟩, fR_141_12⟩
theorem eR_forget_8 : pd_i mR_forget 8 (.iadd) 1 9 := ⟨by decide +kernel, rfl⟩
theorem eR_forget_9 : pd_is mR_forget 9 1 10 := ⟨by decide, Or.inl ⟨1, rfl, by decide +kernel, rfl⟩⟩
theorem eR_forget_10 : pd_al mR_forget 10 0 11 := Or.inl ⟨0, rfl, by decide +kernel, rfl⟩
theorem eR_forget_11 : pd_ic mR_forget 11 0 12 := Or.inl ⟨by decide +kernel, rfl⟩
theorem eR_forget_12 : pd_pf mR_forget 12 12 26 .int 15 := ⟨138, ⟨by decide +kernel, rfl⟩, fR_138_12, Or.inl ⟨_, rfl⟩⟩
theorem eR_forget_15 : pd_al mR_forget 15 0 16 := Or.inl ⟨0, rfl, by decide +kernel, rfl⟩
theorem eR_forget_16 : pd_ic mR_forget 16 0 17 := Or.inl ⟨by decide +kernel, rfl⟩
theorem eR_forget_17 : pd_pf mR_forget 17 12 29 .int 20 := ⟨141, ⟨by decide +kernel, rfl⟩, fR_141_12, Or.inl ⟨_, rfl⟩⟩
theorem eR_forget_20 : pd_il mR_forget 20 1 21 := Or.inl ⟨1, rfl, by decide +kernel, rfl⟩
theorem eR_forget_21 {z : Int} : pd_rd mR_forget 21 (some (vi z)) := (by decide +kernel : decode mR_forget.2.1 21 = .ok (.ireturn, 1))
theorem eR_bodiesOf_0 : pd_il mR_bodiesOf 0 0 1 := Or.inl ⟨0, rfl, by decide +kernel, rfl⟩
theorem eR_bodiesOf_1 : pd_i mR_bodiesOf 1 (.tableswitch 47 0 4 #[35, 37, 39, 41, 44]) 35 36 := ⟨by decide +kernel, rfl⟩
theorem eR_bodiesOf_36 : pd_ic mR_bodiesOf 36 1 37 := Or.inl ⟨by decide +kernel, rfl⟩
theorem eR_bodiesOf_37 {z : Int} : pd_rd mR_bodiesOf 37 (some (vi z)) := (by decide +kernel : decode mR_bodiesOf.2.1 37 = .ok (.ireturn, 1))
theorem eR_bodiesOf_38 : pd_ic mR_bodiesOf 38 3 39 := Or.inl ⟨by decide +kernel, rfl⟩
theorem eR_bodiesOf_39 {z : Int} : pd_rd mR_bodiesOf 39 (some (vi z)) := (by decide +kernel : decode mR_bodiesOf.2.1 39 = .ok (.ireturn, 1))
theorem eR_bodiesOf_40 : pd_ic mR_bodiesOf 40 5 41 := Or.inl ⟨by decide +kernel, rfl⟩
theorem eR_bodiesOf_41 {z : Int} : pd_rd mR_bodiesOf 41 (some (vi z)) := (by decide +kernel : decode mR_bodiesOf.2.1 41 = .ok (.ireturn, 1))
theorem eR_bodiesOf_42 : pd_ic mR_bodiesOf 42 11 44 := Or.inr (Or.inl ⟨⟨by decide +kernel, rfl⟩, by decide⟩)
theorem eR_bodiesOf_44 {z : Int} : pd_rd mR_bodiesOf 44 (some (vi z)) := (by decide +kernel : decode mR_bodiesOf.2.1 44 = .ok (.ireturn, 1))
theorem eR_bodiesOf_45 : pd_ic mR_bodiesOf 45 21 47 := Or.inr (Or.inl ⟨⟨by decide +kernel, rfl⟩, by decide⟩)
theorem eR_bodiesOf_47 {z : Int} : pd_rd mR_bodiesOf 47 (some (vi z)) := (by decide +kernel : decode mR_bodiesOf.2.1 47 = .ok (.ireturn, 1))
theorem eR_bodiesOf_48 : pd_ic mR_bodiesOf 48 33 50 := Or.inr (Or.inl ⟨⟨by decide +kernel, rfl⟩, by decide⟩)
theorem eR_bodiesOf_50 {z : Int} : pd_rd mR_bodiesOf 50 (some (vi z)) := (by decide +kernel : decode mR_bodiesOf.2.1 50 = .ok (.ireturn, 1))
theorem eR_mark_0 : pd_il mR_mark 0 1 1 := Or.inl ⟨1, rfl, by decide +kernel, rfl⟩
theorem eR_mark_1 : pd_ic mR_mark 1 0 2 := Or.inl ⟨by decide +kernel, rfl⟩
theorem eR_mark_2 : pd_ic mR_mark 2 5 3 := Or.inl ⟨by decide +kernel, rfl⟩
theorem eR_mark_3 : pd_ks mR_mark 3 mR_in 3 6 := ⟨75, ⟨by decide +kernel, rfl⟩, Or.inl (pd_m 827 (by decide +kernel) (by decide +kernel)), (pd_m 828 (by decide +kernel) (by decide +kernel)), kR_in⟩
theorem eR_mark_6 : pd_b1 mR_mark 6 .eq 9 17 := ⟨11, ⟨by decide +kernel, rfl⟩, by decide⟩
theorem eR_mark_9 : pd_al mR_mark 9 0 10 := Or.inl ⟨0, rfl, by decide +kernel, rfl⟩
theorem eR_mark_10 : pd_il mR_mark 10 2 11 := Or.inl ⟨2, rfl, by decide +kernel, rfl⟩
theorem eR_mark_11 : pd_kv mR_mark 11 mR_isGood 1 14 := ⟨159, ⟨by decide +kernel, rfl⟩, (pd_m 878 (by decide +kernel) (by decide +kernel)), (pd_m 880 (by decide +kernel) (by decide +kernel)), (pd_m 33 (by decide +kernel) (by decide +kernel)), kR_isGood⟩
theorem eR_mark_14 : pd_b1 mR_mark 14 .ne 17 20 := ⟨6, ⟨by decide +kernel, rfl⟩, by decide⟩
theorem eR_mark_17 : pd_ic mR_mark 17 (-1000000) 19 := Or.inr (Or.inr (Or.inr (Or.inl ⟨201, ⟨by decide +kernel, rfl⟩, (pd_m 1019 (by decide +kernel) (by decide +kernel))⟩)))
theorem eR_mark_19 {z : Int} : pd_rd mR_mark 19 (some (vi z)) := (by decide +kernel : decode mR_mark.2.1 19 = .ok (.ireturn, 1))
theorem eR_mark_20 : pd_il mR_mark 20 1 21 := Or.inl ⟨1, rfl, by decide +kernel, rfl⟩
theorem eR_mark_21 : pd_ks mR_mark 21 mR_bodiesOf 1 24 := ⟨202, ⟨by decide +kernel, rfl⟩, Or.inl (pd_m 1020 (by decide +kernel) (by decide +kernel)), (pd_m 1021 (by decide +kernel) (by decide +kernel)), kR_bodiesOf⟩
theorem eR_mark_24 : pd_is mR_mark 24 3 25 := ⟨by decide, Or.inl ⟨3, rfl, by decide +kernel, rfl⟩⟩
theorem eR_mark_25 : pd_jc mR_mark 25 1 26 := Or.inl ⟨1, ⟨by decide +kernel, rfl⟩, by decide⟩
theorem eR_mark_26 : pd_js mR_mark 26 4 28 := ⟨by decide, Or.inr ⟨by decide +kernel, rfl⟩⟩
theorem eR_mark_28 : pd_ic mR_mark 28 0 29 := Or.inl ⟨by decide +kernel, rfl⟩
theorem eR_mark_29 : pd_is mR_mark 29 6 31 := ⟨by decide, Or.inr ⟨by decide +kernel, rfl⟩⟩
theorem eR_mark_31 : pd_il mR_mark 31 6 33 := Or.inr ⟨by decide +kernel, rfl⟩
theorem eR_mark_33 : pd_ic mR_mark 33 6 35 := Or.inr (Or.inl ⟨⟨by decide +kernel, rfl⟩, by decide⟩)
theorem eR_mark_35 : pd_b2 mR_mark 35 .ge 38 76 := ⟨41, ⟨by decide +kernel, rfl⟩, by decide⟩
theorem eR_mark_38 : pd_al mR_mark 38 0 39 := Or.inl ⟨0, rfl, by decide +kernel, rfl⟩
theorem eR_mark_39 : pd_i mR_mark 39 (.dup) 1 40 := ⟨by decide +kernel, rfl⟩
theorem eR_mark_40 : pd_gf mR_mark 40 12 31 43 := ⟨205, _, ⟨by decide +kernel, rfl⟩, fR_205_12⟩
theorem eR_mark_43 : pd_il mR_mark 43 3 44 := Or.inl ⟨3, rfl, by decide +kernel, rfl⟩
theorem eR_mark_44 : pd_il mR_mark 44 6 46 := Or.inr ⟨by decide +kernel, rfl⟩
theorem eR_mark_46 : pd_ks mR_mark 46 mR_has 2 49 := ⟨197, ⟨by decide +kernel, rfl⟩, Or.inl (pd_m 1000 (by decide +kernel) (by decide +kernel)), (pd_m 1001 (by decide +kernel) (by decide +kernel)), kR_has⟩
theorem eR_mark_49 : pd_b1 mR_mark 49 .eq 52 57 := ⟨8, ⟨by decide +kernel, rfl⟩, by decide⟩
theorem eR_mark_52 : pd_jl mR_mark 52 4 54 := Or.inr ⟨by decide +kernel, rfl⟩
theorem eR_mark_54 : pd_go mR_mark 54 58 := ⟨4, by decide +kernel, by decide⟩
theorem eR_mark_57 : pd_jc mR_mark 57 0 58 := Or.inl ⟨0, ⟨by decide +kernel, rfl⟩, by decide⟩
theorem eR_mark_58 : pd_i mR_mark 58 (.ladd) 1 59 := ⟨by decide +kernel, rfl⟩
theorem eR_mark_59 : pd_pf mR_mark 59 12 31 .long 62 := ⟨205, ⟨by decide +kernel, rfl⟩, fR_205_12, Or.inl ⟨_, rfl⟩⟩
theorem eR_mark_62 : pd_jl mR_mark 62 4 64 := Or.inr ⟨by decide +kernel, rfl⟩
theorem eR_mark_64 : pd_jc mR_mark 64 (10) 67 := Or.inr ⟨209, ⟨by decide +kernel, rfl⟩, (pd_m 1023 (by decide +kernel) (by decide +kernel))⟩
theorem eR_mark_67 : pd_i mR_mark 67 (.lmul) 1 68 := ⟨by decide +kernel, rfl⟩
theorem eR_mark_68 : pd_js mR_mark 68 4 70 := ⟨by decide, Or.inr ⟨by decide +kernel, rfl⟩⟩
theorem eR_mark_70 : pd_ii mR_mark 70 6 1 73 := ⟨by decide, by decide +kernel, rfl⟩
theorem eR_mark_73 : pd_go mR_mark 73 31 := ⟨-42, by decide +kernel, by decide⟩
theorem eR_mark_76 : pd_al mR_mark 76 0 77 := Or.inl ⟨0, rfl, by decide +kernel, rfl⟩
theorem eR_mark_77 : pd_gf mR_mark 77 12 17 80 := ⟨38, _, ⟨by decide +kernel, rfl⟩, fR_38_12⟩
theorem eR_mark_80 : pd_ic mR_mark 80 2 81 := Or.inl ⟨by decide +kernel, rfl⟩
theorem eR_mark_81 : pd_il mR_mark 81 2 82 := Or.inl ⟨2, rfl, by decide +kernel, rfl⟩
theorem eR_mark_82 : pd_i mR_mark 82 (.iadd) 1 83 := ⟨by decide +kernel, rfl⟩
theorem eR_mark_83 : pd_i mR_mark 83 (.iaload) 1 84 := ⟨by decide +kernel, rfl⟩
theorem eR_mark_84 : pd_is mR_mark 84 6 86 := ⟨by decide, Or.inr ⟨by decide +kernel, rfl⟩⟩
theorem eR_mark_86 : pd_il mR_mark 86 6 88 := Or.inr ⟨by decide +kernel, rfl⟩
theorem eR_mark_88 : pd_il mR_mark 88 3 89 := Or.inl ⟨3, rfl, by decide +kernel, rfl⟩
theorem eR_mark_89 : pd_ic mR_mark 89 1 90 := Or.inl ⟨by decide +kernel, rfl⟩
theorem eR_mark_90 : pd_ks mR_mark 90 mR_has 2 93 := ⟨197, ⟨by decide +kernel, rfl⟩, Or.inl (pd_m 1000 (by decide +kernel) (by decide +kernel)), (pd_m 1001 (by decide +kernel) (by decide +kernel)), kR_has⟩
theorem eR_mark_93 : pd_b1 mR_mark 93 .eq 96 105 := ⟨12, ⟨by decide +kernel, rfl⟩, by decide⟩
theorem eR_mark_96 : pd_al mR_mark 96 0 97 := Or.inl ⟨0, rfl, by decide +kernel, rfl⟩
theorem eR_mark_97 : pd_gf mR_mark 97 12 7 100 := ⟨29, _, ⟨by decide +kernel, rfl⟩, fR_29_12⟩
theorem eR_mark_100 : pd_il mR_mark 100 2 101 := Or.inl ⟨2, rfl, by decide +kernel, rfl⟩
theorem eR_mark_101 : pd_i mR_mark 101 (.iaload) 1 102 := ⟨by decide +kernel, rfl⟩
theorem eR_mark_102 : pd_go mR_mark 102 106 := ⟨4, by decide +kernel, by decide⟩
theorem eR_mark_105 : pd_ic mR_mark 105 0 106 := Or.inl ⟨by decide +kernel, rfl⟩
theorem eR_mark_106 : pd_i mR_mark 106 (.iadd) 1 107 := ⟨by decide +kernel, rfl⟩
theorem eR_mark_107 : pd_is mR_mark 107 6 109 := ⟨by decide, Or.inr ⟨by decide +kernel, rfl⟩⟩
theorem eR_mark_109 : pd_il mR_mark 109 6 111 := Or.inr ⟨by decide +kernel, rfl⟩
theorem eR_mark_111 : pd_il mR_mark 111 3 112 := Or.inl ⟨3, rfl, by decide +kernel, rfl⟩
theorem eR_mark_112 : pd_ic mR_mark 112 2 113 := Or.inl ⟨by decide +kernel, rfl⟩
theorem eR_mark_113 : pd_ks mR_mark 113 mR_has 2 116 := ⟨197, ⟨by decide +kernel, rfl⟩, Or.inl (pd_m 1000 (by decide +kernel) (by decide +kernel)), (pd_m 1001 (by decide +kernel) (by decide +kernel)), kR_has⟩
theorem eR_mark_116 : pd_b1 mR_mark 116 .eq 119 131 := ⟨15, ⟨by decide +kernel, rfl⟩, by decide⟩
theorem eR_mark_119 : pd_al mR_mark 119 0 120 := Or.inl ⟨0, rfl, by decide +kernel, rfl⟩
theorem eR_mark_120 : pd_gf mR_mark 120 12 17 123 := ⟨38, _, ⟨by decide +kernel, rfl⟩, fR_38_12⟩
theorem eR_mark_123 : pd_ic mR_mark 123 6 125 := Or.inr (Or.inl ⟨⟨by decide +kernel, rfl⟩, by decide⟩)
theorem eR_mark_125 : pd_il mR_mark 125 2 126 := Or.inl ⟨2, rfl, by decide +kernel, rfl⟩
theorem eR_mark_126 : pd_i mR_mark 126 (.iadd) 1 127 := ⟨by decide +kernel, rfl⟩
theorem eR_mark_127 : pd_i mR_mark 127 (.iaload) 1 128 := ⟨by decide +kernel, rfl⟩
theorem eR_mark_128 : pd_go mR_mark 128 132 := ⟨4, by decide +kernel, by decide⟩
theorem eR_mark_131 : pd_ic mR_mark 131 0 132 := Or.inl ⟨by decide +kernel, rfl⟩
theorem eR_mark_132 : pd_i mR_mark 132 (.isub) 1 133 := ⟨by decide +kernel, rfl⟩
theorem eR_mark_133 : pd_is mR_mark 133 6 135 := ⟨by decide, Or.inr ⟨by decide +kernel, rfl⟩⟩
theorem eR_mark_135 : pd_il mR_mark 135 3 136 := Or.inl ⟨3, rfl, by decide +kernel, rfl⟩
theorem eR_mark_136 : pd_ic mR_mark 136 3 137 := Or.inl ⟨by decide +kernel, rfl⟩
theorem eR_mark_137 : pd_ks mR_mark 137 mR_has 2 140 := ⟨197, ⟨by decide +kernel, rfl⟩, Or.inl (pd_m 1000 (by decide +kernel) (by decide +kernel)), (pd_m 1001 (by decide +kernel) (by decide +kernel)), kR_has⟩
theorem eR_mark_140 : pd_b1 mR_mark 140 .eq 143 150 := ⟨10, ⟨by decide +kernel, rfl⟩, by decide⟩
theorem eR_mark_143 : pd_ic mR_mark 143 2 144 := Or.inl ⟨by decide +kernel, rfl⟩
theorem eR_mark_144 : pd_il mR_mark 144 6 146 := Or.inr ⟨by decide +kernel, rfl⟩
theorem eR_mark_146 : pd_i mR_mark 146 (.imul) 1 147 := ⟨by decide +kernel, rfl⟩
theorem eR_mark_147 : pd_go mR_mark 147 152 := ⟨5, by decide +kernel, by decide⟩
theorem eR_mark_150 : pd_il mR_mark 150 6 152 := Or.inr ⟨by decide +kernel, rfl⟩
theorem eR_mark_152 : pd_is mR_mark 152 6 154 := ⟨by decide, Or.inr ⟨by decide +kernel, rfl⟩⟩
theorem eR_mark_154 : pd_il mR_mark 154 6 156 := Or.inr ⟨by decide +kernel, rfl⟩
theorem eR_mark_156 : pd_il mR_mark 156 3 157 := Or.inl ⟨3, rfl, by decide +kernel, rfl⟩
theorem eR_mark_157 : pd_ic mR_mark 157 4 158 := Or.inl ⟨by decide +kernel, rfl⟩
theorem eR_mark_158 : pd_ks mR_mark 158 mR_has 2 161 := ⟨197, ⟨by decide +kernel, rfl⟩, Or.inl (pd_m 1000 (by decide +kernel) (by decide +kernel)), (pd_m 1001 (by decide +kernel) (by decide +kernel)), kR_has⟩
theorem eR_mark_161 : pd_b1 mR_mark 161 .eq 164 168 := ⟨7, ⟨by decide +kernel, rfl⟩, by decide⟩
theorem eR_mark_164 : pd_il mR_mark 164 2 165 := Or.inl ⟨2, rfl, by decide +kernel, rfl⟩
theorem eR_mark_165 : pd_go mR_mark 165 169 := ⟨4, by decide +kernel, by decide⟩
theorem eR_mark_168 : pd_ic mR_mark 168 0 169 := Or.inl ⟨by decide +kernel, rfl⟩
theorem eR_mark_169 : pd_i mR_mark 169 (.iadd) 1 170 := ⟨by decide +kernel, rfl⟩
theorem eR_mark_170 : pd_is mR_mark 170 6 172 := ⟨by decide, Or.inr ⟨by decide +kernel, rfl⟩⟩
theorem eR_mark_172 : pd_il mR_mark 172 6 174 := Or.inr ⟨by decide +kernel, rfl⟩
theorem eR_mark_174 : pd_il mR_mark 174 3 175 := Or.inl ⟨3, rfl, by decide +kernel, rfl⟩
theorem eR_mark_175 : pd_ic mR_mark 175 5 176 := Or.inl ⟨by decide +kernel, rfl⟩
theorem eR_mark_176 : pd_ks mR_mark 176 mR_has 2 179 := ⟨197, ⟨by decide +kernel, rfl⟩, Or.inl (pd_m 1000 (by decide +kernel) (by decide +kernel)), (pd_m 1001 (by decide +kernel) (by decide +kernel)), kR_has⟩
theorem eR_mark_179 : pd_b1 mR_mark 179 .eq 182 191 := ⟨12, ⟨by decide +kernel, rfl⟩, by decide⟩
theorem eR_mark_182 : pd_al mR_mark 182 0 183 := Or.inl ⟨0, rfl, by decide +kernel, rfl⟩
theorem eR_mark_183 : pd_gf mR_mark 183 12 17 186 := ⟨38, _, ⟨by decide +kernel, rfl⟩, fR_38_12⟩
theorem eR_mark_186 : pd_ic mR_mark 186 0 187 := Or.inl ⟨by decide +kernel, rfl⟩
theorem eR_mark_187 : pd_i mR_mark 187 (.iaload) 1 188 := ⟨by decide +kernel, rfl⟩
theorem eR_mark_188 : pd_go mR_mark 188 192 := ⟨4, by decide +kernel, by decide⟩
theorem eR_mark_191 : pd_ic mR_mark 191 0 192 := Or.inl ⟨by decide +kernel, rfl⟩
theorem eR_mark_192 : pd_i mR_mark 192 (.iadd) 1 193 := ⟨by decide +kernel, rfl⟩
theorem eR_mark_193 : pd_is mR_mark 193 6 195 := ⟨by decide, Or.inr ⟨by decide +kernel, rfl⟩⟩
theorem eR_mark_195 : pd_il mR_mark 195 6 197 := Or.inr ⟨by decide +kernel, rfl⟩
theorem eR_mark_197 {z : Int} : pd_rd mR_mark 197 (some (vi z)) := (by decide +kernel : decode mR_mark.2.1 197 = .ok (.ireturn, 1))
theorem eR_trace_0 : pd_al mR_trace 0 0 1 := Or.inl ⟨0, rfl, by decide +kernel, rfl⟩
theorem eR_trace_1 : pd_gf mR_trace 1 12 31 4 := ⟨205, _, ⟨by decide +kernel, rfl⟩, fR_205_12⟩
theorem eR_trace_4 {z : Int} : pd_rd mR_trace 4 (some (vl z)) := (by decide +kernel : decode mR_trace.2.1 4 = .ok (.lreturn, 1))
theorem eR_keep_0 : pd_il mR_keep 0 1 1 := Or.inl ⟨1, rfl, by decide +kernel, rfl⟩
theorem eR_keep_1 : pd_ic mR_keep 1 0 2 := Or.inl ⟨by decide +kernel, rfl⟩
theorem eR_keep_2 : pd_ic mR_keep 2 1 3 := Or.inl ⟨by decide +kernel, rfl⟩
theorem eR_keep_3 : pd_ks mR_keep 3 mR_in 3 6 := ⟨75, ⟨by decide +kernel, rfl⟩, Or.inl (pd_m 827 (by decide +kernel) (by decide +kernel)), (pd_m 828 (by decide +kernel) (by decide +kernel)), kR_in⟩
theorem eR_keep_6 : pd_b1 mR_keep 6 .ne 9 11 := ⟨5, ⟨by decide +kernel, rfl⟩, by decide⟩
theorem eR_keep_9 : pd_ic mR_keep 9 (-1) 10 := Or.inl ⟨by decide +kernel, rfl⟩
theorem eR_keep_10 {z : Int} : pd_rd mR_keep 10 (some (vi z)) := (by decide +kernel : decode mR_keep.2.1 10 = .ok (.ireturn, 1))
theorem eR_keep_11 : pd_ic mR_keep 11 0 12 := Or.inl ⟨by decide +kernel, rfl⟩
theorem eR_keep_12 : pd_is mR_keep 12 2 13 := ⟨by decide, Or.inl ⟨2, rfl, by decide +kernel, rfl⟩⟩
theorem eR_keep_13 : pd_il mR_keep 13 2 14 := Or.inl ⟨2, rfl, by decide +kernel, rfl⟩
theorem eR_keep_14 : pd_ic mR_keep 14 90 16 := Or.inr (Or.inl ⟨⟨by decide +kernel, rfl⟩, by decide⟩)
theorem eR_keep_16 : pd_b2 mR_keep 16 .ge 19 42 := ⟨26, ⟨by decide +kernel, rfl⟩, by decide⟩
theorem eR_keep_19 : pd_al mR_keep 19 0 20 := Or.inl ⟨0, rfl, by decide +kernel, rfl⟩
theorem eR_keep_20 : pd_gf mR_keep 20 12 20 23 := ⟨47, _, ⟨by decide +kernel, rfl⟩, fR_47_12⟩
theorem eR_keep_23 : pd_ic mR_keep 23 90 25 := Or.inr (Or.inl ⟨⟨by decide +kernel, rfl⟩, by decide⟩)
theorem eR_keep_25 : pd_il mR_keep 25 1 26 := Or.inl ⟨1, rfl, by decide +kernel, rfl⟩
theorem eR_keep_26 : pd_i mR_keep 26 (.imul) 1 27 := ⟨by decide +kernel, rfl⟩
theorem eR_keep_27 : pd_il mR_keep 27 2 28 := Or.inl ⟨2, rfl, by decide +kernel, rfl⟩
theorem eR_keep_28 : pd_i mR_keep 28 (.iadd) 1 29 := ⟨by decide +kernel, rfl⟩
theorem eR_keep_29 : pd_al mR_keep 29 0 30 := Or.inl ⟨0, rfl, by decide +kernel, rfl⟩
theorem eR_keep_30 : pd_gf mR_keep 30 12 17 33 := ⟨38, _, ⟨by decide +kernel, rfl⟩, fR_38_12⟩
theorem eR_keep_33 : pd_il mR_keep 33 2 34 := Or.inl ⟨2, rfl, by decide +kernel, rfl⟩
theorem eR_keep_34 : pd_i mR_keep 34 (.iaload) 1 35 := ⟨by decide +kernel, rfl⟩
theorem eR_keep_35 : pd_i mR_keep 35 (.iastore) 1 36 := ⟨by decide +kernel, rfl⟩
theorem eR_keep_36 : pd_ii mR_keep 36 2 1 39 := ⟨by decide, by decide +kernel, rfl⟩
theorem eR_keep_39 : pd_go mR_keep 39 13 := ⟨-26, by decide +kernel, by decide⟩
theorem eR_keep_42 : pd_ic mR_keep 42 0 43 := Or.inl ⟨by decide +kernel, rfl⟩
theorem eR_keep_43 : pd_is mR_keep 43 2 44 := ⟨by decide, Or.inl ⟨2, rfl, by decide +kernel, rfl⟩⟩
theorem eR_keep_44 : pd_il mR_keep 44 2 45 := Or.inl ⟨2, rfl, by decide +kernel, rfl⟩
theorem eR_keep_45 : pd_ic mR_keep 45 900 48 := Or.inr (Or.inr (Or.inl ⟨⟨by decide +kernel, rfl⟩, by decide⟩))
theorem eR_keep_48 : pd_b2 mR_keep 48 .ge 51 77 := ⟨29, ⟨by decide +kernel, rfl⟩, by decide⟩
theorem eR_keep_51 : pd_al mR_keep 51 0 52 := Or.inl ⟨0, rfl, by decide +kernel, rfl⟩
theorem eR_keep_52 : pd_gf mR_keep 52 12 19 55 := ⟨44, _, ⟨by decide +kernel, rfl⟩, fR_44_12⟩
theorem eR_keep_55 : pd_ic mR_keep 55 900 58 := Or.inr (Or.inr (Or.inl ⟨⟨by decide +kernel, rfl⟩, by decide⟩))
theorem eR_keep_58 : pd_ic mR_keep 58 1 59 := Or.inl ⟨by decide +kernel, rfl⟩
theorem eR_keep_59 : pd_il mR_keep 59 1 60 := Or.inl ⟨1, rfl, by decide +kernel, rfl⟩
theorem eR_keep_60 : pd_i mR_keep 60 (.iadd) 1 61 := ⟨by decide +kernel, rfl⟩
theorem eR_keep_61 : pd_i mR_keep 61 (.imul) 1 62 := ⟨by decide +kernel, rfl⟩
theorem eR_keep_62 : pd_il mR_keep 62 2 63 := Or.inl ⟨2, rfl, by decide +kernel, rfl⟩
theorem eR_keep_63 : pd_i mR_keep 63 (.iadd) 1 64 := ⟨by decide +kernel, rfl⟩
theorem eR_keep_64 : pd_al mR_keep 64 0 65 := Or.inl ⟨0, rfl, by decide +kernel, rfl⟩
theorem eR_keep_65 : pd_gf mR_keep 65 12 19 68 := ⟨44, _, ⟨by decide +kernel, rfl⟩, fR_44_12⟩
theorem eR_keep_68 : pd_il mR_keep 68 2 69 := Or.inl ⟨2, rfl, by decide +kernel, rfl⟩
theorem eR_keep_69 : pd_i mR_keep 69 (.iaload) 1 70 := ⟨by decide +kernel, rfl⟩
theorem eR_keep_70 : pd_i mR_keep 70 (.iastore) 1 71 := ⟨by decide +kernel, rfl⟩
theorem eR_keep_71 : pd_ii mR_keep 71 2 1 74 := ⟨by decide, by decide +kernel, rfl⟩
theorem eR_keep_74 : pd_go mR_keep 74 44 := ⟨-30, by decide +kernel, by decide⟩
theorem eR_keep_77 : pd_al mR_keep 77 0 78 := Or.inl ⟨0, rfl, by decide +kernel, rfl⟩
theorem eR_keep_78 : pd_gf mR_keep 78 12 18 81 := ⟨41, _, ⟨by decide +kernel, rfl⟩, fR_41_12⟩
theorem eR_keep_81 : pd_ic mR_keep 81 1 82 := Or.inl ⟨by decide +kernel, rfl⟩
theorem eR_keep_82 : pd_il mR_keep 82 1 83 := Or.inl ⟨1, rfl, by decide +kernel, rfl⟩
theorem eR_keep_83 : pd_i mR_keep 83 (.iadd) 1 84 := ⟨by decide +kernel, rfl⟩
theorem eR_keep_84 : pd_al mR_keep 84 0 85 := Or.inl ⟨0, rfl, by decide +kernel, rfl⟩
theorem eR_keep_85 : pd_gf mR_keep 85 12 18 88 := ⟨41, _, ⟨by decide +kernel, rfl⟩, fR_41_12⟩
theorem eR_keep_88 : pd_ic mR_keep 88 0 89 := Or.inl ⟨by decide +kernel, rfl⟩
theorem eR_keep_89 : pd_i mR_keep 89 (.iaload) 1 90 := ⟨by decide +kernel, rfl⟩
theorem eR_keep_90 : pd_i mR_keep 90 (.iastore) 1 91 := ⟨by decide +kernel, rfl⟩
theorem eR_keep_91 : pd_al mR_keep 91 0 92 := Or.inl ⟨0, rfl, by decide +kernel, rfl⟩
theorem eR_keep_92 : pd_gf mR_keep 92 12 21 95 := ⟨50, _, ⟨by decide +kernel, rfl⟩, fR_50_12⟩
theorem eR_keep_95 : pd_il mR_keep 95 1 96 := Or.inl ⟨1, rfl, by decide +kernel, rfl⟩
theorem eR_keep_96 : pd_ic mR_keep 96 1 97 := Or.inl ⟨by decide +kernel, rfl⟩
theorem eR_keep_97 : pd_i mR_keep 97 (.bastore) 1 98 := ⟨by decide +kernel, rfl⟩
theorem eR_keep_98 : pd_al mR_keep 98 0 99 := Or.inl ⟨0, rfl, by decide +kernel, rfl⟩
theorem eR_keep_99 : pd_gf mR_keep 99 12 17 102 := ⟨38, _, ⟨by decide +kernel, rfl⟩, fR_38_12⟩
theorem eR_keep_102 : pd_ic mR_keep 102 0 103 := Or.inl ⟨by decide +kernel, rfl⟩
theorem eR_keep_103 : pd_i mR_keep 103 (.iaload) 1 104 := ⟨by decide +kernel, rfl⟩
theorem eR_keep_104 {z : Int} : pd_rd mR_keep 104 (some (vi z)) := (by decide +kernel : decode mR_keep.2.1 104 = .ok (.ireturn, 1))
theorem eR_back_0 : pd_il mR_back 0 1 1 := Or.inl ⟨1, rfl, by decide +kernel, rfl⟩
theorem eR_back_1 : pd_ic mR_back 1 0 2 := Or.inl ⟨by decide +kernel, rfl⟩
theorem eR_back_2 : pd_ic mR_back 2 1 3 := Or.inl ⟨by decide +kernel, rfl⟩
theorem eR_back_3 : pd_ks mR_back 3 mR_in 3 6 := ⟨75, ⟨by decide +kernel, rfl⟩, Or.inl (pd_m 827 (by decide +kernel) (by decide +kernel)), (pd_m 828 (by decide +kernel) (by decide +kernel)), kR_in⟩
theorem eR_back_6 : pd_b1 mR_back 6 .ne 9 11 := ⟨5, ⟨by decide +kernel, rfl⟩, by decide⟩
theorem eR_back_9 : pd_ic mR_back 9 (-1) 10 := Or.inl ⟨by decide +kernel, rfl⟩
theorem eR_back_10 {z : Int} : pd_rd mR_back 10 (some (vi z)) := (by decide +kernel : decode mR_back.2.1 10 = .ok (.ireturn, 1))
theorem eR_back_11 : pd_al mR_back 11 0 12 := Or.inl ⟨0, rfl, by decide +kernel, rfl⟩
theorem eR_back_12 : pd_gf mR_back 12 12 21 15 := ⟨50, _, ⟨by decide +kernel, rfl⟩, fR_50_12⟩
theorem eR_back_15 : pd_il mR_back 15 1 16 := Or.inl ⟨1, rfl, by decide +kernel, rfl⟩
theorem eR_back_16 : pd_i mR_back 16 (.baload) 1 17 := ⟨by decide +kernel, rfl⟩
theorem eR_back_17 : pd_b1 mR_back 17 .ne 20 23 := ⟨6, ⟨by decide +kernel, rfl⟩, by decide⟩
theorem eR_back_20 : pd_ic mR_back 20 (-2) 22 := Or.inr (Or.inl ⟨⟨by decide +kernel, rfl⟩, by decide⟩)
theorem eR_back_22 {z : Int} : pd_rd mR_back 22 (some (vi z)) := (by decide +kernel : decode mR_back.2.1 22 = .ok (.ireturn, 1))
theorem eR_back_23 : pd_ic mR_back 23 0 24 := Or.inl ⟨by decide +kernel, rfl⟩
theorem eR_back_24 : pd_is mR_back 24 2 25 := ⟨by decide, Or.inl ⟨2, rfl, by decide +kernel, rfl⟩⟩
theorem eR_back_25 : pd_il mR_back 25 2 26 := Or.inl ⟨2, rfl, by decide +kernel, rfl⟩
theorem eR_back_26 : pd_ic mR_back 26 90 28 := Or.inr (Or.inl ⟨⟨by decide +kernel, rfl⟩, by decide⟩)
theorem eR_back_28 : pd_b2 mR_back 28 .ge 31 54 := ⟨26, ⟨by decide +kernel, rfl⟩, by decide⟩
theorem eR_back_31 : pd_al mR_back 31 0 32 := Or.inl ⟨0, rfl, by decide +kernel, rfl⟩
theorem eR_back_32 : pd_gf mR_back 32 12 17 35 := ⟨38, _, ⟨by decide +kernel, rfl⟩, fR_38_12⟩
theorem eR_back_35 : pd_il mR_back 35 2 36 := Or.inl ⟨2, rfl, by decide +kernel, rfl⟩
theorem eR_back_36 : pd_al mR_back 36 0 37 := Or.inl ⟨0, rfl, by decide +kernel, rfl⟩
theorem eR_back_37 : pd_gf mR_back 37 12 20 40 := ⟨47, _, ⟨by decide +kernel, rfl⟩, fR_47_12⟩
theorem eR_back_40 : pd_ic mR_back 40 90 42 := Or.inr (Or.inl ⟨⟨by decide +kernel, rfl⟩, by decide⟩)
theorem eR_back_42 : pd_il mR_back 42 1 43 := Or.inl ⟨1, rfl, by decide +kernel, rfl⟩
theorem eR_back_43 : pd_i mR_back 43 (.imul) 1 44 := ⟨by decide +kernel, rfl⟩
theorem eR_back_44 : pd_il mR_back 44 2 45 := Or.inl ⟨2, rfl, by decide +kernel, rfl⟩
theorem eR_back_45 : pd_i mR_back 45 (.iadd) 1 46 := ⟨by decide +kernel, rfl⟩
theorem eR_back_46 : pd_i mR_back 46 (.iaload) 1 47 := ⟨by decide +kernel, rfl⟩
theorem eR_back_47 : pd_i mR_back 47 (.iastore) 1 48 := ⟨by decide +kernel, rfl⟩
theorem eR_back_48 : pd_ii mR_back 48 2 1 51 := ⟨by decide, by decide +kernel, rfl⟩
theorem eR_back_51 : pd_go mR_back 51 25 := ⟨-26, by decide +kernel, by decide⟩
theorem eR_back_54 : pd_ic mR_back 54 0 55 := Or.inl ⟨by decide +kernel, rfl⟩
theorem eR_back_55 : pd_is mR_back 55 2 56 := ⟨by decide, Or.inl ⟨2, rfl, by decide +kernel, rfl⟩⟩
theorem eR_back_56 : pd_il mR_back 56 2 57 := Or.inl ⟨2, rfl, by decide +kernel, rfl⟩
theorem eR_back_57 : pd_ic mR_back 57 900 60 := Or.inr (Or.inr (Or.inl ⟨⟨by decide +kernel, rfl⟩, by decide⟩))
theorem eR_back_60 : pd_b2 mR_back 60 .ge 63 89 := ⟨29, ⟨by decide +kernel, rfl⟩, by decide⟩
theorem eR_back_63 : pd_al mR_back 63 0 64 := Or.inl ⟨0, rfl, by decide +kernel, rfl⟩
theorem eR_back_64 : pd_gf mR_back 64 12 19 67 := ⟨44, _, ⟨by decide +kernel, rfl⟩, fR_44_12⟩
theorem eR_back_67 : pd_il mR_back 67 2 68 := Or.inl ⟨2, rfl, by decide +kernel, rfl⟩
theorem eR_back_68 : pd_al mR_back 68 0 69 := Or.inl ⟨0, rfl, by decide +kernel, rfl⟩
theorem eR_back_69 : pd_gf mR_back 69 12 19 72 := ⟨44, _, ⟨by decide +kernel, rfl⟩, fR_44_12⟩
theorem eR_back_72 : pd_ic mR_back 72 900 75 := Or.inr (Or.inr (Or.inl ⟨⟨by decide +kernel, rfl⟩, by decide⟩))
theorem eR_back_75 : pd_ic mR_back 75 1 76 := Or.inl ⟨by decide +kernel, rfl⟩
theorem eR_back_76 : pd_il mR_back 76 1 77 := Or.inl ⟨1, rfl, by decide +kernel, rfl⟩
theorem eR_back_77 : pd_i mR_back 77 (.iadd) 1 78 := ⟨by decide +kernel, rfl⟩
theorem eR_back_78 : pd_i mR_back 78 (.imul) 1 79 := ⟨by decide +kernel, rfl⟩
theorem eR_back_79 : pd_il mR_back 79 2 80 := Or.inl ⟨2, rfl, by decide +kernel, rfl⟩
theorem eR_back_80 : pd_i mR_back 80 (.iadd) 1 81 := ⟨by decide +kernel, rfl⟩
theorem eR_back_81 : pd_i mR_back 81 (.iaload) 1 82 := ⟨by decide +kernel, rfl⟩
theorem eR_back_82 : pd_i mR_back 82 (.iastore) 1 83 := ⟨by decide +kernel, rfl⟩
theorem eR_back_83 : pd_ii mR_back 83 2 1 86 := ⟨by decide, by decide +kernel, rfl⟩
theorem eR_back_86 : pd_go mR_back 86 56 := ⟨-30, by decide +kernel, by decide⟩
theorem eR_back_89 : pd_al mR_back 89 0 90 := Or.inl ⟨0, rfl, by decide +kernel, rfl⟩
theorem eR_back_90 : pd_gf mR_back 90 12 18 93 := ⟨41, _, ⟨by decide +kernel, rfl⟩, fR_41_12⟩
theorem eR_back_93 : pd_ic mR_back 93 0 94 := Or.inl ⟨by decide +kernel, rfl⟩
theorem eR_back_94 : pd_al mR_back 94 0 95 := Or.inl ⟨0, rfl, by decide +kernel, rfl⟩
theorem eR_back_95 : pd_gf mR_back 95 12 18 98 := ⟨41, _, ⟨by decide +kernel, rfl⟩, fR_41_12⟩
theorem eR_back_98 : pd_ic mR_back 98 1 99 := Or.inl ⟨by decide +kernel, rfl⟩
theorem eR_back_99 : pd_il mR_back 99 1 100 := Or.inl ⟨1, rfl, by decide +kernel, rfl⟩
theorem eR_back_100 : pd_i mR_back 100 (.iadd) 1 101 := ⟨by decide +kernel, rfl⟩
theorem eR_back_101 : pd_i mR_back 101 (.iaload) 1 102 := ⟨by decide +kernel, rfl⟩
theorem eR_back_102 : pd_i mR_back 102 (.iastore) 1 103 := ⟨by decide +kernel, rfl⟩
theorem eR_back_103 : pd_al mR_back 103 0 104 := Or.inl ⟨0, rfl, by decide +kernel, rfl⟩
theorem eR_back_104 : pd_gf mR_back 104 12 17 107 := ⟨38, _, ⟨by decide +kernel, rfl⟩, fR_38_12⟩
theorem eR_back_107 : pd_ic mR_back 107 0 108 := Or.inl ⟨by decide +kernel, rfl⟩
theorem eR_back_108 : pd_i mR_back 108 (.iaload) 1 109 := ⟨by decide +kernel, rfl⟩
theorem eR_back_109 {z : Int} : pd_rd mR_back 109 (some (vi z)) := (by decide +kernel : decode mR_back.2.1 109 = .ok (.ireturn, 1))
theorem eR_count_0 : pd_il mR_count 0 1 1 := Or.inl ⟨1, rfl, by decide +kernel, rfl⟩
theorem eR_count_1 : pd_i mR_count 1 (.tableswitch 81 0 6 #[43, 50, 50, 59, 64, 69, 76]) 43 44 := ⟨by decide +kernel, rfl⟩
theorem eR_count_44 : pd_al mR_count 44 0 45 := Or.inl ⟨0, rfl, by decide +kernel, rfl⟩
theorem eR_count_45 : pd_gf mR_count 45 12 3 48 := ⟨17, _, ⟨by decide +kernel, rfl⟩, fR_17_12⟩
theorem eR_count_48 : pd_ic mR_count 48 0 49 := Or.inl ⟨by decide +kernel, rfl⟩
theorem eR_count_49 : pd_i mR_count 49 (.iaload) 1 50 := ⟨by decide +kernel, rfl⟩
theorem eR_count_50 {z : Int} : pd_rd mR_count 50 (some (vi z)) := (by decide +kernel : decode mR_count.2.1 50 = .ok (.ireturn, 1))
theorem eR_count_51 : pd_al mR_count 51 0 52 := Or.inl ⟨0, rfl, by decide +kernel, rfl⟩
theorem eR_count_52 : pd_gf mR_count 52 12 2 55 := ⟨13, _, ⟨by decide +kernel, rfl⟩, fR_13_12⟩
theorem eR_count_55 : pd_il mR_count 55 1 56 := Or.inl ⟨1, rfl, by decide +kernel, rfl⟩
theorem eR_count_56 : pd_ic mR_count 56 1 57 := Or.inl ⟨by decide +kernel, rfl⟩
theorem eR_count_57 : pd_i mR_count 57 (.isub) 1 58 := ⟨by decide +kernel, rfl⟩
theorem eR_count_58 : pd_i mR_count 58 (.iaload) 1 59 := ⟨by decide +kernel, rfl⟩
theorem eR_count_59 {z : Int} : pd_rd mR_count 59 (some (vi z)) := (by decide +kernel : decode mR_count.2.1 59 = .ok (.ireturn, 1))
theorem eR_count_60 : pd_al mR_count 60 0 61 := Or.inl ⟨0, rfl, by decide +kernel, rfl⟩
theorem eR_count_61 : pd_gf mR_count 61 12 26 64 := ⟨138, _, ⟨by decide +kernel, rfl⟩, fR_138_12⟩
theorem eR_count_64 {z : Int} : pd_rd mR_count 64 (some (vi z)) := (by decide +kernel : decode mR_count.2.1 64 = .ok (.ireturn, 1))
theorem eR_count_65 : pd_al mR_count 65 0 66 := Or.inl ⟨0, rfl, by decide +kernel, rfl⟩
theorem eR_count_66 : pd_gf mR_count 66 12 29 69 := ⟨141, _, ⟨by decide +kernel, rfl⟩, fR_141_12⟩
theorem eR_count_69 {z : Int} : pd_rd mR_count 69 (some (vi z)) := (by decide +kernel : decode mR_count.2.1 69 = .ok (.ireturn, 1))
theorem eR_count_70 : pd_al mR_count 70 0 71 := Or.inl ⟨0, rfl, by decide +kernel, rfl⟩
theorem eR_count_71 : pd_gf mR_count 71 12 18 74 := ⟨41, _, ⟨by decide +kernel, rfl⟩, fR_41_12⟩
theorem eR_count_74 : pd_ic mR_count 74 0 75 := Or.inl ⟨by decide +kernel, rfl⟩
theorem eR_count_75 : pd_i mR_count 75 (.iaload) 1 76 := ⟨by decide +kernel, rfl⟩
theorem eR_count_76 {z : Int} : pd_rd mR_count 76 (some (vi z)) := (by decide +kernel : decode mR_count.2.1 76 = .ok (.ireturn, 1))
theorem eR_count_77 : pd_al mR_count 77 0 78 := Or.inl ⟨0, rfl, by decide +kernel, rfl⟩
theorem eR_count_78 : pd_gf mR_count 78 12 1 81 := ⟨79, _, ⟨by decide +kernel, rfl⟩, fR_79_12⟩
theorem eR_count_81 {z : Int} : pd_rd mR_count 81 (some (vi z)) := (by decide +kernel : decode mR_count.2.1 81 = .ok (.ireturn, 1))
theorem eR_count_82 : pd_ic mR_count 82 (-1) 83 := Or.inl ⟨by decide +kernel, rfl⟩
theorem eR_count_83 {z : Int} : pd_rd mR_count 83 (some (vi z)) := (by decide +kernel : decode mR_count.2.1 83 = .ok (.ireturn, 1))
end
section
theorem pt_gen {G : pd_G} {M : pd_M} {d mc ms : Nat} {X : Option (Nat × (Nat → Int))} {R : pd_R} {pc : Nat} {lv : List (Option pv)} {st : List pv} {sz ce sl : Nat} {hp0 : pd_P} (k : ∀ hp : pd_P, hp = hp0 → pd_T G M d mc ms X R pc lv st sz ce sl hp) : pd_T G M d mc ms X R pc lv st sz ce sl hp0 := k hp0 rfl
theorem pg_s {hp1 hp : pd_P} {a : Nat} {e : pd_E} (h : hp1 = va_up hp a e) : hp1 a = e := by rw [h]; exact va_up_self _ _ _
theorem pg_n {hp1 hp : pd_P} {a b : Nat} {e e1 : pd_E} (h : hp1 = va_up hp a e) (hne : a ≠ b) (hb : hp b = e1) : hp1 b = e1 := by rw [h, va_up_ne _ _ (Ne.symm hne)]; exact hb
abbrev pd_c (G : pd_G) (M : pd_M) (d : Nat) (av : List pv) (sz : Nat) (hp : pd_P) (R : pd_R) : Prop := pd_C G M d 0 0 av sz hp R
abbrev pd_t (G : pd_G) (M : pd_M) (d : Nat) (R : pd_R) (pc : Nat) (lv : List (Option pv)) (st : List pv) (sz : Nat) (hp : pd_P) : Prop := pd_T G M d 0 0 none R pc lv st sz 0 0 hp
def pwi (n lo hi : Int) : Int := if lo ≤ n ∧ n ≤ hi then 1 else 0
theorem pwi_01 (n lo hi : Int) : pwi n lo hi = 0 ∨ pwi n lo hi = 1 := by unfold pwi; split <;> simp
/-- cells: a House, a State, the reference -/
abbrev HO (h : Nat) (gd ev bk : Int) : pd_E := ob 4 [vr (h + 1), vr (h + 2), vr (h + 3), vr (h + 4), vr (h + 5), vr (h + 6), vr (h + 7), vi gd, vi ev, vi bk]
abbrev SO (a : Nat) (dy he : Int) : pd_E := ob 8 [vr (a + 1), vr (a + 2), vr (a + 3), vi dy, vi he]
abbrev RO (v : Nat → Int) : pd_E := ob 12 [vr 179, vi (v 1), vr 180, vr 181, vr 182, vr 183, vr 184, vr 185, vr 186, vr 187, vi (v 10), vi (v 11), vi (v 12), vi (v 13), vi (v 14), vi (v 15), vi (v 16), vr 188, vr 189, vr 190, vr 191, vr 192, vr 193, vr 194, vr 195, vr 196, vi (v 26), vr 197, vr 198, vi (v 29), vr 199, vl (v 31)]
/-- on which day the door gives; -9 -/
def lawf (d ev bk : Int) : Int := if d < 20 ∧ d % ev = 0 ∧ bk ≤ d then d - bk else -9
def opf (ev bk : Int) (σ : Int → Int) : Int := if σ 1 = 1 then -9 else lawf (σ 0) ev bk
/-- what is left of a good, before it is cut at 0: brought, missed, used -/
def rsf (t b m u : Int) : Int := max 0 (min (t + b) 999 - m) - u
def opnf (ev bk : Int) (ms σ : Int → Int) (d g : Int) : Int := if σ 1 = 1 then 0 else if lawf d ev bk = -9 then 0 else ms (4 * lawf d ev bk + g) - σ (10 + 4 * lawf d ev bk + g)
def canf (ev bk : Int) (ms σ : Int → Int) (g : Int) : Int := opnf ev bk ms σ (σ 0) g
theorem canf_eq (ev bk : Int) (ms σ : Int → Int) (g : Int) : canf ev bk ms σ g = if opf ev bk σ = -9 then 0 else ms (4 * opf ev bk σ + g) - σ (10 + 4 * opf ev bk σ + g) := by
  unfold canf opnf opf
  split
  · rw [if_pos rfl]
  · rfl
section PDINC
variable {G : pd_G} {M : pd_M} {d mc ms : Nat} {X : Option (Nat × (Nat → Int))} {R : pd_R} {pc n t : Nat} {lv : List (Option pv)} {st : List pv} {sz ce sl : Nat} {hp : pd_P}
theorem pt_inc0 {r : List (Option pv)} {z c0 : Int} (h : pd_ii M pc 0 c0 n) (ho : pd_o1 (some (vi z) :: r) 0 = true) (k : pd_T G M d mc ms X R n (some (vi (z + c0)) :: r) st sz ce sl hp) : pd_T G M d mc ms X R pc (some (vi z) :: r) st sz ce sl hp := pt_iinc h ho rfl k
theorem pt_inc1 {a0 : Option pv} {r : List (Option pv)} {z c0 : Int} (h : pd_ii M pc 1 c0 n) (ho : pd_o1 (a0 :: some (vi z) :: r) 1 = true) (k : pd_T G M d mc ms X R n (a0 :: some (vi (z + c0)) :: r) st sz ce sl hp) : pd_T G M d mc ms X R pc (a0 :: some (vi z) :: r) st sz ce sl hp := pt_iinc h ho rfl k
theorem pt_inc2 {a0 a1 : Option pv} {r : List (Option pv)} {z c0 : Int} (h : pd_ii M pc 2 c0 n) (ho : pd_o1 (a0 :: a1 :: some (vi z) :: r) 2 = true) (k : pd_T G M d mc ms X R n (a0 :: a1 :: some (vi (z + c0)) :: r) st sz ce sl hp) : pd_T G M d mc ms X R pc (a0 :: a1 :: some (vi z) :: r) st sz ce sl hp := pt_iinc h ho rfl k
theorem pt_inc3 {a0 a1 a2 : Option pv} {r : List (Option pv)} {z c0 : Int} (h : pd_ii M pc 3 c0 n) (ho : pd_o1 (a0 :: a1 :: a2 :: some (vi z) :: r) 3 = true) (k : pd_T G M d mc ms X R n (a0 :: a1 :: a2 :: some (vi (z + c0)) :: r) st sz ce sl hp) : pd_T G M d mc ms X R pc (a0 :: a1 :: a2 :: some (vi z) :: r) st sz ce sl hp := pt_iinc h ho rfl k
theorem pt_inc4 {a0 a1 a2 a3 : Option pv} {r : List (Option pv)} {z c0 : Int} (h : pd_ii M pc 4 c0 n) (ho : pd_o1 (a0 :: a1 :: a2 :: a3 :: some (vi z) :: r) 4 = true) (k : pd_T G M d mc ms X R n (a0 :: a1 :: a2 :: a3 :: some (vi (z + c0)) :: r) st sz ce sl hp) : pd_T G M d mc ms X R pc (a0 :: a1 :: a2 :: a3 :: some (vi z) :: r) st sz ce sl hp := pt_iinc h ho rfl k
theorem pt_inc5 {a0 a1 a2 a3 a4 : Option pv} {r : List (Option pv)} {z c0 : Int} (h : pd_ii M pc 5 c0 n) (ho : pd_o1 (a0 :: a1 :: a2 :: a3 :: a4 :: some (vi z) :: r) 5 = true) (k : pd_T G M d mc ms X R n (a0 :: a1 :: a2 :: a3 :: a4 :: some (vi (z + c0)) :: r) st sz ce sl hp) : pd_T G M d mc ms X R pc (a0 :: a1 :: a2 :: a3 :: a4 :: some (vi z) :: r) st sz ce sl hp := pt_iinc h ho rfl k
theorem pt_inc6 {a0 a1 a2 a3 a4 a5 : Option pv} {r : List (Option pv)} {z c0 : Int} (h : pd_ii M pc 6 c0 n) (ho : pd_o1 (a0 :: a1 :: a2 :: a3 :: a4 :: a5 :: some (vi z) :: r) 6 = true) (k : pd_T G M d mc ms X R n (a0 :: a1 :: a2 :: a3 :: a4 :: a5 :: some (vi (z + c0)) :: r) st sz ce sl hp) : pd_T G M d mc ms X R pc (a0 :: a1 :: a2 :: a3 :: a4 :: a5 :: some (vi z) :: r) st sz ce sl hp := pt_iinc h ho rfl k
theorem pt_inc7 {a0 a1 a2 a3 a4 a5 a6 : Option pv} {r : List (Option pv)} {z c0 : Int} (h : pd_ii M pc 7 c0 n) (ho : pd_o1 (a0 :: a1 :: a2 :: a3 :: a4 :: a5 :: a6 :: some (vi z) :: r) 7 = true) (k : pd_T G M d mc ms X R n (a0 :: a1 :: a2 :: a3 :: a4 :: a5 :: a6 :: some (vi (z + c0)) :: r) st sz ce sl hp) : pd_T G M d mc ms X R pc (a0 :: a1 :: a2 :: a3 :: a4 :: a5 :: a6 :: some (vi z) :: r) st sz ce sl hp := pt_iinc h ho rfl k
theorem pt_inc8 {a0 a1 a2 a3 a4 a5 a6 a7 : Option pv} {r : List (Option pv)} {z c0 : Int} (h : pd_ii M pc 8 c0 n) (ho : pd_o1 (a0 :: a1 :: a2 :: a3 :: a4 :: a5 :: a6 :: a7 :: some (vi z) :: r) 8 = true) (k : pd_T G M d mc ms X R n (a0 :: a1 :: a2 :: a3 :: a4 :: a5 :: a6 :: a7 :: some (vi (z + c0)) :: r) st sz ce sl hp) : pd_T G M d mc ms X R pc (a0 :: a1 :: a2 :: a3 :: a4 :: a5 :: a6 :: a7 :: some (vi z) :: r) st sz ce sl hp := pt_iinc h ho rfl k
theorem pt_inc9 {a0 a1 a2 a3 a4 a5 a6 a7 a8 : Option pv} {r : List (Option pv)} {z c0 : Int} (h : pd_ii M pc 9 c0 n) (ho : pd_o1 (a0 :: a1 :: a2 :: a3 :: a4 :: a5 :: a6 :: a7 :: a8 :: some (vi z) :: r) 9 = true) (k : pd_T G M d mc ms X R n (a0 :: a1 :: a2 :: a3 :: a4 :: a5 :: a6 :: a7 :: a8 :: some (vi (z + c0)) :: r) st sz ce sl hp) : pd_T G M d mc ms X R pc (a0 :: a1 :: a2 :: a3 :: a4 :: a5 :: a6 :: a7 :: a8 :: some (vi z) :: r) st sz ce sl hp := pt_iinc h ho rfl k
theorem pt_inc10 {a0 a1 a2 a3 a4 a5 a6 a7 a8 a9 : Option pv} {r : List (Option pv)} {z c0 : Int} (h : pd_ii M pc 10 c0 n) (ho : pd_o1 (a0 :: a1 :: a2 :: a3 :: a4 :: a5 :: a6 :: a7 :: a8 :: a9 :: some (vi z) :: r) 10 = true) (k : pd_T G M d mc ms X R n (a0 :: a1 :: a2 :: a3 :: a4 :: a5 :: a6 :: a7 :: a8 :: a9 :: some (vi (z + c0)) :: r) st sz ce sl hp) : pd_T G M d mc ms X R pc (a0 :: a1 :: a2 :: a3 :: a4 :: a5 :: a6 :: a7 :: a8 :: a9 :: some (vi z) :: r) st sz ce sl hp := pt_iinc h ho rfl k
theorem pt_inc11 {a0 a1 a2 a3 a4 a5 a6 a7 a8 a9 a10 : Option pv} {r : List (Option pv)} {z c0 : Int} (h : pd_ii M pc 11 c0 n) (ho : pd_o1 (a0 :: a1 :: a2 :: a3 :: a4 :: a5 :: a6 :: a7 :: a8 :: a9 :: a10 :: some (vi z) :: r) 11 = true) (k : pd_T G M d mc ms X R n (a0 :: a1 :: a2 :: a3 :: a4 :: a5 :: a6 :: a7 :: a8 :: a9 :: a10 :: some (vi (z + c0)) :: r) st sz ce sl hp) : pd_T G M d mc ms X R pc (a0 :: a1 :: a2 :: a3 :: a4 :: a5 :: a6 :: a7 :: a8 :: a9 :: a10 :: some (vi z) :: r) st sz ce sl hp := pt_iinc h ho rfl k
theorem pt_inc12 {a0 a1 a2 a3 a4 a5 a6 a7 a8 a9 a10 a11 : Option pv} {r : List (Option pv)} {z c0 : Int} (h : pd_ii M pc 12 c0 n) (ho : pd_o1 (a0 :: a1 :: a2 :: a3 :: a4 :: a5 :: a6 :: a7 :: a8 :: a9 :: a10 :: a11 :: some (vi z) :: r) 12 = true) (k : pd_T G M d mc ms X R n (a0 :: a1 :: a2 :: a3 :: a4 :: a5 :: a6 :: a7 :: a8 :: a9 :: a10 :: a11 :: some (vi (z + c0)) :: r) st sz ce sl hp) : pd_T G M d mc ms X R pc (a0 :: a1 :: a2 :: a3 :: a4 :: a5 :: a6 :: a7 :: a8 :: a9 :: a10 :: a11 :: some (vi z) :: r) st sz ce sl hp := pt_iinc h ho rfl k
theorem pt_inc13 {a0 a1 a2 a3 a4 a5 a6 a7 a8 a9 a10 a11 a12 : Option pv} {r : List (Option pv)} {z c0 : Int} (h : pd_ii M pc 13 c0 n) (ho : pd_o1 (a0 :: a1 :: a2 :: a3 :: a4 :: a5 :: a6 :: a7 :: a8 :: a9 :: a10 :: a11 :: a12 :: some (vi z) :: r) 13 = true) (k : pd_T G M d mc ms X R n (a0 :: a1 :: a2 :: a3 :: a4 :: a5 :: a6 :: a7 :: a8 :: a9 :: a10 :: a11 :: a12 :: some (vi (z + c0)) :: r) st sz ce sl hp) : pd_T G M d mc ms X R pc (a0 :: a1 :: a2 :: a3 :: a4 :: a5 :: a6 :: a7 :: a8 :: a9 :: a10 :: a11 :: a12 :: some (vi z) :: r) st sz ce sl hp := pt_iinc h ho rfl k
end PDINC
theorem cD_within (G : pd_G) (sz : Nat) (hp : pd_P) {n lo hi : Int} (h1 : jR n) (h2 : jR lo) (h3 : jR hi) : pd_c G mD_within 0 [vi n, vi lo, vi hi] sz hp (pd_pure (vi (pwi n lo hi)) sz hp) := by
  refine pd_con kD_within [some (vi n), some (vi lo), some (vi hi)] rfl rfl (Nat.le_of_ble_eq_true rfl) ?_
  unfold jR at *
  refine pt_iload eD_within_0 rfl ?_
  refine pt_iload eD_within_1 rfl ?_
  refine pt_clt eD_within_2 ⟨by omega, by omega⟩ ⟨by omega, by omega⟩ (fun c2 => ?_) (fun c2 => ?_)
  · refine pt_ic eD_within_14 ?_
    refine pt_iret (eD_within_15 (by omega)) (Nat.le_refl _) (Nat.le_refl _) ?_
    exact ⟨by unfold pwi; congr 2; first | (exfalso; omega) | (rw [if_pos (by omega)]; done) | (rw [if_neg (by omega)]; done), rfl, rfl⟩
  · refine pt_iload eD_within_5 rfl ?_
    refine pt_iload eD_within_6 rfl ?_
    refine pt_cgt eD_within_7 ⟨by omega, by omega⟩ ⟨by omega, by omega⟩ (fun c7 => ?_) (fun c7 => ?_)
    · refine pt_ic eD_within_14 ?_
      refine pt_iret (eD_within_15 (by omega)) (Nat.le_refl _) (Nat.le_refl _) ?_
      exact ⟨by unfold pwi; congr 2; first | (exfalso; omega) | (rw [if_pos (by omega)]; done) | (rw [if_neg (by omega)]; done), rfl, rfl⟩
    · refine pt_ic eD_within_10 ?_
      refine pt_goto eD_within_11 ?_
      refine pt_iret (eD_within_15 (by omega)) (Nat.le_refl _) (Nat.le_refl _) ?_
      exact ⟨by unfold pwi; congr 2; first | (exfalso; omega) | (rw [if_pos (by omega)]; done) | (rw [if_neg (by omega)]; done), rfl, rfl⟩
theorem cR_in (G : pd_G) (sz : Nat) (hp : pd_P) {n lo hi : Int} (h1 : jR n) (h2 : jR lo) (h3 : jR hi) : pd_c G mR_in 0 [vi n, vi lo, vi hi] sz hp (pd_pure (vi (pwi n lo hi)) sz hp) := by
  refine pd_con kR_in [some (vi n), some (vi lo), some (vi hi)] rfl rfl (Nat.le_of_ble_eq_true rfl) ?_
  unfold jR at *
  refine pt_iload eR_in_0 rfl ?_
  refine pt_iload eR_in_1 rfl ?_
  refine pt_clt eR_in_2 ⟨by omega, by omega⟩ ⟨by omega, by omega⟩ (fun c2 => ?_) (fun c2 => ?_)
  · refine pt_ic eR_in_14 ?_
    refine pt_iret (eR_in_15 (by omega)) (Nat.le_refl _) (Nat.le_refl _) ?_
    exact ⟨by unfold pwi; congr 2; first | (exfalso; omega) | (rw [if_pos (by omega)]; done) | (rw [if_neg (by omega)]; done), rfl, rfl⟩
  · refine pt_iload eR_in_5 rfl ?_
    refine pt_iload eR_in_6 rfl ?_
    refine pt_cgt eR_in_7 ⟨by omega, by omega⟩ ⟨by omega, by omega⟩ (fun c7 => ?_) (fun c7 => ?_)
    · refine pt_ic eR_in_14 ?_
      refine pt_iret (eR_in_15 (by omega)) (Nat.le_refl _) (Nat.le_refl _) ?_
      exact ⟨by unfold pwi; congr 2; first | (exfalso; omega) | (rw [if_pos (by omega)]; done) | (rw [if_neg (by omega)]; done), rfl, rfl⟩
    · refine pt_ic eR_in_10 ?_
      refine pt_goto eR_in_11 ?_
      refine pt_iret (eR_in_15 (by omega)) (Nat.le_refl _) (Nat.le_refl _) ?_
      exact ⟨by unfold pwi; congr 2; first | (exfalso; omega) | (rw [if_pos (by omega)]; done) | (rw [if_neg (by omega)]; done), rfl, rfl⟩
theorem cH_has (G : pd_G) (sz : Nat) (hp : pd_P) {h : Nat} {gd ev bk g : Int} (hH : hp h = HO h gd ev bk) (h1 : jR g) (h2 : 0 ≤ gd) (h3 : gd ≤ 4) : pd_c G mH_has 1 [vr h, vi g] sz hp (pd_pure (vi (pwi g 0 (gd - 1))) sz hp) := by
  refine pd_con kH_has [some (vr h), some (vi g)] rfl rfl (Nat.le_of_ble_eq_true rfl) ?_
  refine pt_iload eH_has_0 rfl ?_
  refine pt_ic eH_has_1 ?_
  refine pt_aload eH_has_2 rfl ?_
  refine pt_get eH_has_3 hH rfl ?_
  refine pt_ic eH_has_6 ?_
  refine pt_isub eH_has_7 ?_
  refine pt_ks3r eH_has_8 (cD_within G sz _ (by unfold jR at *; omega) (by unfold jR at *; omega) (by unfold jR at *; omega)) (Nat.le_of_ble_eq_true rfl) (by decide) (Nat.le_refl _) (Nat.le_refl _) ?_
  refine pt_iret (eH_has_11 (pwi_01 _ _ _)) (Nat.le_refl _) (Nat.le_refl _) ?_
  exact ⟨rfl, rfl, rfl⟩
theorem cR_isGood (G : pd_G) (sz : Nat) (hp : pd_P) {v : Nat → Int} {gf : Int → Int} {g : Int} (hR : hp 178 = RO v) (hg : hp 181 = ia 2 gf) (h1 : jR g) (h2 : 0 ≤ gf 0) (h3 : gf 0 ≤ 4) : pd_c G mR_isGood 1 [vr 178, vi g] sz hp (pd_pure (vi (pwi g 0 (gf 0 - 1))) sz hp) := by
  refine pd_con kR_isGood [some (vr 178), some (vi g)] rfl rfl (Nat.le_of_ble_eq_true rfl) ?_
  have hR := hR
  refine pt_iload eR_isGood_0 rfl ?_
  refine pt_ic eR_isGood_1 ?_
  refine pt_aload eR_isGood_2 rfl ?_
  refine pt_get eR_isGood_3 hR rfl ?_
  refine pt_ic eR_isGood_6 ?_
  refine pt_iald eR_isGood_7 hg (by omega) (by omega) (by decide) ?_
  refine pt_ic eR_isGood_8 ?_
  refine pt_isub eR_isGood_9 ?_
  refine pt_ks3r eR_isGood_10 (cR_in G sz _ (by unfold jR at *; omega) (by unfold jR at *; omega) (by unfold jR at *; omega)) (Nat.le_of_ble_eq_true rfl) (by decide) (Nat.le_refl _) (Nat.le_refl _) ?_
  refine pt_iret (eR_isGood_13 (pwi_01 _ _ _)) (Nat.le_refl _) (Nat.le_refl _) ?_
  exact ⟨rfl, rfl, rfl⟩
theorem cR_isDay (G : pd_G) (sz : Nat) (hp : pd_P) {d : Int} (h1 : jR d) : pd_c G mR_isDay 1 [vi d] sz hp (pd_pure (vi (pwi d 0 19)) sz hp) := by
  refine pd_con kR_isDay [some (vi d)] rfl rfl (Nat.le_of_ble_eq_true rfl) ?_
  refine pt_iload eR_isDay_0 rfl ?_
  refine pt_ic eR_isDay_1 ?_
  refine pt_ic eR_isDay_2 ?_
  refine pt_ks3r eR_isDay_4 (cR_in G sz _ (by unfold jR at *; omega) (by unfold jR at *; omega) (by unfold jR at *; omega)) (Nat.le_of_ble_eq_true rfl) (by decide) (Nat.le_refl _) (Nat.le_refl _) ?_
  refine pt_iret (eR_isDay_7 (pwi_01 _ _ _)) (Nat.le_refl _) (Nat.le_refl _) ?_
  exact ⟨rfl, rfl, rfl⟩
theorem pwi_1 {n lo hi : Int} (h : ¬ pwi n lo hi = 0) : lo ≤ n ∧ n ≤ hi := by
  unfold pwi at h
  split at h
  · assumption
  · exact absurd rfl h
theorem pwi_0 {n lo hi : Int} (h : pwi n lo hi = 0) : ¬ (lo ≤ n ∧ n ≤ hi) := by
  unfold pwi at h
  split at h
  · cases h
  · assumption
theorem pwi_j (n lo hi : Int) : jR (pwi n lo hi) := by
  rcases pwi_01 n lo hi with h | h <;> rw [h] <;> exact ⟨by decide, by decide⟩
theorem cD_leadsBy (G : pd_G) (sz : Nat) (hp : pd_P) {ev bk d : Int} (h1 : 1 ≤ ev) (h2 : ev ≤ 9) (h3 : 1 ≤ bk) (h4 : bk ≤ 9) (h5 : 0 ≤ d) (h6 : d ≤ 20) : pd_c G mD_leadsBy 1 [vi ev, vi bk, vi d] sz hp (pd_pure (vi (lawf d ev bk)) sz hp) := by
  refine pd_con kD_leadsBy [some (vi ev), some (vi bk), some (vi d)] rfl rfl (Nat.le_of_ble_eq_true rfl) ?_
  have hm := Int.emod_nonneg d (by omega : ev ≠ 0)
  have hm2 := Int.emod_lt_of_pos d (by omega : 0 < ev)
  refine pt_iload eD_leadsBy_0 rfl ?_
  refine pt_ic eD_leadsBy_1 ?_
  refine pt_clt eD_leadsBy_2 ⟨by omega, by omega⟩ ⟨by omega, by omega⟩ (fun c2 => ?_) (fun c2 => ?_)
  · try have c12 := pwi_0 c12
    try have c12 := pwi_1 c12
    refine pt_ic eD_leadsBy_21 ?_
    refine pt_iret eD_leadsBy_23 (Nat.le_refl _) (Nat.le_refl _) ?_
    exact ⟨by unfold lawf; congr 2; first | (exfalso; omega) | (rw [if_pos (by omega)]; done) | (rw [if_neg (by omega)]; done), rfl, rfl⟩
  · refine pt_iload eD_leadsBy_5 rfl ?_
    refine pt_iload eD_leadsBy_6 rfl ?_
    refine pt_ic eD_leadsBy_7 ?_
    refine pt_ks3r eD_leadsBy_9 (cD_within G sz _ (by unfold jR at *; omega) (by unfold jR at *; omega) (by unfold jR at *; omega)) (Nat.le_of_ble_eq_true rfl) (by decide) (Nat.le_refl _) (Nat.le_refl _) ?_
    refine pt_zeq eD_leadsBy_12 (pwi_j _ _ _) (fun c12 => ?_) (fun c12 => ?_)
    · try have c12 := pwi_0 c12
      try have c12 := pwi_1 c12
      refine pt_ic eD_leadsBy_21 ?_
      refine pt_iret eD_leadsBy_23 (Nat.le_refl _) (Nat.le_refl _) ?_
      exact ⟨by unfold lawf; congr 2; first | (exfalso; omega) | (rw [if_pos (by omega)]; done) | (rw [if_neg (by omega)]; done), rfl, rfl⟩
    · have c12 := pwi_1 c12
      refine pt_iload eD_leadsBy_15 rfl ?_
      refine pt_iload eD_leadsBy_16 rfl ?_
      refine pt_irem eD_leadsBy_17 (by omega) (by omega) (by omega) (by omega) ?_
      refine pt_zeq eD_leadsBy_18 ⟨by omega, by omega⟩ (fun c18 => ?_) (fun c18 => ?_)
      · refine pt_iload eD_leadsBy_24 rfl ?_
        refine pt_iload eD_leadsBy_25 rfl ?_
        refine pt_isub eD_leadsBy_26 ?_
        refine pt_iret eD_leadsBy_27 (Nat.le_refl _) (Nat.le_refl _) ?_
        exact ⟨by unfold lawf; congr 2; first | (exfalso; omega) | (rw [if_pos (by omega)]; done) | (rw [if_neg (by omega)]; done), rfl, rfl⟩
      · try have c12 := pwi_0 c12
        try have c12 := pwi_1 c12
        refine pt_ic eD_leadsBy_21 ?_
        refine pt_iret eD_leadsBy_23 (Nat.le_refl _) (Nat.le_refl _) ?_
        exact ⟨by unfold lawf; congr 2; first | (exfalso; omega) | (rw [if_pos (by omega)]; done) | (rw [if_neg (by omega)]; done), rfl, rfl⟩
theorem cR_lawOn (G : pd_G) (sz : Nat) (hp : pd_P) {ev bk d : Int} (h1 : 1 ≤ ev) (h2 : ev ≤ 9) (h3 : 1 ≤ bk) (h4 : bk ≤ 9) (h5 : 0 ≤ d) (h6 : d ≤ 20) : pd_c G mR_lawOn 0 [vi d, vi ev, vi bk] sz hp (pd_pure (vi (lawf d ev bk)) sz hp) := by
  refine pd_con kR_lawOn [some (vi d), some (vi ev), some (vi bk)] rfl rfl (Nat.le_of_ble_eq_true rfl) ?_
  have hm := Int.emod_nonneg d (by omega : ev ≠ 0)
  have hm2 := Int.emod_lt_of_pos d (by omega : 0 < ev)
  refine pt_iload eR_lawOn_0 rfl ?_
  refine pt_ic eR_lawOn_1 ?_
  refine pt_cge eR_lawOn_3 ⟨by omega, by omega⟩ ⟨by omega, by omega⟩ (fun c3 => ?_) (fun c3 => ?_)
  · refine pt_ic eR_lawOn_23 ?_
    refine pt_iret eR_lawOn_25 (Nat.le_refl _) (Nat.le_refl _) ?_
    exact ⟨by unfold lawf; congr 2; first | (exfalso; omega) | (rw [if_pos (by omega)]; done) | (rw [if_neg (by omega)]; done), rfl, rfl⟩
  · refine pt_iload eR_lawOn_6 rfl ?_
    refine pt_iload eR_lawOn_7 rfl ?_
    refine pt_irem eR_lawOn_8 (by omega) (by omega) (by omega) (by omega) ?_
    refine pt_zne eR_lawOn_9 ⟨by omega, by omega⟩ (fun c9 => ?_) (fun c9 => ?_)
    · refine pt_ic eR_lawOn_23 ?_
      refine pt_iret eR_lawOn_25 (Nat.le_refl _) (Nat.le_refl _) ?_
      exact ⟨by unfold lawf; congr 2; first | (exfalso; omega) | (rw [if_pos (by omega)]; done) | (rw [if_neg (by omega)]; done), rfl, rfl⟩
    · refine pt_iload eR_lawOn_12 rfl ?_
      refine pt_iload eR_lawOn_13 rfl ?_
      refine pt_clt eR_lawOn_14 ⟨by omega, by omega⟩ ⟨by omega, by omega⟩ (fun c14 => ?_) (fun c14 => ?_)
      · refine pt_ic eR_lawOn_23 ?_
        refine pt_iret eR_lawOn_25 (Nat.le_refl _) (Nat.le_refl _) ?_
        exact ⟨by unfold lawf; congr 2; first | (exfalso; omega) | (rw [if_pos (by omega)]; done) | (rw [if_neg (by omega)]; done), rfl, rfl⟩
      · refine pt_iload eR_lawOn_17 rfl ?_
        refine pt_iload eR_lawOn_18 rfl ?_
        refine pt_isub eR_lawOn_19 ?_
        refine pt_goto eR_lawOn_20 ?_
        refine pt_iret eR_lawOn_25 (Nat.le_refl _) (Nat.le_refl _) ?_
        exact ⟨by unfold lawf; congr 2; first | (exfalso; omega) | (rw [if_pos (by omega)]; done) | (rw [if_neg (by omega)]; done), rfl, rfl⟩
theorem cH_leads (G : pd_G) (sz : Nat) (hp : pd_P) {h : Nat} {gd ev bk d : Int} (hH : hp h = HO h gd ev bk) (h1 : 1 ≤ ev) (h2 : ev ≤ 9) (h3 : 1 ≤ bk) (h4 : bk ≤ 9) (h5 : 0 ≤ d) (h6 : d ≤ 20) : pd_c G mH_leads 2 [vr h, vi d] sz hp (pd_pure (vi (lawf d ev bk)) sz hp) := by
  refine pd_con kH_leads [some (vr h), some (vi d)] rfl rfl (Nat.le_of_ble_eq_true rfl) ?_
  refine pt_aload eH_leads_0 rfl ?_
  refine pt_get eH_leads_1 hH rfl ?_
  refine pt_aload eH_leads_4 rfl ?_
  refine pt_get eH_leads_5 hH rfl ?_
  refine pt_iload eH_leads_8 rfl ?_
  refine pt_ks3r eH_leads_9 (cD_leadsBy G sz _ h1 h2 h3 h4 h5 h6) (Nat.le_of_ble_eq_true rfl) (by decide) (Nat.le_refl _) (Nat.le_refl _) ?_
  refine pt_iret eH_leads_12 (Nat.le_refl _) (Nat.le_refl _) ?_
  exact ⟨rfl, rfl, rfl⟩
theorem cR_givesOn (G : pd_G) (sz : Nat) (hp : pd_P) {v : Nat → Int} {df : Int → Int} {d : Int} (hR : hp 178 = RO v) (hd : hp 180 = ia 4 df) (h1 : 1 ≤ df 0) (h2 : df 0 ≤ 9) (h3 : 1 ≤ df 1) (h4 : df 1 ≤ 9) (h5 : 0 ≤ d) (h6 : d ≤ 20) : pd_c G mR_givesOn 1 [vr 178, vi d] sz hp (pd_pure (vi (lawf d (df 0) (df 1))) sz hp) := by
  refine pd_con kR_givesOn [some (vr 178), some (vi d)] rfl rfl (Nat.le_of_ble_eq_true rfl) ?_
  refine pt_iload eR_givesOn_0 rfl ?_
  refine pt_aload eR_givesOn_1 rfl ?_
  refine pt_get eR_givesOn_2 hR rfl ?_
  refine pt_ic eR_givesOn_5 ?_
  refine pt_iald eR_givesOn_6 hd (by omega) (by omega) (by decide) ?_
  refine pt_aload eR_givesOn_7 rfl ?_
  refine pt_get eR_givesOn_8 hR rfl ?_
  refine pt_ic eR_givesOn_11 ?_
  refine pt_iald eR_givesOn_12 hd (by omega) (by omega) (by decide) ?_
  refine pt_ks3r eR_givesOn_13 (cR_lawOn G sz _ h1 h2 h3 h4 h5 h6) (Nat.le_of_ble_eq_true rfl) (by decide) (Nat.le_refl _) (Nat.le_refl _) ?_
  refine pt_iret eR_givesOn_16 (Nat.le_refl _) (Nat.le_refl _) ?_
  exact ⟨rfl, rfl, rfl⟩
theorem cR_opens (G : pd_G) (sz : Nat) (hp : pd_P) {v : Nat → Int} {df σ : Int → Int} {A : Nat} (hR : hp 178 = RO v) (hd : hp 180 = ia 4 df) (hA : hp A = ia 90 σ) (h1 : 1 ≤ df 0) (h2 : df 0 ≤ 9) (h3 : 1 ≤ df 1) (h4 : df 1 ≤ 9) (h5 : 0 ≤ σ 0) (h6 : σ 0 ≤ 20) (h7 : σ 1 = 0 ∨ σ 1 = 1) : pd_c G mR_opens 2 [vr 178, vr A] sz hp (pd_pure (vi (opf (df 0) (df 1) σ)) sz hp) := by
  refine pd_con kR_opens [some (vr 178), some (vr A)] rfl rfl (Nat.le_of_ble_eq_true rfl) ?_
  refine pt_aload eR_opens_0 rfl ?_
  refine pt_ic eR_opens_1 ?_
  refine pt_iald eR_opens_2 hA (by omega) (by omega) (by decide) ?_
  refine pt_ic eR_opens_3 ?_
  refine pt_cne eR_opens_4 ⟨by omega, by omega⟩ ⟨by omega, by omega⟩ (fun c4 => ?_) (fun c4 => ?_)
  · refine pt_aload eR_opens_12 rfl ?_
    refine pt_aload eR_opens_13 rfl ?_
    refine pt_ic eR_opens_14 ?_
    refine pt_iald eR_opens_15 hA (by omega) (by omega) (by decide) ?_
    refine pt_kv1r eR_opens_16 (cR_givesOn G sz _ hR hd h1 h2 h3 h4 h5 h6) hR rfl (Nat.le_of_ble_eq_true rfl) (by decide) (Nat.le_refl _) (Nat.le_refl _) ?_
    refine pt_iret eR_opens_19 (Nat.le_refl _) (Nat.le_refl _) ?_
    exact ⟨by unfold opf; congr 2; first | (exfalso; omega) | (rw [if_pos (by omega)]; done) | (rw [if_neg (by omega)]; done), rfl, rfl⟩
  · refine pt_ic eR_opens_7 ?_
    refine pt_goto eR_opens_9 ?_
    refine pt_iret eR_opens_19 (Nat.le_refl _) (Nat.le_refl _) ?_
    exact ⟨by unfold opf; congr 2; first | (exfalso; omega) | (rw [if_pos (by omega)]; done) | (rw [if_neg (by omega)]; done), rfl, rfl⟩
theorem cR_atMost (G : pd_G) (sz : Nat) (hp : pd_P) {n : Int} (h1 : jR n) : pd_c G mR_atMost 0 [vi n] sz hp (pd_pure (vi (min n 999)) sz hp) := by
  refine pd_con kR_atMost [some (vi n)] rfl rfl (Nat.le_of_ble_eq_true rfl) ?_
  unfold jR at *
  refine pt_iload eR_atMost_0 rfl ?_
  refine pt_ic eR_atMost_1 ?_
  refine pt_cle eR_atMost_4 ⟨by omega, by omega⟩ ⟨by omega, by omega⟩ (fun c4 => ?_) (fun c4 => ?_)
  · refine pt_iload eR_atMost_13 rfl ?_
    refine pt_iret eR_atMost_14 (Nat.le_refl _) (Nat.le_refl _) ?_
    exact ⟨by congr 2; omega, rfl, rfl⟩
  · refine pt_ic eR_atMost_7 ?_
    refine pt_goto eR_atMost_10 ?_
    refine pt_iret eR_atMost_14 (Nat.le_refl _) (Nat.le_refl _) ?_
    exact ⟨by congr 2; omega, rfl, rfl⟩
theorem lawf_r {ev bk d : Int} (h1 : 1 ≤ bk) (h5 : 0 ≤ d) : lawf d ev bk = -9 ∨ (0 ≤ lawf d ev bk ∧ lawf d ev bk < 20 ∧ lawf d ev bk < d) := by
  unfold lawf
  split <;> omega
theorem opf_r {ev bk : Int} {σ : Int → Int} (h1 : 1 ≤ bk) (h5 : 0 ≤ σ 0) : opf ev bk σ = -9 ∨ (0 ≤ opf ev bk σ ∧ opf ev bk σ < 20 ∧ opf ev bk σ < σ 0) := by
  unfold opf
  split
  · left; rfl
  · exact lawf_r h1 h5
theorem cR_canTake (G : pd_G) (sz : Nat) (hp : pd_P) {v : Nat → Int} {df ms σ : Int → Int} {A : Nat} {g : Int} (hR : hp 178 = RO v) (hd : hp 180 = ia 4 df) (hm : hp 187 = ia 160 ms) (hA : hp A = ia 90 σ) (h1 : 1 ≤ df 0) (h2 : df 0 ≤ 9) (h3 : 1 ≤ df 1) (h4 : df 1 ≤ 9) (h5 : 0 ≤ σ 0) (h6 : σ 0 ≤ 20) (h7 : σ 1 = 0 ∨ σ 1 = 1) (h8 : 0 ≤ g) (h9 : g < 4) : pd_c G mR_canTake 3 [vr 178, vr A, vi g] sz hp (pd_pure (vi (canf (df 0) (df 1) ms σ g)) sz hp) := by
  refine pd_con kR_canTake [some (vr 178), some (vr A), some (vi g), none] rfl rfl (Nat.le_of_ble_eq_true rfl) ?_
  have ho := opf_r (ev := df 0) (bk := df 1) (σ := σ) h3 h5
  refine pt_aload eR_canTake_0 rfl ?_
  refine pt_aload eR_canTake_1 rfl ?_
  refine pt_kv1r eR_canTake_2 (cR_opens G sz _ hR hd hA h1 h2 h3 h4 h5 h6 h7) hR rfl (Nat.le_of_ble_eq_true rfl) (by decide) (Nat.le_refl _) (Nat.le_refl _) ?_
  refine pt_istore3 eR_canTake_5 rfl ?_
  refine pt_iload eR_canTake_6 rfl ?_
  refine pt_ic eR_canTake_7 ?_
  refine pt_cne eR_canTake_9 ⟨by omega, by omega⟩ ⟨by omega, by omega⟩ (fun c9 => ?_) (fun c9 => ?_)
  · refine pt_aload eR_canTake_16 rfl ?_
    refine pt_get eR_canTake_17 hR rfl ?_
    refine pt_ic eR_canTake_20 ?_
    refine pt_iload eR_canTake_21 rfl ?_
    refine pt_imul eR_canTake_22 ?_
    refine pt_iload eR_canTake_23 rfl ?_
    refine pt_iadd eR_canTake_24 ?_
    refine pt_iald eR_canTake_25 hm (by omega) (by omega) (by decide) ?_
    refine pt_aload eR_canTake_26 rfl ?_
    refine pt_ic eR_canTake_27 ?_
    refine pt_ic eR_canTake_29 ?_
    refine pt_iload eR_canTake_30 rfl ?_
    refine pt_imul eR_canTake_31 ?_
    refine pt_iadd eR_canTake_32 ?_
    refine pt_iload eR_canTake_33 rfl ?_
    refine pt_iadd eR_canTake_34 ?_
    refine pt_iald eR_canTake_35 hA (by omega) (by omega) (by decide) ?_
    refine pt_isub eR_canTake_36 ?_
    refine pt_iret eR_canTake_37 (Nat.le_refl _) (Nat.le_refl _) ?_
    exact ⟨by rw [canf_eq]; congr 2; first | (exfalso; omega) | (rw [if_pos (by omega)]; done) | (rw [if_neg (by omega)]; done), rfl, rfl⟩
  · refine pt_ic eR_canTake_12 ?_
    refine pt_goto eR_canTake_13 ?_
    refine pt_iret eR_canTake_37 (Nat.le_refl _) (Nat.le_refl _) ?_
    exact ⟨by rw [canf_eq]; congr 2; first | (exfalso; omega) | (rw [if_pos (by omega)]; done) | (rw [if_neg (by omega)]; done), rfl, rfl⟩
theorem cS_leads (G : pd_G) (sz : Nat) (hp : pd_P) {a h : Nat} {gd ev bk : Int} {σ : Int → Int} (hS : hp a = SO a (σ 0) (σ 1)) (hH : hp h = HO h gd ev bk) (h1 : 1 ≤ ev) (h2 : ev ≤ 9) (h3 : 1 ≤ bk) (h4 : bk ≤ 9) (h5 : 0 ≤ σ 0) (h6 : σ 0 ≤ 20) (h7 : σ 1 = 0 ∨ σ 1 = 1) : pd_c G mS_leads 3 [vr a, vr h] sz hp (pd_pure (vi (opf ev bk σ)) sz hp) := by
  refine pd_con kS_leads [some (vr a), some (vr h)] rfl rfl (Nat.le_of_ble_eq_true rfl) ?_
  refine pt_aload eS_leads_0 rfl ?_
  refine pt_get eS_leads_1 hS rfl ?_
  refine pt_zeq eS_leads_4 ⟨by omega, by omega⟩ (fun c4 => ?_) (fun c4 => ?_)
  · refine pt_aload eS_leads_12 rfl ?_
    refine pt_aload eS_leads_13 rfl ?_
    refine pt_get eS_leads_14 hS rfl ?_
    refine pt_kv1r eS_leads_17 (cH_leads G sz _ hH h1 h2 h3 h4 h5 h6) hH rfl (Nat.le_of_ble_eq_true rfl) (by decide) (Nat.le_refl _) (Nat.le_refl _) ?_
    refine pt_iret eS_leads_20 (Nat.le_refl _) (Nat.le_refl _) ?_
    exact ⟨by unfold opf; congr 2; first | (exfalso; omega) | (rw [if_pos (by omega)]; done) | (rw [if_neg (by omega)]; done), rfl, rfl⟩
  · refine pt_ic eS_leads_7 ?_
    refine pt_goto eS_leads_9 ?_
    refine pt_iret eS_leads_20 (Nat.le_refl _) (Nat.le_refl _) ?_
    exact ⟨by unfold opf; congr 2; first | (exfalso; omega) | (rw [if_pos (by omega)]; done) | (rw [if_neg (by omega)]; done), rfl, rfl⟩
theorem cS_openOn (G : pd_G) (sz : Nat) (hp : pd_P) {a h : Nat} {gd ev bk d g : Int} {σ ms : Int → Int} (hS : hp a = SO a (σ 0) (σ 1)) (hSk : hp (a + 3) = ia 80 (fun k => σ (10 + k))) (hH : hp h = HO h gd ev bk) (hH6 : hp (h + 6) = ia 80 ms) (h1 : 1 ≤ ev) (h2 : ev ≤ 9) (h3 : 1 ≤ bk) (h4 : bk ≤ 9) (h5 : 0 ≤ d) (h6 : d ≤ 20) (h7 : σ 1 = 0 ∨ σ 1 = 1) (h8 : 0 ≤ g) (h9 : g < 4) : pd_c G mS_openOn 3 [vr a, vr h, vi d, vi g] sz hp (pd_pure (vi (opnf ev bk ms σ d g)) sz hp) := by
  refine pd_con kS_openOn [some (vr a), some (vr h), some (vi d), some (vi g), none] rfl rfl (Nat.le_of_ble_eq_true rfl) ?_
  have ho := lawf_r (ev := ev) (bk := bk) (d := d) h3 h5
  refine pt_aload eS_openOn_0 rfl ?_
  refine pt_get eS_openOn_1 hS rfl ?_
  refine pt_zeq eS_openOn_4 ⟨by omega, by omega⟩ (fun c4 => ?_) (fun c4 => ?_)
  · refine pt_aload eS_openOn_12 rfl ?_
    refine pt_iload eS_openOn_13 rfl ?_
    refine pt_kv1r eS_openOn_14 (cH_leads G sz _ hH h1 h2 h3 h4 h5 h6) hH rfl (Nat.le_of_ble_eq_true rfl) (by decide) (Nat.le_refl _) (Nat.le_refl _) ?_
    refine pt_istore4 eS_openOn_17 rfl ?_
    refine pt_iload eS_openOn_19 rfl ?_
    refine pt_ic eS_openOn_21 ?_
    refine pt_cne eS_openOn_23 ⟨by omega, by omega⟩ ⟨by omega, by omega⟩ (fun c23 => ?_) (fun c23 => ?_)
    · refine pt_aload eS_openOn_30 rfl ?_
      refine pt_get eS_openOn_31 hH rfl ?_
      refine pt_iload eS_openOn_34 rfl ?_
      refine pt_ic eS_openOn_36 ?_
      refine pt_imul eS_openOn_37 ?_
      refine pt_iload eS_openOn_38 rfl ?_
      refine pt_iadd eS_openOn_39 ?_
      refine pt_iald eS_openOn_40 hH6 (by omega) (by omega) (by decide) ?_
      refine pt_aload eS_openOn_41 rfl ?_
      refine pt_get eS_openOn_42 hS rfl ?_
      refine pt_iload eS_openOn_45 rfl ?_
      refine pt_ic eS_openOn_47 ?_
      refine pt_imul eS_openOn_48 ?_
      refine pt_iload eS_openOn_49 rfl ?_
      refine pt_iadd eS_openOn_50 ?_
      refine pt_iald eS_openOn_51 hSk (by omega) (by omega) (by decide) ?_
      refine pt_isub eS_openOn_52 ?_
      refine pt_iret eS_openOn_53 (Nat.le_refl _) (Nat.le_refl _) ?_
      exact ⟨by unfold opnf; congr 2; first | (exfalso; omega) | (rw [if_pos (by omega)]; done) | (rw [if_neg (by omega), if_pos (by omega)]; done) | (rw [if_neg (by omega), if_neg (by omega), Int.mul_comm (lawf d ev bk) 4, ← Int.add_assoc]; done), rfl, rfl⟩
    · refine pt_ic eS_openOn_26 ?_
      refine pt_goto eS_openOn_27 ?_
      refine pt_iret eS_openOn_53 (Nat.le_refl _) (Nat.le_refl _) ?_
      exact ⟨by unfold opnf; congr 2; first | (exfalso; omega) | (rw [if_pos (by omega)]; done) | (rw [if_neg (by omega), if_pos (by omega)]; done) | (rw [if_neg (by omega), if_neg (by omega), Int.mul_comm (lawf d ev bk) 4, ← Int.add_assoc]; done), rfl, rfl⟩
  · refine pt_ic eS_openOn_7 ?_
    refine pt_goto eS_openOn_9 ?_
    refine pt_istore4 eS_openOn_17 rfl ?_
    refine pt_iload eS_openOn_19 rfl ?_
    refine pt_ic eS_openOn_21 ?_
    refine pt_cne eS_openOn_23 ⟨by omega, by omega⟩ ⟨by omega, by omega⟩ (fun c23 => ?_) (fun c23 => ?_)
    · refine pt_aload eS_openOn_30 rfl ?_
      refine pt_get eS_openOn_31 hH rfl ?_
      refine pt_iload eS_openOn_34 rfl ?_
      refine pt_ic eS_openOn_36 ?_
      refine pt_imul eS_openOn_37 ?_
      refine pt_iload eS_openOn_38 rfl ?_
      refine pt_iadd eS_openOn_39 ?_
      refine pt_iald eS_openOn_40 hH6 (by omega) (by omega) (by decide) ?_
      refine pt_aload eS_openOn_41 rfl ?_
      refine pt_get eS_openOn_42 hS rfl ?_
      refine pt_iload eS_openOn_45 rfl ?_
      refine pt_ic eS_openOn_47 ?_
      refine pt_imul eS_openOn_48 ?_
      refine pt_iload eS_openOn_49 rfl ?_
      refine pt_iadd eS_openOn_50 ?_
      refine pt_iald eS_openOn_51 hSk (by omega) (by omega) (by decide) ?_
      refine pt_isub eS_openOn_52 ?_
      refine pt_iret eS_openOn_53 (Nat.le_refl _) (Nat.le_refl _) ?_
      exact ⟨by unfold opnf; congr 2; first | (exfalso; omega) | (rw [if_pos (by omega)]; done) | (rw [if_neg (by omega), if_pos (by omega)]; done) | (rw [if_neg (by omega), if_neg (by omega), Int.mul_comm (lawf d ev bk) 4, ← Int.add_assoc]; done), rfl, rfl⟩
    · refine pt_ic eS_openOn_26 ?_
      refine pt_goto eS_openOn_27 ?_
      refine pt_iret eS_openOn_53 (Nat.le_refl _) (Nat.le_refl _) ?_
      exact ⟨by unfold opnf; congr 2; first | (exfalso; omega) | (rw [if_pos (by omega)]; done) | (rw [if_neg (by omega), if_pos (by omega)]; done) | (rw [if_neg (by omega), if_neg (by omega), Int.mul_comm (lawf d ev bk) 4, ← Int.add_assoc]; done), rfl, rfl⟩
theorem cS_open (G : pd_G) (sz : Nat) (hp : pd_P) {a h : Nat} {gd ev bk g : Int} {σ ms : Int → Int} (hS : hp a = SO a (σ 0) (σ 1)) (hSk : hp (a + 3) = ia 80 (fun k => σ (10 + k))) (hH : hp h = HO h gd ev bk) (hH6 : hp (h + 6) = ia 80 ms) (h1 : 1 ≤ ev) (h2 : ev ≤ 9) (h3 : 1 ≤ bk) (h4 : bk ≤ 9) (h5 : 0 ≤ σ 0) (h6 : σ 0 ≤ 20) (h7 : σ 1 = 0 ∨ σ 1 = 1) (h8 : 0 ≤ g) (h9 : g < 4) : pd_c G mS_open 4 [vr a, vr h, vi g] sz hp (pd_pure (vi (canf ev bk ms σ g)) sz hp) := by
  refine pd_con kS_open [some (vr a), some (vr h), some (vi g)] rfl rfl (Nat.le_of_ble_eq_true rfl) ?_
  refine pt_aload eS_open_0 rfl ?_
  refine pt_aload eS_open_1 rfl ?_
  refine pt_aload eS_open_2 rfl ?_
  refine pt_get eS_open_3 hS rfl ?_
  refine pt_iload eS_open_6 rfl ?_
  refine pt_kv3r eS_open_7 (cS_openOn G sz _ hS hSk hH hH6 h1 h2 h3 h4 h5 h6 h7 h8 h9) hS rfl (Nat.le_of_ble_eq_true rfl) (by decide) (Nat.le_refl _) (Nat.le_refl _) ?_
  refine pt_iret eS_open_10 (Nat.le_refl _) (Nat.le_refl _) ?_
  exact ⟨rfl, rfl, rfl⟩
theorem cH_rest (G : pd_G) (sz : Nat) (hp : pd_P) {h : Nat} {gd ev bk t d g : Int} {br ms us : Int → Int} (hH : hp h = HO h gd ev bk) (hH5 : hp (h + 5) = ia 80 br) (hH6 : hp (h + 6) = ia 80 ms) (hH2 : hp (h + 2) = ia 4 us) (h1 : 0 ≤ t) (h2 : t ≤ 999) (h3 : 0 ≤ d) (h4 : d < 20) (h5 : 0 ≤ g) (h6 : g < 4) (h7 : 0 ≤ br (4 * d + g) ∧ br (4 * d + g) ≤ 30) (h8 : 0 ≤ ms (4 * d + g) ∧ ms (4 * d + g) ≤ 30) (h9 : 0 ≤ us g ∧ us g ≤ 9) : pd_c G mH_rest 1 [vr h, vi t, vi d, vi g] sz hp (pd_pure (vi (if rsf t (br (4 * d + g)) (ms (4 * d + g)) (us g) < 0 then -1 else rsf t (br (4 * d + g)) (ms (4 * d + g)) (us g))) sz hp) := by
  refine pd_con kH_rest [some (vr h), some (vi t), some (vi d), some (vi g), none] rfl rfl (Nat.le_of_ble_eq_true rfl) ?_
  have e0 : d * 4 + g = 4 * d + g := by omega
  rw [← e0] at h7 h8 ⊢
  refine pt_ic eH_rest_0 ?_
  refine pt_iload eH_rest_3 rfl ?_
  refine pt_aload eH_rest_4 rfl ?_
  refine pt_get eH_rest_5 hH rfl ?_
  refine pt_iload eH_rest_8 rfl ?_
  refine pt_ic eH_rest_9 ?_
  refine pt_imul eH_rest_10 ?_
  refine pt_iload eH_rest_11 rfl ?_
  refine pt_iadd eH_rest_12 ?_
  refine pt_iald eH_rest_13 hH5 (by omega) (by omega) (by decide) ?_
  refine pt_iadd eH_rest_14 ?_
  refine pt_min eH_rest_15 ⟨by omega, by omega⟩ ⟨by omega, by omega⟩ (by decide) (Nat.le_of_ble_eq_true rfl) (Nat.le_refl _) (Nat.le_refl _) ?_
  refine pt_istore4 eH_rest_18 rfl ?_
  refine pt_iload eH_rest_20 rfl ?_
  refine pt_iload eH_rest_22 rfl ?_
  refine pt_aload eH_rest_24 rfl ?_
  refine pt_get eH_rest_25 hH rfl ?_
  refine pt_iload eH_rest_28 rfl ?_
  refine pt_ic eH_rest_29 ?_
  refine pt_imul eH_rest_30 ?_
  refine pt_iload eH_rest_31 rfl ?_
  refine pt_iadd eH_rest_32 ?_
  refine pt_iald eH_rest_33 hH6 (by omega) (by omega) (by decide) ?_
  refine pt_min eH_rest_34 ⟨by omega, by omega⟩ ⟨by omega, by omega⟩ (by decide) (Nat.le_of_ble_eq_true rfl) (Nat.le_refl _) (Nat.le_refl _) ?_
  refine pt_isub eH_rest_37 ?_
  refine pt_istore4 eH_rest_38 rfl ?_
  refine pt_iload eH_rest_40 rfl ?_
  refine pt_aload eH_rest_42 rfl ?_
  refine pt_get eH_rest_43 hH rfl ?_
  refine pt_iload eH_rest_46 rfl ?_
  refine pt_iald eH_rest_47 hH2 (by omega) (by omega) (by decide) ?_
  refine pt_cge eH_rest_48 ⟨by omega, by omega⟩ ⟨by omega, by omega⟩ (fun c48 => ?_) (fun c48 => ?_)
  · refine pt_iload eH_rest_55 rfl ?_
    refine pt_aload eH_rest_57 rfl ?_
    refine pt_get eH_rest_58 hH rfl ?_
    refine pt_iload eH_rest_61 rfl ?_
    refine pt_iald eH_rest_62 hH2 (by omega) (by omega) (by decide) ?_
    refine pt_isub eH_rest_63 ?_
    refine pt_iret eH_rest_64 (Nat.le_refl _) (Nat.le_refl _) ?_
    exact ⟨by unfold rsf; congr 2; first | (exfalso; omega) | (rw [if_pos (by omega)]; done) | (rw [if_neg (by omega)]; omega), rfl, rfl⟩
  · refine pt_ic eH_rest_51 ?_
    refine pt_goto eH_rest_52 ?_
    refine pt_iret eH_rest_64 (Nat.le_refl _) (Nat.le_refl _) ?_
    exact ⟨by unfold rsf; congr 2; first | (exfalso; omega) | (rw [if_pos (by omega)]; done) | (rw [if_neg (by omega)]; omega), rfl, rfl⟩
end
section
/-! the State, and the reference's own: copies -/
def blk (f g : Int → Int) (a n : Int) : Int → Int := fun k => if a ≤ k ∧ k < a + n then g (k - a) else f k
theorem blk_out {f g : Int → Int} {a n k : Int} (h : k < a ∨ a + n ≤ k) : blk f g a n k = f k := by unfold blk; rw [if_neg (by omega)]
theorem blk_in {f g : Int → Int} {a n k : Int} (h : a ≤ k) (h2 : k < a + n) : blk f g a n k = g (k - a) := by unfold blk; rw [if_pos ⟨h, h2⟩]
theorem blk_0 (f g : Int → Int) (a : Int) : blk f g a 0 = f := by funext k; unfold blk; rw [if_neg (by omega)]
theorem blk_s {f g : Int → Int} {a n : Int} (h : 0 ≤ n) : uI (blk f g a n) (a + n) (g n) = blk f g a (n + 1) := by
  funext k
  unfold uI blk
  by_cases h1 : k = a + n
  · subst h1
    rw [if_pos rfl, if_pos (by omega)]
    congr 1
    omega
  · rw [if_neg h1]
    by_cases h2 : a ≤ k ∧ k < a + n
    · rw [if_pos h2, if_pos (by omega)]
    · rw [if_neg h2, if_neg (by omega)]
def fr (hp hp1 : pd_P) (lo hi : Nat) : Prop := ∀ k, (k < lo ∨ hi ≤ k) → hp1 k = hp k
theorem fr.rf {hp : pd_P} {lo hi : Nat} : fr hp hp lo hi := fun _ _ => rfl
theorem fr.up {hp hp1 hp2 : pd_P} {lo hi a : Nat} {e : pd_E} (h : fr hp hp1 lo hi) (he : hp2 = va_up hp1 a e) (h1 : lo ≤ a) (h2 : a < hi) : fr hp hp2 lo hi := fun k hk => by rw [he, va_up_ne _ _ (by omega)]; exact h k hk
theorem fr.tr {hp hp1 hp2 : pd_P} {lo hi lo1 hi1 : Nat} (h : fr hp hp1 lo hi) (h2 : fr hp1 hp2 lo1 hi1) (ha : lo ≤ lo1) (hb : hi1 ≤ hi) : fr hp hp2 lo hi := fun k hk => (h2 k (by omega)).trans (h k hk)
theorem fr.at {hp hp1 : pd_P} {lo hi k : Nat} {e : pd_E} (h : fr hp hp1 lo hi) (hk : k < lo ∨ hi ≤ k) (he : hp k = e) : hp1 k = e := (h k hk).trans he
def StA (hp : pd_P) (a : Nat) (σ : Int → Int) : Prop := hp a = SO a (σ 0) (σ 1) ∧ hp (a + 1) = ia 4 (fun g => σ (2 + g)) ∧ hp (a + 2) = ia 4 (fun g => σ (6 + g)) ∧ hp (a + 3) = ia 80 (fun k => σ (10 + k))
theorem StA.fr {hp hp1 : pd_P} {lo hi a : Nat} {σ : Int → Int} (h : StA hp a σ) (hf : fr hp hp1 lo hi) (hk : a + 4 ≤ lo ∨ hi ≤ a) : StA hp1 a σ := ⟨hf.at (by omega) h.1, hf.at (by omega) h.2.1, hf.at (by omega) h.2.2.1, hf.at (by omega) h.2.2.2⟩
theorem pu_self {hp : pd_P} {A : Nat} {e : pd_E} (h : hp A = e) : hp = va_up hp A e := by
  funext k
  unfold va_up
  split
  · rename_i hk; rw [hk, h]
  · rfl
theorem bx_4 {hp : pd_P} {A B : Nat} {e1 e2 e3 e4 : pd_E} (h : A ≠ B) : va_up (va_up (va_up (va_up hp A e1) B e2) A e3) B e4 = va_up (va_up hp A e3) B e4 := by
  funext k
  unfold va_up
  by_cases h1 : k = B
  · simp [h1]
  · by_cases h2 : k = A
    · subst h2; simp [h1]
    · simp [h1, h2]
theorem bx_3 {hp : pd_P} {A B : Nat} {e1 e2 e3 : pd_E} (h : A ≠ B) : va_up (va_up (va_up hp A e1) B e2) A e3 = va_up (va_up hp A e3) B e2 := by
  funext k
  unfold va_up
  by_cases h1 : k = B
  · subst h1; simp [Ne.symm h]
  · by_cases h2 : k = A
    · subst h2; simp [h1]
    · simp [h1, h2]
theorem cS_copy (G : pd_G) (sz : Nat) (hp : pd_P) {a b : Nat} {σ ρ : Int → Int} (hA : StA hp a σ) (hB : StA hp b ρ) (hab : a + 4 ≤ b ∨ b + 4 ≤ a) (hh : ρ 1 = 0 ∨ ρ 1 = 1) : pd_c G mS_copy 1 [vr a, vr b] sz hp (fun v sz' hp' => v = none ∧ sz' = sz ∧ StA hp' a ρ ∧ fr hp hp' a (a + 4)) := by
  refine pd_con kS_copy [some (vr a), some (vr b)] rfl rfl (Nat.le_of_ble_eq_true rfl) ?_
  obtain ⟨ha, hat, hal, hak⟩ := hA
  obtain ⟨hb, hbt, hbl, hbk⟩ := hB
  refine pt_aload eS_copy_0 rfl ?_
  refine pt_aload eS_copy_1 rfl ?_
  refine pt_get eS_copy_2 hb rfl ?_
  refine pt_put3 eS_copy_5 ha trivial ?_
  refine pt_gen ?_
  intro hp1 ev1
  have ha := pg_s ev1
  have hat := pg_n ev1 (by omega) hat
  have hal := pg_n ev1 (by omega) hal
  have hak := pg_n ev1 (by omega) hak
  have hb := pg_n ev1 (by omega) hb
  have hbt := pg_n ev1 (by omega) hbt
  have hbl := pg_n ev1 (by omega) hbl
  have hbk := pg_n ev1 (by omega) hbk
  refine pt_aload eS_copy_8 rfl ?_
  refine pt_aload eS_copy_9 rfl ?_
  refine pt_get eS_copy_10 hb rfl ?_
  refine pt_put4 eS_copy_13 ha hh ?_
  refine pt_gen ?_
  intro hp2 ev2
  have ha := pg_s ev2
  have hat := pg_n ev2 (by omega) hat
  have hal := pg_n ev2 (by omega) hal
  have hak := pg_n ev2 (by omega) hak
  have hb := pg_n ev2 (by omega) hb
  have hbt := pg_n ev2 (by omega) hbt
  have hbl := pg_n ev2 (by omega) hbl
  have hbk := pg_n ev2 (by omega) hbk
  refine pt_aload eS_copy_16 rfl ?_
  refine pt_get eS_copy_17 hb rfl ?_
  refine pt_ic eS_copy_20 ?_
  refine pt_aload eS_copy_21 rfl ?_
  refine pt_get eS_copy_22 ha rfl ?_
  refine pt_ic eS_copy_25 ?_
  refine pt_ic eS_copy_26 ?_
  refine pt_copy eS_copy_27 hbt hat rfl (by decide) (by decide) (Nat.le_of_ble_eq_true rfl) ?_
  refine pt_gen ?_
  intro hp3 ev3
  have ha := pg_n ev3 (by omega) ha
  have hat := pg_s ev3
  have hal := pg_n ev3 (by omega) hal
  have hak := pg_n ev3 (by omega) hak
  have hb := pg_n ev3 (by omega) hb
  have hbt := pg_n ev3 (by omega) hbt
  have hbl := pg_n ev3 (by omega) hbl
  have hbk := pg_n ev3 (by omega) hbk
  refine pt_aload eS_copy_30 rfl ?_
  refine pt_get eS_copy_31 hb rfl ?_
  refine pt_ic eS_copy_34 ?_
  refine pt_aload eS_copy_35 rfl ?_
  refine pt_get eS_copy_36 ha rfl ?_
  refine pt_ic eS_copy_39 ?_
  refine pt_ic eS_copy_40 ?_
  refine pt_copy eS_copy_41 hbl hal rfl (by decide) (by decide) (Nat.le_of_ble_eq_true rfl) ?_
  refine pt_gen ?_
  intro hp4 ev4
  have ha := pg_n ev4 (by omega) ha
  have hat := pg_n ev4 (by omega) hat
  have hal := pg_s ev4
  have hak := pg_n ev4 (by omega) hak
  have hb := pg_n ev4 (by omega) hb
  have hbt := pg_n ev4 (by omega) hbt
  have hbl := pg_n ev4 (by omega) hbl
  have hbk := pg_n ev4 (by omega) hbk
  refine pt_aload eS_copy_44 rfl ?_
  refine pt_get eS_copy_45 hb rfl ?_
  refine pt_ic eS_copy_48 ?_
  refine pt_aload eS_copy_49 rfl ?_
  refine pt_get eS_copy_50 ha rfl ?_
  refine pt_ic eS_copy_53 ?_
  refine pt_ic eS_copy_54 ?_
  refine pt_copy eS_copy_56 hbk hak rfl (by decide) (by decide) (Nat.le_of_ble_eq_true rfl) ?_
  refine pt_gen ?_
  intro hp5 ev5
  have ha := pg_n ev5 (by omega) ha
  have hat := pg_n ev5 (by omega) hat
  have hal := pg_n ev5 (by omega) hal
  have hak := pg_s ev5
  have hb := pg_n ev5 (by omega) hb
  have hbt := pg_n ev5 (by omega) hbt
  have hbl := pg_n ev5 (by omega) hbl
  have hbk := pg_n ev5 (by omega) hbk
  refine pt_vret eS_copy_59 (Nat.le_refl _) (Nat.le_refl _) ?_
  exact ⟨rfl, rfl, ⟨ha, hat, hal, hak⟩, (((((fr.rf.up ev1 (by omega) (by omega)).up ev2 (by omega) (by omega)).up ev3 (by omega) (by omega)).up ev4 (by omega) (by omega)).up ev5 (by omega) (by omega))⟩
theorem cS_add (G : pd_G) (sz : Nat) (hp : pd_P) {a : Nat} {σ : Int → Int} {g n : Int} (hA : StA hp a σ) (h1 : 0 ≤ g) (h2 : g < 4) (h3 : 0 ≤ σ (2 + g)) (h4 : σ (2 + g) ≤ 999) (h5 : 0 ≤ n) (h6 : n ≤ 30) : pd_c G mS_add 1 [vr a, vi g, vi n] sz hp (fun v sz' hp' => v = some (vi (min (σ (2 + g) + n) 999)) ∧ sz' = sz ∧ StA hp' a (uI σ (2 + g) (min (σ (2 + g) + n) 999)) ∧ fr hp hp' a (a + 4)) := by
  refine pd_con kS_add [some (vr a), some (vi g), some (vi n)] rfl rfl (Nat.le_of_ble_eq_true rfl) ?_
  obtain ⟨ha, hat, hal, hak⟩ := hA
  refine pt_aload eS_add_0 rfl ?_
  refine pt_get eS_add_1 ha rfl ?_
  refine pt_iload eS_add_4 rfl ?_
  refine pt_ic eS_add_5 ?_
  refine pt_aload eS_add_8 rfl ?_
  refine pt_get eS_add_9 ha rfl ?_
  refine pt_iload eS_add_12 rfl ?_
  refine pt_iald eS_add_13 hat (by omega) (by omega) (by decide) ?_
  refine pt_iload eS_add_14 rfl ?_
  refine pt_iadd eS_add_15 ?_
  refine pt_min eS_add_16 ⟨by omega, by omega⟩ ⟨by omega, by omega⟩ (by decide) (Nat.le_of_ble_eq_true rfl) (Nat.le_refl _) (Nat.le_refl _) ?_
  refine pt_iast eS_add_19 hat (by omega) (by omega) (by decide) ?_
  refine pt_gen ?_
  intro hp1 ev1
  have ha := pg_n ev1 (by omega) ha
  have hat := pg_s ev1
  have hal := pg_n ev1 (by omega) hal
  have hak := pg_n ev1 (by omega) hak
  refine pt_ext hat (g := fun x => uI σ (2 + g) (min (σ (2 + g) + n) 999) (2 + x)) (fun i hi0 hi1 => ?_) ?_
  · unfold uI
    by_cases hig : i = g
    · rw [if_pos hig, if_pos (by omega)]; omega
    · rw [if_neg hig, if_neg (by omega)]
  refine pt_gen ?_
  intro hp2 ev2
  have hat := pg_s ev2
  have ha := pg_n ev2 (by omega) ha
  have hal := pg_n ev2 (by omega) hal
  have hak := pg_n ev2 (by omega) hak
  refine pt_ext hal (g := fun x => uI σ (2 + g) (min (σ (2 + g) + n) 999) (6 + x)) (fun i hi0 hi1 => by rw [uI_n _ _ (by omega)]) ?_
  refine pt_gen ?_
  intro hp3 ev3
  have hal := pg_s ev3
  have ha := pg_n ev3 (by omega) ha
  have hat := pg_n ev3 (by omega) hat
  have hak := pg_n ev3 (by omega) hak
  refine pt_ext hak (g := fun x => uI σ (2 + g) (min (σ (2 + g) + n) 999) (10 + x)) (fun i hi0 hi1 => by rw [uI_n _ _ (by omega)]) ?_
  refine pt_gen ?_
  intro hp4 ev4
  have hak := pg_s ev4
  have ha := pg_n ev4 (by omega) ha
  have hat := pg_n ev4 (by omega) hat
  have hal := pg_n ev4 (by omega) hal
  refine pt_aload eS_add_20 rfl ?_
  refine pt_get eS_add_21 ha rfl ?_
  refine pt_iload eS_add_24 rfl ?_
  refine pt_iald eS_add_25 hat (by omega) (by omega) (by decide) ?_
  refine pt_iret eS_add_26 (Nat.le_refl _) (Nat.le_refl _) ?_
  refine ⟨?_, rfl, ⟨?_, hat, hal, hak⟩, ((((fr.rf.up ev1 (by omega) (by omega)).up ev2 (by omega) (by omega)).up ev3 (by omega) (by omega)).up ev4 (by omega) (by omega))⟩
  · rw [uI_s]
  · rw [uI_n _ _ (by omega), uI_n _ _ (by omega)]; exact ha
theorem lR_take (G : pd_G) (sz : Nat) (hp : pd_P) {v : Nat → Int} {σ τ : Int → Int} (hR : hp 178 = RO v) (h_now : hp 188 = ia 90 σ) {R : pd_R} (hx : ∀  (hp0 : pd_P), hp0 = (va_up hp (193) (ia 90 (blk τ σ 0 90))) → pd_t G mR_take 0 R 26 [some (vr 178), some (vi 90)] [] sz hp0) : ∀ (n : Nat) (i : Int)  (hp0 : pd_P), 0 ≤ i → i + n = 90 → hp0 = (va_up hp (193) (ia 90 (blk τ σ 0 i))) → pd_t G mR_take 0 R 2 [some (vr 178), some (vi i)] [] sz hp0 := by
  intro n
  induction n with
  | zero =>
    intro i  hp0 hi0 hiE he0
    have hiE2 : 90 = i := by omega
    subst hiE2
    have hx2 := hx  hp0 he0
    have hR := pg_n he0 (by omega) hR
    have h_now := pg_n he0 (by omega) h_now
    have h_tried := pg_s he0
    refine pt_iload eR_take_2 rfl ?_
    refine pt_ic eR_take_3 ?_
    refine pt_cge eR_take_5 ⟨by omega, by omega⟩ ⟨by omega, by omega⟩ (fun c5 => ?_) (fun c5 => ?_)
    · exact hx2
    · exfalso; omega
  | succ n ih =>
    intro i  hp0 hi0 hiE he0
    have hR := pg_n he0 (by omega) hR
    have h_now := pg_n he0 (by omega) h_now
    have h_tried := pg_s he0
    refine pt_iload eR_take_2 rfl ?_
    refine pt_ic eR_take_3 ?_
    refine pt_cge eR_take_5 ⟨by omega, by omega⟩ ⟨by omega, by omega⟩ (fun c5 => ?_) (fun c5 => ?_)
    · exfalso; omega
    · refine pt_aload eR_take_8 rfl ?_
      refine pt_get eR_take_9 hR rfl ?_
      refine pt_iload eR_take_12 rfl ?_
      refine pt_aload eR_take_13 rfl ?_
      refine pt_get eR_take_14 hR rfl ?_
      refine pt_iload eR_take_17 rfl ?_
      refine pt_iald eR_take_18 h_now (by omega) (by omega) (by decide) ?_
      refine pt_iast eR_take_19 h_tried (by omega) (by omega) (by decide) ?_
      refine pt_gen ?_
      intro hp1 ev1
      have hR := pg_n ev1 (by omega) hR
      have h_now := pg_n ev1 (by omega) h_now
      have h_tried := pg_s ev1
      refine pt_inc1 eR_take_20 rfl ?_
      refine pt_goto eR_take_23 ?_
      have hfin : hp1 = (va_up hp (193) (ia 90 (blk τ σ 0 (i + 1)))) := by
        rw [ev1, he0]
        rw [bx_uu, show uI (blk τ σ 0 i) i (σ i) = blk τ σ 0 (i + 1) by have := blk_s (f := τ) (g := σ) (a := 0) (n := i) hi0; rwa [Int.zero_add] at this]
      exact ih (i + 1)  _ (by omega) (by omega) hfin 
theorem cR_take (G : pd_G) (sz : Nat) (hp : pd_P) {v : Nat → Int} {σ τ : Int → Int} (hR : hp 178 = RO v) (h_now : hp 188 = ia 90 σ) (h_tried : hp 193 = ia 90 τ) : pd_c G mR_take 0 [vr 178] sz hp (fun v' sz' hp' => v' = none ∧ sz' = sz ∧ hp' = va_up hp 193 (ia 90 σ)) := by
  refine pd_con kR_take [some (vr 178), none] rfl rfl (Nat.le_of_ble_eq_true rfl) ?_
  refine pt_ic eR_take_0 ?_
  refine pt_istore1 eR_take_1 rfl ?_
  refine lR_take G sz hp (τ := τ) hR h_now (fun hp0 he0 => ?_) 90 0 hp (by omega) (by omega) (by rw [blk_0]; exact pu_self h_tried)
  refine pt_ext (pg_s he0) (g := σ) (fun i h1 h2 => by rw [blk_in (by omega) (by omega), Int.sub_zero]) ?_
  rw [he0, bx_uu]
  refine pt_vret eR_take_26 (Nat.le_refl _) (Nat.le_refl _) ?_
  exact ⟨rfl, rfl, rfl⟩
def rr (us br ms σ : Int → Int) (g : Int) : Int := rsf (σ (2 + g)) (br (4 * σ 0 + g)) (ms (4 * σ 0 + g)) (us g)
def psf (us br ms σ : Int → Int) (n : Int) : Int → Int := fun i => if 2 ≤ i ∧ i < 2 + n then max 0 (rr us br ms σ (i - 2)) else if 6 ≤ i ∧ i < 6 + n then σ i + (if rr us br ms σ (i - 6) < 0 then 1 else 0) else σ i
def hnf (us br ms σ : Int → Int) : Nat → Int
  | 0 => 0
  | n + 1 => hnf us br ms σ n + (if rr us br ms σ n < 0 then 1 else 0)
def passf (us br ms σ : Int → Int) (gd : Int) : Int → Int := uI (psf us br ms σ gd) 0 (σ 0 + 1)
theorem psf_t {us br ms σ : Int → Int} {n : Int} (h : n < 4) : psf us br ms σ n (2 + n) = σ (2 + n) := by unfold psf; rw [if_neg (by omega), if_neg (by omega)]
theorem psf_0 {us br ms σ : Int → Int} {n : Int} : psf us br ms σ n 0 = σ 0 := by unfold psf; rw [if_neg (by omega), if_neg (by omega)]
theorem psf_1 {us br ms σ : Int → Int} {n : Int} : psf us br ms σ n 1 = σ 1 := by unfold psf; rw [if_neg (by omega), if_neg (by omega)]
theorem psf_l {us br ms σ : Int → Int} {n : Int} (h : 0 ≤ n) : psf us br ms σ n (6 + n) = σ (6 + n) ∨ ¬ n ≤ 4 := by
  by_cases hn : n ≤ 4
  · left; unfold psf; rw [if_neg (by omega), if_neg (by omega)]
  · exact Or.inr hn
theorem psf_l2 {us br ms σ : Int → Int} {n : Int} (h : 0 ≤ n) (h2 : n < 4) : psf us br ms σ n (6 + n) = σ (6 + n) := by
  rcases psf_l (us := us) (br := br) (ms := ms) (σ := σ) h with h3 | h3
  · exact h3
  · omega
theorem psf_n0 (us br ms σ : Int → Int) : psf us br ms σ 0 = σ := by
  funext i; unfold psf; rw [if_neg (by omega), if_neg (by omega)]
theorem psf_s1 {us br ms σ : Int → Int} {n : Int} (h0 : 0 ≤ n) (h4 : n < 4) (h : rr us br ms σ n < 0) : uI (uI (psf us br ms σ n) (6 + n) (σ (6 + n) + 1)) (2 + n) 0 = psf us br ms σ (n + 1) := by
  funext i
  unfold uI psf
  by_cases h1 : i = 2 + n
  · subst h1
    rw [if_pos rfl, if_pos (by omega), show 2 + n - 2 = n by omega]
    omega
  · rw [if_neg h1]
    by_cases h2 : i = 6 + n
    · subst h2
      rw [if_pos rfl, if_neg (by omega), if_pos (by omega), show 6 + n - 6 = n by omega, if_pos h]
    · rw [if_neg h2]
      by_cases h3 : 2 ≤ i ∧ i < 2 + n
      · rw [if_pos h3, if_pos (by omega)]
      · rw [if_neg h3, if_neg (show ¬ (2 ≤ i ∧ i < 2 + (n + 1)) by omega)]
        by_cases h5 : 6 ≤ i ∧ i < 6 + n
        · rw [if_pos h5, if_pos (show 6 ≤ i ∧ i < 6 + (n + 1) by omega)]
        · rw [if_neg h5, if_neg (show ¬ (6 ≤ i ∧ i < 6 + (n + 1)) by omega)]
theorem psf_s2 {us br ms σ : Int → Int} {n z : Int} (h0 : 0 ≤ n) (h4 : n < 4) (h : ¬ rr us br ms σ n < 0) (hz : z = rr us br ms σ n) : uI (psf us br ms σ n) (2 + n) z = psf us br ms σ (n + 1) := by
  funext i
  unfold uI psf
  by_cases h1 : i = 2 + n
  · subst h1
    rw [if_pos rfl, if_pos (by omega), show 2 + n - 2 = n by omega]
    omega
  · rw [if_neg h1]
    by_cases h3 : 2 ≤ i ∧ i < 2 + n
    · rw [if_pos h3, if_pos (by omega)]
    · rw [if_neg h3, if_neg (show ¬ (2 ≤ i ∧ i < 2 + (n + 1)) by omega)]
      by_cases h5 : 6 ≤ i ∧ i < 6 + n
      · rw [if_pos h5, if_pos (show 6 ≤ i ∧ i < 6 + (n + 1) by omega)]
      · rw [if_neg h5]
        by_cases h2 : i = 6 + n
        · subst h2
          rw [if_pos (by omega), show 6 + n - 6 = n by omega, if_neg h, Int.add_zero]
        · rw [if_neg (by omega)]
theorem hnf_y {us br ms σ : Int → Int} {i : Int} (h0 : 0 ≤ i) (h : rr us br ms σ i < 0) : hnf us br ms σ i.toNat + 1 = hnf us br ms σ (i + 1).toNat := by
  rw [show (i + 1).toNat = i.toNat + 1 by omega, hnf, Int.toNat_of_nonneg h0, if_pos h]
theorem hnf_n {us br ms σ : Int → Int} {i : Int} (h0 : 0 ≤ i) (h : ¬ rr us br ms σ i < 0) : hnf us br ms σ i.toNat = hnf us br ms σ (i + 1).toNat := by
  rw [show (i + 1).toNat = i.toNat + 1 by omega, hnf, Int.toNat_of_nonneg h0, if_neg h, Int.add_zero]
def okB (br : Int → Int) : Prop := ∀ k, 0 ≤ k → k < 80 → 0 ≤ br k ∧ br k ≤ 30
def okU (gd : Int) (us : Int → Int) : Prop := ∀ k, 0 ≤ k → k < gd → 0 ≤ us k ∧ us k ≤ 9
def okT (σ : Int → Int) : Prop := ∀ g, 0 ≤ g → g < 4 → 0 ≤ σ (2 + g) ∧ σ (2 + g) ≤ 999
def okS (ms σ : Int → Int) : Prop := 0 ≤ σ 0 ∧ σ 0 ≤ 20 ∧ (σ 1 = 0 ∨ σ 1 = 1) ∧ okT σ ∧ ∀ k, 0 ≤ k → k < 80 → 0 ≤ σ (10 + k) ∧ σ (10 + k) ≤ ms k
theorem lR_passOn (G : pd_G) (sz : Nat) (hp : pd_P) {v : Nat → Int} {gf br ms us σ : Int → Int} {A : Nat} (hAA : A = 188 ∨ A = 193) (hR : hp 178 = RO v) (h_goods : hp 181 = ia 2 gf) (h_brought : hp 186 = ia 160 br) (h_missed : hp 187 = ia 160 ms) (h_use : hp 183 = ia 8 us) (hg0 : 0 ≤ gf 0) (hg4 : gf 0 ≤ 4) (hb : okB br) (hm : okB ms) (hu : okU (gf 0) us) (hT : okT σ) (hd0 : 0 ≤ σ 0) (hd1 : σ 0 < 20) {R : pd_R} (hx : ∀ (l4 : Option pv) (hp0 : pd_P), hp0 = (va_up hp (A) (ia 90 (psf us br ms σ (gf 0)))) → pd_t G mR_passOn 1 R 110 [some (vr 178), some (vr A), some (vi (hnf us br ms σ (gf 0).toNat)), some (vi (gf 0)), l4] [] sz hp0) : ∀ (n : Nat) (i : Int) (l4 : Option pv) (hp0 : pd_P), 0 ≤ i → i + n = gf 0 → hp0 = (va_up hp (A) (ia 90 (psf us br ms σ (i)))) → pd_t G mR_passOn 1 R 4 [some (vr 178), some (vr A), some (vi (hnf us br ms σ (i).toNat)), some (vi (i)), l4] [] sz hp0 := by
  intro n
  induction n with
  | zero =>
    intro i l4 hp0 hi0 hiE he0
    have hiE2 : gf 0 = i := by omega
    subst hiE2
    have hx2 := hx l4 hp0 he0
    have hR := pg_n he0 (by omega) hR
    have h_goods := pg_n he0 (by omega) h_goods
    have h_brought := pg_n he0 (by omega) h_brought
    have h_missed := pg_n he0 (by omega) h_missed
    have h_use := pg_n he0 (by omega) h_use
    have h_A := pg_s he0
    refine pt_iload eR_passOn_4 rfl ?_
    refine pt_aload eR_passOn_5 rfl ?_
    refine pt_get eR_passOn_6 hR rfl ?_
    refine pt_ic eR_passOn_9 ?_
    refine pt_iald eR_passOn_10 h_goods (by omega) (by omega) (by decide) ?_
    refine pt_cge eR_passOn_11 ⟨by omega, by omega⟩ ⟨by omega, by omega⟩ (fun c11 => ?_) (fun c11 => ?_)
    · exact hx2
    · exfalso; omega
  | succ n ih =>
    intro i l4 hp0 hi0 hiE he0
    have hR := pg_n he0 (by omega) hR
    have h_goods := pg_n he0 (by omega) h_goods
    have h_brought := pg_n he0 (by omega) h_brought
    have h_missed := pg_n he0 (by omega) h_missed
    have h_use := pg_n he0 (by omega) h_use
    have h_A := pg_s he0
    refine pt_iload eR_passOn_4 rfl ?_
    refine pt_aload eR_passOn_5 rfl ?_
    refine pt_get eR_passOn_6 hR rfl ?_
    refine pt_ic eR_passOn_9 ?_
    refine pt_iald eR_passOn_10 h_goods (by omega) (by omega) (by decide) ?_
    refine pt_cge eR_passOn_11 ⟨by omega, by omega⟩ ⟨by omega, by omega⟩ (fun c11 => ?_) (fun c11 => ?_)
    · exfalso; omega
    · have hb1 := hb (4 * σ 0 + i) (by omega) (by omega)
      have hm1 := hm (4 * σ 0 + i) (by omega) (by omega)
      have hu1 := hu i (by omega) (by omega)
      have hT1 := hT i (by omega) (by omega)
      have hrr : rr us br ms σ i = max 0 (min (σ (2 + i) + br (4 * σ 0 + i)) 999 - ms (4 * σ 0 + i)) - us i := rfl
      refine pt_aload eR_passOn_14 rfl ?_
      refine pt_ic eR_passOn_15 ?_
      refine pt_iload eR_passOn_16 rfl ?_
      refine pt_iadd eR_passOn_17 ?_
      refine pt_iald eR_passOn_18 h_A (by omega) (by omega) (by decide) ?_
      rw [psf_t (by omega)]
      refine pt_aload eR_passOn_19 rfl ?_
      refine pt_get eR_passOn_20 hR rfl ?_
      refine pt_ic eR_passOn_23 ?_
      refine pt_aload eR_passOn_24 rfl ?_
      refine pt_ic eR_passOn_25 ?_
      refine pt_iald eR_passOn_26 h_A (by omega) (by omega) (by decide) ?_
      rw [psf_0]
      refine pt_imul eR_passOn_27 ?_
      refine pt_iload eR_passOn_28 rfl ?_
      refine pt_iadd eR_passOn_29 ?_
      refine pt_iald eR_passOn_30 h_brought (by omega) (by omega) (by decide) ?_
      refine pt_iadd eR_passOn_31 ?_
      refine pt_ks1r eR_passOn_32 (cR_atMost G sz _ ⟨by omega, by omega⟩) (Nat.le_of_ble_eq_true rfl) (by decide) (Nat.le_refl _) (Nat.le_refl _) ?_
      refine pt_aload eR_passOn_35 rfl ?_
      refine pt_get eR_passOn_36 hR rfl ?_
      refine pt_ic eR_passOn_39 ?_
      refine pt_aload eR_passOn_40 rfl ?_
      refine pt_ic eR_passOn_41 ?_
      refine pt_iald eR_passOn_42 h_A (by omega) (by omega) (by decide) ?_
      rw [psf_0]
      refine pt_imul eR_passOn_43 ?_
      refine pt_iload eR_passOn_44 rfl ?_
      refine pt_iadd eR_passOn_45 ?_
      refine pt_iald eR_passOn_46 h_missed (by omega) (by omega) (by decide) ?_
      refine pt_isub eR_passOn_47 ?_
      refine pt_istore4 eR_passOn_48 rfl ?_
      refine pt_iload eR_passOn_50 rfl ?_
      refine pt_zge eR_passOn_52 ⟨by omega, by omega⟩ (fun c52 => ?_) (fun c52 => ?_)
      · refine pt_iload eR_passOn_59 rfl ?_
        refine pt_aload eR_passOn_61 rfl ?_
        refine pt_get eR_passOn_62 hR rfl ?_
        refine pt_iload eR_passOn_65 rfl ?_
        refine pt_iald eR_passOn_66 h_use (by omega) (by omega) (by decide) ?_
        refine pt_isub eR_passOn_67 ?_
        refine pt_istore4 eR_passOn_68 rfl ?_
        refine pt_iload eR_passOn_70 rfl ?_
        refine pt_zge eR_passOn_72 ⟨by omega, by omega⟩ (fun c72 => ?_) (fun c72 => ?_)
        · refine pt_aload eR_passOn_88 rfl ?_
          refine pt_ic eR_passOn_89 ?_
          refine pt_iload eR_passOn_90 rfl ?_
          refine pt_iadd eR_passOn_91 ?_
          refine pt_iload eR_passOn_92 rfl ?_
          refine pt_zge eR_passOn_94 ⟨by omega, by omega⟩ (fun c94 => ?_) (fun c94 => ?_)
          · refine pt_iload eR_passOn_101 rfl ?_
            refine pt_iast eR_passOn_103 h_A (by omega) (by omega) (by decide) ?_
            refine pt_gen ?_
            intro hp1 ev1
            have hR := pg_n ev1 (by omega) hR
            have h_goods := pg_n ev1 (by omega) h_goods
            have h_brought := pg_n ev1 (by omega) h_brought
            have h_missed := pg_n ev1 (by omega) h_missed
            have h_use := pg_n ev1 (by omega) h_use
            have h_A := pg_s ev1
            refine pt_inc3 eR_passOn_104 rfl ?_
            refine pt_goto eR_passOn_107 ?_
            have hfin : hp1 = (va_up hp (A) (ia 90 (psf us br ms σ ((i + 1))))) := by
              rw [ev1, he0]
              first | (exfalso; omega) | (rw [bx_uu, bx_uu, psf_s1 (by omega) (by omega) (by omega)]; done) | (rw [bx_uu, psf_s2 (by omega) (by omega) (by omega) (by omega)]; done)
            first | rw [hnf_y hi0 (by omega)] | rw [hnf_n hi0 (by omega)]
            exact ih (i + 1) _ _ (by omega) (by omega) hfin 
          · refine pt_ic eR_passOn_97 ?_
            refine pt_goto eR_passOn_98 ?_
            refine pt_iast eR_passOn_103 h_A (by omega) (by omega) (by decide) ?_
            refine pt_gen ?_
            intro hp2 ev2
            have hR := pg_n ev2 (by omega) hR
            have h_goods := pg_n ev2 (by omega) h_goods
            have h_brought := pg_n ev2 (by omega) h_brought
            have h_missed := pg_n ev2 (by omega) h_missed
            have h_use := pg_n ev2 (by omega) h_use
            have h_A := pg_s ev2
            refine pt_inc3 eR_passOn_104 rfl ?_
            refine pt_goto eR_passOn_107 ?_
            have hfin : hp2 = (va_up hp (A) (ia 90 (psf us br ms σ ((i + 1))))) := by
              rw [ev2, he0]
              first | (exfalso; omega) | (rw [bx_uu, bx_uu, psf_s1 (by omega) (by omega) (by omega)]; done) | (rw [bx_uu, psf_s2 (by omega) (by omega) (by omega) (by omega)]; done)
            first | rw [hnf_y hi0 (by omega)] | rw [hnf_n hi0 (by omega)]
            exact ih (i + 1) _ _ (by omega) (by omega) hfin 
        · refine pt_aload eR_passOn_75 rfl ?_
          refine pt_ic eR_passOn_76 ?_
          refine pt_iload eR_passOn_78 rfl ?_
          refine pt_iadd eR_passOn_79 ?_
          refine pt_dup2 eR_passOn_80 ?_
          refine pt_iald eR_passOn_81 h_A (by omega) (by omega) (by decide) ?_
          rw [psf_l2 (by omega) (by omega)]
          refine pt_ic eR_passOn_82 ?_
          refine pt_iadd eR_passOn_83 ?_
          refine pt_iast eR_passOn_84 h_A (by omega) (by omega) (by decide) ?_
          refine pt_gen ?_
          intro hp3 ev3
          have hR := pg_n ev3 (by omega) hR
          have h_goods := pg_n ev3 (by omega) h_goods
          have h_brought := pg_n ev3 (by omega) h_brought
          have h_missed := pg_n ev3 (by omega) h_missed
          have h_use := pg_n ev3 (by omega) h_use
          have h_A := pg_s ev3
          refine pt_inc2 eR_passOn_85 rfl ?_
          refine pt_aload eR_passOn_88 rfl ?_
          refine pt_ic eR_passOn_89 ?_
          refine pt_iload eR_passOn_90 rfl ?_
          refine pt_iadd eR_passOn_91 ?_
          refine pt_iload eR_passOn_92 rfl ?_
          refine pt_zge eR_passOn_94 ⟨by omega, by omega⟩ (fun c94 => ?_) (fun c94 => ?_)
          · refine pt_iload eR_passOn_101 rfl ?_
            refine pt_iast eR_passOn_103 h_A (by omega) (by omega) (by decide) ?_
            refine pt_gen ?_
            intro hp4 ev4
            have hR := pg_n ev4 (by omega) hR
            have h_goods := pg_n ev4 (by omega) h_goods
            have h_brought := pg_n ev4 (by omega) h_brought
            have h_missed := pg_n ev4 (by omega) h_missed
            have h_use := pg_n ev4 (by omega) h_use
            have h_A := pg_s ev4
            refine pt_inc3 eR_passOn_104 rfl ?_
            refine pt_goto eR_passOn_107 ?_
            have hfin : hp4 = (va_up hp (A) (ia 90 (psf us br ms σ ((i + 1))))) := by
              rw [ev4, ev3, he0]
              first | (exfalso; omega) | (rw [bx_uu, bx_uu, psf_s1 (by omega) (by omega) (by omega)]; done) | (rw [bx_uu, psf_s2 (by omega) (by omega) (by omega) (by omega)]; done)
            first | rw [hnf_y hi0 (by omega)] | rw [hnf_n hi0 (by omega)]
            exact ih (i + 1) _ _ (by omega) (by omega) hfin 
          · refine pt_ic eR_passOn_97 ?_
            refine pt_goto eR_passOn_98 ?_
            refine pt_iast eR_passOn_103 h_A (by omega) (by omega) (by decide) ?_
            refine pt_gen ?_
            intro hp5 ev5
            have hR := pg_n ev5 (by omega) hR
            have h_goods := pg_n ev5 (by omega) h_goods
            have h_brought := pg_n ev5 (by omega) h_brought
            have h_missed := pg_n ev5 (by omega) h_missed
            have h_use := pg_n ev5 (by omega) h_use
            have h_A := pg_s ev5
            refine pt_inc3 eR_passOn_104 rfl ?_
            refine pt_goto eR_passOn_107 ?_
            have hfin : hp5 = (va_up hp (A) (ia 90 (psf us br ms σ ((i + 1))))) := by
              rw [ev5, ev3, he0]
              first | (exfalso; omega) | (rw [bx_uu, bx_uu, psf_s1 (by omega) (by omega) (by omega)]; done) | (rw [bx_uu, psf_s2 (by omega) (by omega) (by omega) (by omega)]; done)
            first | rw [hnf_y hi0 (by omega)] | rw [hnf_n hi0 (by omega)]
            exact ih (i + 1) _ _ (by omega) (by omega) hfin 
      · refine pt_ic eR_passOn_55 ?_
        refine pt_goto eR_passOn_56 ?_
        refine pt_aload eR_passOn_61 rfl ?_
        refine pt_get eR_passOn_62 hR rfl ?_
        refine pt_iload eR_passOn_65 rfl ?_
        refine pt_iald eR_passOn_66 h_use (by omega) (by omega) (by decide) ?_
        refine pt_isub eR_passOn_67 ?_
        refine pt_istore4 eR_passOn_68 rfl ?_
        refine pt_iload eR_passOn_70 rfl ?_
        refine pt_zge eR_passOn_72 ⟨by omega, by omega⟩ (fun c72 => ?_) (fun c72 => ?_)
        · refine pt_aload eR_passOn_88 rfl ?_
          refine pt_ic eR_passOn_89 ?_
          refine pt_iload eR_passOn_90 rfl ?_
          refine pt_iadd eR_passOn_91 ?_
          refine pt_iload eR_passOn_92 rfl ?_
          refine pt_zge eR_passOn_94 ⟨by omega, by omega⟩ (fun c94 => ?_) (fun c94 => ?_)
          · refine pt_iload eR_passOn_101 rfl ?_
            refine pt_iast eR_passOn_103 h_A (by omega) (by omega) (by decide) ?_
            refine pt_gen ?_
            intro hp6 ev6
            have hR := pg_n ev6 (by omega) hR
            have h_goods := pg_n ev6 (by omega) h_goods
            have h_brought := pg_n ev6 (by omega) h_brought
            have h_missed := pg_n ev6 (by omega) h_missed
            have h_use := pg_n ev6 (by omega) h_use
            have h_A := pg_s ev6
            refine pt_inc3 eR_passOn_104 rfl ?_
            refine pt_goto eR_passOn_107 ?_
            have hfin : hp6 = (va_up hp (A) (ia 90 (psf us br ms σ ((i + 1))))) := by
              rw [ev6, he0]
              first | (exfalso; omega) | (rw [bx_uu, bx_uu, psf_s1 (by omega) (by omega) (by omega)]; done) | (rw [bx_uu, psf_s2 (by omega) (by omega) (by omega) (by omega)]; done)
            first | rw [hnf_y hi0 (by omega)] | rw [hnf_n hi0 (by omega)]
            exact ih (i + 1) _ _ (by omega) (by omega) hfin 
          · refine pt_ic eR_passOn_97 ?_
            refine pt_goto eR_passOn_98 ?_
            refine pt_iast eR_passOn_103 h_A (by omega) (by omega) (by decide) ?_
            refine pt_gen ?_
            intro hp7 ev7
            have hR := pg_n ev7 (by omega) hR
            have h_goods := pg_n ev7 (by omega) h_goods
            have h_brought := pg_n ev7 (by omega) h_brought
            have h_missed := pg_n ev7 (by omega) h_missed
            have h_use := pg_n ev7 (by omega) h_use
            have h_A := pg_s ev7
            refine pt_inc3 eR_passOn_104 rfl ?_
            refine pt_goto eR_passOn_107 ?_
            have hfin : hp7 = (va_up hp (A) (ia 90 (psf us br ms σ ((i + 1))))) := by
              rw [ev7, he0]
              first | (exfalso; omega) | (rw [bx_uu, bx_uu, psf_s1 (by omega) (by omega) (by omega)]; done) | (rw [bx_uu, psf_s2 (by omega) (by omega) (by omega) (by omega)]; done)
            first | rw [hnf_y hi0 (by omega)] | rw [hnf_n hi0 (by omega)]
            exact ih (i + 1) _ _ (by omega) (by omega) hfin 
        · refine pt_aload eR_passOn_75 rfl ?_
          refine pt_ic eR_passOn_76 ?_
          refine pt_iload eR_passOn_78 rfl ?_
          refine pt_iadd eR_passOn_79 ?_
          refine pt_dup2 eR_passOn_80 ?_
          refine pt_iald eR_passOn_81 h_A (by omega) (by omega) (by decide) ?_
          rw [psf_l2 (by omega) (by omega)]
          refine pt_ic eR_passOn_82 ?_
          refine pt_iadd eR_passOn_83 ?_
          refine pt_iast eR_passOn_84 h_A (by omega) (by omega) (by decide) ?_
          refine pt_gen ?_
          intro hp8 ev8
          have hR := pg_n ev8 (by omega) hR
          have h_goods := pg_n ev8 (by omega) h_goods
          have h_brought := pg_n ev8 (by omega) h_brought
          have h_missed := pg_n ev8 (by omega) h_missed
          have h_use := pg_n ev8 (by omega) h_use
          have h_A := pg_s ev8
          refine pt_inc2 eR_passOn_85 rfl ?_
          refine pt_aload eR_passOn_88 rfl ?_
          refine pt_ic eR_passOn_89 ?_
          refine pt_iload eR_passOn_90 rfl ?_
          refine pt_iadd eR_passOn_91 ?_
          refine pt_iload eR_passOn_92 rfl ?_
          refine pt_zge eR_passOn_94 ⟨by omega, by omega⟩ (fun c94 => ?_) (fun c94 => ?_)
          · refine pt_iload eR_passOn_101 rfl ?_
            refine pt_iast eR_passOn_103 h_A (by omega) (by omega) (by decide) ?_
            refine pt_gen ?_
            intro hp9 ev9
            have hR := pg_n ev9 (by omega) hR
            have h_goods := pg_n ev9 (by omega) h_goods
            have h_brought := pg_n ev9 (by omega) h_brought
            have h_missed := pg_n ev9 (by omega) h_missed
            have h_use := pg_n ev9 (by omega) h_use
            have h_A := pg_s ev9
            refine pt_inc3 eR_passOn_104 rfl ?_
            refine pt_goto eR_passOn_107 ?_
            have hfin : hp9 = (va_up hp (A) (ia 90 (psf us br ms σ ((i + 1))))) := by
              rw [ev9, ev8, he0]
              first | (exfalso; omega) | (rw [bx_uu, bx_uu, psf_s1 (by omega) (by omega) (by omega)]; done) | (rw [bx_uu, psf_s2 (by omega) (by omega) (by omega) (by omega)]; done)
            first | rw [hnf_y hi0 (by omega)] | rw [hnf_n hi0 (by omega)]
            exact ih (i + 1) _ _ (by omega) (by omega) hfin 
          · refine pt_ic eR_passOn_97 ?_
            refine pt_goto eR_passOn_98 ?_
            refine pt_iast eR_passOn_103 h_A (by omega) (by omega) (by decide) ?_
            refine pt_gen ?_
            intro hp10 ev10
            have hR := pg_n ev10 (by omega) hR
            have h_goods := pg_n ev10 (by omega) h_goods
            have h_brought := pg_n ev10 (by omega) h_brought
            have h_missed := pg_n ev10 (by omega) h_missed
            have h_use := pg_n ev10 (by omega) h_use
            have h_A := pg_s ev10
            refine pt_inc3 eR_passOn_104 rfl ?_
            refine pt_goto eR_passOn_107 ?_
            have hfin : hp10 = (va_up hp (A) (ia 90 (psf us br ms σ ((i + 1))))) := by
              rw [ev10, ev8, he0]
              first | (exfalso; omega) | (rw [bx_uu, bx_uu, psf_s1 (by omega) (by omega) (by omega)]; done) | (rw [bx_uu, psf_s2 (by omega) (by omega) (by omega) (by omega)]; done)
            first | rw [hnf_y hi0 (by omega)] | rw [hnf_n hi0 (by omega)]
            exact ih (i + 1) _ _ (by omega) (by omega) hfin 
theorem cR_passOn (G : pd_G) (sz : Nat) (hp : pd_P) {v : Nat → Int} {gf br ms us σ : Int → Int} {A : Nat} (hAA : A = 188 ∨ A = 193) (hR : hp 178 = RO v) (h_goods : hp 181 = ia 2 gf) (h_brought : hp 186 = ia 160 br) (h_missed : hp 187 = ia 160 ms) (h_use : hp 183 = ia 8 us) (hg0 : 0 ≤ gf 0) (hg4 : gf 0 ≤ 4) (hb : okB br) (hm : okB ms) (hu : okU (gf 0) us) (hT : okT σ) (hd0 : 0 ≤ σ 0) (hd1 : σ 0 < 20) (h_A : hp A = ia 90 σ) : pd_c G mR_passOn 1 [vr 178, vr A] sz hp (fun v' sz' hp' => v' = some (vi (hnf us br ms σ (gf 0).toNat)) ∧ sz' = sz ∧ hp' = va_up hp A (ia 90 (passf us br ms σ (gf 0)))) := by
  refine pd_con kR_passOn [some (vr 178), some (vr A), none, none, none] rfl rfl (Nat.le_of_ble_eq_true rfl) ?_
  refine pt_ic eR_passOn_0 ?_
  refine pt_istore2 eR_passOn_1 rfl ?_
  refine pt_ic eR_passOn_2 ?_
  refine pt_istore3 eR_passOn_3 rfl ?_
  refine lR_passOn G sz hp hAA hR h_goods h_brought h_missed h_use hg0 hg4 hb hm hu hT hd0 hd1 (fun l4 hp0 he0 => ?_) (gf 0).toNat 0 none hp (by omega) (by omega) (by rw [psf_n0]; exact pu_self h_A)
  have h_A := pg_s he0
  refine pt_aload eR_passOn_110 rfl ?_
  refine pt_ic eR_passOn_111 ?_
  refine pt_dup2 eR_passOn_112 ?_
  refine pt_iald eR_passOn_113 h_A (by omega) (by omega) (by decide) ?_
  refine pt_ic eR_passOn_114 ?_
  refine pt_iadd eR_passOn_115 ?_
  refine pt_iast eR_passOn_116 h_A (by omega) (by omega) (by decide) ?_
  refine pt_gen ?_
  intro hp1 ev1
  have h_A := pg_s ev1
  refine pt_iload eR_passOn_117 rfl ?_
  refine pt_iret eR_passOn_118 (Nat.le_refl _) (Nat.le_refl _) ?_
  exact ⟨rfl, rfl, by rw [ev1, he0, bx_uu, psf_0]; rfl⟩
end
section
/-! takings, what is remembered -/
def tkf (ev bk : Int) (σ : Int → Int) (g n : Int) : Int → Int := uI (uI σ (10 + 4 * opf ev bk σ + g) (σ (10 + 4 * opf ev bk σ + g) + n)) (2 + g) (min (σ (2 + g) + n) 999)
def kbf (bf σ : Int → Int) (k : Int) : Int → Int := if k = 10 then blk (blk bf (fun j => bf (90 + j)) 0 810) σ 810 90 else blk bf σ (90 * k) 90
def knf (k : Int) : Int := if k = 10 then 10 else k + 1
theorem uI_uI {α : Type} (f : Int → α) (z : Int) (x y : α) : uI (uI f z x) z y = uI f z y := by
  funext i; unfold uI; split <;> rfl
theorem cR_takeOf (G : pd_G) (sz : Nat) (hp : pd_P) {v : Nat → Int} {df σ : Int → Int} {A : Nat} {g n : Int} (hAA : A = 188 ∨ A = 193) (hR : hp 178 = RO v) (h_door : hp 180 = ia 4 df) (h_A : hp A = ia 90 σ) (h1 : 1 ≤ df 0) (h2 : df 0 ≤ 9) (h3 : 1 ≤ df 1) (h4 : df 1 ≤ 9) (h5 : 0 ≤ σ 0) (h6 : σ 0 ≤ 20) (h7 : σ 1 = 0 ∨ σ 1 = 1) (hop : ¬ opf (df 0) (df 1) σ = -9) (h8 : 0 ≤ g) (h9 : g < 4) (h10 : 0 ≤ n) (h11 : n ≤ 30) (h12 : 0 ≤ σ (2 + g)) (h13 : σ (2 + g) ≤ 999) : pd_c G mR_takeOf 3 [vr 178, vr A, vi g, vi n] sz hp (fun v' sz' hp' => v' = none ∧ sz' = sz ∧ hp' = va_up hp A (ia 90 (tkf (df 0) (df 1) σ g n))) := by
  refine pd_con kR_takeOf [some (vr 178), some (vr A), some (vi g), some (vi n)] rfl rfl (Nat.le_of_ble_eq_true rfl) ?_
  have ho := opf_r (ev := df 0) (bk := df 1) (σ := σ) h3 h5
  refine pt_aload eR_takeOf_0 rfl ?_
  refine pt_ic eR_takeOf_1 ?_
  refine pt_ic eR_takeOf_3 ?_
  refine pt_aload eR_takeOf_4 rfl ?_
  refine pt_aload eR_takeOf_5 rfl ?_
  refine pt_kv1r eR_takeOf_6 (cR_opens G sz _ hR h_door h_A h1 h2 h3 h4 h5 h6 h7) hR rfl (Nat.le_of_ble_eq_true rfl) (by decide) (Nat.le_refl _) (Nat.le_refl _) ?_
  refine pt_imul eR_takeOf_9 ?_
  refine pt_iadd eR_takeOf_10 ?_
  refine pt_iload eR_takeOf_11 rfl ?_
  refine pt_iadd eR_takeOf_12 ?_
  refine pt_dup2 eR_takeOf_13 ?_
  refine pt_iald eR_takeOf_14 h_A (by omega) (by omega) (by decide) ?_
  refine pt_iload eR_takeOf_15 rfl ?_
  refine pt_iadd eR_takeOf_16 ?_
  refine pt_iast eR_takeOf_17 h_A (by omega) (by omega) (by decide) ?_
  refine pt_gen ?_
  intro hp1 ev1
  have hR := pg_n ev1 (by omega) hR
  have h_door := pg_n ev1 (by omega) h_door
  have h_A := pg_s ev1
  refine pt_aload eR_takeOf_18 rfl ?_
  refine pt_ic eR_takeOf_19 ?_
  refine pt_iload eR_takeOf_20 rfl ?_
  refine pt_iadd eR_takeOf_21 ?_
  refine pt_aload eR_takeOf_22 rfl ?_
  refine pt_ic eR_takeOf_23 ?_
  refine pt_iload eR_takeOf_24 rfl ?_
  refine pt_iadd eR_takeOf_25 ?_
  refine pt_iald eR_takeOf_26 h_A (by omega) (by omega) (by decide) ?_
  rw [uI_n _ _ (by omega)]
  refine pt_iload eR_takeOf_27 rfl ?_
  refine pt_iadd eR_takeOf_28 ?_
  refine pt_ks1r eR_takeOf_29 (cR_atMost G sz _ ⟨by omega, by omega⟩) (Nat.le_of_ble_eq_true rfl) (by decide) (Nat.le_refl _) (Nat.le_refl _) ?_
  refine pt_iast eR_takeOf_32 h_A (by omega) (by omega) (by decide) ?_
  refine pt_gen ?_
  intro hp2 ev2
  have hR := pg_n ev2 (by omega) hR
  have h_door := pg_n ev2 (by omega) h_door
  have h_A := pg_s ev2
  refine pt_vret eR_takeOf_33 (Nat.le_refl _) (Nat.le_refl _) ?_
  exact ⟨rfl, rfl, by rw [ev2, ev1, bx_uu]; rfl⟩
theorem lR_know1 (G : pd_G) (sz : Nat) (hp : pd_P) {v : Nat → Int} {bf : Int → Int} (hR : hp 178 = RO v) {R : pd_R} (hx : ∀  (hp0 : pd_P), hp0 = (va_up hp (190) (ia 2700 (blk bf (fun j => bf (90 + j)) 0 (810)))) → pd_t G mR_know 0 R 41 [some (vr 178), some (vi 810)] [] sz hp0) : ∀ (n : Nat) (i : Int)  (hp0 : pd_P), 0 ≤ i → i + n = 810 → hp0 = (va_up hp (190) (ia 2700 (blk bf (fun j => bf (90 + j)) 0 (i)))) → pd_t G mR_know 0 R 13 [some (vr 178), some (vi i)] [] sz hp0 := by
  intro n
  induction n with
  | zero =>
    intro i  hp0 hi0 hiE he0
    have hiE2 : 810 = i := by omega
    subst hiE2
    have hx2 := hx  hp0 he0
    have hR := pg_n he0 (by omega) hR
    have h_before := pg_s he0
    refine pt_iload eR_know_13 rfl ?_
    refine pt_ic eR_know_14 ?_
    refine pt_cge eR_know_17 ⟨by omega, by omega⟩ ⟨by omega, by omega⟩ (fun c17 => ?_) (fun c17 => ?_)
    · exact hx2
    · exfalso; omega
  | succ n ih =>
    intro i  hp0 hi0 hiE he0
    have hR := pg_n he0 (by omega) hR
    have h_before := pg_s he0
    refine pt_iload eR_know_13 rfl ?_
    refine pt_ic eR_know_14 ?_
    refine pt_cge eR_know_17 ⟨by omega, by omega⟩ ⟨by omega, by omega⟩ (fun c17 => ?_) (fun c17 => ?_)
    · exfalso; omega
    · refine pt_aload eR_know_20 rfl ?_
      refine pt_get eR_know_21 hR rfl ?_
      refine pt_iload eR_know_24 rfl ?_
      refine pt_aload eR_know_25 rfl ?_
      refine pt_get eR_know_26 hR rfl ?_
      refine pt_ic eR_know_29 ?_
      refine pt_iload eR_know_31 rfl ?_
      refine pt_iadd eR_know_32 ?_
      refine pt_iald eR_know_33 h_before (by omega) (by omega) (by decide) ?_
      rw [blk_out (by omega)]
      refine pt_iast eR_know_34 h_before (by omega) (by omega) (by decide) ?_
      refine pt_gen ?_
      intro hp1 ev1
      have hR := pg_n ev1 (by omega) hR
      have h_before := pg_s ev1
      refine pt_inc1 eR_know_35 rfl ?_
      refine pt_goto eR_know_38 ?_
      have hfin : hp1 = (va_up hp (190) (ia 2700 (blk bf (fun j => bf (90 + j)) 0 ((i + 1))))) := by
        rw [ev1, he0]
        rw [bx_uu, show uI (blk bf (fun j => bf (90 + j)) 0 i) i (bf (90 + i)) = blk bf (fun j => bf (90 + j)) 0 (i + 1) by have := blk_s (f := bf) (g := fun j => bf (90 + j)) (a := 0) (n := i) hi0; rwa [Int.zero_add] at this]
      exact ih (i + 1)  _ (by omega) (by omega) hfin 
theorem lR_know2 (G : pd_G) (sz : Nat) (hp : pd_P) {v : Nat → Int} {bf kn σ : Int → Int} (hR : hp 178 = RO v) (h_known : hp 189 = ia 3 kn) (h_now : hp 188 = ia 90 σ) (hk0 : 0 ≤ kn 0) (hk1 : kn 0 < 10) {R : pd_R} (hx : ∀  (hp0 : pd_P), hp0 = (va_up hp (190) (ia 2700 (blk bf σ (90 * kn 0) (90)))) → pd_t G mR_know 0 R 87 [some (vr 178), some (vi 90)] [] sz hp0) : ∀ (n : Nat) (i : Int)  (hp0 : pd_P), 0 ≤ i → i + n = 90 → hp0 = (va_up hp (190) (ia 2700 (blk bf σ (90 * kn 0) (i)))) → pd_t G mR_know 0 R 53 [some (vr 178), some (vi i)] [] sz hp0 := by
  intro n
  induction n with
  | zero =>
    intro i  hp0 hi0 hiE he0
    have hiE2 : 90 = i := by omega
    subst hiE2
    have hx2 := hx  hp0 he0
    have hR := pg_n he0 (by omega) hR
    have h_before := pg_s he0
    have h_known := pg_n he0 (by omega) h_known
    have h_now := pg_n he0 (by omega) h_now
    refine pt_iload eR_know_53 rfl ?_
    refine pt_ic eR_know_54 ?_
    refine pt_cge eR_know_56 ⟨by omega, by omega⟩ ⟨by omega, by omega⟩ (fun c56 => ?_) (fun c56 => ?_)
    · exact hx2
    · exfalso; omega
  | succ n ih =>
    intro i  hp0 hi0 hiE he0
    have hR := pg_n he0 (by omega) hR
    have h_before := pg_s he0
    have h_known := pg_n he0 (by omega) h_known
    have h_now := pg_n he0 (by omega) h_now
    refine pt_iload eR_know_53 rfl ?_
    refine pt_ic eR_know_54 ?_
    refine pt_cge eR_know_56 ⟨by omega, by omega⟩ ⟨by omega, by omega⟩ (fun c56 => ?_) (fun c56 => ?_)
    · exfalso; omega
    · refine pt_aload eR_know_59 rfl ?_
      refine pt_get eR_know_60 hR rfl ?_
      refine pt_ic eR_know_63 ?_
      refine pt_aload eR_know_65 rfl ?_
      refine pt_get eR_know_66 hR rfl ?_
      refine pt_ic eR_know_69 ?_
      refine pt_iald eR_know_70 h_known (by omega) (by omega) (by decide) ?_
      refine pt_imul eR_know_71 ?_
      refine pt_iload eR_know_72 rfl ?_
      refine pt_iadd eR_know_73 ?_
      refine pt_aload eR_know_74 rfl ?_
      refine pt_get eR_know_75 hR rfl ?_
      refine pt_iload eR_know_78 rfl ?_
      refine pt_iald eR_know_79 h_now (by omega) (by omega) (by decide) ?_
      refine pt_iast eR_know_80 h_before (by omega) (by omega) (by decide) ?_
      refine pt_gen ?_
      intro hp1 ev1
      have hR := pg_n ev1 (by omega) hR
      have h_before := pg_s ev1
      have h_known := pg_n ev1 (by omega) h_known
      have h_now := pg_n ev1 (by omega) h_now
      refine pt_inc1 eR_know_81 rfl ?_
      refine pt_goto eR_know_84 ?_
      have hfin : hp1 = (va_up hp (190) (ia 2700 (blk bf σ (90 * kn 0) ((i + 1))))) := by
        rw [ev1, he0]
        rw [bx_uu, blk_s hi0]
      exact ih (i + 1)  _ (by omega) (by omega) hfin 
theorem cR_know (G : pd_G) (sz : Nat) (hp : pd_P) {v : Nat → Int} {bf kn σ : Int → Int} (hR : hp 178 = RO v) (h_known : hp 189 = ia 3 kn) (h_before : hp 190 = ia 2700 bf) (h_now : hp 188 = ia 90 σ) (hk0 : 0 ≤ kn 0) (hk1 : kn 0 ≤ 10) : pd_c G mR_know 0 [vr 178] sz hp (fun v' sz' hp' => v' = none ∧ sz' = sz ∧ hp' = va_up (va_up hp 190 (ia 2700 (kbf bf σ (kn 0)))) 189 (ia 3 (uI kn 0 (knf (kn 0))))) := by
  refine pd_con kR_know [some (vr 178), none] rfl rfl (Nat.le_of_ble_eq_true rfl) ?_
  refine pt_aload eR_know_0 rfl ?_
  refine pt_get eR_know_1 hR rfl ?_
  refine pt_ic eR_know_4 ?_
  refine pt_iald eR_know_5 h_known (by omega) (by omega) (by decide) ?_
  refine pt_ic eR_know_6 ?_
  refine pt_cne eR_know_8 ⟨by omega, by omega⟩ ⟨by omega, by omega⟩ (fun c8 => ?_) (fun c8 => ?_)
  · refine pt_ic eR_know_51 ?_
    refine pt_istore1 eR_know_52 rfl ?_
    refine lR_know2 G sz hp (bf := bf) (σ := σ) hR h_known h_now (by omega) (by omega) (fun hp3 he3 => ?_) 90 0 hp (by omega) (by omega) (by rw [blk_0]; exact pu_self h_before)
    have hR := pg_n he3 (by omega) hR
    have h_known := pg_n he3 (by omega) h_known
    refine pt_aload eR_know_87 rfl ?_
    refine pt_get eR_know_88 hR rfl ?_
    refine pt_ic eR_know_91 ?_
    refine pt_dup2 eR_know_92 ?_
    refine pt_iald eR_know_93 h_known (by omega) (by omega) (by decide) ?_
    refine pt_ic eR_know_94 ?_
    refine pt_iadd eR_know_95 ?_
    refine pt_iast eR_know_96 h_known (by omega) (by omega) (by decide) ?_
    refine pt_gen ?_
    intro hp1 ev1
    have hR := pg_n ev1 (by omega) hR
    have h_known := pg_s ev1
    refine pt_vret eR_know_97 (Nat.le_refl _) (Nat.le_refl _) ?_
    refine ⟨rfl, rfl, ?_⟩
    rw [ev1, he3]
    unfold kbf knf
    rw [if_neg (by omega), if_neg (by omega)]
  · refine pt_ic eR_know_11 ?_
    refine pt_istore1 eR_know_12 rfl ?_
    refine lR_know1 G sz hp (bf := bf) hR (fun hp0 he0 => ?_) 810 0 hp (by omega) (by omega) (by rw [blk_0]; exact pu_self h_before)
    have h_before := pg_s he0
    have hR := pg_n he0 (by omega) hR
    have h_known := pg_n he0 (by omega) h_known
    have h_now := pg_n he0 (by omega) h_now
    refine pt_aload eR_know_41 rfl ?_
    refine pt_get eR_know_42 hR rfl ?_
    refine pt_ic eR_know_45 ?_
    refine pt_dup2 eR_know_46 ?_
    refine pt_iald eR_know_47 h_known (by omega) (by omega) (by decide) ?_
    refine pt_ic eR_know_48 ?_
    refine pt_isub eR_know_49 ?_
    refine pt_iast eR_know_50 h_known (by omega) (by omega) (by decide) ?_
    refine pt_gen ?_
    intro hp1 ev1
    have hR := pg_n ev1 (by omega) hR
    have h_known := pg_s ev1
    have h_before := pg_n ev1 (by omega) h_before
    have h_now := pg_n ev1 (by omega) h_now
    refine pt_ic eR_know_51 ?_
    refine pt_istore1 eR_know_52 rfl ?_
    have hk2 : uI kn 0 (kn 0 - 1) 0 = 9 := by rw [uI_s]; omega
    refine lR_know2 G sz hp1 (bf := blk bf (fun j => bf (90 + j)) 0 810) (σ := σ) hR h_known h_now (by omega) (by omega) (fun hp3 he3 => ?_) 90 0 hp1 (by omega) (by omega) (by rw [blk_0]; exact pu_self h_before)
    have hR := pg_n he3 (by omega) hR
    have h_known := pg_n he3 (by omega) h_known
    refine pt_aload eR_know_87 rfl ?_
    refine pt_get eR_know_88 hR rfl ?_
    refine pt_ic eR_know_91 ?_
    refine pt_dup2 eR_know_92 ?_
    refine pt_iald eR_know_93 h_known (by omega) (by omega) (by decide) ?_
    refine pt_ic eR_know_94 ?_
    refine pt_iadd eR_know_95 ?_
    refine pt_iast eR_know_96 h_known (by omega) (by omega) (by decide) ?_
    refine pt_gen ?_
    intro hp8 ev8
    have hR := pg_n ev8 (by omega) hR
    have h_known := pg_s ev8
    refine pt_vret eR_know_97 (Nat.le_refl _) (Nat.le_refl _) ?_
    refine ⟨rfl, rfl, ?_⟩
    rw [ev8, he3, ev1, he0, hk2, bx_4 (by decide)]
    unfold kbf knf
    rw [if_pos (by omega), if_pos (by omega), uI_uI]
    rfl
def thf (us br ms σ : Int → Int) (n : Int) : Int → Int := fun x => if 0 ≤ x ∧ x < n then max 0 (rr us br ms σ x) else σ (2 + x)
def lkf (us br ms σ : Int → Int) (n : Int) : Int → Int := fun x => if 0 ≤ x ∧ x < n then σ (6 + x) + (if rr us br ms σ x < 0 then 1 else 0) else σ (6 + x)
theorem thf_s {us br ms σ : Int → Int} {n z : Int} (h0 : 0 ≤ n) (hz : z = max 0 (rr us br ms σ n)) : uI (thf us br ms σ n) n z = thf us br ms σ (n + 1) := by
  funext x
  unfold uI thf
  by_cases h1 : x = n
  · subst h1; rw [if_pos rfl, if_pos (by omega), hz]
  · rw [if_neg h1]
    by_cases h2 : 0 ≤ x ∧ x < n
    · rw [if_pos h2, if_pos (show 0 ≤ x ∧ x < n + 1 by omega)]
    · rw [if_neg h2, if_neg (show ¬ (0 ≤ x ∧ x < n + 1) by omega)]
theorem lkf_y {us br ms σ : Int → Int} {n : Int} (h0 : 0 ≤ n) (h : rr us br ms σ n < 0) : uI (lkf us br ms σ n) n (σ (6 + n) + 1) = lkf us br ms σ (n + 1) := by
  funext x
  unfold uI lkf
  by_cases h1 : x = n
  · subst h1; rw [if_pos rfl, if_pos (show 0 ≤ x ∧ x < x + 1 by omega), if_pos h]
  · rw [if_neg h1]
    by_cases h2 : 0 ≤ x ∧ x < n
    · rw [if_pos h2, if_pos (show 0 ≤ x ∧ x < n + 1 by omega)]
    · rw [if_neg h2, if_neg (show ¬ (0 ≤ x ∧ x < n + 1) by omega)]
theorem lkf_n {us br ms σ : Int → Int} {n : Int} (h0 : 0 ≤ n) (h : ¬ rr us br ms σ n < 0) : lkf us br ms σ n = lkf us br ms σ (n + 1) := by
  funext x
  unfold lkf
  by_cases h1 : x = n
  · subst h1; rw [if_neg (by omega), if_pos (show 0 ≤ x ∧ x < x + 1 by omega), if_neg h, Int.add_zero]
  · by_cases h2 : 0 ≤ x ∧ x < n
    · rw [if_pos h2, if_pos (show 0 ≤ x ∧ x < n + 1 by omega)]
    · rw [if_neg h2, if_neg (show ¬ (0 ≤ x ∧ x < n + 1) by omega)]
theorem lkf_at {us br ms σ : Int → Int} {n : Int} : lkf us br ms σ n n = σ (6 + n) := by unfold lkf; rw [if_neg (by omega)]
theorem thf_at {us br ms σ : Int → Int} {n : Int} : thf us br ms σ n n = σ (2 + n) := by unfold thf; rw [if_neg (by omega)]
theorem lS_pass (G : pd_G) (sz : Nat) (hp : pd_P) {a h : Nat} {gd ev bk : Int} {br ms us σ : Int → Int} (hah : h + 8 ≤ a ∨ a + 4 ≤ h) (ha : hp a = SO a (σ 0) (σ 1)) (hH : hp h = HO h gd ev bk) (hH5 : hp (h + 5) = ia 80 br) (hH6 : hp (h + 6) = ia 80 ms) (hH2 : hp (h + 2) = ia 4 us) (hg0 : 0 ≤ gd) (hg4 : gd ≤ 4) (hb : okB br) (hm : okB ms) (hu : okU gd us) (hT : okT σ) (hd0 : 0 ≤ σ 0) (hd1 : σ 0 < 20) {R : pd_R} (hx : ∀ (l4 : Option pv) (hp0 : pd_P), hp0 = (va_up (va_up hp (a + 1) (ia 4 (thf us br ms σ (gd)))) (a + 2) (ia 4 (lkf us br ms σ (gd)))) → pd_t G mS_pass 2 R 75 [some (vr a), some (vr h), some (vi (hnf us br ms σ (gd).toNat)), some (vi (gd)), l4] [] sz hp0) : ∀ (n : Nat) (i : Int) (l4 : Option pv) (hp0 : pd_P), 0 ≤ i → i + n = gd → hp0 = (va_up (va_up hp (a + 1) (ia 4 (thf us br ms σ (i)))) (a + 2) (ia 4 (lkf us br ms σ (i)))) → pd_t G mS_pass 2 R 4 [some (vr a), some (vr h), some (vi (hnf us br ms σ (i).toNat)), some (vi (i)), l4] [] sz hp0 := by
  intro n
  induction n with
  | zero =>
    intro i l4 hp0 hi0 hiE he0
    have hiE2 : gd = i := by omega
    subst hiE2
    have hx2 := hx l4 hp0 he0
    obtain ⟨hq0, eq0⟩ : ∃ z : pd_P, z = va_up hp (a + 1) (ia 4 (thf us br ms σ ((gd)))) := ⟨_, rfl⟩
    rw [← eq0] at he0
    have ha := pg_n eq0 (by omega) ha
    have hat := pg_s eq0
    have hH := pg_n eq0 (by omega) hH
    have hH5 := pg_n eq0 (by omega) hH5
    have hH6 := pg_n eq0 (by omega) hH6
    have hH2 := pg_n eq0 (by omega) hH2
    have ha := pg_n he0 (by omega) ha
    have hat := pg_n he0 (by omega) hat
    have hal := pg_s he0
    have hH := pg_n he0 (by omega) hH
    have hH5 := pg_n he0 (by omega) hH5
    have hH6 := pg_n he0 (by omega) hH6
    have hH2 := pg_n he0 (by omega) hH2
    refine pt_iload eS_pass_4 rfl ?_
    refine pt_aload eS_pass_5 rfl ?_
    refine pt_get eS_pass_6 hH rfl ?_
    refine pt_cge eS_pass_9 ⟨by omega, by omega⟩ ⟨by omega, by omega⟩ (fun c9 => ?_) (fun c9 => ?_)
    · exact hx2
    · exfalso; omega
  | succ n ih =>
    intro i l4 hp0 hi0 hiE he0
    obtain ⟨hq0, eq0⟩ : ∃ z : pd_P, z = va_up hp (a + 1) (ia 4 (thf us br ms σ (i))) := ⟨_, rfl⟩
    rw [← eq0] at he0
    have ha := pg_n eq0 (by omega) ha
    have hat := pg_s eq0
    have hH := pg_n eq0 (by omega) hH
    have hH5 := pg_n eq0 (by omega) hH5
    have hH6 := pg_n eq0 (by omega) hH6
    have hH2 := pg_n eq0 (by omega) hH2
    have ha := pg_n he0 (by omega) ha
    have hat := pg_n he0 (by omega) hat
    have hal := pg_s he0
    have hH := pg_n he0 (by omega) hH
    have hH5 := pg_n he0 (by omega) hH5
    have hH6 := pg_n he0 (by omega) hH6
    have hH2 := pg_n he0 (by omega) hH2
    refine pt_iload eS_pass_4 rfl ?_
    refine pt_aload eS_pass_5 rfl ?_
    refine pt_get eS_pass_6 hH rfl ?_
    refine pt_cge eS_pass_9 ⟨by omega, by omega⟩ ⟨by omega, by omega⟩ (fun c9 => ?_) (fun c9 => ?_)
    · exfalso; omega
    · refine pt_aload eS_pass_12 rfl ?_
      refine pt_get eS_pass_13 ha rfl ?_
      refine pt_ic eS_pass_16 ?_
      refine pt_cge eS_pass_18 ⟨by omega, by omega⟩ ⟨by omega, by omega⟩ (fun c18 => ?_) (fun c18 => ?_)
      · exfalso; omega
      · have hb1 := hb (4 * σ 0 + i) (by omega) (by omega)
        have hm1 := hm (4 * σ 0 + i) (by omega) (by omega)
        have hu1 := hu i (by omega) (by omega)
        have hT1 := hT i (by omega) (by omega)
        have hrr : rr us br ms σ i = max 0 (min (σ (2 + i) + br (4 * σ 0 + i)) 999 - ms (4 * σ 0 + i)) - us i := rfl
        refine pt_aload eS_pass_21 rfl ?_
        refine pt_aload eS_pass_22 rfl ?_
        refine pt_get eS_pass_23 ha rfl ?_
        refine pt_iload eS_pass_26 rfl ?_
        refine pt_iald eS_pass_27 hat (by omega) (by omega) (by decide) ?_
        rw [thf_at]
        refine pt_aload eS_pass_28 rfl ?_
        refine pt_get eS_pass_29 ha rfl ?_
        refine pt_iload eS_pass_32 rfl ?_
        refine pt_kv3r eS_pass_33 (cH_rest G sz _ hH hH5 hH6 hH2 (by omega) (by omega) (by omega) (by omega) (by omega) (by omega) (by omega) (by omega) (by omega)) hH rfl (Nat.le_of_ble_eq_true rfl) (by decide) (Nat.le_refl _) (Nat.le_refl _) ?_
        have hrv : (if rsf (σ (2 + i)) (br (4 * σ 0 + i)) (ms (4 * σ 0 + i)) (us i) < 0 then -1 else rsf (σ (2 + i)) (br (4 * σ 0 + i)) (ms (4 * σ 0 + i)) (us i)) = if rr us br ms σ i < 0 then -1 else rr us br ms σ i := rfl
        rw [hrv]
        generalize hrv2 : (if rr us br ms σ i < 0 then -1 else rr us br ms σ i) = rv
        have hrv3 : (rr us br ms σ i < 0 ∧ rv = -1) ∨ (0 ≤ rr us br ms σ i ∧ rv = rr us br ms σ i) := by
          rw [← hrv2]
          split <;> omega
        refine pt_istore4 eS_pass_36 rfl ?_
        refine pt_iload eS_pass_38 rfl ?_
        refine pt_ic eS_pass_40 ?_
        refine pt_cne eS_pass_41 ⟨by omega, by omega⟩ ⟨by omega, by omega⟩ (fun c41 => ?_) (fun c41 => ?_)
        · refine pt_aload eS_pass_57 rfl ?_
          refine pt_get eS_pass_58 ha rfl ?_
          refine pt_iload eS_pass_61 rfl ?_
          refine pt_ic eS_pass_62 ?_
          refine pt_iload eS_pass_63 rfl ?_
          refine pt_max eS_pass_65 ⟨by omega, by omega⟩ ⟨by omega, by omega⟩ (by decide) (Nat.le_of_ble_eq_true rfl) (Nat.le_refl _) (Nat.le_refl _) ?_
          refine pt_iast eS_pass_68 hat (by omega) (by omega) (by decide) ?_
          refine pt_gen ?_
          intro hp1 ev1
          have ha := pg_n ev1 (by omega) ha
          have hat := pg_s ev1
          have hal := pg_n ev1 (by omega) hal
          have hH := pg_n ev1 (by omega) hH
          have hH5 := pg_n ev1 (by omega) hH5
          have hH6 := pg_n ev1 (by omega) hH6
          have hH2 := pg_n ev1 (by omega) hH2
          refine pt_inc3 eS_pass_69 rfl ?_
          refine pt_goto eS_pass_72 ?_
          have hfin : hp1 = (va_up (va_up hp (a + 1) (ia 4 (thf us br ms σ ((i + 1))))) (a + 2) (ia 4 (lkf us br ms σ ((i + 1))))) := by
            rw [ev1, he0, eq0]
            first | (exfalso; omega) | (rw [bx_uu, bx_3 (by omega), thf_s (by omega) (by omega), lkf_y (by omega) (by omega)]; done) | (rw [bx_3 (by omega), thf_s (by omega) (by omega), lkf_n (by omega) (by omega)]; done)
          first | rw [hnf_y hi0 (by omega)] | rw [hnf_n hi0 (by omega)]
          exact ih (i + 1) _ _ (by omega) (by omega) hfin 
        · refine pt_inc2 eS_pass_44 rfl ?_
          refine pt_aload eS_pass_47 rfl ?_
          refine pt_get eS_pass_48 ha rfl ?_
          refine pt_iload eS_pass_51 rfl ?_
          refine pt_dup2 eS_pass_52 ?_
          refine pt_iald eS_pass_53 hal (by omega) (by omega) (by decide) ?_
          rw [lkf_at]
          refine pt_ic eS_pass_54 ?_
          refine pt_iadd eS_pass_55 ?_
          refine pt_iast eS_pass_56 hal (by omega) (by omega) (by decide) ?_
          refine pt_gen ?_
          intro hp2 ev2
          have ha := pg_n ev2 (by omega) ha
          have hat := pg_n ev2 (by omega) hat
          have hal := pg_s ev2
          have hH := pg_n ev2 (by omega) hH
          have hH5 := pg_n ev2 (by omega) hH5
          have hH6 := pg_n ev2 (by omega) hH6
          have hH2 := pg_n ev2 (by omega) hH2
          refine pt_aload eS_pass_57 rfl ?_
          refine pt_get eS_pass_58 ha rfl ?_
          refine pt_iload eS_pass_61 rfl ?_
          refine pt_ic eS_pass_62 ?_
          refine pt_iload eS_pass_63 rfl ?_
          refine pt_max eS_pass_65 ⟨by omega, by omega⟩ ⟨by omega, by omega⟩ (by decide) (Nat.le_of_ble_eq_true rfl) (Nat.le_refl _) (Nat.le_refl _) ?_
          refine pt_iast eS_pass_68 hat (by omega) (by omega) (by decide) ?_
          refine pt_gen ?_
          intro hp3 ev3
          have ha := pg_n ev3 (by omega) ha
          have hat := pg_s ev3
          have hal := pg_n ev3 (by omega) hal
          have hH := pg_n ev3 (by omega) hH
          have hH5 := pg_n ev3 (by omega) hH5
          have hH6 := pg_n ev3 (by omega) hH6
          have hH2 := pg_n ev3 (by omega) hH2
          refine pt_inc3 eS_pass_69 rfl ?_
          refine pt_goto eS_pass_72 ?_
          have hfin : hp3 = (va_up (va_up hp (a + 1) (ia 4 (thf us br ms σ ((i + 1))))) (a + 2) (ia 4 (lkf us br ms σ ((i + 1))))) := by
            rw [ev3, ev2, he0, eq0]
            first | (exfalso; omega) | (rw [bx_uu, bx_3 (by omega), thf_s (by omega) (by omega), lkf_y (by omega) (by omega)]; done) | (rw [bx_3 (by omega), thf_s (by omega) (by omega), lkf_n (by omega) (by omega)]; done)
          first | rw [hnf_y hi0 (by omega)] | rw [hnf_n hi0 (by omega)]
          exact ih (i + 1) _ _ (by omega) (by omega) hfin 
end
section
theorem passf_t {us br ms σ : Int → Int} {gd i : Int} (h0 : 0 ≤ i) (h4 : i < 4) (hg : gd ≤ 4) : thf us br ms σ gd i = passf us br ms σ gd (2 + i) := by
  unfold thf passf uI psf
  rw [if_neg (show ¬ (2 + i = 0) by omega)]
  by_cases h : 0 ≤ i ∧ i < gd
  · rw [if_pos h, if_pos (show 2 ≤ 2 + i ∧ 2 + i < 2 + gd by omega), show 2 + i - 2 = i by omega]
  · rw [if_neg h, if_neg (show ¬ (2 ≤ 2 + i ∧ 2 + i < 2 + gd) by omega), if_neg (show ¬ (6 ≤ 2 + i ∧ 2 + i < 6 + gd) by omega)]
theorem passf_l {us br ms σ : Int → Int} {gd i : Int} (h0 : 0 ≤ i) (h4 : i < 4) (hg : gd ≤ 4) : lkf us br ms σ gd i = passf us br ms σ gd (6 + i) := by
  unfold lkf passf uI psf
  rw [if_neg (show ¬ (6 + i = 0) by omega), if_neg (show ¬ (2 ≤ 6 + i ∧ 6 + i < 2 + gd) by omega)]
  by_cases h : 0 ≤ i ∧ i < gd
  · rw [if_pos h, if_pos (show 6 ≤ 6 + i ∧ 6 + i < 6 + gd by omega), show 6 + i - 6 = i by omega]
  · rw [if_neg h, if_neg (show ¬ (6 ≤ 6 + i ∧ 6 + i < 6 + gd) by omega)]
theorem passf_k {us br ms σ : Int → Int} {gd i : Int} (h0 : 0 ≤ i) (hg : gd ≤ 4) : σ (10 + i) = passf us br ms σ gd (10 + i) := by
  unfold passf uI psf
  rw [if_neg (show ¬ (10 + i = 0) by omega), if_neg (by omega), if_neg (by omega)]
theorem passf_0 {us br ms σ : Int → Int} {gd : Int} : passf us br ms σ gd 0 = σ 0 + 1 := by unfold passf; rw [uI_s]
theorem passf_1 {us br ms σ : Int → Int} {gd : Int} : passf us br ms σ gd 1 = σ 1 := by unfold passf; rw [uI_n _ _ (by decide), psf_1]
theorem passf_ok {us br ms σ : Int → Int} {gd : Int} (hg0 : 0 ≤ gd) (hg : gd ≤ 4) (hm : okB ms) (hu : okU gd us) (hs : okS ms σ) (hd : σ 0 < 20) : okS ms (passf us br ms σ gd) := by
  obtain ⟨h1, h2, h3, h4, h5⟩ := hs
  refine ⟨by rw [passf_0]; omega, by rw [passf_0]; omega, by rw [passf_1]; exact h3, fun g hg0 hg4 => ?_, fun k hk0 hk8 => ?_⟩
  · rw [← passf_t hg0 hg4 hg]
    unfold thf
    have := h4 g hg0 hg4
    have hm1 := hm (4 * σ 0 + g) (by omega) (by omega)
    split
    · rename_i hgg
      have hu1 := hu g hgg.1 hgg.2
      unfold rr rsf
      omega
    · exact this
  · rw [← passf_k hk0 hg]
    exact h5 k hk0 hk8
theorem cS_pass (G : pd_G) (sz : Nat) (hp : pd_P) {a h : Nat} {gd ev bk : Int} {br ms us σ : Int → Int} (hah : h + 8 ≤ a ∨ a + 4 ≤ h) (hA : StA hp a σ) (hH : hp h = HO h gd ev bk) (hH5 : hp (h + 5) = ia 80 br) (hH6 : hp (h + 6) = ia 80 ms) (hH2 : hp (h + 2) = ia 4 us) (hg0 : 0 ≤ gd) (hg4 : gd ≤ 4) (hb : okB br) (hm : okB ms) (hu : okU gd us) (hT : okT σ) (hd0 : 0 ≤ σ 0) (hd1 : σ 0 < 20) : pd_c G mS_pass 2 [vr a, vr h] sz hp (fun v sz' hp' => v = some (vi (hnf us br ms σ gd.toNat)) ∧ sz' = sz ∧ StA hp' a (passf us br ms σ gd) ∧ fr hp hp' a (a + 4)) := by
  refine pd_con kS_pass [some (vr a), some (vr h), none, none, none] rfl rfl (Nat.le_of_ble_eq_true rfl) ?_
  obtain ⟨ha, hat, hal, hak⟩ := hA
  refine pt_ic eS_pass_0 ?_
  refine pt_istore2 eS_pass_1 rfl ?_
  refine pt_ic eS_pass_2 ?_
  refine pt_istore3 eS_pass_3 rfl ?_
  have ef1 : thf us br ms σ 0 = fun g => σ (2 + g) := by funext x; unfold thf; rw [if_neg (by omega)]
  have ef2 : lkf us br ms σ 0 = fun g => σ (6 + g) := by funext x; unfold lkf; rw [if_neg (by omega)]
  refine lS_pass G sz hp hah ha hH hH5 hH6 hH2 hg0 hg4 hb hm hu hT hd0 hd1 (fun l4 hp0 he0 => ?_) gd.toNat 0 none hp (by omega) (by omega) (by rw [ef1, ef2, ← pu_self hat]; exact pu_self hal)
  obtain ⟨hq, eq0⟩ : ∃ z : pd_P, z = va_up hp (a + 1) (ia 4 (thf us br ms σ gd)) := ⟨_, rfl⟩
  rw [← eq0] at he0
  have hat := pg_n he0 (by omega) (pg_s eq0)
  have hal := pg_s he0
  have ha := pg_n he0 (by omega) (pg_n eq0 (by omega) ha)
  have hak := pg_n he0 (by omega) (pg_n eq0 (by omega) hak)
  have hfr : fr hp hp0 a (a + 4) := (fr.rf.up eq0 (by omega) (by omega)).up he0 (by omega) (by omega)
  refine pt_aload eS_pass_75 rfl ?_
  refine pt_dupr eS_pass_76 ?_
  refine pt_get eS_pass_77 ha rfl ?_
  refine pt_ic eS_pass_80 ?_
  refine pt_iadd eS_pass_81 ?_
  refine pt_put3 eS_pass_82 ha trivial ?_
  refine pt_gen ?_
  intro hp1 ev1
  have ha := pg_s ev1
  have hat := pg_n ev1 (by omega) hat
  have hal := pg_n ev1 (by omega) hal
  have hak := pg_n ev1 (by omega) hak
  refine pt_ext hat (g := fun x => passf us br ms σ gd (2 + x)) (fun i hi0 hi1 => ?_) ?_
  · exact passf_t hi0 hi1 hg4
  refine pt_gen ?_
  intro hp2 ev2
  have ha := pg_n ev2 (by omega) ha
  have hat := pg_s ev2
  have hal := pg_n ev2 (by omega) hal
  have hak := pg_n ev2 (by omega) hak
  refine pt_ext hal (g := fun x => passf us br ms σ gd (6 + x)) (fun i hi0 hi1 => ?_) ?_
  · exact passf_l hi0 hi1 hg4
  refine pt_gen ?_
  intro hp3 ev3
  have ha := pg_n ev3 (by omega) ha
  have hat := pg_n ev3 (by omega) hat
  have hal := pg_s ev3
  have hak := pg_n ev3 (by omega) hak
  refine pt_ext hak (g := fun x => passf us br ms σ gd (10 + x)) (fun i hi0 hi1 => ?_) ?_
  · exact passf_k hi0 hg4
  refine pt_gen ?_
  intro hp4 ev4
  have ha := pg_n ev4 (by omega) ha
  have hat := pg_n ev4 (by omega) hat
  have hal := pg_n ev4 (by omega) hal
  have hak := pg_s ev4
  refine pt_iload eS_pass_85 rfl ?_
  refine pt_iret eS_pass_86 (Nat.le_refl _) (Nat.le_refl _) ?_
  exact ⟨rfl, rfl, ⟨by rw [passf_0, passf_1]; exact ha, hat, hal, hak⟩, (((hfr.up ev1 (by omega) (by omega)).up ev2 (by omega) (by omega)).up ev3 (by omega) (by omega)).up ev4 (by omega) (by omega)⟩
def bgt (fi : Int → Int) (gd : Int) : Int → Int := fun x => if x < gd then fi x else 0
def beg (fi : Int → Int) (gd : Int) : Int → Int := fun i => if 2 ≤ i ∧ i < 2 + gd then fi (i - 2) else 0
theorem lS_begin1 (G : pd_G) (sz : Nat) (hp : pd_P) {a h : Nat} {gd ev bk : Int} {fi t0 l0 : Int → Int} {dy he : Int} (hah : h + 8 ≤ a ∨ a + 4 ≤ h) (ha : hp a = SO a dy he) (hH : hp h = HO h gd ev bk) (hH1 : hp (h + 1) = ia 4 fi) (hg0 : 0 ≤ gd) (hg4 : gd ≤ 4) {R : pd_R} (hx : ∀  (hp0 : pd_P), hp0 = (va_up (va_up hp (a + 1) (ia 4 (blk t0 (bgt fi gd) 0 (4)))) (a + 2) (ia 4 (blk l0 (fun _ => 0) 0 (4)))) → pd_t G mS_begin 2 R 54 [some (vr a), some (vr h), some (vi (4))] [] sz hp0) : ∀ (n : Nat) (i : Int)  (hp0 : pd_P), 0 ≤ i → i + n = 4 → hp0 = (va_up (va_up hp (a + 1) (ia 4 (blk t0 (bgt fi gd) 0 (i)))) (a + 2) (ia 4 (blk l0 (fun _ => 0) 0 (i)))) → pd_t G mS_begin 2 R 12 [some (vr a), some (vr h), some (vi (i))] [] sz hp0 := by
  intro n
  induction n with
  | zero =>
    intro i  hp0 hi0 hiE he0
    have hiE2 : 4 = i := by omega
    subst hiE2
    have hx2 := hx  hp0 he0
    obtain ⟨hq0, eq0⟩ : ∃ z : pd_P, z = va_up hp (a + 1) (ia 4 (blk t0 (bgt fi gd) 0 ((4)))) := ⟨_, rfl⟩
    rw [← eq0] at he0
    have ha := pg_n eq0 (by omega) ha
    have hat := pg_s eq0
    have hH := pg_n eq0 (by omega) hH
    have hH1 := pg_n eq0 (by omega) hH1
    have ha := pg_n he0 (by omega) ha
    have hat := pg_n he0 (by omega) hat
    have hal := pg_s he0
    have hH := pg_n he0 (by omega) hH
    have hH1 := pg_n he0 (by omega) hH1
    refine pt_iload eS_begin_12 rfl ?_
    refine pt_ic eS_begin_13 ?_
    refine pt_cge eS_begin_14 ⟨by omega, by omega⟩ ⟨by omega, by omega⟩ (fun c14 => ?_) (fun c14 => ?_)
    · exact hx2
    · exfalso; omega
  | succ n ih =>
    intro i  hp0 hi0 hiE he0
    obtain ⟨hq0, eq0⟩ : ∃ z : pd_P, z = va_up hp (a + 1) (ia 4 (blk t0 (bgt fi gd) 0 (i))) := ⟨_, rfl⟩
    rw [← eq0] at he0
    have ha := pg_n eq0 (by omega) ha
    have hat := pg_s eq0
    have hH := pg_n eq0 (by omega) hH
    have hH1 := pg_n eq0 (by omega) hH1
    have ha := pg_n he0 (by omega) ha
    have hat := pg_n he0 (by omega) hat
    have hal := pg_s he0
    have hH := pg_n he0 (by omega) hH
    have hH1 := pg_n he0 (by omega) hH1
    refine pt_iload eS_begin_12 rfl ?_
    refine pt_ic eS_begin_13 ?_
    refine pt_cge eS_begin_14 ⟨by omega, by omega⟩ ⟨by omega, by omega⟩ (fun c14 => ?_) (fun c14 => ?_)
    · exfalso; omega
    · refine pt_aload eS_begin_17 rfl ?_
      refine pt_get eS_begin_18 ha rfl ?_
      refine pt_iload eS_begin_21 rfl ?_
      refine pt_aload eS_begin_22 rfl ?_
      refine pt_iload eS_begin_23 rfl ?_
      refine pt_kv1r eS_begin_24 (cH_has G sz _ hH ⟨by omega, by omega⟩ hg0 hg4) hH rfl (Nat.le_of_ble_eq_true rfl) (by decide) (Nat.le_refl _) (Nat.le_refl _) ?_
      refine pt_zeq eS_begin_27 (pwi_j _ _ _) (fun c27 => ?_) (fun c27 => ?_)
      · try have c27 := pwi_0 c27
        refine pt_ic eS_begin_39 ?_
        refine pt_iast eS_begin_40 hat (by omega) (by omega) (by decide) ?_
        refine pt_gen ?_
        intro hp1 ev1
        have ha := pg_n ev1 (by omega) ha
        have hat := pg_s ev1
        have hal := pg_n ev1 (by omega) hal
        have hH := pg_n ev1 (by omega) hH
        have hH1 := pg_n ev1 (by omega) hH1
        refine pt_aload eS_begin_41 rfl ?_
        refine pt_get eS_begin_42 ha rfl ?_
        refine pt_iload eS_begin_45 rfl ?_
        refine pt_ic eS_begin_46 ?_
        refine pt_iast eS_begin_47 hal (by omega) (by omega) (by decide) ?_
        refine pt_gen ?_
        intro hp2 ev2
        have ha := pg_n ev2 (by omega) ha
        have hat := pg_n ev2 (by omega) hat
        have hal := pg_s ev2
        have hH := pg_n ev2 (by omega) hH
        have hH1 := pg_n ev2 (by omega) hH1
        refine pt_inc2 eS_begin_48 rfl ?_
        refine pt_goto eS_begin_51 ?_
        have hfin : hp2 = (va_up (va_up hp (a + 1) (ia 4 (blk t0 (bgt fi gd) 0 ((i + 1))))) (a + 2) (ia 4 (blk l0 (fun _ => 0) 0 ((i + 1))))) := by
          rw [ev2, ev1, he0, eq0]
          have k1 := blk_s (f := t0) (g := bgt fi gd) (a := 0) (n := i) hi0
          have k2 := blk_s (f := l0) (g := fun _ => 0) (a := 0) (n := i) hi0
          rw [Int.zero_add] at k1 k2
          rw [bx_4 (by omega), ← k1, ← k2]
          unfold bgt
          first | (exfalso; omega) | (rw [if_pos (show i < gd by omega)]; done) | (rw [if_neg (show ¬ i < gd by omega)]; done)
        exact ih (i + 1)  _ (by omega) (by omega) hfin 
      · have c27 := pwi_1 c27
        refine pt_aload eS_begin_30 rfl ?_
        refine pt_get eS_begin_31 hH rfl ?_
        refine pt_iload eS_begin_34 rfl ?_
        refine pt_iald eS_begin_35 hH1 (by omega) (by omega) (by decide) ?_
        refine pt_goto eS_begin_36 ?_
        refine pt_iast eS_begin_40 hat (by omega) (by omega) (by decide) ?_
        refine pt_gen ?_
        intro hp3 ev3
        have ha := pg_n ev3 (by omega) ha
        have hat := pg_s ev3
        have hal := pg_n ev3 (by omega) hal
        have hH := pg_n ev3 (by omega) hH
        have hH1 := pg_n ev3 (by omega) hH1
        refine pt_aload eS_begin_41 rfl ?_
        refine pt_get eS_begin_42 ha rfl ?_
        refine pt_iload eS_begin_45 rfl ?_
        refine pt_ic eS_begin_46 ?_
        refine pt_iast eS_begin_47 hal (by omega) (by omega) (by decide) ?_
        refine pt_gen ?_
        intro hp4 ev4
        have ha := pg_n ev4 (by omega) ha
        have hat := pg_n ev4 (by omega) hat
        have hal := pg_s ev4
        have hH := pg_n ev4 (by omega) hH
        have hH1 := pg_n ev4 (by omega) hH1
        refine pt_inc2 eS_begin_48 rfl ?_
        refine pt_goto eS_begin_51 ?_
        have hfin : hp4 = (va_up (va_up hp (a + 1) (ia 4 (blk t0 (bgt fi gd) 0 ((i + 1))))) (a + 2) (ia 4 (blk l0 (fun _ => 0) 0 ((i + 1))))) := by
          rw [ev4, ev3, he0, eq0]
          have k1 := blk_s (f := t0) (g := bgt fi gd) (a := 0) (n := i) hi0
          have k2 := blk_s (f := l0) (g := fun _ => 0) (a := 0) (n := i) hi0
          rw [Int.zero_add] at k1 k2
          rw [bx_4 (by omega), ← k1, ← k2]
          unfold bgt
          first | (exfalso; omega) | (rw [if_pos (show i < gd by omega)]; done) | (rw [if_neg (show ¬ i < gd by omega)]; done)
        exact ih (i + 1)  _ (by omega) (by omega) hfin 
theorem lS_begin2 (G : pd_G) (sz : Nat) (hp : pd_P) {a h : Nat} {k0 : Int → Int} {dy he : Int} (ha : hp a = SO a dy he) {R : pd_R} (hx : ∀  (hp0 : pd_P), hp0 = (va_up hp (a + 3) (ia 80 (blk k0 (fun _ => 0) 0 (80)))) → pd_t G mS_begin 2 R 75 [some (vr a), some (vr h), some (vi (80))] [] sz hp0) : ∀ (n : Nat) (i : Int)  (hp0 : pd_P), 0 ≤ i → i + n = 80 → hp0 = (va_up hp (a + 3) (ia 80 (blk k0 (fun _ => 0) 0 (i)))) → pd_t G mS_begin 2 R 56 [some (vr a), some (vr h), some (vi (i))] [] sz hp0 := by
  intro n
  induction n with
  | zero =>
    intro i  hp0 hi0 hiE he0
    have hiE2 : 80 = i := by omega
    subst hiE2
    have hx2 := hx  hp0 he0
    have ha := pg_n he0 (by omega) ha
    have hak := pg_s he0
    refine pt_iload eS_begin_56 rfl ?_
    refine pt_ic eS_begin_57 ?_
    refine pt_cge eS_begin_59 ⟨by omega, by omega⟩ ⟨by omega, by omega⟩ (fun c59 => ?_) (fun c59 => ?_)
    · exact hx2
    · exfalso; omega
  | succ n ih =>
    intro i  hp0 hi0 hiE he0
    have ha := pg_n he0 (by omega) ha
    have hak := pg_s he0
    refine pt_iload eS_begin_56 rfl ?_
    refine pt_ic eS_begin_57 ?_
    refine pt_cge eS_begin_59 ⟨by omega, by omega⟩ ⟨by omega, by omega⟩ (fun c59 => ?_) (fun c59 => ?_)
    · exfalso; omega
    · refine pt_aload eS_begin_62 rfl ?_
      refine pt_get eS_begin_63 ha rfl ?_
      refine pt_iload eS_begin_66 rfl ?_
      refine pt_ic eS_begin_67 ?_
      refine pt_iast eS_begin_68 hak (by omega) (by omega) (by decide) ?_
      refine pt_gen ?_
      intro hp1 ev1
      have ha := pg_n ev1 (by omega) ha
      have hak := pg_s ev1
      refine pt_inc2 eS_begin_69 rfl ?_
      refine pt_goto eS_begin_72 ?_
      have hfin : hp1 = (va_up hp (a + 3) (ia 80 (blk k0 (fun _ => 0) 0 ((i + 1))))) := by
        rw [ev1, he0]
        have k2 := blk_s (f := k0) (g := fun _ => 0) (a := 0) (n := i) hi0
        rw [Int.zero_add] at k2
        rw [bx_uu, ← k2]
      exact ih (i + 1)  _ (by omega) (by omega) hfin 
theorem cS_begin (G : pd_G) (sz : Nat) (hp : pd_P) {a h : Nat} {gd ev bk : Int} {fi σ : Int → Int} (hah : h + 8 ≤ a ∨ a + 4 ≤ h) (hA : StA hp a σ) (hH : hp h = HO h gd ev bk) (hH1 : hp (h + 1) = ia 4 fi) (hg0 : 0 ≤ gd) (hg4 : gd ≤ 4) : pd_c G mS_begin 2 [vr a, vr h] sz hp (fun v sz' hp' => v = none ∧ sz' = sz ∧ StA hp' a (beg fi gd) ∧ fr hp hp' a (a + 4)) := by
  refine pd_con kS_begin [some (vr a), some (vr h), none] rfl rfl (Nat.le_of_ble_eq_true rfl) ?_
  obtain ⟨ha, hat, hal, hak⟩ := hA
  refine pt_aload eS_begin_0 rfl ?_
  refine pt_ic eS_begin_1 ?_
  refine pt_put3 eS_begin_2 ha trivial ?_
  refine pt_gen ?_
  intro hp1 ev1
  have ha := pg_s ev1
  have hat := pg_n ev1 (by omega) hat
  have hal := pg_n ev1 (by omega) hal
  have hak := pg_n ev1 (by omega) hak
  have hH := pg_n ev1 (by omega) hH
  have hH1 := pg_n ev1 (by omega) hH1
  refine pt_aload eS_begin_5 rfl ?_
  refine pt_ic eS_begin_6 ?_
  refine pt_put4 eS_begin_7 ha (Or.inl rfl) ?_
  refine pt_gen ?_
  intro hp2 ev2
  have ha := pg_s ev2
  have hat := pg_n ev2 (by omega) hat
  have hal := pg_n ev2 (by omega) hal
  have hak := pg_n ev2 (by omega) hak
  have hH := pg_n ev2 (by omega) hH
  have hH1 := pg_n ev2 (by omega) hH1
  refine pt_ic eS_begin_10 ?_
  refine pt_istore2 eS_begin_11 rfl ?_
  refine lS_begin1 G sz hp2 (t0 := fun g => σ (2 + g)) (l0 := fun g => σ (6 + g)) hah ha hH hH1 hg0 hg4 (fun hp0 he0 => ?_) 4 0 hp2 (by omega) (by omega) (by rw [blk_0, blk_0, ← pu_self hat]; exact pu_self hal)
  obtain ⟨hq, eq0⟩ : ∃ z : pd_P, z = va_up hp2 (a + 1) (ia 4 (blk (fun g => σ (2 + g)) (bgt fi gd) 0 4)) := ⟨_, rfl⟩
  rw [← eq0] at he0
  have hat := pg_n he0 (by omega) (pg_s eq0)
  have hal := pg_s he0
  have ha := pg_n he0 (by omega) (pg_n eq0 (by omega) ha)
  have hak := pg_n he0 (by omega) (pg_n eq0 (by omega) hak)
  have hfr : fr hp hp0 a (a + 4) := (((fr.rf.up ev1 (by omega) (by omega)).up ev2 (by omega) (by omega)).up eq0 (by omega) (by omega)).up he0 (by omega) (by omega)
  refine pt_ic eS_begin_54 ?_
  refine pt_istore2 eS_begin_55 rfl ?_
  refine lS_begin2 G sz hp0 (k0 := fun k => σ (10 + k)) (h := h) ha (fun hp4 he4 => ?_) 80 0 hp0 (by omega) (by omega) (by rw [blk_0]; exact pu_self hak)
  have hat := pg_n he4 (by omega) hat
  have hal := pg_n he4 (by omega) hal
  have ha := pg_n he4 (by omega) ha
  have hak := pg_s he4
  have hfr := hfr.up he4 (by omega) (by omega)
  refine pt_ext hat (g := fun x => beg fi gd (2 + x)) (fun i hi0 hi1 => ?_) ?_
  · rw [blk_in (by omega) (by omega)]; unfold bgt beg; by_cases hgi : i < gd
    · rw [Int.sub_zero, if_pos hgi, if_pos (show 2 ≤ 2 + i ∧ 2 + i < 2 + gd by omega), show 2 + i - 2 = i by omega]
    · rw [Int.sub_zero, if_neg hgi, if_neg (show ¬ (2 ≤ 2 + i ∧ 2 + i < 2 + gd) by omega)]
  refine pt_gen ?_
  intro hp5 ev5
  have ha := pg_n ev5 (by omega) ha
  have hat := pg_s ev5
  have hal := pg_n ev5 (by omega) hal
  have hak := pg_n ev5 (by omega) hak
  refine pt_ext hal (g := fun x => beg fi gd (6 + x)) (fun i hi0 hi1 => ?_) ?_
  · rw [blk_in (by omega) (by omega)]; unfold beg; rw [if_neg (show ¬ (2 ≤ 6 + i ∧ 6 + i < 2 + gd) by omega)]
  refine pt_gen ?_
  intro hp6 ev6
  have ha := pg_n ev6 (by omega) ha
  have hat := pg_n ev6 (by omega) hat
  have hal := pg_s ev6
  have hak := pg_n ev6 (by omega) hak
  refine pt_ext hak (g := fun x => beg fi gd (10 + x)) (fun i hi0 hi1 => ?_) ?_
  · rw [blk_in (by omega) (by omega)]; unfold beg; rw [if_neg (show ¬ (2 ≤ 10 + i ∧ 10 + i < 2 + gd) by omega)]
  refine pt_gen ?_
  intro hp7 ev7
  have ha := pg_n ev7 (by omega) ha
  have hat := pg_n ev7 (by omega) hat
  have hal := pg_n ev7 (by omega) hal
  have hak := pg_s ev7
  refine pt_vret eS_begin_75 (Nat.le_refl _) (Nat.le_refl _) ?_
  exact ⟨rfl, rfl, ⟨by rw [show beg fi gd 0 = 0 from rfl, show beg fi gd 1 = 0 from rfl]; exact ha, hat, hal, hak⟩, ((hfr.up ev5 (by omega) (by omega)).up ev6 (by omega) (by omega)).up ev7 (by omega) (by omega)⟩
end
section
/-! the Life: a State, ten older ones, how many count -/
abbrev LO (a : Nat) (k : Int) : pd_E := ob 6 [vr (a + 1), vr (a + 5), vi k]
def LiA (hp : pd_P) (a : Nat) (ρ : Int → Int) (k : Int) (Q : Int → Int → Int) : Prop := hp a = LO a k ∧ StA hp (a + 1) ρ ∧ ∃ (pf : Int → Option Nat) (π : Int → Nat), hp (a + 5) = ra 4 10 pf ∧ (∀ i, 0 ≤ i → i < 10 → pf i = some (a + 6 + 4 * π i) ∧ π i < 10) ∧ (∀ i j, 0 ≤ i → i < 10 → 0 ≤ j → j < 10 → π i = π j → i = j) ∧ ∀ i, 0 ≤ i → i < 10 → StA hp (a + 6 + 4 * π i) (Q i)
theorem LiA.fr {hp hp1 : pd_P} {lo hi a : Nat} {ρ : Int → Int} {k : Int} {Q : Int → Int → Int} (h : LiA hp a ρ k Q) (hf : fr hp hp1 lo hi) (hk : a + 46 ≤ lo ∨ hi ≤ a) : LiA hp1 a ρ k Q := by
  obtain ⟨h1, h2, pf, π, h3, h4, h5, h6⟩ := h
  refine ⟨hf.at (by omega) h1, h2.fr hf (by omega), pf, π, hf.at (by omega) h3, h4, h5, fun i hi0 hi1 => ?_⟩
  have := (h4 i hi0 hi1).2
  exact (h6 i hi0 hi1).fr hf (by omega)
def shf (pf : Int → Option Nat) (n : Int) : Int → Option Nat := fun j => if 0 ≤ j ∧ j < n - 1 then pf (j + 1) else pf j
theorem shf_at {pf : Int → Option Nat} {n : Int} : shf pf n n = pf n := by unfold shf; rw [if_neg (by omega)]
theorem shf_1 (pf : Int → Option Nat) : shf pf 1 = pf := by funext j; unfold shf; rw [if_neg (by omega)]
theorem shf_s {pf : Int → Option Nat} {n : Int} (h : 1 ≤ n) : uI (shf pf n) (n - 1) (pf n) = shf pf (n + 1) := by
  funext j
  unfold uI shf
  by_cases h1 : j = n - 1
  · subst h1; rw [if_pos rfl, if_pos (by omega)]; congr 1; omega
  · rw [if_neg h1]
    by_cases h2 : 0 ≤ j ∧ j < n - 1
    · rw [if_pos h2, if_pos (by omega)]
    · rw [if_neg h2, if_neg (by omega)]
theorem lL_lose (G : pd_G) (sz : Nat) (hp : pd_P) {a : Nat} {k : Int} {old : Nat} {pf : Int → Option Nat} {π : Int → Nat} (hL : hp a = LO a k) (hpf : ∀ i, 0 ≤ i → i < 10 → pf i = some (a + 6 + 4 * π i)) (hso : ∀ i, 0 ≤ i → i < 10 → ∃ x y, hp (a + 6 + 4 * π i) = SO (a + 6 + 4 * π i) x y) {R : pd_R} (hx : ∀  (hp0 : pd_P), hp0 = (va_up hp (a + 5) (ra 4 10 (shf pf (10)))) → pd_t G mL_loseOldest 0 R 35 [some (vr a), some (vr old), some (vi (10))] [] sz hp0) : ∀ (n : Nat) (i : Int)  (hp0 : pd_P), 1 ≤ i → i + n = 10 → hp0 = (va_up hp (a + 5) (ra 4 10 (shf pf (i)))) → pd_t G mL_loseOldest 0 R 9 [some (vr a), some (vr old), some (vi (i))] [] sz hp0 := by
  intro n
  induction n with
  | zero =>
    intro i  hp0 hi0 hiE he0
    have hiE2 : 10 = i := by omega
    subst hiE2
    have hx2 := hx  hp0 he0
    have hL := pg_n he0 (by omega) hL
    have hLp := pg_s he0
    refine pt_iload eL_loseOldest_9 rfl ?_
    refine pt_ic eL_loseOldest_10 ?_
    refine pt_cge eL_loseOldest_12 ⟨by omega, by omega⟩ ⟨by omega, by omega⟩ (fun c12 => ?_) (fun c12 => ?_)
    · exact hx2
    · exfalso; omega
  | succ n ih =>
    intro i  hp0 hi0 hiE he0
    have hL := pg_n he0 (by omega) hL
    have hLp := pg_s he0
    refine pt_iload eL_loseOldest_9 rfl ?_
    refine pt_ic eL_loseOldest_10 ?_
    refine pt_cge eL_loseOldest_12 ⟨by omega, by omega⟩ ⟨by omega, by omega⟩ (fun c12 => ?_) (fun c12 => ?_)
    · exfalso; omega
    · refine pt_aload eL_loseOldest_15 rfl ?_
      refine pt_get eL_loseOldest_16 hL rfl ?_
      refine pt_iload eL_loseOldest_19 rfl ?_
      refine pt_ic eL_loseOldest_20 ?_
      refine pt_isub eL_loseOldest_21 ?_
      refine pt_aload eL_loseOldest_22 rfl ?_
      refine pt_get eL_loseOldest_23 hL rfl ?_
      refine pt_iload eL_loseOldest_26 rfl ?_
      refine pt_aald eL_loseOldest_27 hLp rfl (by omega) (by omega) (by decide) (by rw [shf_at]; exact hpf i (by omega) (by omega)) ?_
      obtain ⟨x1, y1, hxy⟩ := hso i (by omega) (by omega)
      have hxy := pg_n he0 (by omega) hxy
      refine pt_aast eL_loseOldest_28 hLp rfl (by omega) (by omega) (by decide) hxy ⟨_, rfl, Or.inl rfl⟩ ?_
      refine pt_gen ?_
      intro hp1 ev1
      have hL := pg_n ev1 (by omega) hL
      have hLp := pg_s ev1
      refine pt_inc2 eL_loseOldest_29 rfl ?_
      refine pt_goto eL_loseOldest_32 ?_
      have hfin : hp1 = (va_up hp (a + 5) (ra 4 10 (shf pf ((i + 1))))) := by
        rw [ev1, he0]
        rw [bx_uu, show some (a + 6 + 4 * π i) = pf i from (hpf i (by omega) (by omega)).symm, shf_s (by omega)]
      exact ih (i + 1)  _ (by omega) (by omega) hfin 
theorem cL_lose (G : pd_G) (sz : Nat) (hp : pd_P) {a : Nat} {ρ : Int → Int} {k : Int} {Q : Int → Int → Int} (hA : LiA hp a ρ k Q) : pd_c G mL_loseOldest 0 [vr a] sz hp (fun v sz' hp' => v = none ∧ sz' = sz ∧ LiA hp' a ρ 9 (fun i => if i = 9 then Q 0 else Q (i + 1)) ∧ fr hp hp' a (a + 46)) := by
  refine pd_con kL_loseOldest [some (vr a), none, none] rfl rfl (Nat.le_of_ble_eq_true rfl) ?_
  obtain ⟨hL, hN, pf, π, hLp, h4, h5, h6⟩ := hA
  refine pt_aload eL_loseOldest_0 rfl ?_
  refine pt_get eL_loseOldest_1 hL rfl ?_
  refine pt_ic eL_loseOldest_4 ?_
  refine pt_aald eL_loseOldest_5 hLp rfl (by omega) (by omega) (by decide) (h4 0 (by decide) (by decide)).1 ?_
  refine pt_astore1 eL_loseOldest_6 rfl ?_
  refine pt_ic eL_loseOldest_7 ?_
  refine pt_istore2 eL_loseOldest_8 rfl ?_
  refine lL_lose G sz hp (pf := pf) (π := π) hL (fun i h0 h1 => (h4 i h0 h1).1) (fun i h0 h1 => ⟨_, _, (h6 i h0 h1).1⟩) (fun hp0 he0 => ?_) 9 1 hp (by omega) (by omega) (by rw [shf_1]; exact pu_self hLp)
  have hL := pg_n he0 (by omega) hL
  have hLp := pg_s he0
  have hO := pg_n he0 (by omega) (h6 0 (by decide) (by decide)).1
  refine pt_aload eL_loseOldest_35 rfl ?_
  refine pt_get eL_loseOldest_36 hL rfl ?_
  refine pt_ic eL_loseOldest_39 ?_
  refine pt_aload eL_loseOldest_41 rfl ?_
  refine pt_aast eL_loseOldest_42 hLp rfl (by omega) (by omega) (by decide) hO ⟨_, rfl, Or.inl rfl⟩ ?_
  refine pt_gen ?_
  intro hp1 ev1
  have hL := pg_n ev1 (by omega) hL
  have hLp := pg_s ev1
  refine pt_aload eL_loseOldest_43 rfl ?_
  refine pt_ic eL_loseOldest_44 ?_
  refine pt_put2 eL_loseOldest_46 hL trivial ?_
  refine pt_gen ?_
  intro hp2 ev2
  have hL := pg_s ev2
  have hLp := pg_n ev2 (by omega) hLp
  refine pt_vret eL_loseOldest_49 (Nat.le_refl _) (Nat.le_refl _) ?_
  have hfr : fr hp hp2 (a + 5) (a + 6) → True := fun _ => trivial
  have hf1 : fr hp hp2 a (a + 6) := ((fr.rf.up he0 (by omega) (by omega)).up ev1 (by omega) (by omega)).up ev2 (by omega) (by omega)
  refine ⟨rfl, rfl, ⟨hL, ?_, _, (fun i => if i = 9 then π 0 else π (i + 1)), hLp, ?_, ?_, ?_⟩, fun k hk => hf1 k (by omega)⟩
  · have e1 : ∀ j, j ≠ a → j ≠ a + 5 → hp2 j = hp j := fun j n1 n2 => by rw [ev2, va_up_ne _ _ n1, ev1, va_up_ne _ _ n2, he0, va_up_ne _ _ n2]
    exact ⟨(e1 _ (by omega) (by omega)).trans hN.1, (e1 _ (by omega) (by omega)).trans hN.2.1, (e1 _ (by omega) (by omega)).trans hN.2.2.1, (e1 _ (by omega) (by omega)).trans hN.2.2.2⟩
  · intro i hi0 hi1
    dsimp only
    unfold uI shf
    by_cases h9 : i = 9
    · rw [if_pos h9, if_pos h9]
      exact ⟨rfl, (h4 0 (by decide) (by decide)).2⟩
    · rw [if_neg h9, if_neg h9, if_pos (by omega)]
      exact h4 (i + 1) (by omega) (by omega)
  · intro i j hi0 hi1 hj0 hj1 hij
    dsimp only at hij
    by_cases h9 : i = 9 <;> by_cases h8 : j = 9 <;> simp only [h9, h8, if_true, if_false] at hij
    · omega
    · have := h5 0 (j + 1) (by decide) (by decide) (by omega) (by omega) hij; omega
    · have := h5 (i + 1) 0 (by omega) (by omega) (by decide) (by decide) hij; omega
    · have := h5 (i + 1) (j + 1) (by omega) (by omega) (by omega) (by omega) hij; omega
  · intro i hi0 hi1
    by_cases h9 : i = 9
    · simp only [h9, if_true]
      exact (h6 0 (by decide) (by decide)).fr hf1 (by omega)
    · simp only [h9, if_false]
      exact (h6 (i + 1) (by omega) (by omega)).fr hf1 (by omega)
def rmQ (Q : Int → Int → Int) (ρ : Int → Int) (k : Int) : Int → Int → Int := if k = 10 then (fun i => if i = 9 then ρ else Q (i + 1)) else uI Q k ρ
theorem cL_rem (G : pd_G) (sz : Nat) (hp : pd_P) {a : Nat} {ρ : Int → Int} {k : Int} {Q : Int → Int → Int} (hA : LiA hp a ρ k Q) (hk : 0 ≤ k) (hkk : k ≤ 10) (hh : ρ 1 = 0 ∨ ρ 1 = 1) : pd_c G mL_remember 2 [vr a] sz hp (fun v sz' hp' => v = none ∧ sz' = sz ∧ LiA hp' a ρ (knf k) (rmQ Q ρ k) ∧ fr hp hp' a (a + 46)) := by
  refine pd_con kL_remember [some (vr a)] rfl rfl (Nat.le_of_ble_eq_true rfl) ?_
  have hA0 := hA
  obtain ⟨hL, -⟩ := hA0
  have tail : ∀ (hp3 : pd_P) (k3 : Int) (Q3 : Int → Int → Int), LiA hp3 a ρ k3 Q3 → fr hp hp3 a (a + 46) → 0 ≤ k3 → k3 < 10 → (k3 + 1 = knf k) → (∀ i, 0 ≤ i → i < 10 → uI Q3 k3 ρ i = rmQ Q ρ k i) → pd_t G mL_remember 2 (fun v sz' hp' => v = none ∧ sz' = sz ∧ LiA hp' a ρ (knf k) (rmQ Q ρ k) ∧ fr hp hp' a (a + 46)) 13 [some (vr a)] [] sz hp3 := by
    intro hp3 k3 Q3 hA3 hfr3 hk0 hk1 hkn hQ
    obtain ⟨hL, hN, pf, π, hLp, h4, h5, h6⟩ := hA3
    have hpk := (h4 _ hk0 hk1).2
    refine pt_aload eL_remember_13 rfl ?_
    refine pt_get eL_remember_14 hL rfl ?_
    refine pt_aload eL_remember_17 rfl ?_
    refine pt_get eL_remember_18 hL rfl ?_
    refine pt_aald eL_remember_21 hLp rfl (by omega) (by omega) (by decide) (h4 _ hk0 hk1).1 ?_
    refine pt_aload eL_remember_22 rfl ?_
    refine pt_get eL_remember_23 hL rfl ?_
    refine pt_kv1 eL_remember_26 (cS_copy G sz _ (h6 _ hk0 hk1) hN (by omega) hh) (h6 _ hk0 hk1).1 rfl (Nat.le_of_ble_eq_true rfl) (by decide) (Nat.le_refl _) (Nat.le_refl _) ?_
    rintro v2 sz2 hpx ⟨rfl, rfl, hs2, hf2⟩
    have hL := hf2.at (by omega) hL
    refine pt_aload eL_remember_29 rfl ?_
    refine pt_dupr eL_remember_30 ?_
    refine pt_get eL_remember_31 hL rfl ?_
    refine pt_ic eL_remember_34 ?_
    refine pt_iadd eL_remember_35 ?_
    refine pt_put2 eL_remember_36 hL trivial ?_
    refine pt_gen ?_
    intro hp1 ev1
    have hL := pg_s ev1
    refine pt_vret eL_remember_39 (Nat.le_refl _) (Nat.le_refl _) ?_
    refine ⟨rfl, rfl, ?_, ((hfr3.tr hf2 (by omega) (by omega)).up ev1 (by omega) (by omega))⟩
    rw [← hkn]
    have hfa : ∀ j, j ≠ a → hp1 j = hpx j := fun j hj => by rw [ev1, va_up_ne _ _ hj]
    refine ⟨hL, ?_, pf, π, ?_, h4, h5, fun i hi0 hi1 => ?_⟩
    · have := hN.fr hf2 (by omega)
      exact ⟨(hfa _ (by omega)).trans this.1, (hfa _ (by omega)).trans this.2.1, (hfa _ (by omega)).trans this.2.2.1, (hfa _ (by omega)).trans this.2.2.2⟩
    · rw [hfa _ (by omega)]; exact hf2.at (by omega) hLp
    · have hpi := (h4 i hi0 hi1).2
      rw [← hQ i hi0 hi1]
      by_cases hij : i = k3
      · subst hij
        rw [uI_s]
        exact ⟨(hfa _ (by omega)).trans hs2.1, (hfa _ (by omega)).trans hs2.2.1, (hfa _ (by omega)).trans hs2.2.2.1, (hfa _ (by omega)).trans hs2.2.2.2⟩
      · rw [uI_n _ _ hij]
        have hne : π i ≠ π k3 := fun q => hij (h5 i k3 hi0 hi1 hk0 hk1 q)
        have := (h6 i hi0 hi1).fr hf2 (by omega)
        exact ⟨(hfa _ (by omega)).trans this.1, (hfa _ (by omega)).trans this.2.1, (hfa _ (by omega)).trans this.2.2.1, (hfa _ (by omega)).trans this.2.2.2⟩
  refine pt_aload eL_remember_0 rfl ?_
  refine pt_get eL_remember_1 hL rfl ?_
  refine pt_ic eL_remember_4 ?_
  refine pt_clt eL_remember_6 ⟨by omega, by omega⟩ ⟨by omega, by omega⟩ (fun c6 => ?_) (fun c6 => ?_)
  · first
    | (refine tail hp k Q hA fr.rf hk (by omega) (by unfold knf; rw [if_neg (by omega)]) (fun i _ _ => ?_)
       unfold rmQ
       rw [if_neg (show ¬ k = 10 by omega)])
    | (refine tail hpx 9 _ hA2 hf2 (by decide) (by decide) (by unfold knf; rw [if_pos (by omega)]; decide) (fun i _ _ => ?_)
       unfold rmQ uI
       rw [if_pos (show k = 10 by omega)]
       by_cases h9 : i = 9
       · simp [h9]
       · simp [h9])
  · refine pt_aload eL_remember_9 rfl ?_
    refine pt_kv0 eL_remember_10 (cL_lose G sz _ hA) hL rfl (Nat.le_of_ble_eq_true rfl) (by decide) (Nat.le_refl _) (Nat.le_refl _) ?_
    rintro v2 sz2 hpx ⟨rfl, rfl, hA2, hf2⟩
    first
    | (refine tail hp k Q hA fr.rf hk (by omega) (by unfold knf; rw [if_neg (by omega)]) (fun i _ _ => ?_)
       unfold rmQ
       rw [if_neg (show ¬ k = 10 by omega)])
    | (refine tail hpx 9 _ hA2 hf2 (by decide) (by decide) (by unfold knf; rw [if_pos (by omega)]; decide) (fun i _ _ => ?_)
       unfold rmQ uI
       rw [if_pos (show k = 10 by omega)]
       by_cases h9 : i = 9
       · simp [h9]
       · simp [h9])
end
section
/-! the Life: back, copy, begin -/
theorem StA.eq {hp hp1 : pd_P} {a : Nat} {σ : Int → Int} (h : StA hp a σ) (e0 : hp1 a = hp a) (e1 : hp1 (a + 1) = hp (a + 1)) (e2 : hp1 (a + 2) = hp (a + 2)) (e3 : hp1 (a + 3) = hp (a + 3)) : StA hp1 a σ := ⟨e0.trans h.1, e1.trans h.2.1, e2.trans h.2.2.1, e3.trans h.2.2.2⟩
/-- the head of a Life is written: known -/
theorem LiA.head {hp hp1 : pd_P} {a : Nat} {ρ : Int → Int} {k k1 : Int} {Q : Int → Int → Int} (h : LiA hp a ρ k Q) (he : hp1 = va_up hp a (LO a k1)) : LiA hp1 a ρ k1 Q := by
  have e1 : ∀ j, j ≠ a → hp1 j = hp j := fun j hj => by rw [he, va_up_ne _ _ hj]
  obtain ⟨h1, h2, pf, π, h3, h4, h5, h6⟩ := h
  exact ⟨by rw [he]; exact va_up_self _ _ _, h2.eq (e1 _ (by omega)) (e1 _ (by omega)) (e1 _ (by omega)) (e1 _ (by omega)), pf, π, (e1 _ (by omega)).trans h3, h4, h5, fun i hi0 hi1 => (h6 i hi0 hi1).eq (e1 _ (by omega)) (e1 _ (by omega)) (e1 _ (by omega)) (e1 _ (by omega))⟩
/-- its State is written -/
theorem LiA.now {hp hp1 : pd_P} {a : Nat} {ρ τ : Int → Int} {k : Int} {Q : Int → Int → Int} (h : LiA hp a ρ k Q) (hf : _root_.Jvm.Pilot.@@N@@.fr hp hp1 (a + 1) (a + 5)) (hs : StA hp1 (a + 1) τ) : LiA hp1 a τ k Q := by
  obtain ⟨h1, h2, pf, π, h3, h4, h5, h6⟩ := h
  exact ⟨hf.at (by omega) h1, hs, pf, π, hf.at (by omega) h3, h4, h5, fun i hi0 hi1 => (h6 i hi0 hi1).fr hf (by omega)⟩
/-- the j-th older state is written -/
theorem LiA.old {hp hp1 : pd_P} {a : Nat} {ρ τ : Int → Int} {k j : Int} {Q : Int → Int → Int} {pf : Int → Option Nat} {π : Int → Nat} (h : hp a = LO a k ∧ StA hp (a + 1) ρ ∧ hp (a + 5) = ra 4 10 pf ∧ (∀ i, 0 ≤ i → i < 10 → pf i = some (a + 6 + 4 * π i) ∧ π i < 10) ∧ (∀ i j, 0 ≤ i → i < 10 → 0 ≤ j → j < 10 → π i = π j → i = j) ∧ ∀ i, 0 ≤ i → i < 10 → StA hp (a + 6 + 4 * π i) (Q i)) (hj0 : 0 ≤ j) (hj1 : j < 10) (hf : _root_.Jvm.Pilot.@@N@@.fr hp hp1 (a + 6 + 4 * π j) (a + 6 + 4 * π j + 4)) (hs : StA hp1 (a + 6 + 4 * π j) τ) : LiA hp1 a ρ k (uI Q j τ) := by
  obtain ⟨h1, h2, h3, h4, h5, h6⟩ := h
  have hj := (h4 j hj0 hj1).2
  refine ⟨hf.at (by omega) h1, h2.fr hf (by omega), pf, π, hf.at (by omega) h3, h4, h5, fun i hi0 hi1 => ?_⟩
  by_cases hij : i = j
  · subst hij; rw [uI_s]; exact hs
  · rw [uI_n _ _ hij]
    have hne : π i ≠ π j := fun q => hij (h5 i j hi0 hi1 hj0 hj1 q)
    have hpi := (h4 i hi0 hi1).2
    exact (h6 i hi0 hi1).fr hf (by omega)
theorem cL_recall (G : pd_G) (sz : Nat) (hp : pd_P) {a : Nat} {ρ : Int → Int} {k : Int} {Q : Int → Int → Int} (hA : LiA hp a ρ k Q) (hk : 0 < k) (hkk : k ≤ 10) (hh : Q (k - 1) 1 = 0 ∨ Q (k - 1) 1 = 1) : pd_c G mL_recall 2 [vr a] sz hp (fun v sz' hp' => v = none ∧ sz' = sz ∧ LiA hp' a (Q (k - 1)) (k - 1) Q ∧ fr hp hp' a (a + 46)) := by
  refine pd_con kL_recall [some (vr a)] rfl rfl (Nat.le_of_ble_eq_true rfl) ?_
  have hL := hA.1
  refine pt_aload eL_recall_0 rfl ?_
  refine pt_get eL_recall_1 hL rfl ?_
  refine pt_zle eL_recall_4 ⟨by omega, by omega⟩ (fun c4 => ?_) (fun c4 => ?_)
  · exfalso; omega
  · refine pt_aload eL_recall_7 rfl ?_
    refine pt_dupr eL_recall_8 ?_
    refine pt_get eL_recall_9 hL rfl ?_
    refine pt_ic eL_recall_12 ?_
    refine pt_isub eL_recall_13 ?_
    refine pt_put2 eL_recall_14 hL trivial ?_
    refine pt_gen ?_
    intro hp1 ev1
    have hL := pg_s ev1
    have hA1 := hA.head ev1
    have hA2 := hA1
    obtain ⟨hL, hN, pf, π, hLp, h4, h5, h6⟩ := hA1
    have hpk := (h4 (k - 1) (by omega) (by omega)).2
    refine pt_aload eL_recall_17 rfl ?_
    refine pt_get eL_recall_18 hL rfl ?_
    refine pt_aload eL_recall_21 rfl ?_
    refine pt_get eL_recall_22 hL rfl ?_
    refine pt_aload eL_recall_25 rfl ?_
    refine pt_get eL_recall_26 hL rfl ?_
    refine pt_aald eL_recall_29 hLp rfl (by omega) (by omega) (by decide) (h4 (k - 1) (by omega) (by omega)).1 ?_
    refine pt_kv1 eL_recall_30 (cS_copy G sz _ hN (h6 (k - 1) (by omega) (by omega)) (by omega) hh) hN.1 rfl (Nat.le_of_ble_eq_true rfl) (by decide) (Nat.le_refl _) (Nat.le_refl _) ?_
    rintro v2 sz2 hpx ⟨rfl, hz9, hs2, hf2⟩
    obtain rfl := hz9.symm
    refine pt_vret eL_recall_33 (Nat.le_refl _) (Nat.le_refl _) ?_
    exact ⟨rfl, rfl, hA2.now hf2 hs2, (fr.rf.up ev1 (by omega) (by omega)).tr hf2 (by omega) (by omega)⟩
theorem cL_begin (G : pd_G) (sz : Nat) (hp : pd_P) {a h : Nat} {gd ev bk k : Int} {fi ρ : Int → Int} {Q : Int → Int → Int} (hah : h + 8 ≤ a ∨ a + 46 ≤ h) (hA : LiA hp a ρ k Q) (hH : hp h = HO h gd ev bk) (hH1 : hp (h + 1) = ia 4 fi) (hg0 : 0 ≤ gd) (hg4 : gd ≤ 4) : pd_c G mL_begin 3 [vr a, vr h] sz hp (fun v sz' hp' => v = none ∧ sz' = sz ∧ LiA hp' a (beg fi gd) 0 Q ∧ fr hp hp' a (a + 46)) := by
  refine pd_con kL_begin [some (vr a), some (vr h)] rfl rfl (Nat.le_of_ble_eq_true rfl) ?_
  have hL := hA.1
  refine pt_aload eL_begin_0 rfl ?_
  refine pt_get eL_begin_1 hL rfl ?_
  refine pt_aload eL_begin_4 rfl ?_
  refine pt_kv1 eL_begin_5 (cS_begin G sz _ (by omega) hA.2.1 hH hH1 hg0 hg4) hA.2.1.1 rfl (Nat.le_of_ble_eq_true rfl) (by decide) (Nat.le_refl _) (Nat.le_refl _) ?_
  rintro v2 sz2 hpx ⟨rfl, hz9, hs2, hf2⟩
  obtain rfl := hz9.symm
  have hA2 := hA.now hf2 hs2
  have hL := hA2.1
  refine pt_aload eL_begin_8 rfl ?_
  refine pt_ic eL_begin_9 ?_
  refine pt_put2 eL_begin_10 hL trivial ?_
  refine pt_gen ?_
  intro hp1 ev1
  have hL := pg_s ev1
  refine pt_vret eL_begin_13 (Nat.le_refl _) (Nat.le_refl _) ?_
  exact ⟨rfl, rfl, hA2.head ev1, (fr.tr (fr.rf (lo := a) (hi := a + 46)) hf2 (by omega) (by omega)).up ev1 (by omega) (by omega)⟩
theorem lL_copy (G : pd_G) (sz : Nat) {hp : pd_P} {a b : Nat} {kb : Int} {ρb : Int → Int} {Qa Qb : Int → Int → Int} (hab : a + 46 ≤ b ∨ b + 46 ≤ a) (hk0 : 0 ≤ kb) (hk1 : kb ≤ 10) (hh : ∀ j, 0 ≤ j → j < kb → Qb j 1 = 0 ∨ Qb j 1 = 1) {R : pd_R} (hx : ∀  (hp0 : pd_P), LiA hp0 a ρb kb (fun j => if 0 ≤ j ∧ j < kb then Qb j else Qa j) ∧ LiA hp0 b ρb kb Qb ∧ fr hp hp0 a (a + 46) → pd_t G mL_copy 2 R 50 [some (vr a), some (vr b), some (vi (kb))] [] sz hp0) : ∀ (n : Nat) (i : Int)  (hp0 : pd_P), 0 ≤ i → i + n = kb → LiA hp0 a ρb kb (fun j => if 0 ≤ j ∧ j < i then Qb j else Qa j) ∧ LiA hp0 b ρb kb Qb ∧ fr hp hp0 a (a + 46) → pd_t G mL_copy 2 R 21 [some (vr a), some (vr b), some (vi (i))] [] sz hp0 := by
  intro n
  induction n with
  | zero =>
    intro i  hp0 hi0 hiE hI
    have hiE2 : kb = i := by omega
    subst hiE2
    have hx2 := hx  hp0 hI
    obtain ⟨hA1, hB1, hf0⟩ := hI
    have hB2 := hB1
    obtain ⟨hL, hN, pf, π, hLp, h4, h5, h6⟩ := hA1
    obtain ⟨hB, hBN, pb, πb, hBp, g4, g5, g6⟩ := hB1
    refine pt_iload eL_copy_21 rfl ?_
    refine pt_aload eL_copy_22 rfl ?_
    refine pt_get eL_copy_23 hL rfl ?_
    refine pt_cge eL_copy_26 ⟨by omega, by omega⟩ ⟨by omega, by omega⟩ (fun c26 => ?_) (fun c26 => ?_)
    · exact hx2
    · exfalso; omega
  | succ n ih =>
    intro i  hp0 hi0 hiE hI
    obtain ⟨hA1, hB1, hf0⟩ := hI
    have hB2 := hB1
    obtain ⟨hL, hN, pf, π, hLp, h4, h5, h6⟩ := hA1
    obtain ⟨hB, hBN, pb, πb, hBp, g4, g5, g6⟩ := hB1
    refine pt_iload eL_copy_21 rfl ?_
    refine pt_aload eL_copy_22 rfl ?_
    refine pt_get eL_copy_23 hL rfl ?_
    refine pt_cge eL_copy_26 ⟨by omega, by omega⟩ ⟨by omega, by omega⟩ (fun c26 => ?_) (fun c26 => ?_)
    · exfalso; omega
    · have hpi := (h4 i (by omega) (by omega)).2
      have hpb := (g4 i (by omega) (by omega)).2
      refine pt_aload eL_copy_29 rfl ?_
      refine pt_get eL_copy_30 hL rfl ?_
      refine pt_iload eL_copy_33 rfl ?_
      refine pt_aald eL_copy_34 hLp rfl (by omega) (by omega) (by decide) (h4 i (by omega) (by omega)).1 ?_
      refine pt_aload eL_copy_35 rfl ?_
      refine pt_get eL_copy_36 hB rfl ?_
      refine pt_iload eL_copy_39 rfl ?_
      refine pt_aald eL_copy_40 hBp rfl (by omega) (by omega) (by decide) (g4 i (by omega) (by omega)).1 ?_
      refine pt_kv1 eL_copy_41 (cS_copy G sz _ (h6 i (by omega) (by omega)) (g6 i (by omega) (by omega)) (by omega) (hh i (by omega) (by omega))) (h6 i (by omega) (by omega)).1 rfl (Nat.le_of_ble_eq_true rfl) (by decide) (Nat.le_refl _) (Nat.le_refl _) ?_
      rintro v2 sz2 hpx ⟨rfl, hz9, hs2, hf2⟩
      obtain rfl := hz9.symm
      refine pt_inc2 eL_copy_44 rfl ?_
      refine pt_goto eL_copy_47 ?_
      refine ih (i + 1)  _ (by omega) (by omega) ?_
      have hA9 := LiA.old ⟨hL, hN, hLp, h4, h5, h6⟩ (by omega) (by omega) hf2 hs2
      have hqe : uI (fun j => if 0 ≤ j ∧ j < i then Qb j else Qa j) i (Qb i) = fun j => if 0 ≤ j ∧ j < i + 1 then Qb j else Qa j := by
        funext j
        unfold uI
        dsimp only
        by_cases hj : j = i
        · subst hj; rw [if_pos rfl, if_pos (by omega)]
        · rw [if_neg hj]
          by_cases hj2 : 0 ≤ j ∧ j < i
          · rw [if_pos hj2, if_pos (by omega)]
          · rw [if_neg hj2, if_neg (by omega)]
      rw [hqe] at hA9
      exact ⟨hA9, hB2.fr hf2 (by omega), hf0.tr hf2 (by omega) (by omega)⟩
theorem cL_copy (G : pd_G) (sz : Nat) (hp : pd_P) {a b : Nat} {ka kb : Int} {ρa ρb : Int → Int} {Qa Qb : Int → Int → Int} (hab : a + 46 ≤ b ∨ b + 46 ≤ a) (hA : LiA hp a ρa ka Qa) (hB : LiA hp b ρb kb Qb) (hk0 : 0 ≤ kb) (hk1 : kb ≤ 10) (hh0 : ρb 1 = 0 ∨ ρb 1 = 1) (hh : ∀ j, 0 ≤ j → j < kb → Qb j 1 = 0 ∨ Qb j 1 = 1) : pd_c G mL_copy 2 [vr a, vr b] sz hp (fun v sz' hp' => v = none ∧ sz' = sz ∧ LiA hp' a ρb kb (fun j => if 0 ≤ j ∧ j < kb then Qb j else Qa j) ∧ fr hp hp' a (a + 46)) := by
  refine pd_con kL_copy [some (vr a), some (vr b), none] rfl rfl (Nat.le_of_ble_eq_true rfl) ?_
  have hL := hA.1
  have hB0 := hB.1
  refine pt_aload eL_copy_0 rfl ?_
  refine pt_get eL_copy_1 hL rfl ?_
  refine pt_aload eL_copy_4 rfl ?_
  refine pt_get eL_copy_5 hB0 rfl ?_
  refine pt_kv1 eL_copy_8 (cS_copy G sz _ hA.2.1 hB.2.1 (by omega) hh0) hA.2.1.1 rfl (Nat.le_of_ble_eq_true rfl) (by decide) (Nat.le_refl _) (Nat.le_refl _) ?_
  rintro v2 sz2 hpx ⟨rfl, hz9, hs2, hf2⟩
  obtain rfl := hz9.symm
  have hA2 := hA.now hf2 hs2
  have hB2 := hB.fr hf2 (by omega)
  have hL := hA2.1
  have hB0 := hB2.1
  refine pt_aload eL_copy_11 rfl ?_
  refine pt_aload eL_copy_12 rfl ?_
  refine pt_get eL_copy_13 hB0 rfl ?_
  refine pt_put2 eL_copy_16 hL trivial ?_
  refine pt_gen ?_
  intro hp1 ev1
  have hL := pg_s ev1
  have hB0 := pg_n ev1 (by omega) hB0
  refine pt_ic eL_copy_19 ?_
  refine pt_istore2 eL_copy_20 rfl ?_
  have hA3 := hA2.head ev1
  have hf1 : fr hpx hp1 a (a + 1) := fr.rf.up ev1 (by omega) (by omega)
  have hB3 := hB2.fr hf1 (by omega)
  refine lL_copy G sz (hp := hp) (Qa := Qa) hab hk0 hk1 hh (fun hp0 hI => ?_) kb.toNat 0 hp1 (by omega) (by omega) ⟨?_, hB3, (fr.tr (fr.rf (lo := a) (hi := a + 46)) hf2 (by omega) (by omega)).tr hf1 (by omega) (by omega)⟩
  · refine pt_vret eL_copy_50 (Nat.le_refl _) (Nat.le_refl _) ?_
    exact ⟨rfl, rfl, hI.1, hI.2.2⟩
  · have hqe : (fun j => if 0 ≤ j ∧ j < 0 then Qb j else Qa j) = Qa := by funext j; rw [if_neg (by omega)]
    rw [hqe]
    exact hA3
end
