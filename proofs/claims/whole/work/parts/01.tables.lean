-- ===== PART A: goes FIRST, ahead of the names: the tables' words, and 'selects' of the private methods out of them =====
/-- a private method of a class that the tables say can be made, by its rows of tables_1 -/
def lw_okq (q : MethodName × Nat) : Prop := (q.1.cls ≠ "java/lang/invoke/MethodHandle" ∧ q.1.cls ≠ "java/lang/invoke/VarHandle") ∧ Cond.instantiable q.1.cls q.2 ∈ tables_1 ∧ Cond.privateMethod q.1 ∈ tables_1 ∧ Cond.instanceMethod q.1 ∈ tables_1
theorem lw_p0 : lw_okq (⟨"PantryDoors$Text", "next", "()V"⟩, 8) := ⟨⟨by decide +kernel, by decide +kernel⟩, List.mem_of_getElem? (i := 25) (by decide +kernel), List.mem_of_getElem? (i := 331) (by decide +kernel), List.mem_of_getElem? (i := 332) (by decide +kernel)⟩
theorem lw_p1 : lw_okq (⟨"PantryDoors$Text", "nextLetters", "()V"⟩, 8) := ⟨⟨by decide +kernel, by decide +kernel⟩, List.mem_of_getElem? (i := 25) (by decide +kernel), List.mem_of_getElem? (i := 339) (by decide +kernel), List.mem_of_getElem? (i := 340) (by decide +kernel)⟩
theorem lw_p2 : lw_okq (⟨"PantryDoors$Text", "nextNumber", "()V"⟩, 8) := ⟨⟨by decide +kernel, by decide +kernel⟩, List.mem_of_getElem? (i := 25) (by decide +kernel), List.mem_of_getElem? (i := 346) (by decide +kernel), List.mem_of_getElem? (i := 347) (by decide +kernel)⟩
theorem lw_p3 : lw_okq (⟨"PantryDoors$Text", "readItem", "(LPantryDoors$House;)Z"⟩, 8) := ⟨⟨by decide +kernel, by decide +kernel⟩, List.mem_of_getElem? (i := 25) (by decide +kernel), List.mem_of_getElem? (i := 353) (by decide +kernel), List.mem_of_getElem? (i := 354) (by decide +kernel)⟩
theorem lw_p4 : lw_okq (⟨"PantryDoors$Text", "canBegin", "(LPantryDoors$House;I)Z"⟩, 8) := ⟨⟨by decide +kernel, by decide +kernel⟩, List.mem_of_getElem? (i := 25) (by decide +kernel), List.mem_of_getElem? (i := 357) (by decide +kernel), List.mem_of_getElem? (i := 358) (by decide +kernel)⟩
theorem lw_p5 : lw_okq (⟨"PantryDoors$Text", "put", "(LPantryDoors$House;I)V"⟩, 8) := ⟨⟨by decide +kernel, by decide +kernel⟩, List.mem_of_getElem? (i := 25) (by decide +kernel), List.mem_of_getElem? (i := 370) (by decide +kernel), List.mem_of_getElem? (i := 371) (by decide +kernel)⟩
theorem lw_p6 : lw_okq (⟨"PantryDoors$Text", "putGood", "(LPantryDoors$House;)V"⟩, 8) := ⟨⟨by decide +kernel, by decide +kernel⟩, List.mem_of_getElem? (i := 25) (by decide +kernel), List.mem_of_getElem? (i := 374) (by decide +kernel), List.mem_of_getElem? (i := 375) (by decide +kernel)⟩
theorem lw_p7 : lw_okq (⟨"PantryDoors$Text", "putDoor", "(LPantryDoors$House;)V"⟩, 8) := ⟨⟨by decide +kernel, by decide +kernel⟩, List.mem_of_getElem? (i := 25) (by decide +kernel), List.mem_of_getElem? (i := 378) (by decide +kernel), List.mem_of_getElem? (i := 379) (by decide +kernel)⟩
theorem lw_p8 : lw_okq (⟨"PantryDoors$Life", "loseOldest", "()V"⟩, 3) := ⟨⟨by decide +kernel, by decide +kernel⟩, List.mem_of_getElem? (i := 59) (by decide +kernel), List.mem_of_getElem? (i := 439) (by decide +kernel), List.mem_of_getElem? (i := 440) (by decide +kernel)⟩
theorem lw_p9 : lw_okq (⟨"PantryDoors", "firstLack", "()I"⟩, 15) := ⟨⟨by decide +kernel, by decide +kernel⟩, List.mem_of_getElem? (i := 17) (by decide +kernel), List.mem_of_getElem? (i := 492) (by decide +kernel), List.mem_of_getElem? (i := 493) (by decide +kernel)⟩
theorem lw_p10 : lw_okq (⟨"PantryDoors", "steps", "(I)I"⟩, 15) := ⟨⟨by decide +kernel, by decide +kernel⟩, List.mem_of_getElem? (i := 17) (by decide +kernel), List.mem_of_getElem? (i := 502) (by decide +kernel), List.mem_of_getElem? (i := 503) (by decide +kernel)⟩
theorem lw_p11 : lw_okq (⟨"PantryDoors", "meetings", "(I)I"⟩, 15) := ⟨⟨by decide +kernel, by decide +kernel⟩, List.mem_of_getElem? (i := 17) (by decide +kernel), List.mem_of_getElem? (i := 506) (by decide +kernel), List.mem_of_getElem? (i := 507) (by decide +kernel)⟩
theorem lw_p12 : lw_okq (⟨"PantryDoors$Plan", "growTree", "(LPantryDoors$House;LPantryDoors$State;I)V"⟩, 6) := ⟨⟨by decide +kernel, by decide +kernel⟩, List.mem_of_getElem? (i := 111) (by decide +kernel), List.mem_of_getElem? (i := 525) (by decide +kernel), List.mem_of_getElem? (i := 526) (by decide +kernel)⟩
theorem lw_p13 : lw_okq (⟨"PantryDoors$Plan", "reckonWanted", "(I)V"⟩, 6) := ⟨⟨by decide +kernel, by decide +kernel⟩, List.mem_of_getElem? (i := 111) (by decide +kernel), List.mem_of_getElem? (i := 531) (by decide +kernel), List.mem_of_getElem? (i := 532) (by decide +kernel)⟩
theorem lw_p14 : lw_okq (⟨"PantryDoors$Plan", "allWanted", "()I"⟩, 6) := ⟨⟨by decide +kernel, by decide +kernel⟩, List.mem_of_getElem? (i := 111) (by decide +kernel), List.mem_of_getElem? (i := 538) (by decide +kernel), List.mem_of_getElem? (i := 539) (by decide +kernel)⟩
theorem lw_p15 : lw_okq (⟨"PantryDoors$Plan", "descend", "(I)V"⟩, 6) := ⟨⟨by decide +kernel, by decide +kernel⟩, List.mem_of_getElem? (i := 111) (by decide +kernel), List.mem_of_getElem? (i := 542) (by decide +kernel), List.mem_of_getElem? (i := 543) (by decide +kernel)⟩
def lw_privs_1 : List (MethodName × Nat) := [(⟨"PantryDoors$Text", "next", "()V"⟩, 8), (⟨"PantryDoors$Text", "nextLetters", "()V"⟩, 8), (⟨"PantryDoors$Text", "nextNumber", "()V"⟩, 8), (⟨"PantryDoors$Text", "readItem", "(LPantryDoors$House;)Z"⟩, 8), (⟨"PantryDoors$Text", "canBegin", "(LPantryDoors$House;I)Z"⟩, 8), (⟨"PantryDoors$Text", "put", "(LPantryDoors$House;I)V"⟩, 8), (⟨"PantryDoors$Text", "putGood", "(LPantryDoors$House;)V"⟩, 8), (⟨"PantryDoors$Text", "putDoor", "(LPantryDoors$House;)V"⟩, 8), (⟨"PantryDoors$Life", "loseOldest", "()V"⟩, 3), (⟨"PantryDoors", "firstLack", "()I"⟩, 15), (⟨"PantryDoors", "steps", "(I)I"⟩, 15), (⟨"PantryDoors", "meetings", "(I)I"⟩, 15), (⟨"PantryDoors$Plan", "growTree", "(LPantryDoors$House;LPantryDoors$State;I)V"⟩, 6), (⟨"PantryDoors$Plan", "reckonWanted", "(I)V"⟩, 6), (⟨"PantryDoors$Plan", "allWanted", "()I"⟩, 6), (⟨"PantryDoors$Plan", "descend", "(I)V"⟩, 6)]
theorem lw_r1 : ∀ q ∈ lw_privs_1, lw_okq q := List.forall_mem_cons.mpr ⟨lw_p0, List.forall_mem_cons.mpr ⟨lw_p1, List.forall_mem_cons.mpr ⟨lw_p2, List.forall_mem_cons.mpr ⟨lw_p3, List.forall_mem_cons.mpr ⟨lw_p4, List.forall_mem_cons.mpr ⟨lw_p5, List.forall_mem_cons.mpr ⟨lw_p6, List.forall_mem_cons.mpr ⟨lw_p7, List.forall_mem_cons.mpr ⟨lw_p8, List.forall_mem_cons.mpr ⟨lw_p9, List.forall_mem_cons.mpr ⟨lw_p10, List.forall_mem_cons.mpr ⟨lw_p11, List.forall_mem_cons.mpr ⟨lw_p12, List.forall_mem_cons.mpr ⟨lw_p13, List.forall_mem_cons.mpr ⟨lw_p14, List.forall_mem_cons.mpr ⟨lw_p15, fun _ h => absurd h List.not_mem_nil⟩⟩⟩⟩⟩⟩⟩⟩⟩⟩⟩⟩⟩⟩⟩⟩
theorem lw_p16 : lw_okq (⟨"PantryDoors$Plan", "ascend", "()V"⟩, 6) := ⟨⟨by decide +kernel, by decide +kernel⟩, List.mem_of_getElem? (i := 111) (by decide +kernel), List.mem_of_getElem? (i := 546) (by decide +kernel), List.mem_of_getElem? (i := 547) (by decide +kernel)⟩
theorem lw_p17 : lw_okq (⟨"PantryDoors", "reckonLoads", "(I)V"⟩, 15) := ⟨⟨by decide +kernel, by decide +kernel⟩, List.mem_of_getElem? (i := 17) (by decide +kernel), List.mem_of_getElem? (i := 554) (by decide +kernel), List.mem_of_getElem? (i := 555) (by decide +kernel)⟩
theorem lw_p18 : lw_okq (⟨"PantryDoors", "worthWith", "(III)I"⟩, 15) := ⟨⟨by decide +kernel, by decide +kernel⟩, List.mem_of_getElem? (i := 17) (by decide +kernel), List.mem_of_getElem? (i := 558) (by decide +kernel), List.mem_of_getElem? (i := 559) (by decide +kernel)⟩
theorem lw_p19 : lw_okq (⟨"PantryDoors", "leastCarried", "(II)I"⟩, 15) := ⟨⟨by decide +kernel, by decide +kernel⟩, List.mem_of_getElem? (i := 17) (by decide +kernel), List.mem_of_getElem? (i := 563) (by decide +kernel), List.mem_of_getElem? (i := 564) (by decide +kernel)⟩
theorem lw_p20 : lw_okq (⟨"PantryDoors", "isAsSeen", "(I)Z"⟩, 15) := ⟨⟨by decide +kernel, by decide +kernel⟩, List.mem_of_getElem? (i := 17) (by decide +kernel), List.mem_of_getElem? (i := 586) (by decide +kernel), List.mem_of_getElem? (i := 587) (by decide +kernel)⟩
theorem lw_p21 : lw_okq (⟨"PantryDoors", "mostAlike", "(II)I"⟩, 15) := ⟨⟨by decide +kernel, by decide +kernel⟩, List.mem_of_getElem? (i := 17) (by decide +kernel), List.mem_of_getElem? (i := 595) (by decide +kernel), List.mem_of_getElem? (i := 596) (by decide +kernel)⟩
theorem lw_p22 : lw_okq (⟨"PantryDoors", "alike", "(III)I"⟩, 15) := ⟨⟨by decide +kernel, by decide +kernel⟩, List.mem_of_getElem? (i := 17) (by decide +kernel), List.mem_of_getElem? (i := 599) (by decide +kernel), List.mem_of_getElem? (i := 600) (by decide +kernel)⟩
theorem lw_p23 : lw_okq (⟨"PantryDoors", "isAsGave", "(II)Z"⟩, 15) := ⟨⟨by decide +kernel, by decide +kernel⟩, List.mem_of_getElem? (i := 17) (by decide +kernel), List.mem_of_getElem? (i := 611) (by decide +kernel), List.mem_of_getElem? (i := 612) (by decide +kernel)⟩
theorem lw_p24 : lw_okq (⟨"PantryDoorsModel", "read", "()V"⟩, 32) := ⟨⟨by decide +kernel, by decide +kernel⟩, List.mem_of_getElem? (i := 675) (by decide +kernel), List.mem_of_getElem? (i := 794) (by decide +kernel), List.mem_of_getElem? (i := 795) (by decide +kernel)⟩
theorem lw_p25 : lw_okq (⟨"PantryDoorsModel", "step", "()V"⟩, 32) := ⟨⟨by decide +kernel, by decide +kernel⟩, List.mem_of_getElem? (i := 675) (by decide +kernel), List.mem_of_getElem? (i := 798) (by decide +kernel), List.mem_of_getElem? (i := 799) (by decide +kernel)⟩
theorem lw_p26 : lw_okq (⟨"PantryDoorsModel", "here", "()I"⟩, 32) := ⟨⟨by decide +kernel, by decide +kernel⟩, List.mem_of_getElem? (i := 675) (by decide +kernel), List.mem_of_getElem? (i := 802) (by decide +kernel), List.mem_of_getElem? (i := 803) (by decide +kernel)⟩
theorem lw_p27 : lw_okq (⟨"PantryDoorsModel", "may", "(I)Z"⟩, 32) := ⟨⟨by decide +kernel, by decide +kernel⟩, List.mem_of_getElem? (i := 675) (by decide +kernel), List.mem_of_getElem? (i := 806) (by decide +kernel), List.mem_of_getElem? (i := 807) (by decide +kernel)⟩
theorem lw_p28 : lw_okq (⟨"PantryDoorsModel", "due", "(Z)V"⟩, 32) := ⟨⟨by decide +kernel, by decide +kernel⟩, List.mem_of_getElem? (i := 675) (by decide +kernel), List.mem_of_getElem? (i := 810) (by decide +kernel), List.mem_of_getElem? (i := 811) (by decide +kernel)⟩
theorem lw_p29 : lw_okq (⟨"PantryDoorsModel", "item", "(I)V"⟩, 32) := ⟨⟨by decide +kernel, by decide +kernel⟩, List.mem_of_getElem? (i := 675) (by decide +kernel), List.mem_of_getElem? (i := 814) (by decide +kernel), List.mem_of_getElem? (i := 815) (by decide +kernel)⟩
theorem lw_p30 : lw_okq (⟨"PantryDoorsModel", "readGood", "()V"⟩, 32) := ⟨⟨by decide +kernel, by decide +kernel⟩, List.mem_of_getElem? (i := 675) (by decide +kernel), List.mem_of_getElem? (i := 818) (by decide +kernel), List.mem_of_getElem? (i := 819) (by decide +kernel)⟩
theorem lw_p31 : lw_okq (⟨"PantryDoorsModel", "number", "(II)I"⟩, 32) := ⟨⟨by decide +kernel, by decide +kernel⟩, List.mem_of_getElem? (i := 675) (by decide +kernel), List.mem_of_getElem? (i := 822) (by decide +kernel), List.mem_of_getElem? (i := 823) (by decide +kernel)⟩
def lw_privs_2 : List (MethodName × Nat) := [(⟨"PantryDoors$Plan", "ascend", "()V"⟩, 6), (⟨"PantryDoors", "reckonLoads", "(I)V"⟩, 15), (⟨"PantryDoors", "worthWith", "(III)I"⟩, 15), (⟨"PantryDoors", "leastCarried", "(II)I"⟩, 15), (⟨"PantryDoors", "isAsSeen", "(I)Z"⟩, 15), (⟨"PantryDoors", "mostAlike", "(II)I"⟩, 15), (⟨"PantryDoors", "alike", "(III)I"⟩, 15), (⟨"PantryDoors", "isAsGave", "(II)Z"⟩, 15), (⟨"PantryDoorsModel", "read", "()V"⟩, 32), (⟨"PantryDoorsModel", "step", "()V"⟩, 32), (⟨"PantryDoorsModel", "here", "()I"⟩, 32), (⟨"PantryDoorsModel", "may", "(I)Z"⟩, 32), (⟨"PantryDoorsModel", "due", "(Z)V"⟩, 32), (⟨"PantryDoorsModel", "item", "(I)V"⟩, 32), (⟨"PantryDoorsModel", "readGood", "()V"⟩, 32), (⟨"PantryDoorsModel", "number", "(II)I"⟩, 32)]
theorem lw_r2 : ∀ q ∈ lw_privs_2, lw_okq q := List.forall_mem_cons.mpr ⟨lw_p16, List.forall_mem_cons.mpr ⟨lw_p17, List.forall_mem_cons.mpr ⟨lw_p18, List.forall_mem_cons.mpr ⟨lw_p19, List.forall_mem_cons.mpr ⟨lw_p20, List.forall_mem_cons.mpr ⟨lw_p21, List.forall_mem_cons.mpr ⟨lw_p22, List.forall_mem_cons.mpr ⟨lw_p23, List.forall_mem_cons.mpr ⟨lw_p24, List.forall_mem_cons.mpr ⟨lw_p25, List.forall_mem_cons.mpr ⟨lw_p26, List.forall_mem_cons.mpr ⟨lw_p27, List.forall_mem_cons.mpr ⟨lw_p28, List.forall_mem_cons.mpr ⟨lw_p29, List.forall_mem_cons.mpr ⟨lw_p30, List.forall_mem_cons.mpr ⟨lw_p31, fun _ h => absurd h List.not_mem_nil⟩⟩⟩⟩⟩⟩⟩⟩⟩⟩⟩⟩⟩⟩⟩⟩
theorem lw_p32 : lw_okq (⟨"PantryDoorsModel", "readOf", "([I)V"⟩, 32) := ⟨⟨by decide +kernel, by decide +kernel⟩, List.mem_of_getElem? (i := 675) (by decide +kernel), List.mem_of_getElem? (i := 826) (by decide +kernel), List.mem_of_getElem? (i := 827) (by decide +kernel)⟩
theorem lw_p33 : lw_okq (⟨"PantryDoorsModel", "isGood", "(I)Z"⟩, 32) := ⟨⟨by decide +kernel, by decide +kernel⟩, List.mem_of_getElem? (i := 675) (by decide +kernel), List.mem_of_getElem? (i := 834) (by decide +kernel), List.mem_of_getElem? (i := 835) (by decide +kernel)⟩
theorem lw_p34 : lw_okq (⟨"PantryDoorsModel", "canTake", "([II)I"⟩, 32) := ⟨⟨by decide +kernel, by decide +kernel⟩, List.mem_of_getElem? (i := 675) (by decide +kernel), List.mem_of_getElem? (i := 838) (by decide +kernel), List.mem_of_getElem? (i := 839) (by decide +kernel)⟩
theorem lw_p35 : lw_okq (⟨"PantryDoorsModel", "opens", "([I)I"⟩, 32) := ⟨⟨by decide +kernel, by decide +kernel⟩, List.mem_of_getElem? (i := 675) (by decide +kernel), List.mem_of_getElem? (i := 842) (by decide +kernel), List.mem_of_getElem? (i := 843) (by decide +kernel)⟩
theorem lw_p36 : lw_okq (⟨"PantryDoorsModel", "givesOn", "(I)I"⟩, 32) := ⟨⟨by decide +kernel, by decide +kernel⟩, List.mem_of_getElem? (i := 675) (by decide +kernel), List.mem_of_getElem? (i := 846) (by decide +kernel), List.mem_of_getElem? (i := 847) (by decide +kernel)⟩
theorem lw_p37 : lw_okq (⟨"PantryDoorsModel", "know", "()V"⟩, 32) := ⟨⟨by decide +kernel, by decide +kernel⟩, List.mem_of_getElem? (i := 675) (by decide +kernel), List.mem_of_getElem? (i := 864) (by decide +kernel), List.mem_of_getElem? (i := 865) (by decide +kernel)⟩
theorem lw_p38 : lw_okq (⟨"PantryDoorsModel", "passOn", "([I)I"⟩, 32) := ⟨⟨by decide +kernel, by decide +kernel⟩, List.mem_of_getElem? (i := 675) (by decide +kernel), List.mem_of_getElem? (i := 868) (by decide +kernel), List.mem_of_getElem? (i := 869) (by decide +kernel)⟩
theorem lw_p39 : lw_okq (⟨"PantryDoorsModel", "takeOf", "([III)V"⟩, 32) := ⟨⟨by decide +kernel, by decide +kernel⟩, List.mem_of_getElem? (i := 675) (by decide +kernel), List.mem_of_getElem? (i := 879) (by decide +kernel), List.mem_of_getElem? (i := 880) (by decide +kernel)⟩
theorem lw_p40 : lw_okq (⟨"PantryDoorsModel", "firstHungry", "()I"⟩, 32) := ⟨⟨by decide +kernel, by decide +kernel⟩, List.mem_of_getElem? (i := 675) (by decide +kernel), List.mem_of_getElem? (i := 899) (by decide +kernel), List.mem_of_getElem? (i := 900) (by decide +kernel)⟩
theorem lw_p41 : lw_okq (⟨"PantryDoorsModel", "take", "()V"⟩, 32) := ⟨⟨by decide +kernel, by decide +kernel⟩, List.mem_of_getElem? (i := 675) (by decide +kernel), List.mem_of_getElem? (i := 903) (by decide +kernel), List.mem_of_getElem? (i := 904) (by decide +kernel)⟩
theorem lw_p42 : lw_okq (⟨"PantryDoorsModel", "takenBy", "(II)I"⟩, 32) := ⟨⟨by decide +kernel, by decide +kernel⟩, List.mem_of_getElem? (i := 675) (by decide +kernel), List.mem_of_getElem? (i := 919) (by decide +kernel), List.mem_of_getElem? (i := 920) (by decide +kernel)⟩
theorem lw_p43 : lw_okq (⟨"PantryDoorsModel", "tellMost", "()V"⟩, 32) := ⟨⟨by decide +kernel, by decide +kernel⟩, List.mem_of_getElem? (i := 675) (by decide +kernel), List.mem_of_getElem? (i := 927) (by decide +kernel), List.mem_of_getElem? (i := 928) (by decide +kernel)⟩
theorem lw_p44 : lw_okq (⟨"PantryDoorsModel", "storeOf", "(II)I"⟩, 32) := ⟨⟨by decide +kernel, by decide +kernel⟩, List.mem_of_getElem? (i := 675) (by decide +kernel), List.mem_of_getElem? (i := 939) (by decide +kernel), List.mem_of_getElem? (i := 940) (by decide +kernel)⟩
def lw_privs_3 : List (MethodName × Nat) := [(⟨"PantryDoorsModel", "readOf", "([I)V"⟩, 32), (⟨"PantryDoorsModel", "isGood", "(I)Z"⟩, 32), (⟨"PantryDoorsModel", "canTake", "([II)I"⟩, 32), (⟨"PantryDoorsModel", "opens", "([I)I"⟩, 32), (⟨"PantryDoorsModel", "givesOn", "(I)I"⟩, 32), (⟨"PantryDoorsModel", "know", "()V"⟩, 32), (⟨"PantryDoorsModel", "passOn", "([I)I"⟩, 32), (⟨"PantryDoorsModel", "takeOf", "([III)V"⟩, 32), (⟨"PantryDoorsModel", "firstHungry", "()I"⟩, 32), (⟨"PantryDoorsModel", "take", "()V"⟩, 32), (⟨"PantryDoorsModel", "takenBy", "(II)I"⟩, 32), (⟨"PantryDoorsModel", "tellMost", "()V"⟩, 32), (⟨"PantryDoorsModel", "storeOf", "(II)I"⟩, 32)]
theorem lw_r3 : ∀ q ∈ lw_privs_3, lw_okq q := List.forall_mem_cons.mpr ⟨lw_p32, List.forall_mem_cons.mpr ⟨lw_p33, List.forall_mem_cons.mpr ⟨lw_p34, List.forall_mem_cons.mpr ⟨lw_p35, List.forall_mem_cons.mpr ⟨lw_p36, List.forall_mem_cons.mpr ⟨lw_p37, List.forall_mem_cons.mpr ⟨lw_p38, List.forall_mem_cons.mpr ⟨lw_p39, List.forall_mem_cons.mpr ⟨lw_p40, List.forall_mem_cons.mpr ⟨lw_p41, List.forall_mem_cons.mpr ⟨lw_p42, List.forall_mem_cons.mpr ⟨lw_p43, List.forall_mem_cons.mpr ⟨lw_p44, fun _ h => absurd h List.not_mem_nil⟩⟩⟩⟩⟩⟩⟩⟩⟩⟩⟩⟩⟩
def lw_privs : List (MethodName × Nat) := lw_privs_1 ++ (lw_privs_2 ++ (lw_privs_3))
def lw_tbl : List Cond := k2_sels lw_privs ++ tables_1
theorem lw_privs_ok : ∀ q ∈ lw_privs, lw_okq q := by
  show ∀ q ∈ lw_privs_1 ++ (lw_privs_2 ++ (lw_privs_3)), lw_okq q
  exact List.forall_mem_append.mpr ⟨lw_r1, List.forall_mem_append.mpr ⟨lw_r2, lw_r3⟩⟩
def RX0 : String := "PantryDoors$Candle"
def TX0 : u_T := fun k => match k with
  | _ => ("PantryDoors$Good", "traced", "J", false)
def tyX0 : Nat → FieldType := fun k => match k with
  | _ => .long
abbrev wsX00 : List Cond := u_ws RX0 TX0 1
theorem nmX0 : ∀ a, a < 1 → ∀ b, b < 1 → a ≠ b → (TX0 a).2.1 ≠ (TX0 b).2.1 := by decide +kernel
theorem tyX0_ok : ∀ k, k < 1 → parseFieldDescriptor (TX0 k).2.2.1 = some (tyX0 k) := by decide +kernel
def RX1 : String := "PantryDoors$Cone"
def TX1 : u_T := fun k => match k with
  | _ => ("PantryDoors$Good", "traced", "J", false)
def tyX1 : Nat → FieldType := fun k => match k with
  | _ => .long
abbrev wsX10 : List Cond := u_ws RX1 TX1 1
theorem nmX1 : ∀ a, a < 1 → ∀ b, b < 1 → a ≠ b → (TX1 a).2.1 ≠ (TX1 b).2.1 := by decide +kernel
theorem tyX1_ok : ∀ k, k < 1 → parseFieldDescriptor (TX1 k).2.2.1 = some (tyX1 k) := by decide +kernel
def RX2 : String := "PantryDoors$Good"
def TX2 : u_T := fun k => match k with
  | _ => ("PantryDoors$Good", "traced", "J", false)
def tyX2 : Nat → FieldType := fun k => match k with
  | _ => .long
abbrev wsX20 : List Cond := u_ws RX2 TX2 1
theorem nmX2 : ∀ a, a < 1 → ∀ b, b < 1 → a ≠ b → (TX2 a).2.1 ≠ (TX2 b).2.1 := by decide +kernel
theorem tyX2_ok : ∀ k, k < 1 → parseFieldDescriptor (TX2 k).2.2.1 = some (tyX2 k) := by decide +kernel
def RX3 : String := "PantryDoors$Ham"
def TX3 : u_T := fun k => match k with
  | _ => ("PantryDoors$Good", "traced", "J", false)
def tyX3 : Nat → FieldType := fun k => match k with
  | _ => .long
abbrev wsX30 : List Cond := u_ws RX3 TX3 1
theorem nmX3 : ∀ a, a < 1 → ∀ b, b < 1 → a ≠ b → (TX3 a).2.1 ≠ (TX3 b).2.1 := by decide +kernel
theorem tyX3_ok : ∀ k, k < 1 → parseFieldDescriptor (TX3 k).2.2.1 = some (tyX3 k) := by decide +kernel
def RX4 : String := "PantryDoors$House"
def TX4 : u_T := fun k => match k with
  | 0 => ("PantryDoors$House", "first", "[I", true)
  | 1 => ("PantryDoors$House", "use", "[I", true)
  | 2 => ("PantryDoors$House", "weight", "[I", true)
  | 3 => ("PantryDoors$House", "worth", "[I", true)
  | 4 => ("PantryDoors$House", "brought", "[I", true)
  | 5 => ("PantryDoors$House", "missed", "[I", true)
  | 6 => ("PantryDoors$House", "stores", "[I", true)
  | 7 => ("PantryDoors$House", "goods", "I", false)
  | 8 => ("PantryDoors$House", "every", "I", false)
  | _ => ("PantryDoors$House", "back", "I", false)
def tyX4 : Nat → FieldType := fun k => match k with
  | 0 => .array .int
  | 1 => .array .int
  | 2 => .array .int
  | 3 => .array .int
  | 4 => .array .int
  | 5 => .array .int
  | 6 => .array .int
  | 7 => .int
  | 8 => .int
  | _ => .int
abbrev wsX40 : List Cond := u_ws RX4 TX4 10
theorem nmX4 : ∀ a, a < 10 → ∀ b, b < 10 → a ≠ b → (TX4 a).2.1 ≠ (TX4 b).2.1 := by decide +kernel
theorem tyX4_ok : ∀ k, k < 10 → parseFieldDescriptor (TX4 k).2.2.1 = some (tyX4 k) := by decide +kernel
def RX5 : String := "PantryDoors$Jelly"
def TX5 : u_T := fun k => match k with
  | _ => ("PantryDoors$Good", "traced", "J", false)
def tyX5 : Nat → FieldType := fun k => match k with
  | _ => .long
abbrev wsX50 : List Cond := u_ws RX5 TX5 1
theorem nmX5 : ∀ a, a < 1 → ∀ b, b < 1 → a ≠ b → (TX5 a).2.1 ≠ (TX5 b).2.1 := by decide +kernel
theorem tyX5_ok : ∀ k, k < 1 → parseFieldDescriptor (TX5 k).2.2.1 = some (tyX5 k) := by decide +kernel
def RX6 : String := "PantryDoors$Life"
def TX6 : u_T := fun k => match k with
  | 0 => ("PantryDoors$Life", "now", "LPantryDoors$State;", true)
  | 1 => ("PantryDoors$Life", "past", "[LPantryDoors$State;", true)
  | _ => ("PantryDoors$Life", "known", "I", false)
def tyX6 : Nat → FieldType := fun k => match k with
  | 0 => .object "PantryDoors$State"
  | 1 => .array (.object "PantryDoors$State")
  | _ => .int
abbrev wsX60 : List Cond := u_ws RX6 TX6 3
theorem nmX6 : ∀ a, a < 3 → ∀ b, b < 3 → a ≠ b → (TX6 a).2.1 ≠ (TX6 b).2.1 := by decide +kernel
theorem tyX6_ok : ∀ k, k < 3 → parseFieldDescriptor (TX6 k).2.2.1 = some (tyX6 k) := by decide +kernel
def RX7 : String := "PantryDoors$Plan"
def TX7 : u_T := fun k => match k with
  | 0 => ("PantryDoors$Plan", "choice", "[I", true)
  | 1 => ("PantryDoors$Plan", "length", "I", false)
  | 2 => ("PantryDoors$Plan", "there", "[I", true)
  | 3 => ("PantryDoors$Plan", "wanted", "[I", true)
  | 4 => ("PantryDoors$Plan", "node", "[I", true)
  | _ => ("PantryDoors$Plan", "goods", "I", false)
def tyX7 : Nat → FieldType := fun k => match k with
  | 0 => .array .int
  | 1 => .int
  | 2 => .array .int
  | 3 => .array .int
  | 4 => .array .int
  | _ => .int
abbrev wsX70 : List Cond := u_ws RX7 TX7 6
theorem nmX7 : ∀ a, a < 6 → ∀ b, b < 6 → a ≠ b → (TX7 a).2.1 ≠ (TX7 b).2.1 := by decide +kernel
theorem tyX7_ok : ∀ k, k < 6 → parseFieldDescriptor (TX7 k).2.2.1 = some (tyX7 k) := by decide +kernel
def RX8 : String := "PantryDoors$State"
def TX8 : u_T := fun k => match k with
  | 0 => ("PantryDoors$State", "there", "[I", true)
  | 1 => ("PantryDoors$State", "lacked", "[I", true)
  | 2 => ("PantryDoors$State", "taken", "[I", true)
  | 3 => ("PantryDoors$State", "day", "I", false)
  | _ => ("PantryDoors$State", "held", "Z", false)
def tyX8 : Nat → FieldType := fun k => match k with
  | 0 => .array .int
  | 1 => .array .int
  | 2 => .array .int
  | 3 => .int
  | _ => .boolean
abbrev wsX80 : List Cond := u_ws RX8 TX8 5
theorem nmX8 : ∀ a, a < 5 → ∀ b, b < 5 → a ≠ b → (TX8 a).2.1 ≠ (TX8 b).2.1 := by decide +kernel
theorem tyX8_ok : ∀ k, k < 5 → parseFieldDescriptor (TX8 k).2.2.1 = some (tyX8 k) := by decide +kernel
def RX9 : String := "PantryDoors$Sugar"
def TX9 : u_T := fun k => match k with
  | _ => ("PantryDoors$Good", "traced", "J", false)
def tyX9 : Nat → FieldType := fun k => match k with
  | _ => .long
abbrev wsX90 : List Cond := u_ws RX9 TX9 1
theorem nmX9 : ∀ a, a < 1 → ∀ b, b < 1 → a ≠ b → (TX9 a).2.1 ≠ (TX9 b).2.1 := by decide +kernel
theorem tyX9_ok : ∀ k, k < 1 → parseFieldDescriptor (TX9 k).2.2.1 = some (tyX9 k) := by decide +kernel
def RX10 : String := "PantryDoors$Text"
def TX10 : u_T := fun k => match k with
  | 0 => ("PantryDoors$Text", "bytes", "[I", true)
  | 1 => ("PantryDoors$Text", "length", "I", false)
  | 2 => ("PantryDoors$Text", "numbers", "[I", true)
  | 3 => ("PantryDoors$Text", "at", "I", false)
  | 4 => ("PantryDoors$Text", "place", "I", false)
  | 5 => ("PantryDoors$Text", "token", "I", false)
  | 6 => ("PantryDoors$Text", "value", "I", false)
  | _ => ("PantryDoors$Text", "doorTold", "Z", false)
def tyX10 : Nat → FieldType := fun k => match k with
  | 0 => .array .int
  | 1 => .int
  | 2 => .array .int
  | 3 => .int
  | 4 => .int
  | 5 => .int
  | 6 => .int
  | _ => .boolean
abbrev wsX100 : List Cond := u_ws RX10 TX10 8
theorem nmX10 : ∀ a, a < 8 → ∀ b, b < 8 → a ≠ b → (TX10 a).2.1 ≠ (TX10 b).2.1 := by decide +kernel
theorem tyX10_ok : ∀ k, k < 8 → parseFieldDescriptor (TX10 k).2.2.1 = some (tyX10 k) := by decide +kernel
def RX11 : String := "PantryDoors"
def TX11 : u_T := fun k => match k with
  | 0 => ("PantryDoors", "text", "LPantryDoors$Text;", true)
  | 1 => ("PantryDoors", "life", "LPantryDoors$Life;", true)
  | 2 => ("PantryDoors", "images", "[LPantryDoors$Life;", true)
  | 3 => ("PantryDoors", "kept", "[Z", true)
  | 4 => ("PantryDoors", "seenGood", "[I", true)
  | 5 => ("PantryDoors", "seenThere", "[I", true)
  | 6 => ("PantryDoors", "gaveDay", "[I", true)
  | 7 => ("PantryDoors", "gaveTo", "[I", true)
  | 8 => ("PantryDoors", "best", "[I", true)
  | 9 => ("PantryDoors", "plan", "LPantryDoors$Plan;", true)
  | 10 => ("PantryDoors", "kinds", "[LPantryDoors$Good;", true)
  | 11 => ("PantryDoors", "told", "LPantryDoors$House;", false)
  | 12 => ("PantryDoors", "draft", "LPantryDoors$House;", false)
  | 13 => ("PantryDoors", "seen", "I", false)
  | _ => ("PantryDoors", "gaves", "I", false)
def tyX11 : Nat → FieldType := fun k => match k with
  | 0 => .object "PantryDoors$Text"
  | 1 => .object "PantryDoors$Life"
  | 2 => .array (.object "PantryDoors$Life")
  | 3 => .array .boolean
  | 4 => .array .int
  | 5 => .array .int
  | 6 => .array .int
  | 7 => .array .int
  | 8 => .array .int
  | 9 => .object "PantryDoors$Plan"
  | 10 => .array (.object "PantryDoors$Good")
  | 11 => .object "PantryDoors$House"
  | 12 => .object "PantryDoors$House"
  | 13 => .int
  | _ => .int
abbrev wsX110 : List Cond := u_ws RX11 TX11 15
theorem nmX11 : ∀ a, a < 15 → ∀ b, b < 15 → a ≠ b → (TX11 a).2.1 ≠ (TX11 b).2.1 := by decide +kernel
theorem tyX11_ok : ∀ k, k < 15 → parseFieldDescriptor (TX11 k).2.2.1 = some (tyX11 k) := by decide +kernel
def RX12 : String := "PantryDoorsModel"
def TX12 : u_T := fun k => match k with
  | 0 => ("PantryDoorsModel", "text", "[B", true)
  | 1 => ("PantryDoorsModel", "typed", "I", false)
  | 2 => ("PantryDoorsModel", "door", "[I", true)
  | 3 => ("PantryDoorsModel", "goods", "[I", true)
  | 4 => ("PantryDoorsModel", "first", "[I", true)
  | 5 => ("PantryDoorsModel", "use", "[I", true)
  | 6 => ("PantryDoorsModel", "weight", "[I", true)
  | 7 => ("PantryDoorsModel", "worth", "[I", true)
  | 8 => ("PantryDoorsModel", "brought", "[I", true)
  | 9 => ("PantryDoorsModel", "missed", "[I", true)
  | 10 => ("PantryDoorsModel", "at", "I", false)
  | 11 => ("PantryDoorsModel", "place", "I", false)
  | 12 => ("PantryDoorsModel", "sort", "I", false)
  | 13 => ("PantryDoorsModel", "value", "I", false)
  | 14 => ("PantryDoorsModel", "isWrong", "Z", false)
  | 15 => ("PantryDoorsModel", "items", "I", false)
  | 16 => ("PantryDoorsModel", "isHung", "Z", false)
  | 17 => ("PantryDoorsModel", "now", "[I", true)
  | 18 => ("PantryDoorsModel", "known", "[I", true)
  | 19 => ("PantryDoorsModel", "before", "[I", true)
  | 20 => ("PantryDoorsModel", "store", "[I", true)
  | 21 => ("PantryDoorsModel", "isKept", "[Z", true)
  | 22 => ("PantryDoorsModel", "tried", "[I", true)
  | 23 => ("PantryDoorsModel", "most", "[I", true)
  | 24 => ("PantryDoorsModel", "sightOf", "[I", true)
  | 25 => ("PantryDoorsModel", "sightIs", "[I", true)
  | 26 => ("PantryDoorsModel", "sights", "I", false)
  | 27 => ("PantryDoorsModel", "markOf", "[I", true)
  | 28 => ("PantryDoorsModel", "markTo", "[I", true)
  | 29 => ("PantryDoorsModel", "marks", "I", false)
  | 30 => ("PantryDoorsModel", "stores", "[I", true)
  | _ => ("PantryDoorsModel", "trace", "J", false)
def tyX12 : Nat → FieldType := fun k => match k with
  | 0 => .array .byte
  | 1 => .int
  | 2 => .array .int
  | 3 => .array .int
  | 4 => .array .int
  | 5 => .array .int
  | 6 => .array .int
  | 7 => .array .int
  | 8 => .array .int
  | 9 => .array .int
  | 10 => .int
  | 11 => .int
  | 12 => .int
  | 13 => .int
  | 14 => .boolean
  | 15 => .int
  | 16 => .boolean
  | 17 => .array .int
  | 18 => .array .int
  | 19 => .array .int
  | 20 => .array .int
  | 21 => .array .boolean
  | 22 => .array .int
  | 23 => .array .int
  | 24 => .array .int
  | 25 => .array .int
  | 26 => .int
  | 27 => .array .int
  | 28 => .array .int
  | 29 => .int
  | 30 => .array .int
  | _ => .long
abbrev wsX120 : List Cond := u_ws RX12 TX12 32
theorem nmX12 : ∀ a, a < 32 → ∀ b, b < 32 → a ≠ b → (TX12 a).2.1 ≠ (TX12 b).2.1 := by decide +kernel
theorem tyX12_ok : ∀ k, k < 32 → parseFieldDescriptor (TX12 k).2.2.1 = some (tyX12 k) := by decide +kernel
abbrev pd_cl : List vw_C := [(RX0, TX0, 1), (RX1, TX1, 1), (RX2, TX2, 1), (RX3, TX3, 1), (RX4, TX4, 10), (RX5, TX5, 1), (RX6, TX6, 3), (RX7, TX7, 6), (RX8, TX8, 5), (RX9, TX9, 1), (RX10, TX10, 8), (RX11, TX11, 15), (RX12, TX12, 32)]
def pd_tbl : List Cond := lw_tbl.filter goodWord
theorem pd_m {w : Cond} (i : Nat) (h : lw_tbl[i]? = some w) (hg : goodWord w = true) : w ∈ pd_tbl := List.mem_filter.mpr ⟨List.mem_of_getElem? h, hg⟩
theorem pd_all : ∀ {l : List Cond} {P : Cond → Prop}, (∀ w ∈ l, P w) → ∀ w ∈ l, P w := fun h => h
theorem iw0_0 : u_lay RX0 TX0 0 ∈ pd_tbl := pd_m 243 (by decide +kernel) (by decide +kernel)
theorem iw0 : ∀ w ∈ u_ws RX0 TX0 1, w ∈ pd_tbl := by
  show ∀ w ∈ [u_lay RX0 TX0 0], w ∈ pd_tbl
  exact List.forall_mem_cons.mpr ⟨iw0_0, fun _ h => absurd h List.not_mem_nil⟩
theorem iw1_0 : u_lay RX1 TX1 0 ∈ pd_tbl := pd_m 227 (by decide +kernel) (by decide +kernel)
theorem iw1 : ∀ w ∈ u_ws RX1 TX1 1, w ∈ pd_tbl := by
  show ∀ w ∈ [u_lay RX1 TX1 0], w ∈ pd_tbl
  exact List.forall_mem_cons.mpr ⟨iw1_0, fun _ h => absurd h List.not_mem_nil⟩
theorem iw2_0 : u_lay RX2 TX2 0 ∈ pd_tbl := pd_m 202 (by decide +kernel) (by decide +kernel)
theorem iw2 : ∀ w ∈ u_ws RX2 TX2 1, w ∈ pd_tbl := by
  show ∀ w ∈ [u_lay RX2 TX2 0], w ∈ pd_tbl
  exact List.forall_mem_cons.mpr ⟨iw2_0, fun _ h => absurd h List.not_mem_nil⟩
theorem iw3_0 : u_lay RX3 TX3 0 ∈ pd_tbl := pd_m 219 (by decide +kernel) (by decide +kernel)
theorem iw3 : ∀ w ∈ u_ws RX3 TX3 1, w ∈ pd_tbl := by
  show ∀ w ∈ [u_lay RX3 TX3 0], w ∈ pd_tbl
  exact List.forall_mem_cons.mpr ⟨iw3_0, fun _ h => absurd h List.not_mem_nil⟩
theorem iw4_0 : u_lay RX4 TX4 0 ∈ pd_tbl := pd_m 285 (by decide +kernel) (by decide +kernel)
theorem iw4_1 : u_lay RX4 TX4 1 ∈ pd_tbl := pd_m 287 (by decide +kernel) (by decide +kernel)
theorem iw4_2 : u_lay RX4 TX4 2 ∈ pd_tbl := pd_m 289 (by decide +kernel) (by decide +kernel)
theorem iw4_3 : u_lay RX4 TX4 3 ∈ pd_tbl := pd_m 291 (by decide +kernel) (by decide +kernel)
theorem iw4_4 : u_lay RX4 TX4 4 ∈ pd_tbl := pd_m 293 (by decide +kernel) (by decide +kernel)
theorem iw4_5 : u_lay RX4 TX4 5 ∈ pd_tbl := pd_m 295 (by decide +kernel) (by decide +kernel)
theorem iw4_6 : u_lay RX4 TX4 6 ∈ pd_tbl := pd_m 297 (by decide +kernel) (by decide +kernel)
theorem iw4_7 : u_lay RX4 TX4 7 ∈ pd_tbl := pd_m 299 (by decide +kernel) (by decide +kernel)
theorem iw4_8 : u_lay RX4 TX4 8 ∈ pd_tbl := pd_m 301 (by decide +kernel) (by decide +kernel)
theorem iw4_9 : u_lay RX4 TX4 9 ∈ pd_tbl := pd_m 303 (by decide +kernel) (by decide +kernel)
theorem iw4 : ∀ w ∈ u_ws RX4 TX4 10, w ∈ pd_tbl := by
  show ∀ w ∈ [u_lay RX4 TX4 0, u_lay RX4 TX4 1, u_lay RX4 TX4 2, u_lay RX4 TX4 3, u_lay RX4 TX4 4, u_lay RX4 TX4 5, u_lay RX4 TX4 6, u_lay RX4 TX4 7, u_lay RX4 TX4 8, u_lay RX4 TX4 9], w ∈ pd_tbl
  exact List.forall_mem_cons.mpr ⟨iw4_0, List.forall_mem_cons.mpr ⟨iw4_1, List.forall_mem_cons.mpr ⟨iw4_2, List.forall_mem_cons.mpr ⟨iw4_3, List.forall_mem_cons.mpr ⟨iw4_4, List.forall_mem_cons.mpr ⟨iw4_5, List.forall_mem_cons.mpr ⟨iw4_6, List.forall_mem_cons.mpr ⟨iw4_7, List.forall_mem_cons.mpr ⟨iw4_8, List.forall_mem_cons.mpr ⟨iw4_9, fun _ h => absurd h List.not_mem_nil⟩⟩⟩⟩⟩⟩⟩⟩⟩⟩
theorem iw5_0 : u_lay RX5 TX5 0 ∈ pd_tbl := pd_m 235 (by decide +kernel) (by decide +kernel)
theorem iw5 : ∀ w ∈ u_ws RX5 TX5 1, w ∈ pd_tbl := by
  show ∀ w ∈ [u_lay RX5 TX5 0], w ∈ pd_tbl
  exact List.forall_mem_cons.mpr ⟨iw5_0, fun _ h => absurd h List.not_mem_nil⟩
theorem iw6_0 : u_lay RX6 TX6 0 ∈ pd_tbl := pd_m 147 (by decide +kernel) (by decide +kernel)
theorem iw6_1 : u_lay RX6 TX6 1 ∈ pd_tbl := pd_m 149 (by decide +kernel) (by decide +kernel)
theorem iw6_2 : u_lay RX6 TX6 2 ∈ pd_tbl := pd_m 151 (by decide +kernel) (by decide +kernel)
theorem iw6 : ∀ w ∈ u_ws RX6 TX6 3, w ∈ pd_tbl := by
  show ∀ w ∈ [u_lay RX6 TX6 0, u_lay RX6 TX6 1, u_lay RX6 TX6 2], w ∈ pd_tbl
  exact List.forall_mem_cons.mpr ⟨iw6_0, List.forall_mem_cons.mpr ⟨iw6_1, List.forall_mem_cons.mpr ⟨iw6_2, fun _ h => absurd h List.not_mem_nil⟩⟩⟩
theorem iw7_0 : u_lay RX7 TX7 0 ∈ pd_tbl := pd_m 169 (by decide +kernel) (by decide +kernel)
theorem iw7_1 : u_lay RX7 TX7 1 ∈ pd_tbl := pd_m 171 (by decide +kernel) (by decide +kernel)
theorem iw7_2 : u_lay RX7 TX7 2 ∈ pd_tbl := pd_m 173 (by decide +kernel) (by decide +kernel)
theorem iw7_3 : u_lay RX7 TX7 3 ∈ pd_tbl := pd_m 175 (by decide +kernel) (by decide +kernel)
theorem iw7_4 : u_lay RX7 TX7 4 ∈ pd_tbl := pd_m 177 (by decide +kernel) (by decide +kernel)
theorem iw7_5 : u_lay RX7 TX7 5 ∈ pd_tbl := pd_m 179 (by decide +kernel) (by decide +kernel)
theorem iw7 : ∀ w ∈ u_ws RX7 TX7 6, w ∈ pd_tbl := by
  show ∀ w ∈ [u_lay RX7 TX7 0, u_lay RX7 TX7 1, u_lay RX7 TX7 2, u_lay RX7 TX7 3, u_lay RX7 TX7 4, u_lay RX7 TX7 5], w ∈ pd_tbl
  exact List.forall_mem_cons.mpr ⟨iw7_0, List.forall_mem_cons.mpr ⟨iw7_1, List.forall_mem_cons.mpr ⟨iw7_2, List.forall_mem_cons.mpr ⟨iw7_3, List.forall_mem_cons.mpr ⟨iw7_4, List.forall_mem_cons.mpr ⟨iw7_5, fun _ h => absurd h List.not_mem_nil⟩⟩⟩⟩⟩⟩
theorem iw8_0 : u_lay RX8 TX8 0 ∈ pd_tbl := pd_m 130 (by decide +kernel) (by decide +kernel)
theorem iw8_1 : u_lay RX8 TX8 1 ∈ pd_tbl := pd_m 132 (by decide +kernel) (by decide +kernel)
theorem iw8_2 : u_lay RX8 TX8 2 ∈ pd_tbl := pd_m 134 (by decide +kernel) (by decide +kernel)
theorem iw8_3 : u_lay RX8 TX8 3 ∈ pd_tbl := pd_m 136 (by decide +kernel) (by decide +kernel)
theorem iw8_4 : u_lay RX8 TX8 4 ∈ pd_tbl := pd_m 138 (by decide +kernel) (by decide +kernel)
theorem iw8 : ∀ w ∈ u_ws RX8 TX8 5, w ∈ pd_tbl := by
  show ∀ w ∈ [u_lay RX8 TX8 0, u_lay RX8 TX8 1, u_lay RX8 TX8 2, u_lay RX8 TX8 3, u_lay RX8 TX8 4], w ∈ pd_tbl
  exact List.forall_mem_cons.mpr ⟨iw8_0, List.forall_mem_cons.mpr ⟨iw8_1, List.forall_mem_cons.mpr ⟨iw8_2, List.forall_mem_cons.mpr ⟨iw8_3, List.forall_mem_cons.mpr ⟨iw8_4, fun _ h => absurd h List.not_mem_nil⟩⟩⟩⟩⟩
theorem iw9_0 : u_lay RX9 TX9 0 ∈ pd_tbl := pd_m 211 (by decide +kernel) (by decide +kernel)
theorem iw9 : ∀ w ∈ u_ws RX9 TX9 1, w ∈ pd_tbl := by
  show ∀ w ∈ [u_lay RX9 TX9 0], w ∈ pd_tbl
  exact List.forall_mem_cons.mpr ⟨iw9_0, fun _ h => absurd h List.not_mem_nil⟩
theorem iw10_0 : u_lay RX10 TX10 0 ∈ pd_tbl := pd_m 85 (by decide +kernel) (by decide +kernel)
theorem iw10_1 : u_lay RX10 TX10 1 ∈ pd_tbl := pd_m 87 (by decide +kernel) (by decide +kernel)
theorem iw10_2 : u_lay RX10 TX10 2 ∈ pd_tbl := pd_m 89 (by decide +kernel) (by decide +kernel)
theorem iw10_3 : u_lay RX10 TX10 3 ∈ pd_tbl := pd_m 91 (by decide +kernel) (by decide +kernel)
theorem iw10_4 : u_lay RX10 TX10 4 ∈ pd_tbl := pd_m 93 (by decide +kernel) (by decide +kernel)
theorem iw10_5 : u_lay RX10 TX10 5 ∈ pd_tbl := pd_m 95 (by decide +kernel) (by decide +kernel)
theorem iw10_6 : u_lay RX10 TX10 6 ∈ pd_tbl := pd_m 97 (by decide +kernel) (by decide +kernel)
theorem iw10_7 : u_lay RX10 TX10 7 ∈ pd_tbl := pd_m 99 (by decide +kernel) (by decide +kernel)
theorem iw10 : ∀ w ∈ u_ws RX10 TX10 8, w ∈ pd_tbl := by
  show ∀ w ∈ [u_lay RX10 TX10 0, u_lay RX10 TX10 1, u_lay RX10 TX10 2, u_lay RX10 TX10 3, u_lay RX10 TX10 4, u_lay RX10 TX10 5, u_lay RX10 TX10 6, u_lay RX10 TX10 7], w ∈ pd_tbl
  exact List.forall_mem_cons.mpr ⟨iw10_0, List.forall_mem_cons.mpr ⟨iw10_1, List.forall_mem_cons.mpr ⟨iw10_2, List.forall_mem_cons.mpr ⟨iw10_3, List.forall_mem_cons.mpr ⟨iw10_4, List.forall_mem_cons.mpr ⟨iw10_5, List.forall_mem_cons.mpr ⟨iw10_6, List.forall_mem_cons.mpr ⟨iw10_7, fun _ h => absurd h List.not_mem_nil⟩⟩⟩⟩⟩⟩⟩⟩
theorem iw11_0 : u_lay RX11 TX11 0 ∈ pd_tbl := pd_m 321 (by decide +kernel) (by decide +kernel)
theorem iw11_1 : u_lay RX11 TX11 1 ∈ pd_tbl := pd_m 323 (by decide +kernel) (by decide +kernel)
theorem iw11_2 : u_lay RX11 TX11 2 ∈ pd_tbl := pd_m 325 (by decide +kernel) (by decide +kernel)
theorem iw11_3 : u_lay RX11 TX11 3 ∈ pd_tbl := pd_m 327 (by decide +kernel) (by decide +kernel)
theorem iw11_4 : u_lay RX11 TX11 4 ∈ pd_tbl := pd_m 329 (by decide +kernel) (by decide +kernel)
theorem iw11_5 : u_lay RX11 TX11 5 ∈ pd_tbl := pd_m 331 (by decide +kernel) (by decide +kernel)
theorem iw11_6 : u_lay RX11 TX11 6 ∈ pd_tbl := pd_m 333 (by decide +kernel) (by decide +kernel)
theorem iw11_7 : u_lay RX11 TX11 7 ∈ pd_tbl := pd_m 335 (by decide +kernel) (by decide +kernel)
theorem iw11_8 : u_lay RX11 TX11 8 ∈ pd_tbl := pd_m 337 (by decide +kernel) (by decide +kernel)
theorem iw11_9 : u_lay RX11 TX11 9 ∈ pd_tbl := pd_m 339 (by decide +kernel) (by decide +kernel)
theorem iw11_10 : u_lay RX11 TX11 10 ∈ pd_tbl := pd_m 341 (by decide +kernel) (by decide +kernel)
theorem iw11_11 : u_lay RX11 TX11 11 ∈ pd_tbl := pd_m 343 (by decide +kernel) (by decide +kernel)
theorem iw11_12 : u_lay RX11 TX11 12 ∈ pd_tbl := pd_m 345 (by decide +kernel) (by decide +kernel)
theorem iw11_13 : u_lay RX11 TX11 13 ∈ pd_tbl := pd_m 347 (by decide +kernel) (by decide +kernel)
theorem iw11_14 : u_lay RX11 TX11 14 ∈ pd_tbl := pd_m 349 (by decide +kernel) (by decide +kernel)
theorem iw11 : ∀ w ∈ u_ws RX11 TX11 15, w ∈ pd_tbl := by
  show ∀ w ∈ [u_lay RX11 TX11 0, u_lay RX11 TX11 1, u_lay RX11 TX11 2, u_lay RX11 TX11 3, u_lay RX11 TX11 4, u_lay RX11 TX11 5, u_lay RX11 TX11 6, u_lay RX11 TX11 7, u_lay RX11 TX11 8, u_lay RX11 TX11 9, u_lay RX11 TX11 10, u_lay RX11 TX11 11, u_lay RX11 TX11 12, u_lay RX11 TX11 13, u_lay RX11 TX11 14], w ∈ pd_tbl
  exact List.forall_mem_cons.mpr ⟨iw11_0, List.forall_mem_cons.mpr ⟨iw11_1, List.forall_mem_cons.mpr ⟨iw11_2, List.forall_mem_cons.mpr ⟨iw11_3, List.forall_mem_cons.mpr ⟨iw11_4, List.forall_mem_cons.mpr ⟨iw11_5, List.forall_mem_cons.mpr ⟨iw11_6, List.forall_mem_cons.mpr ⟨iw11_7, List.forall_mem_cons.mpr ⟨iw11_8, List.forall_mem_cons.mpr ⟨iw11_9, List.forall_mem_cons.mpr ⟨iw11_10, List.forall_mem_cons.mpr ⟨iw11_11, List.forall_mem_cons.mpr ⟨iw11_12, List.forall_mem_cons.mpr ⟨iw11_13, List.forall_mem_cons.mpr ⟨iw11_14, fun _ h => absurd h List.not_mem_nil⟩⟩⟩⟩⟩⟩⟩⟩⟩⟩⟩⟩⟩⟩⟩
theorem iw12_0 : u_lay RX12 TX12 0 ∈ pd_tbl := pd_m 757 (by decide +kernel) (by decide +kernel)
theorem iw12_1 : u_lay RX12 TX12 1 ∈ pd_tbl := pd_m 759 (by decide +kernel) (by decide +kernel)
theorem iw12_2 : u_lay RX12 TX12 2 ∈ pd_tbl := pd_m 761 (by decide +kernel) (by decide +kernel)
theorem iw12_3 : u_lay RX12 TX12 3 ∈ pd_tbl := pd_m 763 (by decide +kernel) (by decide +kernel)
theorem iw12_4 : u_lay RX12 TX12 4 ∈ pd_tbl := pd_m 765 (by decide +kernel) (by decide +kernel)
theorem iw12_5 : u_lay RX12 TX12 5 ∈ pd_tbl := pd_m 767 (by decide +kernel) (by decide +kernel)
theorem iw12_6 : u_lay RX12 TX12 6 ∈ pd_tbl := pd_m 769 (by decide +kernel) (by decide +kernel)
theorem iw12_7 : u_lay RX12 TX12 7 ∈ pd_tbl := pd_m 771 (by decide +kernel) (by decide +kernel)
theorem iw12_8 : u_lay RX12 TX12 8 ∈ pd_tbl := pd_m 773 (by decide +kernel) (by decide +kernel)
theorem iw12_9 : u_lay RX12 TX12 9 ∈ pd_tbl := pd_m 775 (by decide +kernel) (by decide +kernel)
theorem iw12_10 : u_lay RX12 TX12 10 ∈ pd_tbl := pd_m 777 (by decide +kernel) (by decide +kernel)
theorem iw12_11 : u_lay RX12 TX12 11 ∈ pd_tbl := pd_m 779 (by decide +kernel) (by decide +kernel)
theorem iw12_12 : u_lay RX12 TX12 12 ∈ pd_tbl := pd_m 781 (by decide +kernel) (by decide +kernel)
theorem iw12_13 : u_lay RX12 TX12 13 ∈ pd_tbl := pd_m 783 (by decide +kernel) (by decide +kernel)
theorem iw12_14 : u_lay RX12 TX12 14 ∈ pd_tbl := pd_m 785 (by decide +kernel) (by decide +kernel)
theorem iw12_15 : u_lay RX12 TX12 15 ∈ pd_tbl := pd_m 787 (by decide +kernel) (by decide +kernel)
theorem iw12_16 : u_lay RX12 TX12 16 ∈ pd_tbl := pd_m 789 (by decide +kernel) (by decide +kernel)
theorem iw12_17 : u_lay RX12 TX12 17 ∈ pd_tbl := pd_m 791 (by decide +kernel) (by decide +kernel)
theorem iw12_18 : u_lay RX12 TX12 18 ∈ pd_tbl := pd_m 793 (by decide +kernel) (by decide +kernel)
theorem iw12_19 : u_lay RX12 TX12 19 ∈ pd_tbl := pd_m 795 (by decide +kernel) (by decide +kernel)
theorem iw12_20 : u_lay RX12 TX12 20 ∈ pd_tbl := pd_m 797 (by decide +kernel) (by decide +kernel)
theorem iw12_21 : u_lay RX12 TX12 21 ∈ pd_tbl := pd_m 799 (by decide +kernel) (by decide +kernel)
theorem iw12_22 : u_lay RX12 TX12 22 ∈ pd_tbl := pd_m 801 (by decide +kernel) (by decide +kernel)
theorem iw12_23 : u_lay RX12 TX12 23 ∈ pd_tbl := pd_m 803 (by decide +kernel) (by decide +kernel)
theorem iw12_24 : u_lay RX12 TX12 24 ∈ pd_tbl := pd_m 805 (by decide +kernel) (by decide +kernel)
theorem iw12_25 : u_lay RX12 TX12 25 ∈ pd_tbl := pd_m 807 (by decide +kernel) (by decide +kernel)
theorem iw12_26 : u_lay RX12 TX12 26 ∈ pd_tbl := pd_m 809 (by decide +kernel) (by decide +kernel)
theorem iw12_27 : u_lay RX12 TX12 27 ∈ pd_tbl := pd_m 811 (by decide +kernel) (by decide +kernel)
theorem iw12_28 : u_lay RX12 TX12 28 ∈ pd_tbl := pd_m 813 (by decide +kernel) (by decide +kernel)
theorem iw12_29 : u_lay RX12 TX12 29 ∈ pd_tbl := pd_m 815 (by decide +kernel) (by decide +kernel)
theorem iw12_30 : u_lay RX12 TX12 30 ∈ pd_tbl := pd_m 817 (by decide +kernel) (by decide +kernel)
theorem iw12_31 : u_lay RX12 TX12 31 ∈ pd_tbl := pd_m 819 (by decide +kernel) (by decide +kernel)
theorem iw12 : ∀ w ∈ u_ws RX12 TX12 32, w ∈ pd_tbl := by
  show ∀ w ∈ [u_lay RX12 TX12 0, u_lay RX12 TX12 1, u_lay RX12 TX12 2, u_lay RX12 TX12 3, u_lay RX12 TX12 4, u_lay RX12 TX12 5, u_lay RX12 TX12 6, u_lay RX12 TX12 7, u_lay RX12 TX12 8, u_lay RX12 TX12 9, u_lay RX12 TX12 10, u_lay RX12 TX12 11, u_lay RX12 TX12 12, u_lay RX12 TX12 13, u_lay RX12 TX12 14, u_lay RX12 TX12 15, u_lay RX12 TX12 16, u_lay RX12 TX12 17, u_lay RX12 TX12 18, u_lay RX12 TX12 19, u_lay RX12 TX12 20, u_lay RX12 TX12 21, u_lay RX12 TX12 22, u_lay RX12 TX12 23, u_lay RX12 TX12 24, u_lay RX12 TX12 25, u_lay RX12 TX12 26, u_lay RX12 TX12 27, u_lay RX12 TX12 28, u_lay RX12 TX12 29, u_lay RX12 TX12 30, u_lay RX12 TX12 31], w ∈ pd_tbl
  exact List.forall_mem_cons.mpr ⟨iw12_0, List.forall_mem_cons.mpr ⟨iw12_1, List.forall_mem_cons.mpr ⟨iw12_2, List.forall_mem_cons.mpr ⟨iw12_3, List.forall_mem_cons.mpr ⟨iw12_4, List.forall_mem_cons.mpr ⟨iw12_5, List.forall_mem_cons.mpr ⟨iw12_6, List.forall_mem_cons.mpr ⟨iw12_7, List.forall_mem_cons.mpr ⟨iw12_8, List.forall_mem_cons.mpr ⟨iw12_9, List.forall_mem_cons.mpr ⟨iw12_10, List.forall_mem_cons.mpr ⟨iw12_11, List.forall_mem_cons.mpr ⟨iw12_12, List.forall_mem_cons.mpr ⟨iw12_13, List.forall_mem_cons.mpr ⟨iw12_14, List.forall_mem_cons.mpr ⟨iw12_15, List.forall_mem_cons.mpr ⟨iw12_16, List.forall_mem_cons.mpr ⟨iw12_17, List.forall_mem_cons.mpr ⟨iw12_18, List.forall_mem_cons.mpr ⟨iw12_19, List.forall_mem_cons.mpr ⟨iw12_20, List.forall_mem_cons.mpr ⟨iw12_21, List.forall_mem_cons.mpr ⟨iw12_22, List.forall_mem_cons.mpr ⟨iw12_23, List.forall_mem_cons.mpr ⟨iw12_24, List.forall_mem_cons.mpr ⟨iw12_25, List.forall_mem_cons.mpr ⟨iw12_26, List.forall_mem_cons.mpr ⟨iw12_27, List.forall_mem_cons.mpr ⟨iw12_28, List.forall_mem_cons.mpr ⟨iw12_29, List.forall_mem_cons.mpr ⟨iw12_30, List.forall_mem_cons.mpr ⟨iw12_31, fun _ h => absurd h List.not_mem_nil⟩⟩⟩⟩⟩⟩⟩⟩⟩⟩⟩⟩⟩⟩⟩⟩⟩⟩⟩⟩⟩⟩⟩⟩⟩⟩⟩⟩⟩⟩⟩⟩
