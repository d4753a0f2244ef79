section
-- ===== PART A: goes FIRST, ahead of the names: the tables' words, and 'selects' of the private methods out of them =====
/-- a private method of a class that the tables say can be made, by its rows of tables_1 -/
def lw_okq (q : MethodName × Nat) : Prop := (q.1.cls ≠ "java/lang/invoke/MethodHandle" ∧ q.1.cls ≠ "java/lang/invoke/VarHandle") ∧ Cond.instantiable q.1.cls q.2 ∈ tables_1 ∧ Cond.privateMethod q.1 ∈ tables_1 ∧ Cond.instanceMethod q.1 ∈ tables_1
theorem lw_p0 : lw_okq (⟨"PantryDoors$Text", "next", "()V"⟩, 8) := ⟨⟨by decide +kernel, by decide +kernel⟩, List.mem_of_getElem? (i := 25) (by decide +kernel), List.mem_of_getElem? (i := 331) (by decide +kernel), List.mem_of_getElem? (i := 332) (by decide +kernel)⟩
theorem lw_p1 : lw_okq (⟨"PantryDoors$Text", "nextLetters", "()V"⟩, 8) := ⟨⟨by decide +kernel, by decide +kernel⟩, List.mem_of_getElem? (i := 25) (by decide +kernel), List.mem_of_getElem? (i := 339) (by decide +kernel), List.mem_of_getElem? (i := 340) (by decide +kernel)⟩
theorem lw_p2 : lw_okq (⟨"PantryDoors$Text", "nextNumber", "()V"⟩, 8) := ⟨⟨by decide +kernel, by decide +kernel⟩, List.mem_of_getElem? (i := 25) (by decide +kernel), List.mem_of_getElem? (i := 346) (by decide +kernel), List.mem_of_getElem? (i := 347) (by decide +kernel)⟩
theorem lw_p3 : lw_okq (⟨"PantryDoors$Text", "readItem", "(LPantryDoors$House;)Z"⟩, 8) := ⟨⟨by decide +kernel, by decide +kernel⟩, List.mem_of_getElem? (i := 25) (by decide +kernel), List.mem_of_getElem? (i := 353) (by decide +kernel), List.mem_of_getElem? (i := 354) (by decide +kernel)⟩
theorem lw_p4 : lw_okq (⟨"PantryDoors$Text", "canBegin", "(LPantryDoors$House;I)Z"⟩, 8) := ⟨⟨by decide +kernel, by decide +kernel⟩, List.mem_of_getElem? (i := 25) (by decide +kernel), List.mem_of_getElem? (i := 357) (by decide +kernel), List.mem_of_getElem? (i := 358) (by decide +kernel)⟩
theorem lw_p5 : lw_okq (⟨"PantryDoors$Text", "put", "(LPantryDoors$House;I)V"⟩, 8) := ⟨⟨by decide +kernel, by decide +kernel⟩, List.mem_of_getElem? (i := 25) (by decide +kernel), List.mem_of_getElem? (i := 370) (by decide +kernel), List.mem_of_getElem? (i := 371) (by decide +kernel)⟩
theorem lw_p6 : lw_okq (⟨"PantryDoors$Text", "putGood", "(LPantryDoors$House;)V"⟩, 8) := ⟨⟨by decide +kernel, by decide +kernel⟩, List.mem_of_getElem? (i := 25) (by decide +kernel), List.mem_of_getElem? (i := 374) (by decide +kernel), List.mem_of_getElem? (i := 375) (by decide +kernel)⟩
theorem lw_p7 : lw_okq (⟨"PantryDoors$Text", "putDoor", "(LPantryDoors$House;)V"⟩, 8) := ⟨⟨by decide +kernel, by decide +kernel⟩, List.mem_of_getElem? (i := 25) (by decide +kernel), List.mem_of_getElem? (i := 378) (by decide +kernel), List.mem_of_getElem? (i := 379) (by decide +kernel)⟩
theorem lw_p8 : lw_okq (⟨"PantryDoors$Life", "loseOldest", "()V"⟩, 3) := ⟨⟨by decide +kernel, by decide +kernel⟩, List.mem_of_getElem? (i := 59) (by decide +kernel), List.mem_of_getElem? (i := 439) (by decide +kernel), List.mem_of_getElem? (i := 440) (by decide +kernel)⟩
theorem lw_p9 : lw_okq (⟨"PantryDoors", "firstLack", "()I"⟩, 15) := ⟨⟨by decide +kernel, by decide +kernel⟩, List.mem_of_getElem? (i := 17) (by decide +kernel), List.mem_of_getElem? (i := 492) (by decide +kernel), List.mem_of_getElem? (i := 493) (by decide +kernel)⟩
theorem lw_p10 : lw_okq (⟨"PantryDoors", "steps", "(I)I"⟩, 15) := ⟨⟨by decide +kernel, by decide +kernel⟩, List.mem_of_getElem? (i := 17) (by decide +kernel), List.mem_of_getElem? (i := 502) (by decide +kernel), List.mem_of_getElem? (i := 503) (by decide +kernel)⟩
theorem lw_p11 : lw_okq (⟨"PantryDoors", "meetings", "(I)I"⟩, 15) := ⟨⟨by decide +kernel, by decide +kernel⟩, List.mem_of_getElem? (i := 17) (by decide +kernel), List.mem_of_getElem? (i := 506) (by decide +kernel), List.mem_of_getElem? (i := 507) (by decide +kernel)⟩
theorem lw_p12 : lw_okq (⟨"PantryDoors$Plan", "growTree", "(LPantryDoors$House;LPantryDoors$State;I)V"⟩, 6) := ⟨⟨by decide +kernel, by decide +kernel⟩, List.mem_of_getElem? (i := 111) (by decide +kernel), List.mem_of_getElem? (i := 525) (by decide +kernel), List.mem_of_getElem? (i := 526) (by decide +kernel)⟩
theorem lw_p13 : lw_okq (⟨"PantryDoors$Plan", "reckonWanted", "(I)V"⟩, 6) := ⟨⟨by decide +kernel, by decide +kernel⟩, List.mem_of_getElem? (i := 111) (by decide +kernel), List.mem_of_getElem? (i := 531) (by decide +kernel), List.mem_of_getElem? (i := 532) (by decide +kernel)⟩
theorem lw_p14 : lw_okq (⟨"PantryDoors$Plan", "allWanted", "()I"⟩, 6) := ⟨⟨by decide +kernel, by decide +kernel⟩, List.mem_of_getElem? (i := 111) (by decide +kernel), List.mem_of_getElem? (i := 538) (by decide +kernel), List.mem_of_getElem? (i := 539) (by decide +kernel)⟩
theorem lw_p15 : lw_okq (⟨"PantryDoors$Plan", "descend", "(I)V"⟩, 6) := ⟨⟨by decide +kernel, by decide +kernel⟩, List.mem_of_getElem? (i := 111) (by decide +kernel), List.mem_of_getElem? (i := 542) (by decide +kernel), List.mem_of_getElem? (i := 543) (by decide +kernel)⟩
def lw_privs_1 : List (MethodName × Nat) := [(⟨"PantryDoors$Text", "next", "()V"⟩, 8), (⟨"PantryDoors$Text", "nextLetters", "()V"⟩, 8), (⟨"PantryDoors$Text", "nextNumber", "()V"⟩, 8), (⟨"PantryDoors$Text", "readItem", "(LPantryDoors$House;)Z"⟩, 8), (⟨"PantryDoors$Text", "canBegin", "(LPantryDoors$House;I)Z"⟩, 8), (⟨"PantryDoors$Text", "put", "(LPantryDoors$House;I)V"⟩, 8), (⟨"PantryDoors$Text", "putGood", "(LPantryDoors$House;)V"⟩, 8), (⟨"PantryDoors$Text", "putDoor", "(LPantryDoors$House;)V"⟩, 8), (⟨"PantryDoors$Life", "loseOldest", "()V"⟩, 3), (⟨"PantryDoors", "firstLack", "()I"⟩, 15), (⟨"PantryDoors", "steps", "(I)I"⟩, 15), (⟨"PantryDoors", "meetings", "(I)I"⟩, 15), (⟨"PantryDoors$Plan", "growTree", "(LPantryDoors$House;LPantryDoors$State;I)V"⟩, 6), (⟨"PantryDoors$Plan", "reckonWanted", "(I)V"⟩, 6), (⟨"PantryDoors$Plan", "allWanted", "()I"⟩, 6), (⟨"PantryDoors$Plan", "descend", "(I)V"⟩, 6)]
theorem lw_r1 : ∀ q ∈ lw_privs_1, lw_okq q := List.forall_mem_cons.mpr ⟨lw_p0, List.forall_mem_cons.mpr ⟨lw_p1, List.forall_mem_cons.mpr ⟨lw_p2, List.forall_mem_cons.mpr ⟨lw_p3, List.forall_mem_cons.mpr ⟨lw_p4, List.forall_mem_cons.mpr ⟨lw_p5, List.forall_mem_cons.mpr ⟨lw_p6, List.forall_mem_cons.mpr ⟨lw_p7, List.forall_mem_cons.mpr ⟨lw_p8, List.forall_mem_cons.mpr ⟨lw_p9, List.forall_mem_cons.mpr ⟨lw_p10, List.forall_mem_cons.mpr ⟨lw_p11, List.forall_mem_cons.mpr ⟨lw_p12, List.forall_mem_cons.mpr ⟨lw_p13, List.forall_mem_cons.mpr ⟨lw_p14, List.forall_mem_cons.mpr ⟨lw_p15, fun _ h => absurd h List.not_mem_nil⟩⟩⟩⟩⟩⟩⟩⟩⟩⟩⟩⟩⟩⟩⟩⟩
theorem lw_p16 : lw_okq (⟨"PantryDoors$Plan", "ascend", "()V"⟩, 6) := ⟨⟨by decide +kernel, by decide +kernel⟩, List.mem_of_getElem? (i := 111) (by decide +kernel), List.mem_of_getElem? (i := 546) (by decide +kernel), List.mem_of_getElem? (i := 547) (by decide +kernel)⟩
theorem lw_p17 : lw_okq (⟨"PantryDoors", "reckonLoads", "(I)V"⟩, 15) := ⟨⟨by decide +kernel, by decide +kernel⟩, List.mem_of_getElem? (i := 17) (by decide +kernel), List.mem_of_getElem? (i := 554) (by decide +kernel), List.mem_of_getElem? (i := 555) (by decide +kernel)⟩
theorem lw_p18 : lw_okq (⟨"PantryDoors", "worthWith", "(III)I"⟩, 15) := ⟨⟨by decide +kernel, by decide +kernel⟩, List.mem_of_getElem? (i := 17) (by decide +kernel), List.mem_of_getElem? (i := 558) (by decide +kernel), List.mem_of_getElem? (i := 559) (by decide +kernel)⟩
theorem lw_p19 : lw_okq (⟨"PantryDoors", "leastCarried", "(II)I"⟩, 15) := ⟨⟨by decide +kernel, by decide +kernel⟩, List.mem_of_getElem? (i := 17) (by decide +kernel), List.mem_of_getElem? (i := 563) (by decide +kernel), List.mem_of_getElem? (i := 564) (by decide +kernel)⟩
theorem lw_p20 : lw_okq (⟨"PantryDoors", "isAsSeen", "(I)Z"⟩, 15) := ⟨⟨by decide +kernel, by decide +kernel⟩, List.mem_of_getElem? (i := 17) (by decide +kernel), List.mem_of_getElem? (i := 586) (by decide +kernel), List.mem_of_getElem? (i := 587) (by decide +kernel)⟩
theorem lw_p21 : lw_okq (⟨"PantryDoors", "mostAlike", "(II)I"⟩, 15) := ⟨⟨by decide +kernel, by decide +kernel⟩, List.mem_of_getElem? (i := 17) (by decide +kernel), List.mem_of_getElem? (i := 595) (by decide +kernel), List.mem_of_getElem? (i := 596) (by decide +kernel)⟩
theorem lw_p22 : lw_okq (⟨"PantryDoors", "alike", "(III)I"⟩, 15) := ⟨⟨by decide +kernel, by decide +kernel⟩, List.mem_of_getElem? (i := 17) (by decide +kernel), List.mem_of_getElem? (i := 599) (by decide +kernel), List.mem_of_getElem? (i := 600) (by decide +kernel)⟩
theorem lw_p23 : lw_okq (⟨"PantryDoors", "isAsGave", "(II)Z"⟩, 15) := ⟨⟨by decide +kernel, by decide +kernel⟩, List.mem_of_getElem? (i := 17) (by decide +kernel), List.mem_of_getElem? (i := 611) (by decide +kernel), List.mem_of_getElem? (i := 612) (by decide +kernel)⟩
theorem lw_p24 : lw_okq (⟨"PantryDoorsModel", "read", "()V"⟩, 32) := ⟨⟨by decide +kernel, by decide +kernel⟩, List.mem_of_getElem? (i := 675) (by decide +kernel), List.mem_of_getElem? (i := 794) (by decide +kernel), List.mem_of_getElem? (i := 795) (by decide +kernel)⟩
theorem lw_p25 : lw_okq (⟨"PantryDoorsModel", "step", "()V"⟩, 32) := ⟨⟨by decide +kernel, by decide +kernel⟩, List.mem_of_getElem? (i := 675) (by decide +kernel), List.mem_of_getElem? (i := 798) (by decide +kernel), List.mem_of_getElem? (i := 799) (by decide +kernel)⟩
theorem lw_p26 : lw_okq (⟨"PantryDoorsModel", "here", "()I"⟩, 32) := ⟨⟨by decide +kernel, by decide +kernel⟩, List.mem_of_getElem? (i := 675) (by decide +kernel), List.mem_of_getElem? (i := 802) (by decide +kernel), List.mem_of_getElem? (i := 803) (by decide +kernel)⟩
theorem lw_p27 : lw_okq (⟨"PantryDoorsModel", "may", "(I)Z"⟩, 32) := ⟨⟨by decide +kernel, by decide +kernel⟩, List.mem_of_getElem? (i := 675) (by decide +kernel), List.mem_of_getElem? (i := 806) (by decide +kernel), List.mem_of_getElem? (i := 807) (by decide +kernel)⟩
theorem lw_p28 : lw_okq (⟨"PantryDoorsModel", "due", "(Z)V"⟩, 32) := ⟨⟨by decide +kernel, by decide +kernel⟩, List.mem_of_getElem? (i := 675) (by decide +kernel), List.mem_of_getElem? (i := 810) (by decide +kernel), List.mem_of_getElem? (i := 811) (by decide +kernel)⟩
theorem lw_p29 : lw_okq (⟨"PantryDoorsModel", "item", "(I)V"⟩, 32) := ⟨⟨by decide +kernel, by decide +kernel⟩, List.mem_of_getElem? (i := 675) (by decide +kernel), List.mem_of_getElem? (i := 814) (by decide +kernel), List.mem_of_getElem? (i := 815) (by decide +kernel)⟩
theorem lw_p30 : lw_okq (⟨"PantryDoorsModel", "readGood", "()V"⟩, 32) := ⟨⟨by decide +kernel, by decide +kernel⟩, List.mem_of_getElem? (i := 675) (by decide +kernel), List.mem_of_getElem? (i := 818) (by decide +kernel), List.mem_of_getElem? (i := 819) (by decide +kernel)⟩
theorem lw_p31 : lw_okq (⟨"PantryDoorsModel", "number", "(II)I"⟩, 32) := ⟨⟨by decide +kernel, by decide +kernel⟩, List.mem_of_getElem? (i := 675) (by decide +kernel), List.mem_of_getElem? (i := 822) (by decide +kernel), List.mem_of_getElem? (i := 823) (by decide +kernel)⟩
def lw_privs_2 : List (MethodName × Nat) := [(⟨"PantryDoors$Plan", "ascend", "()V"⟩, 6), (⟨"PantryDoors", "reckonLoads", "(I)V"⟩, 15), (⟨"PantryDoors", "worthWith", "(III)I"⟩, 15), (⟨"PantryDoors", "leastCarried", "(II)I"⟩, 15), (⟨"PantryDoors", "isAsSeen", "(I)Z"⟩, 15), (⟨"PantryDoors", "mostAlike", "(II)I"⟩, 15), (⟨"PantryDoors", "alike", "(III)I"⟩, 15), (⟨"PantryDoors", "isAsGave", "(II)Z"⟩, 15), (⟨"PantryDoorsModel", "read", "()V"⟩, 32), (⟨"PantryDoorsModel", "step", "()V"⟩, 32), (⟨"PantryDoorsModel", "here", "()I"⟩, 32), (⟨"PantryDoorsModel", "may", "(I)Z"⟩, 32), (⟨"PantryDoorsModel", "due", "(Z)V"⟩, 32), (⟨"PantryDoorsModel", "item", "(I)V"⟩, 32), (⟨"PantryDoorsModel", "readGood", "()V"⟩, 32), (⟨"PantryDoorsModel", "number", "(II)I"⟩, 32)]
theorem lw_r2 : ∀ q ∈ lw_privs_2, lw_okq q := List.forall_mem_cons.mpr ⟨lw_p16, List.forall_mem_cons.mpr ⟨lw_p17, List.forall_mem_cons.mpr ⟨lw_p18, List.forall_mem_cons.mpr ⟨lw_p19, List.forall_mem_cons.mpr ⟨lw_p20, List.forall_mem_cons.mpr ⟨lw_p21, List.forall_mem_cons.mpr ⟨lw_p22, List.forall_mem_cons.mpr ⟨lw_p23, List.forall_mem_cons.mpr ⟨lw_p24, List.forall_mem_cons.mpr ⟨lw_p25, List.forall_mem_cons.mpr ⟨lw_p26, List.forall_mem_cons.mpr ⟨lw_p27, List.forall_mem_cons.mpr ⟨lw_p28, List.forall_mem_cons.mpr ⟨lw_p29, List.forall_mem_cons.mpr ⟨lw_p30, List.forall_mem_cons.mpr ⟨lw_p31, fun _ h => absurd h List.not_mem_nil⟩⟩⟩⟩⟩⟩⟩⟩⟩⟩⟩⟩⟩⟩⟩⟩
theorem lw_p32 : lw_okq (⟨"PantryDoorsModel", "readOf", "([I)V"⟩, 32) := ⟨⟨by decide +kernel, by decide +kernel⟩, List.mem_of_getElem? (i := 675) (by decide +kernel), List.mem_of_getElem? (i := 826) (by decide +kernel), List.mem_of_getElem? (i := 827) (by decide +kernel)⟩
theorem lw_p33 : lw_okq (⟨"PantryDoorsModel", "isGood", "(I)Z"⟩, 32) := ⟨⟨by decide +kernel, by decide +kernel⟩, List.mem_of_getElem? (i := 675) (by decide +kernel), List.mem_of_getElem? (i := 834) (by decide +kernel), List.mem_of_getElem? (i := 835) (by decide +kernel)⟩
theorem lw_p34 : lw_okq (⟨"PantryDoorsModel", "canTake", "([II)I"⟩, 32) := ⟨⟨by decide +kernel, by decide +kernel⟩, List.mem_of_getElem? (i := 675) (by decide +kernel), List.mem_of_getElem? (i := 838) (by decide +kernel), List.mem_of_getElem? (i := 839) (by decide +kernel)⟩
theorem lw_p35 : lw_okq (⟨"PantryDoorsModel", "opens", "([I)I"⟩, 32) := ⟨⟨by decide +kernel, by decide +kernel⟩, List.mem_of_getElem? (i := 675) (by decide +kernel), List.mem_of_getElem? (i := 842) (by decide +kernel), List.mem_of_getElem? (i := 843) (by decide +kernel)⟩
theorem lw_p36 : lw_okq (⟨"PantryDoorsModel", "givesOn", "(I)I"⟩, 32) := ⟨⟨by decide +kernel, by decide +kernel⟩, List.mem_of_getElem? (i := 675) (by decide +kernel), List.mem_of_getElem? (i := 846) (by decide +kernel), List.mem_of_getElem? (i := 847) (by decide +kernel)⟩
theorem lw_p37 : lw_okq (⟨"PantryDoorsModel", "know", "()V"⟩, 32) := ⟨⟨by decide +kernel, by decide +kernel⟩, List.mem_of_getElem? (i := 675) (by decide +kernel), List.mem_of_getElem? (i := 864) (by decide +kernel), List.mem_of_getElem? (i := 865) (by decide +kernel)⟩
theorem lw_p38 : lw_okq (⟨"PantryDoorsModel", "passOn", "([I)I"⟩, 32) := ⟨⟨by decide +kernel, by decide +kernel⟩, List.mem_of_getElem? (i := 675) (by decide +kernel), List.mem_of_getElem? (i := 868) (by decide +kernel), List.mem_of_getElem? (i := 869) (by decide +kernel)⟩
theorem lw_p39 : lw_okq (⟨"PantryDoorsModel", "takeOf", "([III)V"⟩, 32) := ⟨⟨by decide +kernel, by decide +kernel⟩, List.mem_of_getElem? (i := 675) (by decide +kernel), List.mem_of_getElem? (i := 879) (by decide +kernel), List.mem_of_getElem? (i := 880) (by decide +kernel)⟩
theorem lw_p40 : lw_okq (⟨"PantryDoorsModel", "firstHungry", "()I"⟩, 32) := ⟨⟨by decide +kernel, by decide +kernel⟩, List.mem_of_getElem? (i := 675) (by decide +kernel), List.mem_of_getElem? (i := 899) (by decide +kernel), List.mem_of_getElem? (i := 900) (by decide +kernel)⟩
theorem lw_p41 : lw_okq (⟨"PantryDoorsModel", "take", "()V"⟩, 32) := ⟨⟨by decide +kernel, by decide +kernel⟩, List.mem_of_getElem? (i := 675) (by decide +kernel), List.mem_of_getElem? (i := 903) (by decide +kernel), List.mem_of_getElem? (i := 904) (by decide +kernel)⟩
theorem lw_p42 : lw_okq (⟨"PantryDoorsModel", "takenBy", "(II)I"⟩, 32) := ⟨⟨by decide +kernel, by decide +kernel⟩, List.mem_of_getElem? (i := 675) (by decide +kernel), List.mem_of_getElem? (i := 919) (by decide +kernel), List.mem_of_getElem? (i := 920) (by decide +kernel)⟩
theorem lw_p43 : lw_okq (⟨"PantryDoorsModel", "tellMost", "()V"⟩, 32) := ⟨⟨by decide +kernel, by decide +kernel⟩, List.mem_of_getElem? (i := 675) (by decide +kernel), List.mem_of_getElem? (i := 927) (by decide +kernel), List.mem_of_getElem? (i := 928) (by decide +kernel)⟩
theorem lw_p44 : lw_okq (⟨"PantryDoorsModel", "storeOf", "(II)I"⟩, 32) := ⟨⟨by decide +kernel, by decide +kernel⟩, List.mem_of_getElem? (i := 675) (by decide +kernel), List.mem_of_getElem? (i := 939) (by decide +kernel), List.mem_of_getElem? (i := 940) (by decide +kernel)⟩
def lw_privs_3 : List (MethodName × Nat) := [(⟨"PantryDoorsModel", "readOf", "([I)V"⟩, 32), (⟨"PantryDoorsModel", "isGood", "(I)Z"⟩, 32), (⟨"PantryDoorsModel", "canTake", "([II)I"⟩, 32), (⟨"PantryDoorsModel", "opens", "([I)I"⟩, 32), (⟨"PantryDoorsModel", "givesOn", "(I)I"⟩, 32), (⟨"PantryDoorsModel", "know", "()V"⟩, 32), (⟨"PantryDoorsModel", "passOn", "([I)I"⟩, 32), (⟨"PantryDoorsModel", "takeOf", "([III)V"⟩, 32), (⟨"PantryDoorsModel", "firstHungry", "()I"⟩, 32), (⟨"PantryDoorsModel", "take", "()V"⟩, 32), (⟨"PantryDoorsModel", "takenBy", "(II)I"⟩, 32), (⟨"PantryDoorsModel", "tellMost", "()V"⟩, 32), (⟨"PantryDoorsModel", "storeOf", "(II)I"⟩, 32)]
theorem lw_r3 : ∀ q ∈ lw_privs_3, lw_okq q := List.forall_mem_cons.mpr ⟨lw_p32, List.forall_mem_cons.mpr ⟨lw_p33, List.forall_mem_cons.mpr ⟨lw_p34, List.forall_mem_cons.mpr ⟨lw_p35, List.forall_mem_cons.mpr ⟨lw_p36, List.forall_mem_cons.mpr ⟨lw_p37, List.forall_mem_cons.mpr ⟨lw_p38, List.forall_mem_cons.mpr ⟨lw_p39, List.forall_mem_cons.mpr ⟨lw_p40, List.forall_mem_cons.mpr ⟨lw_p41, List.forall_mem_cons.mpr ⟨lw_p42, List.forall_mem_cons.mpr ⟨lw_p43, List.forall_mem_cons.mpr ⟨lw_p44, fun _ h => absurd h List.not_mem_nil⟩⟩⟩⟩⟩⟩⟩⟩⟩⟩⟩⟩⟩
def lw_privs : List (MethodName × Nat) := lw_privs_1 ++ (lw_privs_2 ++ (lw_privs_3))
def lw_tbl : List Cond := k2_sels lw_privs ++ tables_1
theorem lw_privs_ok : ∀ q ∈ lw_privs, lw_okq q := by
  show ∀ q ∈ lw_privs_1 ++ (lw_privs_2 ++ (lw_privs_3)), lw_okq q
  exact List.forall_mem_append.mpr ⟨lw_r1, List.forall_mem_append.mpr ⟨lw_r2, lw_r3⟩⟩
def RX0 : String := "PantryDoors$Candle"
def TX0 : u_T := fun k => match k with
  | _ => ("PantryDoors$Good", "traced", "J", false)
def tyX0 : Nat → FieldType := fun k => match k with
  | _ => .long
abbrev wsX00 : List Cond := u_ws RX0 TX0 1
theorem nmX0 : ∀ a, a < 1 → ∀ b, b < 1 → a ≠ b → (TX0 a).2.1 ≠ (TX0 b).2.1 := by decide +kernel
theorem tyX0_ok : ∀ k, k < 1 → parseFieldDescriptor (TX0 k).2.2.1 = some (tyX0 k) := by decide +kernel
def RX1 : String := "PantryDoors$Cone"
def TX1 : u_T := fun k => match k with
  | _ => ("PantryDoors$Good", "traced", "J", false)
def tyX1 : Nat → FieldType := fun k => match k with
  | _ => .long
abbrev wsX10 : List Cond := u_ws RX1 TX1 1
theorem nmX1 : ∀ a, a < 1 → ∀ b, b < 1 → a ≠ b → (TX1 a).2.1 ≠ (TX1 b).2.1 := by decide +kernel
theorem tyX1_ok : ∀ k, k < 1 → parseFieldDescriptor (TX1 k).2.2.1 = some (tyX1 k) := by decide +kernel
def RX2 : String := "PantryDoors$Good"
def TX2 : u_T := fun k => match k with
  | _ => ("PantryDoors$Good", "traced", "J", false)
def tyX2 : Nat → FieldType := fun k => match k with
  | _ => .long
abbrev wsX20 : List Cond := u_ws RX2 TX2 1
theorem nmX2 : ∀ a, a < 1 → ∀ b, b < 1 → a ≠ b → (TX2 a).2.1 ≠ (TX2 b).2.1 := by decide +kernel
theorem tyX2_ok : ∀ k, k < 1 → parseFieldDescriptor (TX2 k).2.2.1 = some (tyX2 k) := by decide +kernel
def RX3 : String := "PantryDoors$Ham"
def TX3 : u_T := fun k => match k with
  | _ => ("PantryDoors$Good", "traced", "J", false)
def tyX3 : Nat → FieldType := fun k => match k with
  | _ => .long
abbrev wsX30 : List Cond := u_ws RX3 TX3 1
theorem nmX3 : ∀ a, a < 1 → ∀ b, b < 1 → a ≠ b → (TX3 a).2.1 ≠ (TX3 b).2.1 := by decide +kernel
theorem tyX3_ok : ∀ k, k < 1 → parseFieldDescriptor (TX3 k).2.2.1 = some (tyX3 k) := by decide +kernel
def RX4 : String := "PantryDoors$House"
def TX4 : u_T := fun k => match k with
  | 0 => ("PantryDoors$House", "first", "[I", true)
  | 1 => ("PantryDoors$House", "use", "[I", true)
  | 2 => ("PantryDoors$House", "weight", "[I", true)
  | 3 => ("PantryDoors$House", "worth", "[I", true)
  | 4 => ("PantryDoors$House", "brought", "[I", true)
  | 5 => ("PantryDoors$House", "missed", "[I", true)
  | 6 => ("PantryDoors$House", "stores", "[I", true)
  | 7 => ("PantryDoors$House", "goods", "I", false)
  | 8 => ("PantryDoors$House", "every", "I", false)
  | _ => ("PantryDoors$House", "back", "I", false)
def tyX4 : Nat → FieldType := fun k => match k with
  | 0 => .array .int
  | 1 => .array .int
  | 2 => .array .int
  | 3 => .array .int
  | 4 => .array .int
  | 5 => .array .int
  | 6 => .array .int
  | 7 => .int
  | 8 => .int
  | _ => .int
abbrev wsX40 : List Cond := u_ws RX4 TX4 10
theorem nmX4 : ∀ a, a < 10 → ∀ b, b < 10 → a ≠ b → (TX4 a).2.1 ≠ (TX4 b).2.1 := by decide +kernel
theorem tyX4_ok : ∀ k, k < 10 → parseFieldDescriptor (TX4 k).2.2.1 = some (tyX4 k) := by decide +kernel
def RX5 : String := "PantryDoors$Jelly"
def TX5 : u_T := fun k => match k with
  | _ => ("PantryDoors$Good", "traced", "J", false)
def tyX5 : Nat → FieldType := fun k => match k with
  | _ => .long
abbrev wsX50 : List Cond := u_ws RX5 TX5 1
theorem nmX5 : ∀ a, a < 1 → ∀ b, b < 1 → a ≠ b → (TX5 a).2.1 ≠ (TX5 b).2.1 := by decide +kernel
theorem tyX5_ok : ∀ k, k < 1 → parseFieldDescriptor (TX5 k).2.2.1 = some (tyX5 k) := by decide +kernel
def RX6 : String := "PantryDoors$Life"
def TX6 : u_T := fun k => match k with
  | 0 => ("PantryDoors$Life", "now", "LPantryDoors$State;", true)
  | 1 => ("PantryDoors$Life", "past", "[LPantryDoors$State;", true)
  | _ => ("PantryDoors$Life", "known", "I", false)
def tyX6 : Nat → FieldType := fun k => match k with
  | 0 => .object "PantryDoors$State"
  | 1 => .array (.object "PantryDoors$State")
  | _ => .int
abbrev wsX60 : List Cond := u_ws RX6 TX6 3
theorem nmX6 : ∀ a, a < 3 → ∀ b, b < 3 → a ≠ b → (TX6 a).2.1 ≠ (TX6 b).2.1 := by decide +kernel
theorem tyX6_ok : ∀ k, k < 3 → parseFieldDescriptor (TX6 k).2.2.1 = some (tyX6 k) := by decide +kernel
def RX7 : String := "PantryDoors$Plan"
def TX7 : u_T := fun k => match k with
  | 0 => ("PantryDoors$Plan", "choice", "[I", true)
  | 1 => ("PantryDoors$Plan", "length", "I", false)
  | 2 => ("PantryDoors$Plan", "there", "[I", true)
  | 3 => ("PantryDoors$Plan", "wanted", "[I", true)
  | 4 => ("PantryDoors$Plan", "node", "[I", true)
  | _ => ("PantryDoors$Plan", "goods", "I", false)
def tyX7 : Nat → FieldType := fun k => match k with
  | 0 => .array .int
  | 1 => .int
  | 2 => .array .int
  | 3 => .array .int
  | 4 => .array .int
  | _ => .int
abbrev wsX70 : List Cond := u_ws RX7 TX7 6
theorem nmX7 : ∀ a, a < 6 → ∀ b, b < 6 → a ≠ b → (TX7 a).2.1 ≠ (TX7 b).2.1 := by decide +kernel
theorem tyX7_ok : ∀ k, k < 6 → parseFieldDescriptor (TX7 k).2.2.1 = some (tyX7 k) := by decide +kernel
def RX8 : String := "PantryDoors$State"
def TX8 : u_T := fun k => match k with
  | 0 => ("PantryDoors$State", "there", "[I", true)
  | 1 => ("PantryDoors$State", "lacked", "[I", true)
  | 2 => ("PantryDoors$State", "taken", "[I", true)
  | 3 => ("PantryDoors$State", "day", "I", false)
  | _ => ("PantryDoors$State", "held", "Z", false)
def tyX8 : Nat → FieldType := fun k => match k with
  | 0 => .array .int
  | 1 => .array .int
  | 2 => .array .int
  | 3 => .int
  | _ => .boolean
abbrev wsX80 : List Cond := u_ws RX8 TX8 5
theorem nmX8 : ∀ a, a < 5 → ∀ b, b < 5 → a ≠ b → (TX8 a).2.1 ≠ (TX8 b).2.1 := by decide +kernel
theorem tyX8_ok : ∀ k, k < 5 → parseFieldDescriptor (TX8 k).2.2.1 = some (tyX8 k) := by decide +kernel
def RX9 : String := "PantryDoors$Sugar"
def TX9 : u_T := fun k => match k with
  | _ => ("PantryDoors$Good", "traced", "J", false)
def tyX9 : Nat → FieldType := fun k => match k with
  | _ => .long
abbrev wsX90 : List Cond := u_ws RX9 TX9 1
theorem nmX9 : ∀ a, a < 1 → ∀ b, b < 1 → a ≠ b → (TX9 a).2.1 ≠ (TX9 b).2.1 := by decide +kernel
theorem tyX9_ok : ∀ k, k < 1 → parseFieldDescriptor (TX9 k).2.2.1 = some (tyX9 k) := by decide +kernel
def RX10 : String := "PantryDoors$Text"
def TX10 : u_T := fun k => match k with
  | 0 => ("PantryDoors$Text", "bytes", "[I", true)
  | 1 => ("PantryDoors$Text", "length", "I", false)
  | 2 => ("PantryDoors$Text", "numbers", "[I", true)
  | 3 => ("PantryDoors$Text", "at", "I", false)
  | 4 => ("PantryDoors$Text", "place", "I", false)
  | 5 => ("PantryDoors$Text", "token", "I", false)
  | 6 => ("PantryDoors$Text", "value", "I", false)
  | _ => ("PantryDoors$Text", "doorTold", "Z", false)
def tyX10 : Nat → FieldType := fun k => match k with
  | 0 => .array .int
  | 1 => .int
  | 2 => .array .int
  | 3 => .int
  | 4 => .int
  | 5 => .int
  | 6 => .int
  | _ => .boolean
abbrev wsX100 : List Cond := u_ws RX10 TX10 8
theorem nmX10 : ∀ a, a < 8 → ∀ b, b < 8 → a ≠ b → (TX10 a).2.1 ≠ (TX10 b).2.1 := by decide +kernel
theorem tyX10_ok : ∀ k, k < 8 → parseFieldDescriptor (TX10 k).2.2.1 = some (tyX10 k) := by decide +kernel
def RX11 : String := "PantryDoors"
def TX11 : u_T := fun k => match k with
  | 0 => ("PantryDoors", "text", "LPantryDoors$Text;", true)
  | 1 => ("PantryDoors", "life", "LPantryDoors$Life;", true)
  | 2 => ("PantryDoors", "images", "[LPantryDoors$Life;", true)
  | 3 => ("PantryDoors", "kept", "[Z", true)
  | 4 => ("PantryDoors", "seenGood", "[I", true)
  | 5 => ("PantryDoors", "seenThere", "[I", true)
  | 6 => ("PantryDoors", "gaveDay", "[I", true)
  | 7 => ("PantryDoors", "gaveTo", "[I", true)
  | 8 => ("PantryDoors", "best", "[I", true)
  | 9 => ("PantryDoors", "plan", "LPantryDoors$Plan;", true)
  | 10 => ("PantryDoors", "kinds", "[LPantryDoors$Good;", true)
  | 11 => ("PantryDoors", "told", "LPantryDoors$House;", false)
  | 12 => ("PantryDoors", "draft", "LPantryDoors$House;", false)
  | 13 => ("PantryDoors", "seen", "I", false)
  | _ => ("PantryDoors", "gaves", "I", false)
def tyX11 : Nat → FieldType := fun k => match k with
  | 0 => .object "PantryDoors$Text"
  | 1 => .object "PantryDoors$Life"
  | 2 => .array (.object "PantryDoors$Life")
  | 3 => .array .boolean
  | 4 => .array .int
  | 5 => .array .int
  | 6 => .array .int
  | 7 => .array .int
  | 8 => .array .int
  | 9 => .object "PantryDoors$Plan"
  | 10 => .array (.object "PantryDoors$Good")
  | 11 => .object "PantryDoors$House"
  | 12 => .object "PantryDoors$House"
  | 13 => .int
  | _ => .int
abbrev wsX110 : List Cond := u_ws RX11 TX11 15
theorem nmX11 : ∀ a, a < 15 → ∀ b, b < 15 → a ≠ b → (TX11 a).2.1 ≠ (TX11 b).2.1 := by decide +kernel
theorem tyX11_ok : ∀ k, k < 15 → parseFieldDescriptor (TX11 k).2.2.1 = some (tyX11 k) := by decide +kernel
def RX12 : String := "PantryDoorsModel"
def TX12 : u_T := fun k => match k with
  | 0 => ("PantryDoorsModel", "text", "[B", true)
  | 1 => ("PantryDoorsModel", "typed", "I", false)
  | 2 => ("PantryDoorsModel", "door", "[I", true)
  | 3 => ("PantryDoorsModel", "goods", "[I", true)
  | 4 => ("PantryDoorsModel", "first", "[I", true)
  | 5 => ("PantryDoorsModel", "use", "[I", true)
  | 6 => ("PantryDoorsModel", "weight", "[I", true)
  | 7 => ("PantryDoorsModel", "worth", "[I", true)
  | 8 => ("PantryDoorsModel", "brought", "[I", true)
  | 9 => ("PantryDoorsModel", "missed", "[I", true)
  | 10 => ("PantryDoorsModel", "at", "I", false)
  | 11 => ("PantryDoorsModel", "place", "I", false)
  | 12 => ("PantryDoorsModel", "sort", "I", false)
  | 13 => ("PantryDoorsModel", "value", "I", false)
  | 14 => ("PantryDoorsModel", "isWrong", "Z", false)
  | 15 => ("PantryDoorsModel", "items", "I", false)
  | 16 => ("PantryDoorsModel", "isHung", "Z", false)
  | 17 => ("PantryDoorsModel", "now", "[I", true)
  | 18 => ("PantryDoorsModel", "known", "[I", true)
  | 19 => ("PantryDoorsModel", "before", "[I", true)
  | 20 => ("PantryDoorsModel", "store", "[I", true)
  | 21 => ("PantryDoorsModel", "isKept", "[Z", true)
  | 22 => ("PantryDoorsModel", "tried", "[I", true)
  | 23 => ("PantryDoorsModel", "most", "[I", true)
  | 24 => ("PantryDoorsModel", "sightOf", "[I", true)
  | 25 => ("PantryDoorsModel", "sightIs", "[I", true)
  | 26 => ("PantryDoorsModel", "sights", "I", false)
  | 27 => ("PantryDoorsModel", "markOf", "[I", true)
  | 28 => ("PantryDoorsModel", "markTo", "[I", true)
  | 29 => ("PantryDoorsModel", "marks", "I", false)
  | 30 => ("PantryDoorsModel", "stores", "[I", true)
  | _ => ("PantryDoorsModel", "trace", "J", false)
def tyX12 : Nat → FieldType := fun k => match k with
  | 0 => .array .byte
  | 1 => .int
  | 2 => .array .int
  | 3 => .array .int
  | 4 => .array .int
  | 5 => .array .int
  | 6 => .array .int
  | 7 => .array .int
  | 8 => .array .int
  | 9 => .array .int
  | 10 => .int
  | 11 => .int
  | 12 => .int
  | 13 => .int
  | 14 => .boolean
  | 15 => .int
  | 16 => .boolean
  | 17 => .array .int
  | 18 => .array .int
  | 19 => .array .int
  | 20 => .array .int
  | 21 => .array .boolean
  | 22 => .array .int
  | 23 => .array .int
  | 24 => .array .int
  | 25 => .array .int
  | 26 => .int
  | 27 => .array .int
  | 28 => .array .int
  | 29 => .int
  | 30 => .array .int
  | _ => .long
abbrev wsX120 : List Cond := u_ws RX12 TX12 32
theorem nmX12 : ∀ a, a < 32 → ∀ b, b < 32 → a ≠ b → (TX12 a).2.1 ≠ (TX12 b).2.1 := by decide +kernel
theorem tyX12_ok : ∀ k, k < 32 → parseFieldDescriptor (TX12 k).2.2.1 = some (tyX12 k) := by decide +kernel
abbrev pd_cl : List vw_C := [(RX0, TX0, 1), (RX1, TX1, 1), (RX2, TX2, 1), (RX3, TX3, 1), (RX4, TX4, 10), (RX5, TX5, 1), (RX6, TX6, 3), (RX7, TX7, 6), (RX8, TX8, 5), (RX9, TX9, 1), (RX10, TX10, 8), (RX11, TX11, 15), (RX12, TX12, 32)]
def pd_tbl : List Cond := lw_tbl.filter goodWord
theorem pd_m {w : Cond} (i : Nat) (h : lw_tbl[i]? = some w) (hg : goodWord w = true) : w ∈ pd_tbl := List.mem_filter.mpr ⟨List.mem_of_getElem? h, hg⟩
theorem pd_all : ∀ {l : List Cond} {P : Cond → Prop}, (∀ w ∈ l, P w) → ∀ w ∈ l, P w := fun h => h
theorem iw0_0 : u_lay RX0 TX0 0 ∈ pd_tbl := pd_m 243 (by decide +kernel) (by decide +kernel)
theorem iw0 : ∀ w ∈ u_ws RX0 TX0 1, w ∈ pd_tbl := by
  show ∀ w ∈ [u_lay RX0 TX0 0], w ∈ pd_tbl
  exact List.forall_mem_cons.mpr ⟨iw0_0, fun _ h => absurd h List.not_mem_nil⟩
theorem iw1_0 : u_lay RX1 TX1 0 ∈ pd_tbl := pd_m 227 (by decide +kernel) (by decide +kernel)
theorem iw1 : ∀ w ∈ u_ws RX1 TX1 1, w ∈ pd_tbl := by
  show ∀ w ∈ [u_lay RX1 TX1 0], w ∈ pd_tbl
  exact List.forall_mem_cons.mpr ⟨iw1_0, fun _ h => absurd h List.not_mem_nil⟩
theorem iw2_0 : u_lay RX2 TX2 0 ∈ pd_tbl := pd_m 202 (by decide +kernel) (by decide +kernel)
theorem iw2 : ∀ w ∈ u_ws RX2 TX2 1, w ∈ pd_tbl := by
  show ∀ w ∈ [u_lay RX2 TX2 0], w ∈ pd_tbl
  exact List.forall_mem_cons.mpr ⟨iw2_0, fun _ h => absurd h List.not_mem_nil⟩
theorem iw3_0 : u_lay RX3 TX3 0 ∈ pd_tbl := pd_m 219 (by decide +kernel) (by decide +kernel)
theorem iw3 : ∀ w ∈ u_ws RX3 TX3 1, w ∈ pd_tbl := by
  show ∀ w ∈ [u_lay RX3 TX3 0], w ∈ pd_tbl
  exact List.forall_mem_cons.mpr ⟨iw3_0, fun _ h => absurd h List.not_mem_nil⟩
theorem iw4_0 : u_lay RX4 TX4 0 ∈ pd_tbl := pd_m 285 (by decide +kernel) (by decide +kernel)
theorem iw4_1 : u_lay RX4 TX4 1 ∈ pd_tbl := pd_m 287 (by decide +kernel) (by decide +kernel)
theorem iw4_2 : u_lay RX4 TX4 2 ∈ pd_tbl := pd_m 289 (by decide +kernel) (by decide +kernel)
theorem iw4_3 : u_lay RX4 TX4 3 ∈ pd_tbl := pd_m 291 (by decide +kernel) (by decide +kernel)
theorem iw4_4 : u_lay RX4 TX4 4 ∈ pd_tbl := pd_m 293 (by decide +kernel) (by decide +kernel)
theorem iw4_5 : u_lay RX4 TX4 5 ∈ pd_tbl := pd_m 295 (by decide +kernel) (by decide +kernel)
theorem iw4_6 : u_lay RX4 TX4 6 ∈ pd_tbl := pd_m 297 (by decide +kernel) (by decide +kernel)
theorem iw4_7 : u_lay RX4 TX4 7 ∈ pd_tbl := pd_m 299 (by decide +kernel) (by decide +kernel)
theorem iw4_8 : u_lay RX4 TX4 8 ∈ pd_tbl := pd_m 301 (by decide +kernel) (by decide +kernel)
theorem iw4_9 : u_lay RX4 TX4 9 ∈ pd_tbl := pd_m 303 (by decide +kernel) (by decide +kernel)
theorem iw4 : ∀ w ∈ u_ws RX4 TX4 10, w ∈ pd_tbl := by
  show ∀ w ∈ [u_lay RX4 TX4 0, u_lay RX4 TX4 1, u_lay RX4 TX4 2, u_lay RX4 TX4 3, u_lay RX4 TX4 4, u_lay RX4 TX4 5, u_lay RX4 TX4 6, u_lay RX4 TX4 7, u_lay RX4 TX4 8, u_lay RX4 TX4 9], w ∈ pd_tbl
  exact List.forall_mem_cons.mpr ⟨iw4_0, List.forall_mem_cons.mpr ⟨iw4_1, List.forall_mem_cons.mpr ⟨iw4_2, List.forall_mem_cons.mpr ⟨iw4_3, List.forall_mem_cons.mpr ⟨iw4_4, List.forall_mem_cons.mpr ⟨iw4_5, List.forall_mem_cons.mpr ⟨iw4_6, List.forall_mem_cons.mpr ⟨iw4_7, List.forall_mem_cons.mpr ⟨iw4_8, List.forall_mem_cons.mpr ⟨iw4_9, fun _ h => absurd h List.not_mem_nil⟩⟩⟩⟩⟩⟩⟩⟩⟩⟩
theorem iw5_0 : u_lay RX5 TX5 0 ∈ pd_tbl := pd_m 235 (by decide +kernel) (by decide +kernel)
theorem iw5 : ∀ w ∈ u_ws RX5 TX5 1, w ∈ pd_tbl := by
  show ∀ w ∈ [u_lay RX5 TX5 0], w ∈ pd_tbl
  exact List.forall_mem_cons.mpr ⟨iw5_0, fun _ h => absurd h List.not_mem_nil⟩
theorem iw6_0 : u_lay RX6 TX6 0 ∈ pd_tbl := pd_m 147 (by decide +kernel) (by decide +kernel)
theorem iw6_1 : u_lay RX6 TX6 1 ∈ pd_tbl := pd_m 149 (by decide +kernel) (by decide +kernel)
theorem iw6_2 : u_lay RX6 TX6 2 ∈ pd_tbl := pd_m 151 (by decide +kernel) (by decide +kernel)
theorem iw6 : ∀ w ∈ u_ws RX6 TX6 3, w ∈ pd_tbl := by
  show ∀ w ∈ [u_lay RX6 TX6 0, u_lay RX6 TX6 1, u_lay RX6 TX6 2], w ∈ pd_tbl
  exact List.forall_mem_cons.mpr ⟨iw6_0, List.forall_mem_cons.mpr ⟨iw6_1, List.forall_mem_cons.mpr ⟨iw6_2, fun _ h => absurd h List.not_mem_nil⟩⟩⟩
theorem iw7_0 : u_lay RX7 TX7 0 ∈ pd_tbl := pd_m 169 (by decide +kernel) (by decide +kernel)
theorem iw7_1 : u_lay RX7 TX7 1 ∈ pd_tbl := pd_m 171 (by decide +kernel) (by decide +kernel)
theorem iw7_2 : u_lay RX7 TX7 2 ∈ pd_tbl := pd_m 173 (by decide +kernel) (by decide +kernel)
theorem iw7_3 : u_lay RX7 TX7 3 ∈ pd_tbl := pd_m 175 (by decide +kernel) (by decide +kernel)
theorem iw7_4 : u_lay RX7 TX7 4 ∈ pd_tbl := pd_m 177 (by decide +kernel) (by decide +kernel)
theorem iw7_5 : u_lay RX7 TX7 5 ∈ pd_tbl := pd_m 179 (by decide +kernel) (by decide +kernel)
theorem iw7 : ∀ w ∈ u_ws RX7 TX7 6, w ∈ pd_tbl := by
  show ∀ w ∈ [u_lay RX7 TX7 0, u_lay RX7 TX7 1, u_lay RX7 TX7 2, u_lay RX7 TX7 3, u_lay RX7 TX7 4, u_lay RX7 TX7 5], w ∈ pd_tbl
  exact List.forall_mem_cons.mpr ⟨iw7_0, List.forall_mem_cons.mpr ⟨iw7_1, List.forall_mem_cons.mpr ⟨iw7_2, List.forall_mem_cons.mpr ⟨iw7_3, List.forall_mem_cons.mpr ⟨iw7_4, List.forall_mem_cons.mpr ⟨iw7_5, fun _ h => absurd h List.not_mem_nil⟩⟩⟩⟩⟩⟩
theorem iw8_0 : u_lay RX8 TX8 0 ∈ pd_tbl := pd_m 130 (by decide +kernel) (by decide +kernel)
theorem iw8_1 : u_lay RX8 TX8 1 ∈ pd_tbl := pd_m 132 (by decide +kernel) (by decide +kernel)
theorem iw8_2 : u_lay RX8 TX8 2 ∈ pd_tbl := pd_m 134 (by decide +kernel) (by decide +kernel)
theorem iw8_3 : u_lay RX8 TX8 3 ∈ pd_tbl := pd_m 136 (by decide +kernel) (by decide +kernel)
theorem iw8_4 : u_lay RX8 TX8 4 ∈ pd_tbl := pd_m 138 (by decide +kernel) (by decide +kernel)
theorem iw8 : ∀ w ∈ u_ws RX8 TX8 5, w ∈ pd_tbl := by
  show ∀ w ∈ [u_lay RX8 TX8 0, u_lay RX8 TX8 1, u_lay RX8 TX8 2, u_lay RX8 TX8 3, u_lay RX8 TX8 4], w ∈ pd_tbl
  exact List.forall_mem_cons.mpr ⟨iw8_0, List.forall_mem_cons.mpr ⟨iw8_1, List.forall_mem_cons.mpr ⟨iw8_2, List.forall_mem_cons.mpr ⟨iw8_3, List.forall_mem_cons.mpr ⟨iw8_4, fun _ h => absurd h List.not_mem_nil⟩⟩⟩⟩⟩
theorem iw9_0 : u_lay RX9 TX9 0 ∈ pd_tbl := pd_m 211 (by decide +kernel) (by decide +kernel)
theorem iw9 : ∀ w ∈ u_ws RX9 TX9 1, w ∈ pd_tbl := by
  show ∀ w ∈ [u_lay RX9 TX9 0], w ∈ pd_tbl
  exact List.forall_mem_cons.mpr ⟨iw9_0, fun _ h => absurd h List.not_mem_nil⟩
theorem iw10_0 : u_lay RX10 TX10 0 ∈ pd_tbl := pd_m 85 (by decide +kernel) (by decide +kernel)
theorem iw10_1 : u_lay RX10 TX10 1 ∈ pd_tbl := pd_m 87 (by decide +kernel) (by decide +kernel)
theorem iw10_2 : u_lay RX10 TX10 2 ∈ pd_tbl := pd_m 89 (by decide +kernel) (by decide +kernel)
theorem iw10_3 : u_lay RX10 TX10 3 ∈ pd_tbl := pd_m 91 (by decide +kernel) (by decide +kernel)
theorem iw10_4 : u_lay RX10 TX10 4 ∈ pd_tbl := pd_m 93 (by decide +kernel) (by decide +kernel)
theorem iw10_5 : u_lay RX10 TX10 5 ∈ pd_tbl := pd_m 95 (by decide +kernel) (by decide +kernel)
theorem iw10_6 : u_lay RX10 TX10 6 ∈ pd_tbl := pd_m 97 (by decide +kernel) (by decide +kernel)
theorem iw10_7 : u_lay RX10 TX10 7 ∈ pd_tbl := pd_m 99 (by decide +kernel) (by decide +kernel)
theorem iw10 : ∀ w ∈ u_ws RX10 TX10 8, w ∈ pd_tbl := by
  show ∀ w ∈ [u_lay RX10 TX10 0, u_lay RX10 TX10 1, u_lay RX10 TX10 2, u_lay RX10 TX10 3, u_lay RX10 TX10 4, u_lay RX10 TX10 5, u_lay RX10 TX10 6, u_lay RX10 TX10 7], w ∈ pd_tbl
  exact List.forall_mem_cons.mpr ⟨iw10_0, List.forall_mem_cons.mpr ⟨iw10_1, List.forall_mem_cons.mpr ⟨iw10_2, List.forall_mem_cons.mpr ⟨iw10_3, List.forall_mem_cons.mpr ⟨iw10_4, List.forall_mem_cons.mpr ⟨iw10_5, List.forall_mem_cons.mpr ⟨iw10_6, List.forall_mem_cons.mpr ⟨iw10_7, fun _ h => absurd h List.not_mem_nil⟩⟩⟩⟩⟩⟩⟩⟩
theorem iw11_0 : u_lay RX11 TX11 0 ∈ pd_tbl := pd_m 321 (by decide +kernel) (by decide +kernel)
theorem iw11_1 : u_lay RX11 TX11 1 ∈ pd_tbl := pd_m 323 (by decide +kernel) (by decide +kernel)
theorem iw11_2 : u_lay RX11 TX11 2 ∈ pd_tbl := pd_m 325 (by decide +kernel) (by decide +kernel)
theorem iw11_3 : u_lay RX11 TX11 3 ∈ pd_tbl := pd_m 327 (by decide +kernel) (by decide +kernel)
theorem iw11_4 : u_lay RX11 TX11 4 ∈ pd_tbl := pd_m 329 (by decide +kernel) (by decide +kernel)
theorem iw11_5 : u_lay RX11 TX11 5 ∈ pd_tbl := pd_m 331 (by decide +kernel) (by decide +kernel)
theorem iw11_6 : u_lay RX11 TX11 6 ∈ pd_tbl := pd_m 333 (by decide +kernel) (by decide +kernel)
theorem iw11_7 : u_lay RX11 TX11 7 ∈ pd_tbl := pd_m 335 (by decide +kernel) (by decide +kernel)
theorem iw11_8 : u_lay RX11 TX11 8 ∈ pd_tbl := pd_m 337 (by decide +kernel) (by decide +kernel)
theorem iw11_9 : u_lay RX11 TX11 9 ∈ pd_tbl := pd_m 339 (by decide +kernel) (by decide +kernel)
theorem iw11_10 : u_lay RX11 TX11 10 ∈ pd_tbl := pd_m 341 (by decide +kernel) (by decide +kernel)
theorem iw11_11 : u_lay RX11 TX11 11 ∈ pd_tbl := pd_m 343 (by decide +kernel) (by decide +kernel)
theorem iw11_12 : u_lay RX11 TX11 12 ∈ pd_tbl := pd_m 345 (by decide +kernel) (by decide +kernel)
theorem iw11_13 : u_lay RX11 TX11 13 ∈ pd_tbl := pd_m 347 (by decide +kernel) (by decide +kernel)
theorem iw11_14 : u_lay RX11 TX11 14 ∈ pd_tbl := pd_m 349 (by decide +kernel) (by decide +kernel)
theorem iw11 : ∀ w ∈ u_ws RX11 TX11 15, w ∈ pd_tbl := by
  show ∀ w ∈ [u_lay RX11 TX11 0, u_lay RX11 TX11 1, u_lay RX11 TX11 2, u_lay RX11 TX11 3, u_lay RX11 TX11 4, u_lay RX11 TX11 5, u_lay RX11 TX11 6, u_lay RX11 TX11 7, u_lay RX11 TX11 8, u_lay RX11 TX11 9, u_lay RX11 TX11 10, u_lay RX11 TX11 11, u_lay RX11 TX11 12, u_lay RX11 TX11 13, u_lay RX11 TX11 14], w ∈ pd_tbl
  exact List.forall_mem_cons.mpr ⟨iw11_0, List.forall_mem_cons.mpr ⟨iw11_1, List.forall_mem_cons.mpr ⟨iw11_2, List.forall_mem_cons.mpr ⟨iw11_3, List.forall_mem_cons.mpr ⟨iw11_4, List.forall_mem_cons.mpr ⟨iw11_5, List.forall_mem_cons.mpr ⟨iw11_6, List.forall_mem_cons.mpr ⟨iw11_7, List.forall_mem_cons.mpr ⟨iw11_8, List.forall_mem_cons.mpr ⟨iw11_9, List.forall_mem_cons.mpr ⟨iw11_10, List.forall_mem_cons.mpr ⟨iw11_11, List.forall_mem_cons.mpr ⟨iw11_12, List.forall_mem_cons.mpr ⟨iw11_13, List.forall_mem_cons.mpr ⟨iw11_14, fun _ h => absurd h List.not_mem_nil⟩⟩⟩⟩⟩⟩⟩⟩⟩⟩⟩⟩⟩⟩⟩
theorem iw12_0 : u_lay RX12 TX12 0 ∈ pd_tbl := pd_m 757 (by decide +kernel) (by decide +kernel)
theorem iw12_1 : u_lay RX12 TX12 1 ∈ pd_tbl := pd_m 759 (by decide +kernel) (by decide +kernel)
theorem iw12_2 : u_lay RX12 TX12 2 ∈ pd_tbl := pd_m 761 (by decide +kernel) (by decide +kernel)
theorem iw12_3 : u_lay RX12 TX12 3 ∈ pd_tbl := pd_m 763 (by decide +kernel) (by decide +kernel)
theorem iw12_4 : u_lay RX12 TX12 4 ∈ pd_tbl := pd_m 765 (by decide +kernel) (by decide +kernel)
theorem iw12_5 : u_lay RX12 TX12 5 ∈ pd_tbl := pd_m 767 (by decide +kernel) (by decide +kernel)
theorem iw12_6 : u_lay RX12 TX12 6 ∈ pd_tbl := pd_m 769 (by decide +kernel) (by decide +kernel)
theorem iw12_7 : u_lay RX12 TX12 7 ∈ pd_tbl := pd_m 771 (by decide +kernel) (by decide +kernel)
theorem iw12_8 : u_lay RX12 TX12 8 ∈ pd_tbl := pd_m 773 (by decide +kernel) (by decide +kernel)
theorem iw12_9 : u_lay RX12 TX12 9 ∈ pd_tbl := pd_m 775 (by decide +kernel) (by decide +kernel)
theorem iw12_10 : u_lay RX12 TX12 10 ∈ pd_tbl := pd_m 777 (by decide +kernel) (by decide +kernel)
theorem iw12_11 : u_lay RX12 TX12 11 ∈ pd_tbl := pd_m 779 (by decide +kernel) (by decide +kernel)
theorem iw12_12 : u_lay RX12 TX12 12 ∈ pd_tbl := pd_m 781 (by decide +kernel) (by decide +kernel)
theorem iw12_13 : u_lay RX12 TX12 13 ∈ pd_tbl := pd_m 783 (by decide +kernel) (by decide +kernel)
theorem iw12_14 : u_lay RX12 TX12 14 ∈ pd_tbl := pd_m 785 (by decide +kernel) (by decide +kernel)
theorem iw12_15 : u_lay RX12 TX12 15 ∈ pd_tbl := pd_m 787 (by decide +kernel) (by decide +kernel)
theorem iw12_16 : u_lay RX12 TX12 16 ∈ pd_tbl := pd_m 789 (by decide +kernel) (by decide +kernel)
theorem iw12_17 : u_lay RX12 TX12 17 ∈ pd_tbl := pd_m 791 (by decide +kernel) (by decide +kernel)
theorem iw12_18 : u_lay RX12 TX12 18 ∈ pd_tbl := pd_m 793 (by decide +kernel) (by decide +kernel)
theorem iw12_19 : u_lay RX12 TX12 19 ∈ pd_tbl := pd_m 795 (by decide +kernel) (by decide +kernel)
theorem iw12_20 : u_lay RX12 TX12 20 ∈ pd_tbl := pd_m 797 (by decide +kernel) (by decide +kernel)
theorem iw12_21 : u_lay RX12 TX12 21 ∈ pd_tbl := pd_m 799 (by decide +kernel) (by decide +kernel)
theorem iw12_22 : u_lay RX12 TX12 22 ∈ pd_tbl := pd_m 801 (by decide +kernel) (by decide +kernel)
theorem iw12_23 : u_lay RX12 TX12 23 ∈ pd_tbl := pd_m 803 (by decide +kernel) (by decide +kernel)
theorem iw12_24 : u_lay RX12 TX12 24 ∈ pd_tbl := pd_m 805 (by decide +kernel) (by decide +kernel)
theorem iw12_25 : u_lay RX12 TX12 25 ∈ pd_tbl := pd_m 807 (by decide +kernel) (by decide +kernel)
theorem iw12_26 : u_lay RX12 TX12 26 ∈ pd_tbl := pd_m 809 (by decide +kernel) (by decide +kernel)
theorem iw12_27 : u_lay RX12 TX12 27 ∈ pd_tbl := pd_m 811 (by decide +kernel) (by decide +kernel)
theorem iw12_28 : u_lay RX12 TX12 28 ∈ pd_tbl := pd_m 813 (by decide +kernel) (by decide +kernel)
theorem iw12_29 : u_lay RX12 TX12 29 ∈ pd_tbl := pd_m 815 (by decide +kernel) (by decide +kernel)
theorem iw12_30 : u_lay RX12 TX12 30 ∈ pd_tbl := pd_m 817 (by decide +kernel) (by decide +kernel)
theorem iw12_31 : u_lay RX12 TX12 31 ∈ pd_tbl := pd_m 819 (by decide +kernel) (by decide +kernel)
theorem iw12 : ∀ w ∈ u_ws RX12 TX12 32, w ∈ pd_tbl := by
  show ∀ w ∈ [u_lay RX12 TX12 0, u_lay RX12 TX12 1, u_lay RX12 TX12 2, u_lay RX12 TX12 3, u_lay RX12 TX12 4, u_lay RX12 TX12 5, u_lay RX12 TX12 6, u_lay RX12 TX12 7, u_lay RX12 TX12 8, u_lay RX12 TX12 9, u_lay RX12 TX12 10, u_lay RX12 TX12 11, u_lay RX12 TX12 12, u_lay RX12 TX12 13, u_lay RX12 TX12 14, u_lay RX12 TX12 15, u_lay RX12 TX12 16, u_lay RX12 TX12 17, u_lay RX12 TX12 18, u_lay RX12 TX12 19, u_lay RX12 TX12 20, u_lay RX12 TX12 21, u_lay RX12 TX12 22, u_lay RX12 TX12 23, u_lay RX12 TX12 24, u_lay RX12 TX12 25, u_lay RX12 TX12 26, u_lay RX12 TX12 27, u_lay RX12 TX12 28, u_lay RX12 TX12 29, u_lay RX12 TX12 30, u_lay RX12 TX12 31], w ∈ pd_tbl
  exact List.forall_mem_cons.mpr ⟨iw12_0, List.forall_mem_cons.mpr ⟨iw12_1, List.forall_mem_cons.mpr ⟨iw12_2, List.forall_mem_cons.mpr ⟨iw12_3, List.forall_mem_cons.mpr ⟨iw12_4, List.forall_mem_cons.mpr ⟨iw12_5, List.forall_mem_cons.mpr ⟨iw12_6, List.forall_mem_cons.mpr ⟨iw12_7, List.forall_mem_cons.mpr ⟨iw12_8, List.forall_mem_cons.mpr ⟨iw12_9, List.forall_mem_cons.mpr ⟨iw12_10, List.forall_mem_cons.mpr ⟨iw12_11, List.forall_mem_cons.mpr ⟨iw12_12, List.forall_mem_cons.mpr ⟨iw12_13, List.forall_mem_cons.mpr ⟨iw12_14, List.forall_mem_cons.mpr ⟨iw12_15, List.forall_mem_cons.mpr ⟨iw12_16, List.forall_mem_cons.mpr ⟨iw12_17, List.forall_mem_cons.mpr ⟨iw12_18, List.forall_mem_cons.mpr ⟨iw12_19, List.forall_mem_cons.mpr ⟨iw12_20, List.forall_mem_cons.mpr ⟨iw12_21, List.forall_mem_cons.mpr ⟨iw12_22, List.forall_mem_cons.mpr ⟨iw12_23, List.forall_mem_cons.mpr ⟨iw12_24, List.forall_mem_cons.mpr ⟨iw12_25, List.forall_mem_cons.mpr ⟨iw12_26, List.forall_mem_cons.mpr ⟨iw12_27, List.forall_mem_cons.mpr ⟨iw12_28, List.forall_mem_cons.mpr ⟨iw12_29, List.forall_mem_cons.mpr ⟨iw12_30, List.forall_mem_cons.mpr ⟨iw12_31, fun _ h => absurd h List.not_mem_nil⟩⟩⟩⟩⟩⟩⟩⟩⟩⟩⟩⟩⟩⟩⟩⟩⟩⟩⟩⟩⟩⟩⟩⟩⟩⟩⟩⟩⟩⟩⟩⟩
end
section
/-! numbers: a Java int is jI z, z an Int -/
def jI (z : Int) : Int32 := Int32.ofInt z
def jL (z : Int) : Int64 := Int64.ofInt z
def jR (z : Int) : Prop := -2147483648 ≤ z ∧ z < 2147483648
theorem jI_add (a b : Int) : jI a + jI b = jI (a + b) := (Int32.ofInt_add a b).symm
theorem jI_sub (a b : Int) : jI a - jI b = jI (a - b) := (Int32.ofInt_sub a b).symm
theorem jI_mul (a b : Int) : jI a * jI b = jI (a * b) := (Int32.ofInt_mul a b).symm
theorem jL_add (a b : Int) : jL a + jL b = jL (a + b) := (Int64.ofInt_add a b).symm
theorem jL_mul (a b : Int) : jL a * jL b = jL (a * b) := (Int64.ofInt_mul a b).symm
theorem jI_toInt {z : Int} (h : jR z) : (jI z).toInt = z := Int32.toInt_ofInt_of_le h.1 h.2
theorem jI_of (x : Int32) : ∃ z : Int, jR z ∧ x = jI z := ⟨x.toInt, ⟨Int32.le_toInt x, Int32.toInt_lt x⟩, (Int32.ofInt_toInt x).symm⟩
theorem jI_lt {a b : Int} (ha : jR a) (hb : jR b) : jI a < jI b ↔ a < b := by
  rw [Int32.lt_iff_toInt_lt, jI_toInt ha, jI_toInt hb]
theorem jI_le {a b : Int} (ha : jR a) (hb : jR b) : jI a ≤ jI b ↔ a ≤ b := by
  rw [Int32.le_iff_toInt_le, jI_toInt ha, jI_toInt hb]
theorem jI_eq {a b : Int} (ha : jR a) (hb : jR b) : jI a = jI b ↔ a = b :=
  ⟨fun h => by have := congrArg Int32.toInt h; rwa [jI_toInt ha, jI_toInt hb] at this, fun h => by rw [h]⟩
theorem jI_0 : (0 : Int32) = jI 0 := rfl
theorem jR_0 : jR 0 := ⟨by decide, by decide⟩
theorem jI_cl {z : Int} {n : Nat} (h0 : 0 ≤ z) (h : z < n) (hn : (n : Int) ≤ 2147483648) : (jI z).toNatClampNeg = z.toNat := by
  have h1 : (jI z).toInt = z := jI_toInt ⟨by omega, by omega⟩
  show (jI z).toInt.toNat = z.toNat
  rw [h1]
theorem jI_in {z : Int} {n : Nat} (h0 : 0 ≤ z) (h : z < n) (hn : (n : Int) ≤ 2147483648) : vp_in (jI z) n := by
  have hc := jI_cl h0 h hn
  intro hh
  rcases hh with hh | hh
  · have : (jI z) < jI 0 := hh
    rw [jI_lt ⟨by omega, by omega⟩ jR_0] at this
    omega
  · rw [hc] at hh
    omega
/-! values: an int, a long, a reference by its place in the world (0: the script) -/
abbrev pv : Type := Int ⊕ (Int ⊕ Option Nat)
abbrev vi (z : Int) : pv := Sum.inl z
abbrev vl (z : Int) : pv := Sum.inr (Sum.inl z)
abbrev vr (k : Nat) : pv := Sum.inr (Sum.inr (some k))
abbrev vn : pv := Sum.inr (Sum.inr none)
abbrev pd_G : Type := Launch × va_G × (Nat → ClassId) × Nat × Nat
def pd_ad (G : pd_G) : Nat → Nat
  | 0 => G.2.2.2.2
  | k + 1 => G.2.2.2.1 + k
def pd_up (G : pd_G) : pv → Value
  | .inl z => .int (jI z)
  | .inr (.inl z) => .long (jL z)
  | .inr (.inr r) => va_rf (r.map (pd_ad G))
abbrev pd_E : Type := (Nat × Nat × ((Int → Int) ⊕ (Int → Option Nat))) ⊕ (Nat × List pv)
abbrev ia (n : Nat) (f : Int → Int) : pd_E := .inl (0, n, .inl f)
abbrev ba (n : Nat) (f : Int → Int) : pd_E := .inl (1, n, .inl f)
abbrev za (n : Nat) (f : Int → Int) : pd_E := .inl (2, n, .inl f)
abbrev ra (k n : Nat) (f : Int → Option Nat) : pd_E := .inl (k, n, .inr f)
abbrev ob (c : Nat) (fs : List pv) : pd_E := .inr (c, fs)
def pd_e (G : pd_G) : pd_E → va_E
  | .inl (k, n, .inl f) => .inl (G.2.2.1 k, n, .inl (fun j : Nat => jI (f j)))
  | .inl (k, n, .inr f) => .inl (G.2.2.1 k, n, .inr (.inr (.inr (.inr (fun j : Nat => (f j).map (pd_ad G))))))
  | .inr (c, fs) => .inr (c, fs.map (pd_up G))
abbrev pd_P : Type := Nat → pd_E
def pd_w (G : pd_G) (sz : Nat) (hp : pd_P) : va_W := (List.range sz).map (fun k => (G.2.2.2.1 + k, pd_e G (hp (k + 1))))
def pd_A (G : pd_G) : Nat → Prop := fun q => G.2.2.2.1 ≤ q
theorem pd_w_get {G : pd_G} {sz : Nat} {hp : pd_P} {k : Nat} (h : k < sz) : (pd_w G sz hp)[k]? = some (G.2.2.2.1 + k, pd_e G (hp (k + 1))) := by
  simp [pd_w, h]
theorem pd_w_of {G : pd_G} {sz : Nat} {hp : pd_P} {k : Nat} {q : Nat × va_E} (h : (pd_w G sz hp)[k]? = some q) : k < sz ∧ q = (G.2.2.2.1 + k, pd_e G (hp (k + 1))) := by
  by_cases hk : k < sz
  · rw [pd_w_get hk] at h
    exact ⟨hk, (Option.some.inj h).symm⟩
  · simp [pd_w, hk] at h
theorem pd_w_D (G : pd_G) (sz : Nat) (hp : pd_P) : va_D (pd_A G) (pd_w G sz hp) := by
  refine ⟨fun i j p q hi hj hpq => ?_, fun k q hk => ?_⟩
  · obtain ⟨-, rfl⟩ := pd_w_of hi
    obtain ⟨-, rfl⟩ := pd_w_of hj
    have : G.2.2.2.1 + i = G.2.2.2.1 + j := hpq
    omega
  · obtain ⟨-, rfl⟩ := pd_w_of hk
    exact Nat.le_add_right _ _
theorem pd_w_set {G : pd_G} {sz : Nat} {hp : pd_P} {k : Nat} {e : pd_E} (h : k < sz) : (pd_w G sz hp).set k (G.2.2.2.1 + k, pd_e G e) = pd_w G sz (va_up hp (k + 1) e) := by
  have hl : k < (pd_w G sz hp).length := by simp [pd_w, h]
  apply List.ext_getElem?
  intro j
  by_cases hj : j = k
  · subst hj
    rw [List.getElem?_set_self hl, pd_w_get h, va_up_self]
  · rw [List.getElem?_set_ne (Ne.symm hj)]
    by_cases hs : j < sz
    · rw [pd_w_get hs, pd_w_get hs, va_up_ne _ _ (by omega)]
    · simp [pd_w, hs]
theorem pd_w_push {G : pd_G} {sz : Nat} {hp : pd_P} {e : pd_E} : pd_w G sz hp ++ [(G.2.2.2.1 + sz, pd_e G e)] = pd_w G (sz + 1) (va_up hp (sz + 1) e) := by
  have hl : (pd_w G sz hp).length = sz := by simp [pd_w]
  apply List.ext_getElem?
  intro j
  by_cases hs : j < sz
  · rw [List.getElem?_append_left (by rw [hl]; exact hs), pd_w_get hs, pd_w_get (by omega), va_up_ne _ _ (by omega)]
  · rw [List.getElem?_append_right (by rw [hl]; omega), hl]
    by_cases hj : j = sz
    · subst hj
      rw [pd_w_get (by omega), va_up_self, Nat.sub_self]
      rfl
    · have h1 : 0 < j - sz := by omega
      rw [List.getElem?_eq_none (by simp; omega), List.getElem?_eq_none (by simp [pd_w]; omega)]
def pd_H (G : pd_G) (sz : Nat) (hp : pd_P) (H : Heap) : Prop := H.size = G.2.2.2.1 + sz ∧ va_P G.2.1 pd_cl (pd_w G sz hp) H ∧ ∀ k, k = 0 ∨ sz < k → hp k = ob 99 []
/-! methods -/
abbrev pd_M : Type := MethodName × ByteArray × Nat × Option FieldType
def pd_ws (M : pd_M) : List Cond := Cond.code M.1 M.2.1 M.2.2.1 M.2.2.2 :: pd_tbl
def pd_ok (M : pd_M) (n : Nat) : Prop := Cond.code M.1 M.2.1 M.2.2.1 M.2.2.2 ∈ pd_tbl ∧ Cond.initialized M.1.cls ∈ pd_tbl ∧ plainName M.1.cls = true ∧ M.1.cls ≠ "java/lang/invoke/MethodHandle" ∧ M.1.cls ≠ "java/lang/invoke/VarHandle" ∧ (parseMethodDescriptor M.1.desc).map (fun d => d.parameters.length) = some n ∧ M.2.2.1 ≤ 45
def pd_ty (G : pd_G) : List (ClassId × FieldType) := [(G.2.2.1 0, .int), (G.2.2.1 1, .byte), (G.2.2.1 2, .boolean), (G.2.2.1 3, .object "PantryDoors$Life"), (G.2.2.1 4, .object "PantryDoors$State"), (G.2.2.1 5, .object "PantryDoors$Good")]
def pd_nest : List (String × Nat × MethodName × String) := [("PantryDoors", 11, ⟨"PantryDoors$Text", "<init>", "()V"⟩, "PantryDoors"), ("PantryDoors$Life", 9, ⟨"PantryDoors$State", "<init>", "()V"⟩, "PantryDoors"), ("PantryDoors", 49, ⟨"PantryDoors$Plan", "<init>", "()V"⟩, "PantryDoors"), ("PantryDoors", 56, ⟨"PantryDoors$Good", "<init>", "()V"⟩, "PantryDoors"), ("PantryDoors", 59, ⟨"PantryDoors$Sugar", "<init>", "()V"⟩, "PantryDoors"), ("PantryDoors$Sugar", 1, ⟨"PantryDoors$Good", "<init>", "()V"⟩, "PantryDoors"), ("PantryDoors", 62, ⟨"PantryDoors$Ham", "<init>", "()V"⟩, "PantryDoors"), ("PantryDoors$Ham", 1, ⟨"PantryDoors$Good", "<init>", "()V"⟩, "PantryDoors"), ("PantryDoors", 65, ⟨"PantryDoors$Cone", "<init>", "()V"⟩, "PantryDoors"), ("PantryDoors$Cone", 1, ⟨"PantryDoors$Sugar", "<init>", "()V"⟩, "PantryDoors"), ("PantryDoors", 68, ⟨"PantryDoors$Jelly", "<init>", "()V"⟩, "PantryDoors"), ("PantryDoors$Jelly", 1, ⟨"PantryDoors$Ham", "<init>", "()V"⟩, "PantryDoors"), ("PantryDoors", 71, ⟨"PantryDoors$Candle", "<init>", "()V"⟩, "PantryDoors"), ("PantryDoors$Candle", 1, ⟨"PantryDoors$Good", "<init>", "()V"⟩, "PantryDoors"), ("PantryDoors", 78, ⟨"PantryDoors$House", "<init>", "()V"⟩, "PantryDoors"), ("PantryDoors$Text", 63, ⟨"PantryDoors", "within", "(III)Z"⟩, "PantryDoors"), ("PantryDoors$House", 43, ⟨"PantryDoors", "within", "(III)Z"⟩, "PantryDoors"), ("PantryDoors$House", 47, ⟨"PantryDoors", "leadsBy", "(III)I"⟩, "PantryDoors")]
end
section
def pd_nw (q : String × Nat × MethodName × String) : Cond := .methodLinkNest q.1 q.2.1 q.2.2.1 q.2.2.2
def pd_K (G : pd_G) (U : State) : Prop := va_K G.2.1 pd_cl (pd_ty G) U ∧ (∀ q ∈ pd_nest, va_Nw (pd_nw q) U) ∧ va_AO "PantryDoors$Life" U ∧ va_AO "PantryDoors$State" U ∧ va_AO "PantryDoors$Good" U
theorem pd_K.warm {G : pd_G} {s U : State} (hW : s.WarmedH U.vm) (h : pd_K G s) : pd_K G U :=
  ⟨va_K.moved hW.alike h.1, fun q hq => va_Nw.warmM hW (h.2.1 q hq), va_AO.moved hW.alike h.2.2.1, va_AO.moved hW.alike h.2.2.2.1, va_AO.moved hW.alike h.2.2.2.2⟩
theorem pd_K.same {G : pd_G} {s U : State} (hv : s.vm = U.vm) (h : pd_K G s) : pd_K G U := by
  have ha : s.vm.Alike U.vm := by rw [hv]; exact Vm.Alike.refl _
  exact ⟨va_K.moved ha h.1, fun q hq => va_Nw.same rfl hv (h.2.1 q hq), va_AO.moved ha h.2.2.1, va_AO.moved ha h.2.2.2.1, va_AO.moved ha h.2.2.2.2⟩
def pd_X (G : pd_G) (X : Option (Nat × (Nat → Int))) (s : State) : Prop := match X with
  | none => True
  | some (L, xs) => va_X G.2.2.2.2 L (fun j => jI (xs j)) s s.heap ∧ G.2.2.2.2 < s.heap.size ∧ G.2.2.2.2 < G.2.2.2.1
/-- what a walk knows of its machine -/
def pd_cx (G : pd_G) (M : pd_M) (d mc ms : Nat) (X : Option (Nat × (Nat → Int))) (p : Program) (Rm : Room) (s : State) (m : MethodId) (args : Array Value) (meth : Method) (c : Code) : Prop :=
  p.tables.exec = Jvm.exec ∧ c.code = M.2.1 ∧ c.maxLocals = M.2.2.1 ∧ s.vm.findClass M.1.cls = some m.cls ∧ (∀ w ∈ pd_tbl, w.before args s = true) ∧ pd_K G s ∧ (d ≤ Rm.frames ∧ 64 * d ≤ Rm.locals ∧ mc ≤ Rm.cells ∧ ms ≤ Rm.slots) ∧ (M.1.name = "<init>" → meth.name = "<init>") ∧ G.2.2.2.1 ≤ s.heap.size ∧ pd_X G X s
/-! locals -/
def pd_nth : List (Option pv) → Nat → Option pv
  | [], _ => none
  | a :: _, 0 => a
  | _ :: l, n + 1 => pd_nth l n
def pd_put : List (Option pv) → Nat → Option pv → List (Option pv)
  | [], _, _ => []
  | _ :: l, 0, v => v :: l
  | a :: l, n + 1, v => a :: pd_put l n v
theorem pd_nth_put : ∀ (l : List (Option pv)) (i j : Nat) (v : Option pv) {w : pv}, pd_nth (pd_put l i v) j = some w → (j = i ∧ v = some w) ∨ (j ≠ i ∧ pd_nth l j = some w)
  | [], _, _, _, _, h => by simp [pd_put, pd_nth] at h
  | a :: l, 0, 0, v, w, h => Or.inl ⟨rfl, h⟩
  | a :: l, 0, j + 1, v, w, h => Or.inr ⟨by omega, h⟩
  | a :: l, i + 1, 0, v, w, h => Or.inr ⟨by omega, h⟩
  | a :: l, i + 1, j + 1, v, w, h => by
    rcases pd_nth_put l i j v h with ⟨h1, h2⟩ | ⟨h1, h2⟩
    · exact Or.inl ⟨by omega, h2⟩
    · exact Or.inr ⟨by omega, h2⟩
def pd_lv (G : pd_G) (ls : Array Slot) (nL : Nat) (lv : List (Option pv)) : Prop := ls.size = nL ∧ lv_wf ls ∧ ∀ (i : Nat) (v : pv), pd_nth lv i = some v → ls[i]? = some (.val (pd_up G v))
/-- the place before i holds no long -/
def pd_o1 (lv : List (Option pv)) : Nat → Bool
  | 0 => true
  | i + 1 => match pd_nth lv i with
    | some (.inr (.inl _)) => false
    | _ => true
def pd_ll (G : pd_G) (lv : List (Option pv)) : List (Nat × Value) := (List.range lv.length).filterMap (fun j => (pd_nth lv j).map (fun v => (j, pd_up G v)))
theorem pd_nth_lt : ∀ (l : List (Option pv)) (i : Nat) {w : pv}, pd_nth l i = some w → i < l.length
  | [], _, _, h => by simp [pd_nth] at h
  | _ :: _, 0, _, _ => by simp
  | _ :: l, i + 1, _, h => by
    have := pd_nth_lt l i h
    simp only [List.length_cons]
    omega
theorem pd_ll_mem {G : pd_G} {lv : List (Option pv)} {j : Nat} {w : pv} (h : pd_nth lv j = some w) : (j, pd_up G w) ∈ pd_ll G lv :=
  List.mem_filterMap.mpr ⟨j, List.mem_range.mpr (pd_nth_lt lv j h), by rw [h]; rfl⟩
theorem pd_lv.has {G : pd_G} {ls : Array Slot} {nL : Nat} {lv : List (Option pv)} (h : pd_lv G ls nL lv) : lv_has ls nL (pd_ll G lv) := by
  refine ⟨h.1, h.2.1, fun q hq => ?_⟩
  obtain ⟨j, -, hj⟩ := List.mem_filterMap.mp hq
  cases hn : pd_nth lv j with
  | none => rw [hn] at hj; cases hj
  | some w =>
    rw [hn] at hj
    cases hj
    exact h.2.2 j w hn
theorem pd_cat (G : pd_G) (v : pv) : (pd_up G v).category = 2 ↔ ∃ z, v = vl z := by
  rcases v with z | z | r
  · simp [pd_up, Value.category]
  · simp [pd_up, Value.category]
  · cases r <;> simp [pd_up, Value.category, va_rf]
theorem pd_lv.st1 {G : pd_G} {ls' : Array Slot} {nL : Nat} {lv : List (Option pv)} {i : Nat} {v : pv} (ho : pd_o1 lv i = true)
    (h : lv_has ls' nL ((i, pd_up G v) :: (pd_ll G lv).filter (fun q => !(q.1 == i) && !(q.1 + 1 == i && q.2.category == 2)))) : pd_lv G ls' nL (pd_put lv i (some v)) := by
  refine ⟨h.1, h.2.1, fun j w hj => ?_⟩
  rcases pd_nth_put lv i j (some v) hj with ⟨rfl, h2⟩ | ⟨h1, h2⟩
  · cases h2
    exact h.2.2 _ List.mem_cons_self
  · refine h.2.2 (j, pd_up G w) (List.mem_cons_of_mem _ (List.mem_filter.mpr ⟨pd_ll_mem h2, ?_⟩))
    simp only [Bool.and_eq_true, Bool.not_eq_true', beq_eq_false_iff_ne, ne_eq, Bool.and_eq_false_iff, h1, not_false_eq_true, true_and]
    by_cases hji : j + 1 = i
    · right
      intro hc
      obtain ⟨z, rfl⟩ := (pd_cat G w).mp hc
      subst hji
      rw [pd_o1, h2] at ho
      cases ho
    · exact Or.inl hji
theorem pd_lv.st2 {G : pd_G} {ls' : Array Slot} {nL : Nat} {lv : List (Option pv)} {i : Nat} {v : pv} (ho : pd_o1 lv i = true)
    (h : lv_has ls' nL ((i, pd_up G v) :: (pd_ll G lv).filter (fun q => !(q.1 == i) && (!(q.1 == i + 1) && !(q.1 + 1 == i && q.2.category == 2))))) : pd_lv G ls' nL (pd_put (pd_put lv (i + 1) none) i (some v)) := by
  refine ⟨h.1, h.2.1, fun j w hj => ?_⟩
  rcases pd_nth_put _ i j (some v) hj with ⟨rfl, h2⟩ | ⟨h1, h2⟩
  · cases h2
    exact h.2.2 _ List.mem_cons_self
  · rcases pd_nth_put lv (i + 1) j none h2 with ⟨-, h3⟩ | ⟨h3, h4⟩
    · cases h3
    · refine h.2.2 (j, pd_up G w) (List.mem_cons_of_mem _ (List.mem_filter.mpr ⟨pd_ll_mem h4, ?_⟩))
      simp only [Bool.and_eq_true, Bool.not_eq_true', beq_eq_false_iff_ne, ne_eq, Bool.and_eq_false_iff, h1, h3, not_false_eq_true, true_and]
      by_cases hji : j + 1 = i
      · right
        intro hc
        obtain ⟨z, rfl⟩ := (pd_cat G w).mp hc
        subst hji
        rw [pd_o1, h4] at ho
        cases ho
      · exact Or.inl hji
/-! the judgement -/
def pd_rd (M : pd_M) (pc : Nat) (v : Option pv) : Prop := match M.2.2.2, v with
  | none, none => decode M.2.1 pc = .ok (.return_, 1)
  | some .int, some (.inl _) => decode M.2.1 pc = .ok (.ireturn, 1)
  | some .boolean, some (.inl z) => decode M.2.1 pc = .ok (.ireturn, 1) ∧ (z = 0 ∨ z = 1)
  | some .long, some (.inr (.inl _)) => decode M.2.1 pc = .ok (.lreturn, 1)
  | _, _ => False
abbrev pd_R : Type := Option pv → Nat → pd_P → Prop
def pd_T (G : pd_G) (M : pd_M) (d mc ms : Nat) (X : Option (Nat × (Nat → Int))) (R : pd_R) (pc : Nat) (lv : List (Option pv)) (st : List pv) (sz ce sl : Nat) (hp : pd_P) : Prop :=
  ∀ (p : Program) (e : Env) (Rm : Room) (s : State) (m : MethodId) (args : Array Value) (below : List Frame) (meth : Method) (c : Code) (Q : State → Prop),
    pd_cx G M d mc ms X p Rm s m args meth c →
    (∀ (pc' : Nat) (H' : Heap) (locs' : List Loc) (ls' : Array Slot) (v : Option pv) (sz' : Nat) (hp' : pd_P), pd_rd M pc' v → R v sz' hp' → pd_H G sz' hp' H' → va_S (pd_A G) s.heap H' locs' →
      W p G.1 e Rm s m args below meth c H' locs' mc ms Q (F0 m pc' ls' (v.toList.map (pd_up G)))) →
    ∀ (H : Heap) (locs : List Loc) (ls : Array Slot), pd_H G sz hp H → va_S (pd_A G) s.heap H locs → pd_lv G ls M.2.2.1 lv →
      W p G.1 e Rm s m args below meth c H locs ce sl Q (F0 m pc ls (st.map (pd_up G)))
def pd_rm (d mc ms : Nat) : Room := { frames := d, cells := mc, slots := ms, locals := 64 * d }
def pd_Pc (G : pd_G) (sz : Nat) (hp : pd_P) (U : State) : Prop := pd_H G sz hp U.heap ∧ pd_K G U
def pd_Qc (G : pd_G) (R : pd_R) : Array Value → State → Outcome → State → Prop := fun _ st o t => (∃ (v : Option pv) (sz' : Nat) (hp' : pd_P), o = .returned (v.map (pd_up G)) ∧ R v sz' hp' ∧ pd_H G sz' hp' t.heap) ∧ va_F (pd_A G) st t
/-- a method's contract: with these arguments, over this world, it returns, and R holds of its answer and of the world then -/
def pd_C (G : pd_G) (M : pd_M) (d mc ms : Nat) (av : List pv) (sz : Nat) (hp : pd_P) (R : pd_R) : Prop :=
  Met G.1 M.1 (pd_ws M) (pd_rm d mc ms) (va_Pc (av.map (pd_up G)) (pd_Pc G sz hp)) (pd_Qc G R) mc ms (pd_A G)
theorem pd_one (G : pd_G) (v : pv) (h : ∀ z, v ≠ vl z) : (pd_up G v).category = 1 := by
  rcases lv_cat (pd_up G v) with h1 | h1
  · exact h1
  · obtain ⟨z, hz⟩ := (pd_cat G v).mp h1
    exact absurd hz (h z)
def pd_sm (av : List pv) : Bool := av.all (fun v => match v with | .inr (.inl _) => false | _ => true)
theorem pd_entry (G : pd_G) : ∀ (av : List pv), pd_sm av = true → lg_sl (av.map (pd_up G)) = (av.map (fun v => Slot.val (pd_up G v)))
  | [], _ => rfl
  | v :: av, h => by
    have h1 : pd_sm av = true := by
      simp only [pd_sm, List.all_cons, Bool.and_eq_true] at h
      exact h.2
    have h0 : ∀ z, v ≠ vl z := by
      intro z hz
      subst hz
      simp [pd_sm] at h
    have hc := pd_one G v h0
    have ih := pd_entry G av h1
    simp only [lg_sl, List.map_cons, List.flatMap_cons] at ih ⊢
    rw [hc, ih]
    rfl
theorem pd_nth_app : ∀ (av : List pv) (k i : Nat) {w : pv}, pd_nth (av.map some ++ List.replicate k none) i = some w → av[i]? = some w
  | [], 0, i, w, h => by simp [pd_nth] at h
  | [], k + 1, 0, w, h => by simp [pd_nth, List.replicate_succ] at h
  | [], k + 1, i + 1, w, h => by
    have h2 : pd_nth (([] : List pv).map some ++ List.replicate k none) i = some w := by simpa [pd_nth, List.replicate_succ] using h
    have := pd_nth_app [] k i h2
    simp at this
  | a :: av, k, 0, w, h => by simpa [pd_nth] using h
  | a :: av, k, i + 1, w, h => by
    have h2 : pd_nth (av.map some ++ List.replicate k none) i = some w := by simpa [pd_nth] using h
    simpa using pd_nth_app av k i h2
/-- a contract out of a walk -/
theorem pd_con {G : pd_G} {M : pd_M} {d mc ms n : Nat} {av : List pv} {sz : Nat} {hp : pd_P} {R : pd_R} (hM : pd_ok M n) (lv : List (Option pv)) (hlv : av.map some ++ List.replicate (M.2.2.1 - av.length) none = lv) (hs : pd_sm av = true) (hle : av.length ≤ M.2.2.1)
    (h : pd_T G M d mc ms none R 0 lv [] sz 0 0 hp) : pd_C G M d mc ms av sz hp R := by
  refine Met.ofW (cc := M.2.1) (maxL := M.2.2.1) (ret := M.2.2.2) hM.2.2.1 rfl ?_
  intro p e s m args below meth c s₁ B hml hv
  obtain ⟨rfl, hH, hK⟩ := hv
  have hts := atoms_spec (ws := pd_ws M) B.pre
  have hlocks := B.notSynchronized
  have hbs : G.2.2.2.1 ≤ s.heap.size := by rw [hH.1]; exact Nat.le_add_right _ _
  have hcx : pd_cx G M d mc ms none p (headSpec (pd_ws M) (pd_rm d mc ms)).room s m (av.map (pd_up G)).toArray meth c :=
    ⟨B.exec, B.bytes, hml, findClass_of_methodNamed B.named, fun w hw => hts w (List.mem_cons_of_mem _ hw), hK, ⟨Nat.le_refl _, Nat.le_refl _, Nat.le_refl _, Nat.le_refl _⟩, fun hn => by rw [← hn]; exact (name_of_methodNamed B.named B.method).1, hbs, trivial⟩
  rw [lg_entry_eq]
  have hlv2 : pd_lv G ((lg_sl (av.map (pd_up G)) ++ List.replicate (M.2.2.1 - (lg_sl (av.map (pd_up G))).length) Slot.unset).toArray) M.2.2.1 lv := by
    have e0 := pd_entry G av hs
    have he := lv_entry (av.map (pd_up G)) (n := M.2.2.1) (by rw [e0]; simpa using hle)
    refine ⟨he.1, he.2.1, fun i w hw => ?_⟩
    rw [← hlv] at hw
    have h1 := pd_nth_app av _ i hw
    have hi : i < av.length := (List.getElem?_eq_some_iff.mp h1).1
    rw [List.getElem?_toArray, e0, List.getElem?_append_left (by simpa using hi), List.getElem?_map, h1]
    rfl
  refine h p e _ s m _ below meth c _ hcx ?_ s.heap [] _ hH va_S.rf hlv2
  intro pc' H' locs' ls' v sz' hp' hrd hR hH' hS'
  have hr := B.returns
  revert hrd
  unfold pd_rd
  split
  · rename_i h1
    intro hd
    exact W.vret B.exec B.bytes (hr.trans h1) (fun t ht hW => ⟨⟨none, sz', hp', rfl, hR, by rw [ht]; exact hH'⟩, hS'.F ht⟩) hS'.2.2 hd
  · rename_i z h1
    intro hd
    exact W.iret (v := jI z) B.exec B.bytes (hr.trans h1) (fun t ht hW => ⟨⟨some (vi z), sz', hp', rfl, hR, by rw [ht]; exact hH'⟩, hS'.F ht⟩) hS'.2.2 hd
  · rename_i z h1
    intro hd
    exact W.zret (v := jI z) B.exec B.bytes (hr.trans h1) (by rcases hd.2 with rfl | rfl <;> rfl) (fun t ht hW => ⟨⟨some (vi z), sz', hp', rfl, hR, by rw [ht]; exact hH'⟩, hS'.F ht⟩) hS'.2.2 hd.1
  · rename_i z h1
    intro hd
    exact W.lret (v := jL z) B.exec B.bytes (hr.trans h1) (fun t ht hW => ⟨⟨some (vl z), sz', hp', rfl, hR, by rw [ht]; exact hH'⟩, hS'.F ht⟩) hS'.2.2 hd
  · intro hd
    exact hd.elim
end
section
/-! rows: an instruction each -/
def pd_i (M : pd_M) (pc : Nat) (i : Instr) (len n : Nat) : Prop := decode M.2.1 pc = .ok (i, len) ∧ n = pc + len
def pd_il (M : pd_M) (pc k n : Nat) : Prop := (∃ f : Fin 4, (f : Nat) = k ∧ pd_i M pc (.iload_n f) 1 n) ∨ pd_i M pc (.iload k) 2 n
def pd_al (M : pd_M) (pc k n : Nat) : Prop := (∃ f : Fin 4, (f : Nat) = k ∧ pd_i M pc (.aload_n f) 1 n) ∨ pd_i M pc (.aload k) 2 n
def pd_jl (M : pd_M) (pc k n : Nat) : Prop := (∃ f : Fin 4, (f : Nat) = k ∧ pd_i M pc (.lload_n f) 1 n) ∨ pd_i M pc (.lload k) 2 n
def pd_is (M : pd_M) (pc k n : Nat) : Prop := k < M.2.2.1 ∧ ((∃ f : Fin 4, (f : Nat) = k ∧ pd_i M pc (.istore_n f) 1 n) ∨ pd_i M pc (.istore k) 2 n)
def pd_as (M : pd_M) (pc k n : Nat) : Prop := k < M.2.2.1 ∧ ((∃ f : Fin 4, (f : Nat) = k ∧ pd_i M pc (.astore_n f) 1 n) ∨ pd_i M pc (.astore k) 2 n)
def pd_js (M : pd_M) (pc k n : Nat) : Prop := k + 1 < M.2.2.1 ∧ ((∃ f : Fin 4, (f : Nat) = k ∧ pd_i M pc (.lstore_n f) 1 n) ∨ pd_i M pc (.lstore k) 2 n)
def pd_ii (M : pd_M) (pc k : Nat) (z : Int) (n : Nat) : Prop := k < M.2.2.1 ∧ pd_i M pc (.iinc k z) 3 n
def pd_ic (M : pd_M) (pc : Nat) (z : Int) (n : Nat) : Prop := pd_i M pc (.iconst z) 1 n ∨ (pd_i M pc (.bipush z) 2 n ∧ (Int8.ofInt z).toInt32 = jI z) ∨ (pd_i M pc (.sipush z) 3 n ∧ (Int16.ofInt z).toInt32 = jI z) ∨ (∃ idx, pd_i M pc (.ldc idx) 2 n ∧ Cond.constant M.1.cls idx (jI z) ∈ pd_tbl) ∨ (∃ idx, pd_i M pc (.ldc_w idx) 3 n ∧ Cond.constant M.1.cls idx (jI z) ∈ pd_tbl)
def pd_jc (M : pd_M) (pc : Nat) (z : Int) (n : Nat) : Prop := (∃ f : Fin 2, pd_i M pc (.lconst f) 1 n ∧ Int64.ofNat (f : Nat) = jL z) ∨ (∃ idx, pd_i M pc (.ldc2_w idx) 3 n ∧ Cond.constantLong M.1.cls idx (jL z) ∈ pd_tbl)
def pd_b1 (M : pd_M) (pc : Nat) (cd : Jvm.ClassFile.Cond) (n t : Nat) : Prop := ∃ off : Int, pd_i M pc (.ifCond cd off) 3 n ∧ (pc : Int) + off = (t : Int)
def pd_b2 (M : pd_M) (pc : Nat) (cd : Jvm.ClassFile.Cond) (n t : Nat) : Prop := ∃ off : Int, pd_i M pc (.if_icmp cd off) 3 n ∧ (pc : Int) + off = (t : Int)
def pd_go (M : pd_M) (pc t : Nat) : Prop := ∃ off : Int, decode M.2.1 pc = .ok (.goto off, 3) ∧ (pc : Int) + off = (t : Int)
def uI {α : Type} (f : Int → α) (z : Int) (x : α) : Int → α := fun i => if i = z then x else f i
theorem uI_s {α : Type} (f : Int → α) (z : Int) (x : α) : uI f z x z = x := by simp [uI]
theorem uI_n {α : Type} (f : Int → α) {z i : Int} (x : α) (h : i ≠ z) : uI f z x i = f i := by simp [uI, h]
section PDROWS
variable {G : pd_G} {M : pd_M} {d mc ms : Nat} {X : Option (Nat × (Nat → Int))} {R : pd_R} {pc n t : Nat} {lv : List (Option pv)} {st : List pv} {sz ce sl : Nat} {hp : pd_P}
theorem pt_iadd {x y : Int} (h : pd_i M pc .iadd 1 n) (k : pd_T G M d mc ms X R n lv (vi (x + y) :: st) sz ce sl hp) : pd_T G M d mc ms X R pc lv (vi y :: vi x :: st) sz ce sl hp := by
  intro p e Rm s m args below meth c Q hx hq H locs ls hH hS hl
  obtain ⟨h1, rfl⟩ := h
  refine lv_iadd hx.1 hx.2.1 h1 ?_
  rw [jI_add]
  exact k p e Rm s m args below meth c Q hx hq H locs ls hH hS hl
theorem pt_isub {x y : Int} (h : pd_i M pc .isub 1 n) (k : pd_T G M d mc ms X R n lv (vi (x - y) :: st) sz ce sl hp) : pd_T G M d mc ms X R pc lv (vi y :: vi x :: st) sz ce sl hp := by
  intro p e Rm s m args below meth c Q hx hq H locs ls hH hS hl
  obtain ⟨h1, rfl⟩ := h
  refine lv_isub hx.1 hx.2.1 h1 ?_
  rw [jI_sub]
  exact k p e Rm s m args below meth c Q hx hq H locs ls hH hS hl
theorem pt_imul {x y : Int} (h : pd_i M pc .imul 1 n) (k : pd_T G M d mc ms X R n lv (vi (x * y) :: st) sz ce sl hp) : pd_T G M d mc ms X R pc lv (vi y :: vi x :: st) sz ce sl hp := by
  intro p e Rm s m args below meth c Q hx hq H locs ls hH hS hl
  obtain ⟨h1, rfl⟩ := h
  refine lv_imul hx.1 hx.2.1 h1 ?_
  rw [jI_mul]
  exact k p e Rm s m args below meth c Q hx hq H locs ls hH hS hl
theorem pt_ladd {x y : Int} (h : pd_i M pc .ladd 1 n) (k : pd_T G M d mc ms X R n lv (vl (x + y) :: st) sz ce sl hp) : pd_T G M d mc ms X R pc lv (vl y :: vl x :: st) sz ce sl hp := by
  intro p e Rm s m args below meth c Q hx hq H locs ls hH hS hl
  obtain ⟨h1, rfl⟩ := h
  refine lv_ladd hx.1 hx.2.1 h1 ?_
  rw [jL_add]
  exact k p e Rm s m args below meth c Q hx hq H locs ls hH hS hl
theorem pt_lmul {x y : Int} (h : pd_i M pc .lmul 1 n) (k : pd_T G M d mc ms X R n lv (vl (x * y) :: st) sz ce sl hp) : pd_T G M d mc ms X R pc lv (vl y :: vl x :: st) sz ce sl hp := by
  intro p e Rm s m args below meth c Q hx hq H locs ls hH hS hl
  obtain ⟨h1, rfl⟩ := h
  refine lv_lmul hx.1 hx.2.1 h1 ?_
  rw [jL_mul]
  exact k p e Rm s m args below meth c Q hx hq H locs ls hH hS hl
theorem pt_ic {z : Int} (h : pd_ic M pc z n) (k : pd_T G M d mc ms X R n lv (vi z :: st) sz ce sl hp) : pd_T G M d mc ms X R pc lv st sz ce sl hp := by
  intro p e Rm s m args below meth c Q hx hq H locs ls hH hS hl
  rcases h with ⟨h1, rfl⟩ | ⟨⟨h1, rfl⟩, h2⟩ | ⟨⟨h1, rfl⟩, h2⟩ | ⟨idx, ⟨h1, rfl⟩, h2⟩ | ⟨idx, ⟨h1, rfl⟩, h2⟩
  · exact lv_iconst (v := jI z) hx.1 hx.2.1 h1 rfl (k p e Rm s m args below meth c Q hx hq H locs ls hH hS hl)
  · exact lv_bipush (v := jI z) hx.1 hx.2.1 h1 h2 (k p e Rm s m args below meth c Q hx hq H locs ls hH hS hl)
  · exact lv_sipush (v := jI z) hx.1 hx.2.1 h1 h2 (k p e Rm s m args below meth c Q hx hq H locs ls hH hS hl)
  · exact lv_ldc (v := jI z) hx.1 hx.2.1 hx.2.2.2.1 (hx.2.2.2.2.1 _ h2) h1 (k p e Rm s m args below meth c Q hx hq H locs ls hH hS hl)
  · exact lv_ldcw (v := jI z) hx.1 hx.2.1 hx.2.2.2.1 (hx.2.2.2.2.1 _ h2) h1 (k p e Rm s m args below meth c Q hx hq H locs ls hH hS hl)
theorem pt_jc {z : Int} (h : pd_jc M pc z n) (k : pd_T G M d mc ms X R n lv (vl z :: st) sz ce sl hp) : pd_T G M d mc ms X R pc lv st sz ce sl hp := by
  intro p e Rm s m args below meth c Q hx hq H locs ls hH hS hl
  rcases h with ⟨f, ⟨h1, rfl⟩, h2⟩ | ⟨idx, ⟨h1, rfl⟩, h2⟩
  · exact lv_lconst (v := jL z) hx.1 hx.2.1 h1 h2 (k p e Rm s m args below meth c Q hx hq H locs ls hH hS hl)
  · exact lv_ldc2 (v := jL z) hx.1 hx.2.1 hx.2.2.2.1 (hx.2.2.2.2.1 _ h2) h1 (k p e Rm s m args below meth c Q hx hq H locs ls hH hS hl)
theorem pt_iload {i : Nat} {z : Int} (h : pd_il M pc i n) (hv : pd_nth lv i = some (vi z)) (k : pd_T G M d mc ms X R n lv (vi z :: st) sz ce sl hp) : pd_T G M d mc ms X R pc lv st sz ce sl hp := by
  intro p e Rm s m args below meth c Q hx hq H locs ls hH hS hl
  have hg := hl.2.2 i _ hv
  rcases h with ⟨f, hf, h1, rfl⟩ | ⟨h1, rfl⟩
  · exact lv_iload_n hx.1 hx.2.1 h1 hf hg (k p e Rm s m args below meth c Q hx hq H locs ls hH hS hl)
  · exact lv_iload hx.1 hx.2.1 h1 hg (k p e Rm s m args below meth c Q hx hq H locs ls hH hS hl)
theorem pt_lload {i : Nat} {z : Int} (h : pd_jl M pc i n) (hv : pd_nth lv i = some (vl z)) (k : pd_T G M d mc ms X R n lv (vl z :: st) sz ce sl hp) : pd_T G M d mc ms X R pc lv st sz ce sl hp := by
  intro p e Rm s m args below meth c Q hx hq H locs ls hH hS hl
  have hg := hl.2.2 i _ hv
  rcases h with ⟨f, hf, h1, rfl⟩ | ⟨h1, rfl⟩
  · exact lv_lload_n hx.1 hx.2.1 h1 hf hg (k p e Rm s m args below meth c Q hx hq H locs ls hH hS hl)
  · exact lv_lload hx.1 hx.2.1 h1 hg (k p e Rm s m args below meth c Q hx hq H locs ls hH hS hl)
theorem pt_aload {i a : Nat} (h : pd_al M pc i n) (hv : pd_nth lv i = some (vr a)) (k : pd_T G M d mc ms X R n lv (vr a :: st) sz ce sl hp) : pd_T G M d mc ms X R pc lv st sz ce sl hp := by
  intro p e Rm s m args below meth c Q hx hq H locs ls hH hS hl
  have hg := hl.2.2 i _ hv
  rcases h with ⟨f, hf, h1, rfl⟩ | ⟨h1, rfl⟩
  · exact lv_aload_n hx.1 hx.2.1 h1 hf hg (k p e Rm s m args below meth c Q hx hq H locs ls hH hS hl)
  · exact lv_aload hx.1 hx.2.1 h1 hg (k p e Rm s m args below meth c Q hx hq H locs ls hH hS hl)
theorem pt_istore {i : Nat} {z : Int} (h : pd_is M pc i n) (ho : pd_o1 lv i = true) (k : pd_T G M d mc ms X R n (pd_put lv i (some (vi z))) st sz ce sl hp) : pd_T G M d mc ms X R pc lv (vi z :: st) sz ce sl hp := by
  intro p e Rm s m args below meth c Q hx hq H locs ls hH hS hl
  obtain ⟨hn, h⟩ := h
  rcases h with ⟨f, hf, h1, rfl⟩ | ⟨h1, rfl⟩
  · exact lv_istore_n hx.1 hx.2.1 h1 hf hl.has hn rfl (fun ls' hl' => k p e Rm s m args below meth c Q hx hq H locs ls' hH hS (pd_lv.st1 ho hl'))
  · exact lv_istore hx.1 hx.2.1 h1 hl.has hn rfl (fun ls' hl' => k p e Rm s m args below meth c Q hx hq H locs ls' hH hS (pd_lv.st1 ho hl'))
theorem pt_astore {i : Nat} {z : Nat} (h : pd_as M pc i n) (ho : pd_o1 lv i = true) (k : pd_T G M d mc ms X R n (pd_put lv i (some (vr z))) st sz ce sl hp) : pd_T G M d mc ms X R pc lv (vr z :: st) sz ce sl hp := by
  intro p e Rm s m args below meth c Q hx hq H locs ls hH hS hl
  obtain ⟨hn, h⟩ := h
  rcases h with ⟨f, hf, h1, rfl⟩ | ⟨h1, rfl⟩
  · exact lv_astore_n hx.1 hx.2.1 h1 hf hl.has hn rfl (fun ls' hl' => k p e Rm s m args below meth c Q hx hq H locs ls' hH hS (pd_lv.st1 ho hl'))
  · exact lv_astore hx.1 hx.2.1 h1 hl.has hn rfl (fun ls' hl' => k p e Rm s m args below meth c Q hx hq H locs ls' hH hS (pd_lv.st1 ho hl'))
theorem pt_lstore {i : Nat} {z : Int} (h : pd_js M pc i n) (ho : pd_o1 lv i = true) (k : pd_T G M d mc ms X R n (pd_put (pd_put lv (i + 1) none) i (some (vl z))) st sz ce sl hp) : pd_T G M d mc ms X R pc lv (vl z :: st) sz ce sl hp := by
  intro p e Rm s m args below meth c Q hx hq H locs ls hH hS hl
  obtain ⟨hn, h⟩ := h
  rcases h with ⟨f, hf, h1, rfl⟩ | ⟨h1, rfl⟩
  · exact lv_lstore_n hx.1 hx.2.1 h1 hf hl.has hn rfl (fun ls' hl' => k p e Rm s m args below meth c Q hx hq H locs ls' hH hS (pd_lv.st2 ho hl'))
  · exact lv_lstore hx.1 hx.2.1 h1 hl.has hn rfl (fun ls' hl' => k p e Rm s m args below meth c Q hx hq H locs ls' hH hS (pd_lv.st2 ho hl'))
theorem pt_iinc {i : Nat} {z c0 : Int} (h : pd_ii M pc i c0 n) (ho : pd_o1 lv i = true) (hv : pd_nth lv i = some (vi z)) (k : pd_T G M d mc ms X R n (pd_put lv i (some (vi (z + c0)))) st sz ce sl hp) : pd_T G M d mc ms X R pc lv st sz ce sl hp := by
  intro p e Rm s m args below meth c Q hx hq H locs ls hH hS hl
  obtain ⟨hn, h1, rfl⟩ := h
  obtain ⟨kk, hk⟩ := List.getElem?_of_mem (pd_ll_mem (G := G) hv)
  refine lv_iinc (v := jI (z + c0)) hx.1 hx.2.1 h1 hl.has hk (jI_add z c0) hn rfl (fun ls' hl' => ?_)
  exact k p e Rm s m args below meth c Q hx hq H locs ls' hH hS (pd_lv.st1 ho hl')
theorem pt_dup {v : pv} (h : pd_i M pc .dup 1 n) (hv : ∀ z, v ≠ vl z) (k : pd_T G M d mc ms X R n lv (v :: v :: st) sz ce sl hp) : pd_T G M d mc ms X R pc lv (v :: st) sz ce sl hp := by
  intro p e Rm s m args below meth c Q hx hq H locs ls hH hS hl
  obtain ⟨h1, rfl⟩ := h
  exact lv_dup hx.1 hx.2.1 h1 (pd_one G v hv) (k p e Rm s m args below meth c Q hx hq H locs ls hH hS hl)
theorem pt_dupr {a : Nat} (h : pd_i M pc .dup 1 n) (k : pd_T G M d mc ms X R n lv (vr a :: vr a :: st) sz ce sl hp) : pd_T G M d mc ms X R pc lv (vr a :: st) sz ce sl hp := pt_dup h (fun z q => by cases q) k
theorem pt_dupi {z : Int} (h : pd_i M pc .dup 1 n) (k : pd_T G M d mc ms X R n lv (vi z :: vi z :: st) sz ce sl hp) : pd_T G M d mc ms X R pc lv (vi z :: st) sz ce sl hp := pt_dup h (fun z q => by cases q) k
theorem pt_popi {z : Int} (h : pd_i M pc .pop 1 n) (k : pd_T G M d mc ms X R n lv st sz ce sl hp) : pd_T G M d mc ms X R pc lv (vi z :: st) sz ce sl hp := by
  intro p e Rm s m args below meth c Q hx hq H locs ls hH hS hl
  obtain ⟨h1, rfl⟩ := h
  exact lv_pop hx.1 hx.2.1 h1 rfl (k p e Rm s m args below meth c Q hx hq H locs ls hH hS hl)
theorem pt_dup2 {z : Int} {a : Nat} (h : pd_i M pc .dup2 1 n) (k : pd_T G M d mc ms X R n lv (vi z :: vr a :: vi z :: vr a :: st) sz ce sl hp) : pd_T G M d mc ms X R pc lv (vi z :: vr a :: st) sz ce sl hp := by
  intro p e Rm s m args below meth c Q hx hq H locs ls hH hS hl
  obtain ⟨h1, rfl⟩ := h
  exact lv_dup2_11 hx.1 hx.2.1 h1 rfl rfl (k p e Rm s m args below meth c Q hx hq H locs ls hH hS hl)
theorem pt_ceq {x y : Int} (h : pd_b2 M pc .eq n t) (hx2 : jR x) (hy : jR y) (k1 : x = y → pd_T G M d mc ms X R t lv st sz ce sl hp) (k2 : ¬ x = y → pd_T G M d mc ms X R n lv st sz ce sl hp) : pd_T G M d mc ms X R pc lv (vi y :: vi x :: st) sz ce sl hp := by
  intro p e Rm s m args below meth c Q hx hq H locs ls hH hS hl
  obtain ⟨off, ⟨h1, rfl⟩, h2⟩ := h
  refine lv_icmp_eq hx.1 hx.2.1 h1 h2 (fun g => ?_) (fun g => ?_)
  · exact k1 ((jI_eq hx2 hy).mp g) p e Rm s m args below meth c Q hx hq H locs ls hH hS hl
  · exact k2 (fun q => g ((jI_eq hx2 hy).mpr q)) p e Rm s m args below meth c Q hx hq H locs ls hH hS hl
theorem pt_zeq {x : Int} (h : pd_b1 M pc .eq n t) (hx2 : jR x) (k1 : x = 0 → pd_T G M d mc ms X R t lv st sz ce sl hp) (k2 : ¬ x = 0 → pd_T G M d mc ms X R n lv st sz ce sl hp) : pd_T G M d mc ms X R pc lv (vi x :: st) sz ce sl hp := by
  intro p e Rm s m args below meth c Q hx hq H locs ls hH hS hl
  obtain ⟨off, ⟨h1, rfl⟩, h2⟩ := h
  refine lv_if_eq hx.1 hx.2.1 h1 h2 (fun g => ?_) (fun g => ?_)
  · exact k1 ((jI_eq hx2 jR_0).mp g) p e Rm s m args below meth c Q hx hq H locs ls hH hS hl
  · exact k2 (fun q => g ((jI_eq hx2 jR_0).mpr q)) p e Rm s m args below meth c Q hx hq H locs ls hH hS hl
theorem pt_cne {x y : Int} (h : pd_b2 M pc .ne n t) (hx2 : jR x) (hy : jR y) (k1 : ¬ x = y → pd_T G M d mc ms X R t lv st sz ce sl hp) (k2 : x = y → pd_T G M d mc ms X R n lv st sz ce sl hp) : pd_T G M d mc ms X R pc lv (vi y :: vi x :: st) sz ce sl hp := by
  intro p e Rm s m args below meth c Q hx hq H locs ls hH hS hl
  obtain ⟨off, ⟨h1, rfl⟩, h2⟩ := h
  refine lv_icmp_ne hx.1 hx.2.1 h1 h2 (fun g => ?_) (fun g => ?_)
  · exact k1 (fun q => g ((jI_eq hx2 hy).mpr q)) p e Rm s m args below meth c Q hx hq H locs ls hH hS hl
  · exact k2 ((jI_eq hx2 hy).mp g) p e Rm s m args below meth c Q hx hq H locs ls hH hS hl
theorem pt_zne {x : Int} (h : pd_b1 M pc .ne n t) (hx2 : jR x) (k1 : ¬ x = 0 → pd_T G M d mc ms X R t lv st sz ce sl hp) (k2 : x = 0 → pd_T G M d mc ms X R n lv st sz ce sl hp) : pd_T G M d mc ms X R pc lv (vi x :: st) sz ce sl hp := by
  intro p e Rm s m args below meth c Q hx hq H locs ls hH hS hl
  obtain ⟨off, ⟨h1, rfl⟩, h2⟩ := h
  refine lv_if_ne hx.1 hx.2.1 h1 h2 (fun g => ?_) (fun g => ?_)
  · exact k1 (fun q => g ((jI_eq hx2 jR_0).mpr q)) p e Rm s m args below meth c Q hx hq H locs ls hH hS hl
  · exact k2 ((jI_eq hx2 jR_0).mp g) p e Rm s m args below meth c Q hx hq H locs ls hH hS hl
theorem pt_clt {x y : Int} (h : pd_b2 M pc .lt n t) (hx2 : jR x) (hy : jR y) (k1 : x < y → pd_T G M d mc ms X R t lv st sz ce sl hp) (k2 : ¬ x < y → pd_T G M d mc ms X R n lv st sz ce sl hp) : pd_T G M d mc ms X R pc lv (vi y :: vi x :: st) sz ce sl hp := by
  intro p e Rm s m args below meth c Q hx hq H locs ls hH hS hl
  obtain ⟨off, ⟨h1, rfl⟩, h2⟩ := h
  refine lv_icmp_lt hx.1 hx.2.1 h1 h2 (fun g => ?_) (fun g => ?_)
  · exact k1 ((jI_lt hx2 hy).mp g) p e Rm s m args below meth c Q hx hq H locs ls hH hS hl
  · exact k2 (fun q => g ((jI_lt hx2 hy).mpr q)) p e Rm s m args below meth c Q hx hq H locs ls hH hS hl
theorem pt_zlt {x : Int} (h : pd_b1 M pc .lt n t) (hx2 : jR x) (k1 : x < 0 → pd_T G M d mc ms X R t lv st sz ce sl hp) (k2 : ¬ x < 0 → pd_T G M d mc ms X R n lv st sz ce sl hp) : pd_T G M d mc ms X R pc lv (vi x :: st) sz ce sl hp := by
  intro p e Rm s m args below meth c Q hx hq H locs ls hH hS hl
  obtain ⟨off, ⟨h1, rfl⟩, h2⟩ := h
  refine lv_if_lt hx.1 hx.2.1 h1 h2 (fun g => ?_) (fun g => ?_)
  · exact k1 ((jI_lt hx2 jR_0).mp g) p e Rm s m args below meth c Q hx hq H locs ls hH hS hl
  · exact k2 (fun q => g ((jI_lt hx2 jR_0).mpr q)) p e Rm s m args below meth c Q hx hq H locs ls hH hS hl
theorem pt_cge {x y : Int} (h : pd_b2 M pc .ge n t) (hx2 : jR x) (hy : jR y) (k1 : y ≤ x → pd_T G M d mc ms X R t lv st sz ce sl hp) (k2 : ¬ y ≤ x → pd_T G M d mc ms X R n lv st sz ce sl hp) : pd_T G M d mc ms X R pc lv (vi y :: vi x :: st) sz ce sl hp := by
  intro p e Rm s m args below meth c Q hx hq H locs ls hH hS hl
  obtain ⟨off, ⟨h1, rfl⟩, h2⟩ := h
  refine lv_icmp_ge hx.1 hx.2.1 h1 h2 (fun g => ?_) (fun g => ?_)
  · exact k1 ((jI_le hy hx2).mp g) p e Rm s m args below meth c Q hx hq H locs ls hH hS hl
  · exact k2 (fun q => g ((jI_le hy hx2).mpr q)) p e Rm s m args below meth c Q hx hq H locs ls hH hS hl
theorem pt_zge {x : Int} (h : pd_b1 M pc .ge n t) (hx2 : jR x) (k1 : 0 ≤ x → pd_T G M d mc ms X R t lv st sz ce sl hp) (k2 : ¬ 0 ≤ x → pd_T G M d mc ms X R n lv st sz ce sl hp) : pd_T G M d mc ms X R pc lv (vi x :: st) sz ce sl hp := by
  intro p e Rm s m args below meth c Q hx hq H locs ls hH hS hl
  obtain ⟨off, ⟨h1, rfl⟩, h2⟩ := h
  refine lv_if_ge hx.1 hx.2.1 h1 h2 (fun g => ?_) (fun g => ?_)
  · exact k1 ((jI_le jR_0 hx2).mp g) p e Rm s m args below meth c Q hx hq H locs ls hH hS hl
  · exact k2 (fun q => g ((jI_le jR_0 hx2).mpr q)) p e Rm s m args below meth c Q hx hq H locs ls hH hS hl
theorem pt_cgt {x y : Int} (h : pd_b2 M pc .gt n t) (hx2 : jR x) (hy : jR y) (k1 : y < x → pd_T G M d mc ms X R t lv st sz ce sl hp) (k2 : ¬ y < x → pd_T G M d mc ms X R n lv st sz ce sl hp) : pd_T G M d mc ms X R pc lv (vi y :: vi x :: st) sz ce sl hp := by
  intro p e Rm s m args below meth c Q hx hq H locs ls hH hS hl
  obtain ⟨off, ⟨h1, rfl⟩, h2⟩ := h
  refine lv_icmp_gt hx.1 hx.2.1 h1 h2 (fun g => ?_) (fun g => ?_)
  · exact k1 ((jI_lt hy hx2).mp g) p e Rm s m args below meth c Q hx hq H locs ls hH hS hl
  · exact k2 (fun q => g ((jI_lt hy hx2).mpr q)) p e Rm s m args below meth c Q hx hq H locs ls hH hS hl
theorem pt_zgt {x : Int} (h : pd_b1 M pc .gt n t) (hx2 : jR x) (k1 : 0 < x → pd_T G M d mc ms X R t lv st sz ce sl hp) (k2 : ¬ 0 < x → pd_T G M d mc ms X R n lv st sz ce sl hp) : pd_T G M d mc ms X R pc lv (vi x :: st) sz ce sl hp := by
  intro p e Rm s m args below meth c Q hx hq H locs ls hH hS hl
  obtain ⟨off, ⟨h1, rfl⟩, h2⟩ := h
  refine lv_if_gt hx.1 hx.2.1 h1 h2 (fun g => ?_) (fun g => ?_)
  · exact k1 ((jI_lt jR_0 hx2).mp g) p e Rm s m args below meth c Q hx hq H locs ls hH hS hl
  · exact k2 (fun q => g ((jI_lt jR_0 hx2).mpr q)) p e Rm s m args below meth c Q hx hq H locs ls hH hS hl
theorem pt_cle {x y : Int} (h : pd_b2 M pc .le n t) (hx2 : jR x) (hy : jR y) (k1 : x ≤ y → pd_T G M d mc ms X R t lv st sz ce sl hp) (k2 : ¬ x ≤ y → pd_T G M d mc ms X R n lv st sz ce sl hp) : pd_T G M d mc ms X R pc lv (vi y :: vi x :: st) sz ce sl hp := by
  intro p e Rm s m args below meth c Q hx hq H locs ls hH hS hl
  obtain ⟨off, ⟨h1, rfl⟩, h2⟩ := h
  refine lv_icmp_le hx.1 hx.2.1 h1 h2 (fun g => ?_) (fun g => ?_)
  · exact k1 ((jI_le hx2 hy).mp g) p e Rm s m args below meth c Q hx hq H locs ls hH hS hl
  · exact k2 (fun q => g ((jI_le hx2 hy).mpr q)) p e Rm s m args below meth c Q hx hq H locs ls hH hS hl
theorem pt_zle {x : Int} (h : pd_b1 M pc .le n t) (hx2 : jR x) (k1 : x ≤ 0 → pd_T G M d mc ms X R t lv st sz ce sl hp) (k2 : ¬ x ≤ 0 → pd_T G M d mc ms X R n lv st sz ce sl hp) : pd_T G M d mc ms X R pc lv (vi x :: st) sz ce sl hp := by
  intro p e Rm s m args below meth c Q hx hq H locs ls hH hS hl
  obtain ⟨off, ⟨h1, rfl⟩, h2⟩ := h
  refine lv_if_le hx.1 hx.2.1 h1 h2 (fun g => ?_) (fun g => ?_)
  · exact k1 ((jI_le hx2 jR_0).mp g) p e Rm s m args below meth c Q hx hq H locs ls hH hS hl
  · exact k2 (fun q => g ((jI_le hx2 jR_0).mpr q)) p e Rm s m args below meth c Q hx hq H locs ls hH hS hl
theorem pt_goto (h : pd_go M pc t) (k : pd_T G M d mc ms X R t lv st sz ce sl hp) : pd_T G M d mc ms X R pc lv st sz ce sl hp := by
  intro p e Rm s m args below meth c Q hx hq H locs ls hH hS hl
  obtain ⟨off, h1, h2⟩ := h
  exact lv_goto hx.1 hx.2.1 h1 h2 (k p e Rm s m args below meth c Q hx hq H locs ls hH hS hl)
theorem pt_tin {dflt lo hi : Int} {offs : Array Int} {len : Nat} {x off : Int} (h : pd_i M pc (.tableswitch dflt lo hi offs) len n) (hr : jR x) (h1 : lo ≤ x) (h2 : x ≤ hi) (ho : offs[(x - lo).toNat]? = some off) (ht : (pc : Int) + off = (t : Int)) (k : pd_T G M d mc ms X R t lv st sz ce sl hp) : pd_T G M d mc ms X R pc lv (vi x :: st) sz ce sl hp := by
  intro p e Rm s m args below meth c Q hx hq H locs ls hH hS hl
  have e0 := jI_toInt hr
  exact lv_tableIn (off := off) hx.1 hx.2.1 h.1 (by rw [e0]; omega) (by rw [e0]; omega) (by rw [e0]; exact ho) ht (k p e Rm s m args below meth c Q hx hq H locs ls hH hS hl)
theorem pt_tout {dflt lo hi : Int} {offs : Array Int} {len : Nat} {x : Int} (h : pd_i M pc (.tableswitch dflt lo hi offs) len n) (hr : jR x) (h1 : x < lo ∨ hi < x) (ht : (pc : Int) + dflt = (t : Int)) (k : pd_T G M d mc ms X R t lv st sz ce sl hp) : pd_T G M d mc ms X R pc lv (vi x :: st) sz ce sl hp := by
  intro p e Rm s m args below meth c Q hx hq H locs ls hH hS hl
  have e0 := jI_toInt hr
  exact lv_tableOut hx.1 hx.2.1 h.1 (by rw [e0]; exact h1) ht (k p e Rm s m args below meth c Q hx hq H locs ls hH hS hl)
theorem pt_lsw {dflt : Int} {ps : Array (Int × Int)} {len : Nat} {x off : Int} (h : pd_i M pc (.lookupswitch dflt ps) len n) (hr : jR x) (hs : (ps.toList.zip (ps.toList.drop 1)).all (fun (a, next) => a.1 < next.1) = true) (ho : Op.lookupswitch.offset ps.toList dflt x = off) (ht : (pc : Int) + off = (t : Int)) (k : pd_T G M d mc ms X R t lv st sz ce sl hp) : pd_T G M d mc ms X R pc lv (vi x :: st) sz ce sl hp := by
  intro p e Rm s m args below meth c Q hx hq H locs ls hH hS hl
  have e0 := jI_toInt hr
  exact lv_lookup (off := off) hx.1 hx.2.1 h.1 hs (by rw [e0]; exact ho) ht (k p e Rm s m args below meth c Q hx hq H locs ls hH hS hl)
theorem pt_ret {v : Option pv} (h : pd_rd M pc v) (hc : ce ≤ mc) (hs : sl ≤ ms) (k : R v sz hp) : pd_T G M d mc ms X R pc lv v.toList sz ce sl hp := by
  intro p e Rm s m args below meth c Q hx hq H locs ls hH hS hl
  exact W.widen hc hs (hq pc H locs ls v sz hp h k hH hS)
theorem pt_iret {z : Int} (h : pd_rd M pc (some (vi z))) (hc : ce ≤ mc) (hs : sl ≤ ms) (k : R (some (vi z)) sz hp) : pd_T G M d mc ms X R pc lv [vi z] sz ce sl hp := pt_ret (v := some (vi z)) h hc hs k
theorem pt_lret {z : Int} (h : pd_rd M pc (some (vl z))) (hc : ce ≤ mc) (hs : sl ≤ ms) (k : R (some (vl z)) sz hp) : pd_T G M d mc ms X R pc lv [vl z] sz ce sl hp := pt_ret (v := some (vl z)) h hc hs k
theorem pt_vret (h : pd_rd M pc none) (hc : ce ≤ mc) (hs : sl ≤ ms) (k : R none sz hp) : pd_T G M d mc ms X R pc lv [] sz ce sl hp := pt_ret (v := none) h hc hs k
end PDROWS
end
section
/-! rows of the heap -/
theorem pd_lt {G : pd_G} {sz : Nat} {hp : pd_P} {H : Heap} {a : Nat} (hH : pd_H G sz hp H) (h : hp a ≠ ob 99 []) : ∃ k, a = k + 1 ∧ k < sz := by
  cases a with
  | zero => exact absurd (hH.2.2 0 (Or.inl rfl)) h
  | succ k =>
    refine ⟨k, rfl, ?_⟩
    rcases Nat.lt_or_ge k sz with h1 | h1
    · exact h1
    · exact absurd (hH.2.2 (k + 1) (Or.inr (by omega))) h
theorem pd_H.set {G : pd_G} {sz : Nat} {hp : pd_P} {H H1 : Heap} {k : Nat} {e : pd_E} (hH : pd_H G sz hp H) (hk : k < sz) (hz : H1.size = H.size) (hP : va_P G.2.1 pd_cl ((pd_w G sz hp).set k (G.2.2.2.1 + k, pd_e G e)) H1) : pd_H G sz (va_up hp (k + 1) e) H1 := by
  refine ⟨hz.trans hH.1, by rw [← pd_w_set hk]; exact hP, fun j hj => ?_⟩
  rw [va_up_ne _ _ (by omega)]
  exact hH.2.2 j hj
/-- an old cell's change keeps the size: what is said of the cells that were there, and no more, bounds it from below; the rows of the kit say 'va_S' alone -/
def pd_fit (ty : FieldType) (v : pv) : Prop := match ty, v with
  | .int, .inl _ => True
  | .boolean, .inl z => z = 0 ∨ z = 1
  | .long, .inr (.inl _) => True
  | .object _, .inr (.inr (some _)) => True
  | .array _, .inr (.inr (some _)) => True
  | _, _ => False
theorem pd_fit.nar {G : pd_G} {ty : FieldType} {v : pv} (h : pd_fit ty v) : narrow ty (pd_up G v) = pd_up G v ∧ fits ty (pd_up G v) = true := by
  unfold pd_fit at h
  split at h
  · exact ⟨rfl, rfl⟩
  · rcases h with rfl | rfl <;> exact ⟨rfl, rfl⟩
  · exact ⟨rfl, rfl⟩
  · exact ⟨rfl, rfl⟩
  · exact ⟨rfl, rfl⟩
  · exact h.elim
/-- a field by its place in a class's pool: of objects of the ci-th class it is the k-th -/
def pd_fl (own : String) (idx ci k : Nat) (ty : FieldType) : Prop := ∃ (C : String) (T : u_T) (N : Nat) (ref : String) (ty0 : Nat → FieldType), pd_cl[ci]? = some (C, T, N) ∧ k < N ∧ (∀ w ∈ u_ws C T N, w ∈ pd_tbl) ∧ Cond.fieldLink own idx ref (T k).2.1 (T k).2.2.1 ∈ pd_tbl ∧ ((T k).1 = ref ∨ Cond.sameField ref (T k).1 (T k).2.1 (T k).2.2.1 ∈ pd_tbl) ∧ (∀ k, k < N → parseFieldDescriptor (T k).2.2.1 = some (ty0 k)) ∧ (∀ a, a < N → ∀ b, b < N → a ≠ b → (T a).2.1 ≠ (T b).2.1) ∧ ty0 k = ty
def pd_fin (ci k : Nat) : Option (Bool × String) := (pd_cl[ci]?).map (fun q => ((q.2.1 k).2.2.2, (q.2.1 k).1))
def pd_gf (M : pd_M) (pc ci k n : Nat) : Prop := ∃ (idx : Nat) (ty : FieldType), pd_i M pc (.getfield idx) 3 n ∧ pd_fl M.1.cls idx ci k ty
def pd_pf (M : pd_M) (pc ci k : Nat) (ty : FieldType) (n : Nat) : Prop := ∃ idx : Nat, pd_i M pc (.putfield idx) 3 n ∧ pd_fl M.1.cls idx ci k ty ∧ ((∃ o, pd_fin ci k = some (false, o)) ∨ (pd_fin ci k = some (true, M.1.cls) ∧ M.1.name = "<init>"))
theorem pd_same {s : State} {args : Array Value} {ref O nm ds : String} (hts : ∀ w ∈ pd_tbl, w.before args s = true) (h : O = ref ∨ Cond.sameField ref O nm ds ∈ pd_tbl) (x : ClassId × Class × Nat × Field) (hx : s.fieldFound? O nm ds = some x) : s.fieldFound? ref nm ds = some x := by
  rcases h with rfl | h
  · exact hx
  · exact u_same (hts _ h) x hx
section PDHEAP
variable {G : pd_G} {M : pd_M} {d mc ms : Nat} {X : Option (Nat × (Nat → Int))} {R : pd_R} {pc n t : Nat} {lv : List (Option pv)} {st : List pv} {sz ce sl : Nat} {hp : pd_P}
theorem pt_get {a ci kf : Nat} {fs : List pv} {v : pv} (h : pd_gf M pc ci kf n) (hc : hp a = ob ci fs) (hv : fs[kf]? = some v) (k : pd_T G M d mc ms X R n lv (v :: st) sz ce sl hp) : pd_T G M d mc ms X R pc lv (vr a :: st) sz ce sl hp := by
  intro p e Rm s m args below meth c Q hx hq H locs ls hH hS hl
  obtain ⟨idx, ty, ⟨h1, rfl⟩, C, T, N, ref, ty0, g1, g2, g3, g4, g5, g6, g7, g8⟩ := h
  have hne : ci ≠ 99 := by rintro rfl; simp at g1
  obtain ⟨k0, rfl, hk0⟩ := pd_lt hH (a := a) (by rw [hc]; intro q; exact hne (congrArg Prod.fst (Sum.inr.inj q)))
  have hw := pd_w_get (G := G) (hp := hp) hk0
  rw [hc] at hw
  refine va_get (ws := pd_w G sz hp) hx.1 hx.2.1 hx.2.2.2.2.1 g3 hx.2.2.2.1 hx.2.2.2.2.2.1.1 hH.2.1 k0 hw g1 kf g2 (hx.2.2.2.2.1 _ g4) (pd_same hx.2.2.2.2.1 g5) (v := pd_up G v) (by rw [List.getElem?_map, hv]; rfl) h1 ?_
  exact k p e Rm s m args below meth c Q hx hq H locs ls hH hS hl
theorem pd_sz {G : pd_G} {sz : Nat} {hp : pd_P} {H : Heap} (h : pd_H G sz hp H) : H.size = G.2.2.2.1 + sz := h.1
theorem pt_put {a ci kf : Nat} {ty : FieldType} {fs : List pv} {v : pv} (h : pd_pf M pc ci kf ty n) (hc : hp a = ob ci fs) (hlen : kf < fs.length) (hf : pd_fit ty v) (k : pd_T G M d mc ms X R n lv st sz ce sl (va_up hp a (ob ci (fs.set kf v)))) : pd_T G M d mc ms X R pc lv (v :: vr a :: st) sz ce sl hp := by
  intro p e Rm s m args below meth c Q hx hq H locs ls hH hS hl
  obtain ⟨idx, ⟨h1, rfl⟩, ⟨C, T, N, ref, ty0, g1, g2, g3, g4, g5, g6, g7, g8⟩, hfin⟩ := h
  have hne : ci ≠ 99 := by rintro rfl; simp at g1
  obtain ⟨k0, rfl, hk0⟩ := pd_lt hH (a := a) (by rw [hc]; intro q; exact hne (congrArg Prod.fst (Sum.inr.inj q)))
  have hw := pd_w_get (G := G) (hp := hp) hk0
  rw [hc] at hw
  have hts := hx.2.2.2.2.1
  have hK := hx.2.2.2.2.2.1.1
  have hP := hH.2.1
  have hap := va_apart (own := M.1.cls) hts g3 ty0 g6 g7 hK g1
  obtain ⟨r, q0, cell, q1, q2, q3, q4⟩ := hP k0 _ hw
  have hr : r = (C, T, N) := Option.some.inj (q0.symm.trans g1)
  subst hr
  obtain ⟨hSl, hfc, kC, hkC, hkind⟩ := hK.1 ci _ g1
  obtain ⟨cf, kf', fi, f, hi, hsl⟩ := hSl kf g2
  have hlay := hts _ (g3 _ (u_in_lay g2))
  have hd : parseFieldDescriptor (T kf).2.2.1 = some ty := by rw [← g8]; exact g6 kf g2
  obtain ⟨n1, n2⟩ := pd_fit.nar (G := G) hf
  have hst := (u_facts hfc hkC (u_lays hts g3 g2) hi).1
  have fine : ∀ H' : Heap, H'[G.2.2.2.1 + k0]? = some (cell.setSlot f.slot (pd_up G v)) → H'.size = H.size → (∀ q, q ≠ G.2.2.2.1 + k0 → H'[q]? = H[q]?) → pd_H G sz (va_up hp (k0 + 1) (ob ci (fs.set kf v))) H' := by
    intro H' e1 e2 e3
    rw [hsl] at e1
    refine pd_H.set hH hk0 e2 (hP.set (pd_w_D G sz hp) hw ?_ e3)
    refine ⟨_, g1, t_OB.to (V := updV (vp_V (fs.map (pd_up G))) kf (pd_up G v)) ⟨_, e1, q2, q3, t_set q4 hap g2 (pd_up G v)⟩ (fun j _ => ?_)⟩
    rw [vp_updV_set (by simpa using hlen) (pd_up G v) j, List.map_set]
  have fineS : ∀ H' : Heap, H'.size = H.size → (∀ q, q ≠ G.2.2.2.1 + k0 → H'[q]? = H[q]?) → va_S (pd_A G) s.heap H' (locs ++ [⟨G.2.2.2.1 + k0, f.slot⟩]) := fun H' e2 e3 => hS.put e2 e3 (Nat.le_add_right _ _)
  unfold u_lay at hlay
  rcases hfin with ⟨o, ho⟩ | ⟨ho, hin⟩
  · have hfn : (T kf).2.2.2 = false := by
      simp only [pd_fin, g1, Option.map_some, Option.some.injEq, Prod.mk.injEq] at ho
      exact ho.1
    rw [if_neg (by rw [hfn]; decide)] at hlay
    have h6 := u_store hfc hkC hkind hlay hi hd n1 n2
    refine W.putK hx.1 hx.2.1 (f := f) ⟨hx.2.2.2.1, hts _ g4, ⟨_, _, _, pd_same hts g5 _ hi⟩, hst⟩ (by rw [q2]; exact h6) q1 q3 (by rw [hsl]; exact k2_hasslot (q4 kf g2)) rfl rfl h1 fun H' e1 e2 e3 => ?_
    exact k p e Rm s m args below meth c Q hx hq H' _ ls (fine H' e1 e2 e3) (fineS H' e2 e3) hl
  · have hfn : (T kf).2.2.2 = true ∧ (T kf).1 = M.1.cls := by
      simp only [pd_fin, g1, Option.map_some, Option.some.injEq, Prod.mk.injEq] at ho
      exact ho
    rw [if_pos hfn.1] at hlay
    have hcf : m.cls = cf := by
      obtain ⟨_, _, c', _, _, _, -, -, hf', -, -, -, hown2, -⟩ := Cond.laysFinal_spec hlay
      have e1 : c' = cf := by have := hi.symm.trans hf'; simp at this; exact this.1.symm
      rw [hfn.2] at hown2
      rw [← e1]; exact Option.some.inj (hx.2.2.2.1.symm.trans hown2)
    have h6 := u_fits hfc hkC hkind (Or.inr hlay) hi hd n1 n2
    refine W.putFinK hx.1 hx.2.1 hx.2.2.2.1 (hts _ g4) (pd_same hts g5 _ hi) hst hcf (hx.2.2.2.2.2.2.2.1 hin) (by rw [q2]; exact h6) q1 q3 (by rw [hsl]; exact k2_hasslot (q4 kf g2)) rfl rfl h1 fun H' e1 e2 e3 => ?_
    exact k p e Rm s m args below meth c Q hx hq H' _ ls (fine H' e1 e2 e3) (fineS H' e2 e3) hl
theorem pt_put0 {a ci : Nat} {ty : FieldType} {a0 : pv} {r : List pv} {v : pv} (h : pd_pf M pc ci 0 ty n) (hc : hp a = ob ci (a0 :: r)) (hf : pd_fit ty v) (k : pd_T G M d mc ms X R n lv st sz ce sl (va_up hp a (ob ci (v :: r)))) : pd_T G M d mc ms X R pc lv (v :: vr a :: st) sz ce sl hp := pt_put h hc (by simp) hf k
theorem pt_put1 {a ci : Nat} {ty : FieldType} {a0 a1 : pv} {r : List pv} {v : pv} (h : pd_pf M pc ci 1 ty n) (hc : hp a = ob ci (a0 :: a1 :: r)) (hf : pd_fit ty v) (k : pd_T G M d mc ms X R n lv st sz ce sl (va_up hp a (ob ci (a0 :: v :: r)))) : pd_T G M d mc ms X R pc lv (v :: vr a :: st) sz ce sl hp := pt_put h hc (by simp) hf k
theorem pt_put2 {a ci : Nat} {ty : FieldType} {a0 a1 a2 : pv} {r : List pv} {v : pv} (h : pd_pf M pc ci 2 ty n) (hc : hp a = ob ci (a0 :: a1 :: a2 :: r)) (hf : pd_fit ty v) (k : pd_T G M d mc ms X R n lv st sz ce sl (va_up hp a (ob ci (a0 :: a1 :: v :: r)))) : pd_T G M d mc ms X R pc lv (v :: vr a :: st) sz ce sl hp := pt_put h hc (by simp) hf k
theorem pt_put3 {a ci : Nat} {ty : FieldType} {a0 a1 a2 a3 : pv} {r : List pv} {v : pv} (h : pd_pf M pc ci 3 ty n) (hc : hp a = ob ci (a0 :: a1 :: a2 :: a3 :: r)) (hf : pd_fit ty v) (k : pd_T G M d mc ms X R n lv st sz ce sl (va_up hp a (ob ci (a0 :: a1 :: a2 :: v :: r)))) : pd_T G M d mc ms X R pc lv (v :: vr a :: st) sz ce sl hp := pt_put h hc (by simp) hf k
theorem pt_put4 {a ci : Nat} {ty : FieldType} {a0 a1 a2 a3 a4 : pv} {r : List pv} {v : pv} (h : pd_pf M pc ci 4 ty n) (hc : hp a = ob ci (a0 :: a1 :: a2 :: a3 :: a4 :: r)) (hf : pd_fit ty v) (k : pd_T G M d mc ms X R n lv st sz ce sl (va_up hp a (ob ci (a0 :: a1 :: a2 :: a3 :: v :: r)))) : pd_T G M d mc ms X R pc lv (v :: vr a :: st) sz ce sl hp := pt_put h hc (by simp) hf k
theorem pt_put5 {a ci : Nat} {ty : FieldType} {a0 a1 a2 a3 a4 a5 : pv} {r : List pv} {v : pv} (h : pd_pf M pc ci 5 ty n) (hc : hp a = ob ci (a0 :: a1 :: a2 :: a3 :: a4 :: a5 :: r)) (hf : pd_fit ty v) (k : pd_T G M d mc ms X R n lv st sz ce sl (va_up hp a (ob ci (a0 :: a1 :: a2 :: a3 :: a4 :: v :: r)))) : pd_T G M d mc ms X R pc lv (v :: vr a :: st) sz ce sl hp := pt_put h hc (by simp) hf k
theorem pt_put6 {a ci : Nat} {ty : FieldType} {a0 a1 a2 a3 a4 a5 a6 : pv} {r : List pv} {v : pv} (h : pd_pf M pc ci 6 ty n) (hc : hp a = ob ci (a0 :: a1 :: a2 :: a3 :: a4 :: a5 :: a6 :: r)) (hf : pd_fit ty v) (k : pd_T G M d mc ms X R n lv st sz ce sl (va_up hp a (ob ci (a0 :: a1 :: a2 :: a3 :: a4 :: a5 :: v :: r)))) : pd_T G M d mc ms X R pc lv (v :: vr a :: st) sz ce sl hp := pt_put h hc (by simp) hf k
theorem pt_put7 {a ci : Nat} {ty : FieldType} {a0 a1 a2 a3 a4 a5 a6 a7 : pv} {r : List pv} {v : pv} (h : pd_pf M pc ci 7 ty n) (hc : hp a = ob ci (a0 :: a1 :: a2 :: a3 :: a4 :: a5 :: a6 :: a7 :: r)) (hf : pd_fit ty v) (k : pd_T G M d mc ms X R n lv st sz ce sl (va_up hp a (ob ci (a0 :: a1 :: a2 :: a3 :: a4 :: a5 :: a6 :: v :: r)))) : pd_T G M d mc ms X R pc lv (v :: vr a :: st) sz ce sl hp := pt_put h hc (by simp) hf k
theorem pt_put8 {a ci : Nat} {ty : FieldType} {a0 a1 a2 a3 a4 a5 a6 a7 a8 : pv} {r : List pv} {v : pv} (h : pd_pf M pc ci 8 ty n) (hc : hp a = ob ci (a0 :: a1 :: a2 :: a3 :: a4 :: a5 :: a6 :: a7 :: a8 :: r)) (hf : pd_fit ty v) (k : pd_T G M d mc ms X R n lv st sz ce sl (va_up hp a (ob ci (a0 :: a1 :: a2 :: a3 :: a4 :: a5 :: a6 :: a7 :: v :: r)))) : pd_T G M d mc ms X R pc lv (v :: vr a :: st) sz ce sl hp := pt_put h hc (by simp) hf k
theorem pt_put9 {a ci : Nat} {ty : FieldType} {a0 a1 a2 a3 a4 a5 a6 a7 a8 a9 : pv} {r : List pv} {v : pv} (h : pd_pf M pc ci 9 ty n) (hc : hp a = ob ci (a0 :: a1 :: a2 :: a3 :: a4 :: a5 :: a6 :: a7 :: a8 :: a9 :: r)) (hf : pd_fit ty v) (k : pd_T G M d mc ms X R n lv st sz ce sl (va_up hp a (ob ci (a0 :: a1 :: a2 :: a3 :: a4 :: a5 :: a6 :: a7 :: a8 :: v :: r)))) : pd_T G M d mc ms X R pc lv (v :: vr a :: st) sz ce sl hp := pt_put h hc (by simp) hf k
theorem pt_put10 {a ci : Nat} {ty : FieldType} {a0 a1 a2 a3 a4 a5 a6 a7 a8 a9 a10 : pv} {r : List pv} {v : pv} (h : pd_pf M pc ci 10 ty n) (hc : hp a = ob ci (a0 :: a1 :: a2 :: a3 :: a4 :: a5 :: a6 :: a7 :: a8 :: a9 :: a10 :: r)) (hf : pd_fit ty v) (k : pd_T G M d mc ms X R n lv st sz ce sl (va_up hp a (ob ci (a0 :: a1 :: a2 :: a3 :: a4 :: a5 :: a6 :: a7 :: a8 :: a9 :: v :: r)))) : pd_T G M d mc ms X R pc lv (v :: vr a :: st) sz ce sl hp := pt_put h hc (by simp) hf k
theorem pt_put11 {a ci : Nat} {ty : FieldType} {a0 a1 a2 a3 a4 a5 a6 a7 a8 a9 a10 a11 : pv} {r : List pv} {v : pv} (h : pd_pf M pc ci 11 ty n) (hc : hp a = ob ci (a0 :: a1 :: a2 :: a3 :: a4 :: a5 :: a6 :: a7 :: a8 :: a9 :: a10 :: a11 :: r)) (hf : pd_fit ty v) (k : pd_T G M d mc ms X R n lv st sz ce sl (va_up hp a (ob ci (a0 :: a1 :: a2 :: a3 :: a4 :: a5 :: a6 :: a7 :: a8 :: a9 :: a10 :: v :: r)))) : pd_T G M d mc ms X R pc lv (v :: vr a :: st) sz ce sl hp := pt_put h hc (by simp) hf k
theorem pt_put12 {a ci : Nat} {ty : FieldType} {a0 a1 a2 a3 a4 a5 a6 a7 a8 a9 a10 a11 a12 : pv} {r : List pv} {v : pv} (h : pd_pf M pc ci 12 ty n) (hc : hp a = ob ci (a0 :: a1 :: a2 :: a3 :: a4 :: a5 :: a6 :: a7 :: a8 :: a9 :: a10 :: a11 :: a12 :: r)) (hf : pd_fit ty v) (k : pd_T G M d mc ms X R n lv st sz ce sl (va_up hp a (ob ci (a0 :: a1 :: a2 :: a3 :: a4 :: a5 :: a6 :: a7 :: a8 :: a9 :: a10 :: a11 :: v :: r)))) : pd_T G M d mc ms X R pc lv (v :: vr a :: st) sz ce sl hp := pt_put h hc (by simp) hf k
theorem pt_put13 {a ci : Nat} {ty : FieldType} {a0 a1 a2 a3 a4 a5 a6 a7 a8 a9 a10 a11 a12 a13 : pv} {r : List pv} {v : pv} (h : pd_pf M pc ci 13 ty n) (hc : hp a = ob ci (a0 :: a1 :: a2 :: a3 :: a4 :: a5 :: a6 :: a7 :: a8 :: a9 :: a10 :: a11 :: a12 :: a13 :: r)) (hf : pd_fit ty v) (k : pd_T G M d mc ms X R n lv st sz ce sl (va_up hp a (ob ci (a0 :: a1 :: a2 :: a3 :: a4 :: a5 :: a6 :: a7 :: a8 :: a9 :: a10 :: a11 :: a12 :: v :: r)))) : pd_T G M d mc ms X R pc lv (v :: vr a :: st) sz ce sl hp := pt_put h hc (by simp) hf k
theorem pt_put14 {a ci : Nat} {ty : FieldType} {a0 a1 a2 a3 a4 a5 a6 a7 a8 a9 a10 a11 a12 a13 a14 : pv} {r : List pv} {v : pv} (h : pd_pf M pc ci 14 ty n) (hc : hp a = ob ci (a0 :: a1 :: a2 :: a3 :: a4 :: a5 :: a6 :: a7 :: a8 :: a9 :: a10 :: a11 :: a12 :: a13 :: a14 :: r)) (hf : pd_fit ty v) (k : pd_T G M d mc ms X R n lv st sz ce sl (va_up hp a (ob ci (a0 :: a1 :: a2 :: a3 :: a4 :: a5 :: a6 :: a7 :: a8 :: a9 :: a10 :: a11 :: a12 :: a13 :: v :: r)))) : pd_T G M d mc ms X R pc lv (v :: vr a :: st) sz ce sl hp := pt_put h hc (by simp) hf k
theorem pt_put15 {a ci : Nat} {ty : FieldType} {a0 a1 a2 a3 a4 a5 a6 a7 a8 a9 a10 a11 a12 a13 a14 a15 : pv} {r : List pv} {v : pv} (h : pd_pf M pc ci 15 ty n) (hc : hp a = ob ci (a0 :: a1 :: a2 :: a3 :: a4 :: a5 :: a6 :: a7 :: a8 :: a9 :: a10 :: a11 :: a12 :: a13 :: a14 :: a15 :: r)) (hf : pd_fit ty v) (k : pd_T G M d mc ms X R n lv st sz ce sl (va_up hp a (ob ci (a0 :: a1 :: a2 :: a3 :: a4 :: a5 :: a6 :: a7 :: a8 :: a9 :: a10 :: a11 :: a12 :: a13 :: a14 :: v :: r)))) : pd_T G M d mc ms X R pc lv (v :: vr a :: st) sz ce sl hp := pt_put h hc (by simp) hf k
theorem pt_put16 {a ci : Nat} {ty : FieldType} {a0 a1 a2 a3 a4 a5 a6 a7 a8 a9 a10 a11 a12 a13 a14 a15 a16 : pv} {r : List pv} {v : pv} (h : pd_pf M pc ci 16 ty n) (hc : hp a = ob ci (a0 :: a1 :: a2 :: a3 :: a4 :: a5 :: a6 :: a7 :: a8 :: a9 :: a10 :: a11 :: a12 :: a13 :: a14 :: a15 :: a16 :: r)) (hf : pd_fit ty v) (k : pd_T G M d mc ms X R n lv st sz ce sl (va_up hp a (ob ci (a0 :: a1 :: a2 :: a3 :: a4 :: a5 :: a6 :: a7 :: a8 :: a9 :: a10 :: a11 :: a12 :: a13 :: a14 :: a15 :: v :: r)))) : pd_T G M d mc ms X R pc lv (v :: vr a :: st) sz ce sl hp := pt_put h hc (by simp) hf k
theorem pt_put17 {a ci : Nat} {ty : FieldType} {a0 a1 a2 a3 a4 a5 a6 a7 a8 a9 a10 a11 a12 a13 a14 a15 a16 a17 : pv} {r : List pv} {v : pv} (h : pd_pf M pc ci 17 ty n) (hc : hp a = ob ci (a0 :: a1 :: a2 :: a3 :: a4 :: a5 :: a6 :: a7 :: a8 :: a9 :: a10 :: a11 :: a12 :: a13 :: a14 :: a15 :: a16 :: a17 :: r)) (hf : pd_fit ty v) (k : pd_T G M d mc ms X R n lv st sz ce sl (va_up hp a (ob ci (a0 :: a1 :: a2 :: a3 :: a4 :: a5 :: a6 :: a7 :: a8 :: a9 :: a10 :: a11 :: a12 :: a13 :: a14 :: a15 :: a16 :: v :: r)))) : pd_T G M d mc ms X R pc lv (v :: vr a :: st) sz ce sl hp := pt_put h hc (by simp) hf k
theorem pt_put18 {a ci : Nat} {ty : FieldType} {a0 a1 a2 a3 a4 a5 a6 a7 a8 a9 a10 a11 a12 a13 a14 a15 a16 a17 a18 : pv} {r : List pv} {v : pv} (h : pd_pf M pc ci 18 ty n) (hc : hp a = ob ci (a0 :: a1 :: a2 :: a3 :: a4 :: a5 :: a6 :: a7 :: a8 :: a9 :: a10 :: a11 :: a12 :: a13 :: a14 :: a15 :: a16 :: a17 :: a18 :: r)) (hf : pd_fit ty v) (k : pd_T G M d mc ms X R n lv st sz ce sl (va_up hp a (ob ci (a0 :: a1 :: a2 :: a3 :: a4 :: a5 :: a6 :: a7 :: a8 :: a9 :: a10 :: a11 :: a12 :: a13 :: a14 :: a15 :: a16 :: a17 :: v :: r)))) : pd_T G M d mc ms X R pc lv (v :: vr a :: st) sz ce sl hp := pt_put h hc (by simp) hf k
theorem pt_put19 {a ci : Nat} {ty : FieldType} {a0 a1 a2 a3 a4 a5 a6 a7 a8 a9 a10 a11 a12 a13 a14 a15 a16 a17 a18 a19 : pv} {r : List pv} {v : pv} (h : pd_pf M pc ci 19 ty n) (hc : hp a = ob ci (a0 :: a1 :: a2 :: a3 :: a4 :: a5 :: a6 :: a7 :: a8 :: a9 :: a10 :: a11 :: a12 :: a13 :: a14 :: a15 :: a16 :: a17 :: a18 :: a19 :: r)) (hf : pd_fit ty v) (k : pd_T G M d mc ms X R n lv st sz ce sl (va_up hp a (ob ci (a0 :: a1 :: a2 :: a3 :: a4 :: a5 :: a6 :: a7 :: a8 :: a9 :: a10 :: a11 :: a12 :: a13 :: a14 :: a15 :: a16 :: a17 :: a18 :: v :: r)))) : pd_T G M d mc ms X R pc lv (v :: vr a :: st) sz ce sl hp := pt_put h hc (by simp) hf k
theorem pt_put20 {a ci : Nat} {ty : FieldType} {a0 a1 a2 a3 a4 a5 a6 a7 a8 a9 a10 a11 a12 a13 a14 a15 a16 a17 a18 a19 a20 : pv} {r : List pv} {v : pv} (h : pd_pf M pc ci 20 ty n) (hc : hp a = ob ci (a0 :: a1 :: a2 :: a3 :: a4 :: a5 :: a6 :: a7 :: a8 :: a9 :: a10 :: a11 :: a12 :: a13 :: a14 :: a15 :: a16 :: a17 :: a18 :: a19 :: a20 :: r)) (hf : pd_fit ty v) (k : pd_T G M d mc ms X R n lv st sz ce sl (va_up hp a (ob ci (a0 :: a1 :: a2 :: a3 :: a4 :: a5 :: a6 :: a7 :: a8 :: a9 :: a10 :: a11 :: a12 :: a13 :: a14 :: a15 :: a16 :: a17 :: a18 :: a19 :: v :: r)))) : pd_T G M d mc ms X R pc lv (v :: vr a :: st) sz ce sl hp := pt_put h hc (by simp) hf k
theorem pt_put21 {a ci : Nat} {ty : FieldType} {a0 a1 a2 a3 a4 a5 a6 a7 a8 a9 a10 a11 a12 a13 a14 a15 a16 a17 a18 a19 a20 a21 : pv} {r : List pv} {v : pv} (h : pd_pf M pc ci 21 ty n) (hc : hp a = ob ci (a0 :: a1 :: a2 :: a3 :: a4 :: a5 :: a6 :: a7 :: a8 :: a9 :: a10 :: a11 :: a12 :: a13 :: a14 :: a15 :: a16 :: a17 :: a18 :: a19 :: a20 :: a21 :: r)) (hf : pd_fit ty v) (k : pd_T G M d mc ms X R n lv st sz ce sl (va_up hp a (ob ci (a0 :: a1 :: a2 :: a3 :: a4 :: a5 :: a6 :: a7 :: a8 :: a9 :: a10 :: a11 :: a12 :: a13 :: a14 :: a15 :: a16 :: a17 :: a18 :: a19 :: a20 :: v :: r)))) : pd_T G M d mc ms X R pc lv (v :: vr a :: st) sz ce sl hp := pt_put h hc (by simp) hf k
theorem pt_put22 {a ci : Nat} {ty : FieldType} {a0 a1 a2 a3 a4 a5 a6 a7 a8 a9 a10 a11 a12 a13 a14 a15 a16 a17 a18 a19 a20 a21 a22 : pv} {r : List pv} {v : pv} (h : pd_pf M pc ci 22 ty n) (hc : hp a = ob ci (a0 :: a1 :: a2 :: a3 :: a4 :: a5 :: a6 :: a7 :: a8 :: a9 :: a10 :: a11 :: a12 :: a13 :: a14 :: a15 :: a16 :: a17 :: a18 :: a19 :: a20 :: a21 :: a22 :: r)) (hf : pd_fit ty v) (k : pd_T G M d mc ms X R n lv st sz ce sl (va_up hp a (ob ci (a0 :: a1 :: a2 :: a3 :: a4 :: a5 :: a6 :: a7 :: a8 :: a9 :: a10 :: a11 :: a12 :: a13 :: a14 :: a15 :: a16 :: a17 :: a18 :: a19 :: a20 :: a21 :: v :: r)))) : pd_T G M d mc ms X R pc lv (v :: vr a :: st) sz ce sl hp := pt_put h hc (by simp) hf k
theorem pt_put23 {a ci : Nat} {ty : FieldType} {a0 a1 a2 a3 a4 a5 a6 a7 a8 a9 a10 a11 a12 a13 a14 a15 a16 a17 a18 a19 a20 a21 a22 a23 : pv} {r : List pv} {v : pv} (h : pd_pf M pc ci 23 ty n) (hc : hp a = ob ci (a0 :: a1 :: a2 :: a3 :: a4 :: a5 :: a6 :: a7 :: a8 :: a9 :: a10 :: a11 :: a12 :: a13 :: a14 :: a15 :: a16 :: a17 :: a18 :: a19 :: a20 :: a21 :: a22 :: a23 :: r)) (hf : pd_fit ty v) (k : pd_T G M d mc ms X R n lv st sz ce sl (va_up hp a (ob ci (a0 :: a1 :: a2 :: a3 :: a4 :: a5 :: a6 :: a7 :: a8 :: a9 :: a10 :: a11 :: a12 :: a13 :: a14 :: a15 :: a16 :: a17 :: a18 :: a19 :: a20 :: a21 :: a22 :: v :: r)))) : pd_T G M d mc ms X R pc lv (v :: vr a :: st) sz ce sl hp := pt_put h hc (by simp) hf k
theorem pt_put24 {a ci : Nat} {ty : FieldType} {a0 a1 a2 a3 a4 a5 a6 a7 a8 a9 a10 a11 a12 a13 a14 a15 a16 a17 a18 a19 a20 a21 a22 a23 a24 : pv} {r : List pv} {v : pv} (h : pd_pf M pc ci 24 ty n) (hc : hp a = ob ci (a0 :: a1 :: a2 :: a3 :: a4 :: a5 :: a6 :: a7 :: a8 :: a9 :: a10 :: a11 :: a12 :: a13 :: a14 :: a15 :: a16 :: a17 :: a18 :: a19 :: a20 :: a21 :: a22 :: a23 :: a24 :: r)) (hf : pd_fit ty v) (k : pd_T G M d mc ms X R n lv st sz ce sl (va_up hp a (ob ci (a0 :: a1 :: a2 :: a3 :: a4 :: a5 :: a6 :: a7 :: a8 :: a9 :: a10 :: a11 :: a12 :: a13 :: a14 :: a15 :: a16 :: a17 :: a18 :: a19 :: a20 :: a21 :: a22 :: a23 :: v :: r)))) : pd_T G M d mc ms X R pc lv (v :: vr a :: st) sz ce sl hp := pt_put h hc (by simp) hf k
theorem pt_put25 {a ci : Nat} {ty : FieldType} {a0 a1 a2 a3 a4 a5 a6 a7 a8 a9 a10 a11 a12 a13 a14 a15 a16 a17 a18 a19 a20 a21 a22 a23 a24 a25 : pv} {r : List pv} {v : pv} (h : pd_pf M pc ci 25 ty n) (hc : hp a = ob ci (a0 :: a1 :: a2 :: a3 :: a4 :: a5 :: a6 :: a7 :: a8 :: a9 :: a10 :: a11 :: a12 :: a13 :: a14 :: a15 :: a16 :: a17 :: a18 :: a19 :: a20 :: a21 :: a22 :: a23 :: a24 :: a25 :: r)) (hf : pd_fit ty v) (k : pd_T G M d mc ms X R n lv st sz ce sl (va_up hp a (ob ci (a0 :: a1 :: a2 :: a3 :: a4 :: a5 :: a6 :: a7 :: a8 :: a9 :: a10 :: a11 :: a12 :: a13 :: a14 :: a15 :: a16 :: a17 :: a18 :: a19 :: a20 :: a21 :: a22 :: a23 :: a24 :: v :: r)))) : pd_T G M d mc ms X R pc lv (v :: vr a :: st) sz ce sl hp := pt_put h hc (by simp) hf k
theorem pt_put26 {a ci : Nat} {ty : FieldType} {a0 a1 a2 a3 a4 a5 a6 a7 a8 a9 a10 a11 a12 a13 a14 a15 a16 a17 a18 a19 a20 a21 a22 a23 a24 a25 a26 : pv} {r : List pv} {v : pv} (h : pd_pf M pc ci 26 ty n) (hc : hp a = ob ci (a0 :: a1 :: a2 :: a3 :: a4 :: a5 :: a6 :: a7 :: a8 :: a9 :: a10 :: a11 :: a12 :: a13 :: a14 :: a15 :: a16 :: a17 :: a18 :: a19 :: a20 :: a21 :: a22 :: a23 :: a24 :: a25 :: a26 :: r)) (hf : pd_fit ty v) (k : pd_T G M d mc ms X R n lv st sz ce sl (va_up hp a (ob ci (a0 :: a1 :: a2 :: a3 :: a4 :: a5 :: a6 :: a7 :: a8 :: a9 :: a10 :: a11 :: a12 :: a13 :: a14 :: a15 :: a16 :: a17 :: a18 :: a19 :: a20 :: a21 :: a22 :: a23 :: a24 :: a25 :: v :: r)))) : pd_T G M d mc ms X R pc lv (v :: vr a :: st) sz ce sl hp := pt_put h hc (by simp) hf k
theorem pt_put27 {a ci : Nat} {ty : FieldType} {a0 a1 a2 a3 a4 a5 a6 a7 a8 a9 a10 a11 a12 a13 a14 a15 a16 a17 a18 a19 a20 a21 a22 a23 a24 a25 a26 a27 : pv} {r : List pv} {v : pv} (h : pd_pf M pc ci 27 ty n) (hc : hp a = ob ci (a0 :: a1 :: a2 :: a3 :: a4 :: a5 :: a6 :: a7 :: a8 :: a9 :: a10 :: a11 :: a12 :: a13 :: a14 :: a15 :: a16 :: a17 :: a18 :: a19 :: a20 :: a21 :: a22 :: a23 :: a24 :: a25 :: a26 :: a27 :: r)) (hf : pd_fit ty v) (k : pd_T G M d mc ms X R n lv st sz ce sl (va_up hp a (ob ci (a0 :: a1 :: a2 :: a3 :: a4 :: a5 :: a6 :: a7 :: a8 :: a9 :: a10 :: a11 :: a12 :: a13 :: a14 :: a15 :: a16 :: a17 :: a18 :: a19 :: a20 :: a21 :: a22 :: a23 :: a24 :: a25 :: a26 :: v :: r)))) : pd_T G M d mc ms X R pc lv (v :: vr a :: st) sz ce sl hp := pt_put h hc (by simp) hf k
theorem pt_put28 {a ci : Nat} {ty : FieldType} {a0 a1 a2 a3 a4 a5 a6 a7 a8 a9 a10 a11 a12 a13 a14 a15 a16 a17 a18 a19 a20 a21 a22 a23 a24 a25 a26 a27 a28 : pv} {r : List pv} {v : pv} (h : pd_pf M pc ci 28 ty n) (hc : hp a = ob ci (a0 :: a1 :: a2 :: a3 :: a4 :: a5 :: a6 :: a7 :: a8 :: a9 :: a10 :: a11 :: a12 :: a13 :: a14 :: a15 :: a16 :: a17 :: a18 :: a19 :: a20 :: a21 :: a22 :: a23 :: a24 :: a25 :: a26 :: a27 :: a28 :: r)) (hf : pd_fit ty v) (k : pd_T G M d mc ms X R n lv st sz ce sl (va_up hp a (ob ci (a0 :: a1 :: a2 :: a3 :: a4 :: a5 :: a6 :: a7 :: a8 :: a9 :: a10 :: a11 :: a12 :: a13 :: a14 :: a15 :: a16 :: a17 :: a18 :: a19 :: a20 :: a21 :: a22 :: a23 :: a24 :: a25 :: a26 :: a27 :: v :: r)))) : pd_T G M d mc ms X R pc lv (v :: vr a :: st) sz ce sl hp := pt_put h hc (by simp) hf k
theorem pt_put29 {a ci : Nat} {ty : FieldType} {a0 a1 a2 a3 a4 a5 a6 a7 a8 a9 a10 a11 a12 a13 a14 a15 a16 a17 a18 a19 a20 a21 a22 a23 a24 a25 a26 a27 a28 a29 : pv} {r : List pv} {v : pv} (h : pd_pf M pc ci 29 ty n) (hc : hp a = ob ci (a0 :: a1 :: a2 :: a3 :: a4 :: a5 :: a6 :: a7 :: a8 :: a9 :: a10 :: a11 :: a12 :: a13 :: a14 :: a15 :: a16 :: a17 :: a18 :: a19 :: a20 :: a21 :: a22 :: a23 :: a24 :: a25 :: a26 :: a27 :: a28 :: a29 :: r)) (hf : pd_fit ty v) (k : pd_T G M d mc ms X R n lv st sz ce sl (va_up hp a (ob ci (a0 :: a1 :: a2 :: a3 :: a4 :: a5 :: a6 :: a7 :: a8 :: a9 :: a10 :: a11 :: a12 :: a13 :: a14 :: a15 :: a16 :: a17 :: a18 :: a19 :: a20 :: a21 :: a22 :: a23 :: a24 :: a25 :: a26 :: a27 :: a28 :: v :: r)))) : pd_T G M d mc ms X R pc lv (v :: vr a :: st) sz ce sl hp := pt_put h hc (by simp) hf k
theorem pt_put30 {a ci : Nat} {ty : FieldType} {a0 a1 a2 a3 a4 a5 a6 a7 a8 a9 a10 a11 a12 a13 a14 a15 a16 a17 a18 a19 a20 a21 a22 a23 a24 a25 a26 a27 a28 a29 a30 : pv} {r : List pv} {v : pv} (h : pd_pf M pc ci 30 ty n) (hc : hp a = ob ci (a0 :: a1 :: a2 :: a3 :: a4 :: a5 :: a6 :: a7 :: a8 :: a9 :: a10 :: a11 :: a12 :: a13 :: a14 :: a15 :: a16 :: a17 :: a18 :: a19 :: a20 :: a21 :: a22 :: a23 :: a24 :: a25 :: a26 :: a27 :: a28 :: a29 :: a30 :: r)) (hf : pd_fit ty v) (k : pd_T G M d mc ms X R n lv st sz ce sl (va_up hp a (ob ci (a0 :: a1 :: a2 :: a3 :: a4 :: a5 :: a6 :: a7 :: a8 :: a9 :: a10 :: a11 :: a12 :: a13 :: a14 :: a15 :: a16 :: a17 :: a18 :: a19 :: a20 :: a21 :: a22 :: a23 :: a24 :: a25 :: a26 :: a27 :: a28 :: a29 :: v :: r)))) : pd_T G M d mc ms X R pc lv (v :: vr a :: st) sz ce sl hp := pt_put h hc (by simp) hf k
theorem pt_put31 {a ci : Nat} {ty : FieldType} {a0 a1 a2 a3 a4 a5 a6 a7 a8 a9 a10 a11 a12 a13 a14 a15 a16 a17 a18 a19 a20 a21 a22 a23 a24 a25 a26 a27 a28 a29 a30 a31 : pv} {r : List pv} {v : pv} (h : pd_pf M pc ci 31 ty n) (hc : hp a = ob ci (a0 :: a1 :: a2 :: a3 :: a4 :: a5 :: a6 :: a7 :: a8 :: a9 :: a10 :: a11 :: a12 :: a13 :: a14 :: a15 :: a16 :: a17 :: a18 :: a19 :: a20 :: a21 :: a22 :: a23 :: a24 :: a25 :: a26 :: a27 :: a28 :: a29 :: a30 :: a31 :: r)) (hf : pd_fit ty v) (k : pd_T G M d mc ms X R n lv st sz ce sl (va_up hp a (ob ci (a0 :: a1 :: a2 :: a3 :: a4 :: a5 :: a6 :: a7 :: a8 :: a9 :: a10 :: a11 :: a12 :: a13 :: a14 :: a15 :: a16 :: a17 :: a18 :: a19 :: a20 :: a21 :: a22 :: a23 :: a24 :: a25 :: a26 :: a27 :: a28 :: a29 :: a30 :: v :: r)))) : pd_T G M d mc ms X R pc lv (v :: vr a :: st) sz ce sl hp := pt_put h hc (by simp) hf k
theorem pt_iald {a N : Nat} {f : Int → Int} {z : Int} (h : pd_i M pc .iaload 1 n) (hc : hp a = ia N f) (h0 : 0 ≤ z) (hz : z < N) (hN : (N : Int) ≤ 2147483648) (k : pd_T G M d mc ms X R n lv (vi (f z) :: st) sz ce sl hp) : pd_T G M d mc ms X R pc lv (vi z :: vr a :: st) sz ce sl hp := by
  intro p e Rm s m args below meth c Q hx hq H locs ls hH hS hl
  obtain ⟨h1, rfl⟩ := h
  obtain ⟨k0, rfl, hk0⟩ := pd_lt hH (a := a) (by rw [hc]; intro q; cases q)
  have hw := pd_w_get (G := G) (hp := hp) hk0
  rw [hc] at hw
  have hcl := jI_cl h0 hz hN
  refine va_iald (ws := pd_w G sz hp) hx.1 hx.2.1 hx.2.2.2.2.2.1.1 hH.2.1 k0 0 hw rfl (jI_in h0 hz hN) h1 ?_
  have e0 : jI (f ((jI z).toNatClampNeg : Int)) = jI (f z) := by rw [hcl, Int.toNat_of_nonneg h0]
  rw [e0]
  exact k p e Rm s m args below meth c Q hx hq H locs ls hH hS hl
theorem pt_bald {a N : Nat} {f : Int → Int} {z : Int} (h : pd_i M pc .baload 1 n) (hc : hp a = ba N f) (h0 : 0 ≤ z) (hz : z < N) (hN : (N : Int) ≤ 2147483648) (k : pd_T G M d mc ms X R n lv (vi (f z) :: st) sz ce sl hp) : pd_T G M d mc ms X R pc lv (vi z :: vr a :: st) sz ce sl hp := by
  intro p e Rm s m args below meth c Q hx hq H locs ls hH hS hl
  obtain ⟨h1, rfl⟩ := h
  obtain ⟨k0, rfl, hk0⟩ := pd_lt hH (a := a) (by rw [hc]; intro q; cases q)
  have hw := pd_w_get (G := G) (hp := hp) hk0
  rw [hc] at hw
  have hcl := jI_cl h0 hz hN
  refine va_bald (ws := pd_w G sz hp) hx.1 hx.2.1 hx.2.2.2.2.2.1.1 hH.2.1 k0 1 hw rfl (jI_in h0 hz hN) h1 ?_
  have e0 : jI (f ((jI z).toNatClampNeg : Int)) = jI (f z) := by rw [hcl, Int.toNat_of_nonneg h0]
  rw [e0]
  exact k p e Rm s m args below meth c Q hx hq H locs ls hH hS hl
theorem pt_zald {a N : Nat} {f : Int → Int} {z : Int} (h : pd_i M pc .baload 1 n) (hc : hp a = za N f) (h0 : 0 ≤ z) (hz : z < N) (hN : (N : Int) ≤ 2147483648) (k : pd_T G M d mc ms X R n lv (vi (f z) :: st) sz ce sl hp) : pd_T G M d mc ms X R pc lv (vi z :: vr a :: st) sz ce sl hp := by
  intro p e Rm s m args below meth c Q hx hq H locs ls hH hS hl
  obtain ⟨h1, rfl⟩ := h
  obtain ⟨k0, rfl, hk0⟩ := pd_lt hH (a := a) (by rw [hc]; intro q; cases q)
  have hw := pd_w_get (G := G) (hp := hp) hk0
  rw [hc] at hw
  have hcl := jI_cl h0 hz hN
  refine va_zald (ws := pd_w G sz hp) hx.1 hx.2.1 hx.2.2.2.2.2.1.1 hH.2.1 k0 2 hw rfl (jI_in h0 hz hN) h1 ?_
  have e0 : jI (f ((jI z).toNatClampNeg : Int)) = jI (f z) := by rw [hcl, Int.toNat_of_nonneg h0]
  rw [e0]
  exact k p e Rm s m args below meth c Q hx hq H locs ls hH hS hl
theorem pt_iast {a N : Nat} {f : Int → Int} {z x : Int} (h : pd_i M pc .iastore 1 n) (hc : hp a = ia N f) (h0 : 0 ≤ z) (hz : z < N) (hN : (N : Int) ≤ 2147483648)  (k : pd_T G M d mc ms X R n lv st sz ce sl (va_up hp a (ia N (uI f z x)))) : pd_T G M d mc ms X R pc lv (vi x :: vi z :: vr a :: st) sz ce sl hp := by
  intro p e Rm s m args below meth c Q hx hq H locs ls hH hS hl
  obtain ⟨h1, rfl⟩ := h
  obtain ⟨k0, rfl, hk0⟩ := pd_lt hH (a := a) (by rw [hc]; intro q; cases q)
  have hw := pd_w_get (G := G) (hp := hp) hk0
  rw [hc] at hw
  have hcl := jI_cl h0 hz hN
  have hin := jI_in h0 hz hN
  refine W.iast hx.1 hx.2.1 (hH.2.1 k0 _ hw) ((hx.2.2.2.2.2.1.1.2 0 _ rfl).1 N (fun j => .int (jI (f j)))) (fun q => by cases q) (by show ¬ (jI z < 0 ∨ (arrV _ _ _).slots.size ≤ _); rw [arrV_size]; exact hin) rfl rfl h1 fun H1 e1 z1 oq => ?_
  refine k p e Rm s m args below meth c Q hx hq H1 _ ls (pd_H.set hH hk0 z1 (hH.2.1.set (pd_w_D G sz hp) hw ?_ oq)) (hS.put z1 oq (Nat.le_add_right _ _)) hl
  show H1[_]? = some (vp_cell _ _)
  rw [e1]
  rw [vp_cell_i, vp_cell_i, arrV_store]
  congr 2
  funext q
  by_cases hqz : q = (jI z).toNatClampNeg
  · subst hqz
    · simp [updV, uI, hcl, Int.toNat_of_nonneg h0]
  · have hq2 : ¬ (q : Int) = z := fun w => hqz (by rw [hcl]; omega)
    simp [updV, uI, hqz, hq2]
theorem pd_byte {x : Int} (h1 : -128 ≤ x) (h2 : x < 128) : (jI x).toInt8.toInt32 = jI x := by
  apply Int32.toInt_inj.mp
  rw [jI_toInt ⟨by omega, by omega⟩, Int8.toInt_toInt32, Int32.toInt_toInt8, jI_toInt ⟨by omega, by omega⟩]
  exact Int.bmod_eq_of_le (by omega) (by omega)
theorem pt_bast {a N : Nat} {f : Int → Int} {z x : Int} (h : pd_i M pc .bastore 1 n) (hc : hp a = ba N f) (h0 : 0 ≤ z) (hz : z < N) (hN : (N : Int) ≤ 2147483648) (hb : -128 ≤ x ∧ x < 128)  (k : pd_T G M d mc ms X R n lv st sz ce sl (va_up hp a (ba N (uI f z x)))) : pd_T G M d mc ms X R pc lv (vi x :: vi z :: vr a :: st) sz ce sl hp := by
  intro p e Rm s m args below meth c Q hx hq H locs ls hH hS hl
  obtain ⟨h1, rfl⟩ := h
  obtain ⟨k0, rfl, hk0⟩ := pd_lt hH (a := a) (by rw [hc]; intro q; cases q)
  have hw := pd_w_get (G := G) (hp := hp) hk0
  rw [hc] at hw
  have hcl := jI_cl h0 hz hN
  have hin := jI_in h0 hz hN
  refine W.bast hx.1 hx.2.1 (hH.2.1 k0 _ hw) ((hx.2.2.2.2.2.1.1.2 1 _ rfl).1 N (fun j => .int (jI (f j)))) (fun q => by cases q) (by show ¬ (jI z < 0 ∨ (arrV _ _ _).slots.size ≤ _); rw [arrV_size]; exact hin) rfl rfl h1 fun H1 e1 z1 oq => ?_
  refine k p e Rm s m args below meth c Q hx hq H1 _ ls (pd_H.set hH hk0 z1 (hH.2.1.set (pd_w_D G sz hp) hw ?_ oq)) (hS.put z1 oq (Nat.le_add_right _ _)) hl
  show H1[_]? = some (vp_cell _ _)
  rw [e1]
  rw [vp_cell_i, vp_cell_i, arrV_store]
  congr 2
  funext q
  by_cases hqz : q = (jI z).toNatClampNeg
  · subst hqz
    · have e9 : (jI x).toInt8.toInt32 = jI x := pd_byte hb.1 hb.2
      simp [updV, uI, hcl, Int.toNat_of_nonneg h0]
      exact congrArg Value.int e9
  · have hq2 : ¬ (q : Int) = z := fun w => hqz (by rw [hcl]; omega)
    simp [updV, uI, hqz, hq2]
theorem pt_zast {a N : Nat} {f : Int → Int} {z x : Int} (h : pd_i M pc .bastore 1 n) (hc : hp a = za N f) (h0 : 0 ≤ z) (hz : z < N) (hN : (N : Int) ≤ 2147483648) (hb : x = 0 ∨ x = 1)  (k : pd_T G M d mc ms X R n lv st sz ce sl (va_up hp a (za N (uI f z x)))) : pd_T G M d mc ms X R pc lv (vi x :: vi z :: vr a :: st) sz ce sl hp := by
  intro p e Rm s m args below meth c Q hx hq H locs ls hH hS hl
  obtain ⟨h1, rfl⟩ := h
  obtain ⟨k0, rfl, hk0⟩ := pd_lt hH (a := a) (by rw [hc]; intro q; cases q)
  have hw := pd_w_get (G := G) (hp := hp) hk0
  rw [hc] at hw
  have hcl := jI_cl h0 hz hN
  have hin := jI_in h0 hz hN
  refine W.zast hx.1 hx.2.1 (hH.2.1 k0 _ hw) ((hx.2.2.2.2.2.1.1.2 2 _ rfl).1 N (fun j => .int (jI (f j)))) (fun q => by cases q) (by show ¬ (jI z < 0 ∨ (arrV _ _ _).slots.size ≤ _); rw [arrV_size]; exact hin) rfl rfl h1 fun H1 e1 z1 oq => ?_
  refine k p e Rm s m args below meth c Q hx hq H1 _ ls (pd_H.set hH hk0 z1 (hH.2.1.set (pd_w_D G sz hp) hw ?_ oq)) (hS.put z1 oq (Nat.le_add_right _ _)) hl
  show H1[_]? = some (vp_cell _ _)
  rw [e1]
  rw [vp_cell_i, vp_cell_i, arrV_store]
  congr 2
  funext q
  by_cases hqz : q = (jI z).toNatClampNeg
  · subst hqz
    · simp [updV, uI, hcl, Int.toNat_of_nonneg h0]
      rcases hb with rfl | rfl <;> rfl
  · have hq2 : ¬ (q : Int) = z := fun w => hqz (by rw [hcl]; omega)
    simp [updV, uI, hqz, hq2]
theorem pt_alen {a kd N : Nat} {x : (Int → Int) ⊕ (Int → Option Nat)} {ty : FieldType} (h : pd_i M pc .arraylength 1 n) (hc : hp a = .inl (kd, N, x)) (hty : (pd_ty G)[kd]? = some (G.2.2.1 kd, ty)) (k : pd_T G M d mc ms X R n lv (vi N :: st) sz ce sl hp) : pd_T G M d mc ms X R pc lv (vr a :: st) sz ce sl hp := by
  intro p e Rm s m args below meth c Q hx hq H locs ls hH hS hl
  obtain ⟨h1, rfl⟩ := h
  obtain ⟨k0, rfl, hk0⟩ := pd_lt hH (a := a) (by rw [hc]; intro q; cases q)
  have hw := pd_w_get (G := G) (hp := hp) hk0
  rw [hc] at hw
  rcases x with f | f
  · exact va_alen (ws := pd_w G sz hp) hx.1 hx.2.1 hx.2.2.2.2.2.1.1 hH.2.1 k0 kd hw hty (v := jI N) Int32.ofInt_eq_ofNat.symm h1 (k p e Rm s m args below meth c Q hx hq H locs ls hH hS hl)
  · exact va_alen (ws := pd_w G sz hp) hx.1 hx.2.1 hx.2.2.2.2.2.1.1 hH.2.1 k0 kd hw hty (v := jI N) Int32.ofInt_eq_ofNat.symm h1 (k p e Rm s m args below meth c Q hx hq H locs ls hH hS hl)
theorem pt_aald {a kd N q : Nat} {C : String} {f : Int → Option Nat} {z : Int} (h : pd_i M pc .aaload 1 n) (hc : hp a = ra kd N f) (hty : (pd_ty G)[kd]? = some (G.2.2.1 kd, .object C)) (h0 : 0 ≤ z) (hz : z < N) (hN : (N : Int) ≤ 2147483648) (hv : f z = some q) (k : pd_T G M d mc ms X R n lv (vr q :: st) sz ce sl hp) : pd_T G M d mc ms X R pc lv (vi z :: vr a :: st) sz ce sl hp := by
  intro p e Rm s m args below meth c Q hx hq H locs ls hH hS hl
  obtain ⟨h1, rfl⟩ := h
  obtain ⟨k0, rfl, hk0⟩ := pd_lt hH (a := a) (by rw [hc]; intro q; cases q)
  have hw := pd_w_get (G := G) (hp := hp) hk0
  rw [hc] at hw
  have hcl := jI_cl h0 hz hN
  refine va_aldq (ws := pd_w G sz hp) hx.1 hx.2.1 hx.2.2.2.2.2.1.1 hH.2.1 k0 kd hw hty (jI_in h0 hz hN) h1 ?_
  have e0 : f ((jI z).toNatClampNeg : Int) = some q := by rw [hcl, Int.toNat_of_nonneg h0]; exact hv
  rw [e0]
  exact k p e Rm s m args below meth c Q hx hq H locs ls hH hS hl
theorem pt_sld {L : Nat} {xs : Nat → Int} {z : Int} (hX : X = some (L, xs)) (h : pd_i M pc .iaload 1 n) (h0 : 0 ≤ z) (hz : z < L) (hN : (L : Int) ≤ 2147483648) (k : pd_T G M d mc ms X R n lv (vi (xs z.toNat) :: st) sz ce sl hp) : pd_T G M d mc ms X R pc lv (vi z :: vr 0 :: st) sz ce sl hp := by
  intro p e Rm s m args below meth c Q hx hq H locs ls hH hS hl
  obtain ⟨h1, rfl⟩ := h
  have hX2 := hx.2.2.2.2.2.2.2.2.2
  rw [hX] at hX2
  have hcl := jI_cl h0 hz hN
  refine va_sld hx.1 hx.2.1 hX2.1 hX2.2.1 (Nat.not_le.mpr hX2.2.2) hS (jI_in h0 hz hN) h1 ?_
  rw [hcl]
  exact k p e Rm s m args below meth c Q hx hq H locs ls hH hS hl
theorem pt_slen {L : Nat} {xs : Nat → Int} (hX : X = some (L, xs)) (h : pd_i M pc .arraylength 1 n) (k : pd_T G M d mc ms X R n lv (vi L :: st) sz ce sl hp) : pd_T G M d mc ms X R pc lv (vr 0 :: st) sz ce sl hp := by
  intro p e Rm s m args below meth c Q hx hq H locs ls hH hS hl
  obtain ⟨h1, rfl⟩ := h
  have hX2 := hx.2.2.2.2.2.2.2.2.2
  rw [hX] at hX2
  refine va_slen hx.1 hx.2.1 hX2.1 hX2.2.1 (Nat.not_le.mpr hX2.2.2) hS h1 ?_
  rw [← Int32.ofInt_eq_ofNat]
  exact k p e Rm s m args below meth c Q hx hq H locs ls hH hS hl
end PDHEAP
end
section
/-! more rows: numbers, Math, arraycopy, references into rows -/
theorem jI_div {x y : Int} (hx : 0 ≤ x) (hx2 : x < 2147483648) (hy : 0 < y) (hy2 : y < 2147483648) : jI x / jI y = jI (x / y) := by
  apply Int32.toInt_inj.mp
  have h1 : 0 ≤ x / y := Int.ediv_nonneg hx (by omega)
  have h2 : x / y ≤ x := Int.ediv_le_self y hx
  have hne : jI y ≠ -1 := by
    intro h
    have h3 : jI y = jI (-1) := h
    rw [jI_eq ⟨by omega, by omega⟩ ⟨by omega, by omega⟩] at h3
    omega
  rw [Int32.toInt_div_of_ne_right _ _ hne, jI_toInt ⟨by omega, by omega⟩, jI_toInt ⟨by omega, by omega⟩, jI_toInt ⟨by omega, by omega⟩, Int.tdiv_eq_ediv_of_nonneg hx]
theorem jI_ne0 {y : Int} (hy : 0 < y) (hy2 : y < 2147483648) : ¬ jI y = 0 := by
  intro h
  have h3 : jI y = jI 0 := h
  rw [jI_eq ⟨by omega, by omega⟩ jR_0] at h3
  omega
theorem jI_rem {x y : Int} (hx : 0 ≤ x) (hx2 : x < 2147483648) (hy : 0 < y) (hy2 : y < 2147483648) : jI x - jI x / jI y * jI y = jI (x % y) := by
  rw [jI_div hx hx2 hy hy2, jI_mul, jI_sub]
  congr 1
  have h1 := Int.emod_add_mul_ediv x y
  have h2 : x / y * y = y * (x / y) := Int.mul_comm _ _
  omega
theorem jI_and_mask (x : Int) (k : Nat) (hk : k ≤ 30) {m : Int} (hm : m = 2 ^ k - 1) : jI x &&& jI m = jI (x % 2 ^ k) := by
  have hp : (0 : Int) < 2 ^ k := Int.pow_pos (by decide)
  have hle : (2 : Int) ^ k ≤ 2 ^ 30 := by
    have := Nat.pow_le_pow_right (show 0 < 2 by decide) hk
    exact_mod_cast this
  have e1 : jI x &&& jI m = nI ((jI x).toBitVec.toNat % 2 ^ k) := by
    refine pk_and (jI x) k ?_
    subst hm
    have h1 : ((2 : Int) ^ k - 1) = (((2 ^ k - 1 : Nat)) : Int) := by
      have h9 : 1 ≤ 2 ^ k := Nat.one_le_two_pow
      rw [Int.natCast_sub h9]
      simp
    show (Int32.ofInt _).toBitVec.toNat = _
    rw [h1, Int32.ofInt_eq_ofNat]
    refine pk_tn ?_
    have : 2 ^ k ≤ 2 ^ 30 := Nat.pow_le_pow_right (by decide) hk
    omega
  rw [e1]
  show Int32.ofNat _ = Int32.ofInt _
  rw [← Int32.ofInt_eq_ofNat]
  congr 1
  have h2 : (((jI x).toBitVec.toNat : Nat) : Int) = x % 2 ^ 32 := by
    show (((BitVec.ofInt 32 x).toNat : Nat) : Int) = _
    rw [BitVec.toNat_ofInt]
    have : (0 : Int) ≤ x % (2 ^ 32 : Nat) := Int.emod_nonneg _ (by decide)
    omega
  rw [Int.natCast_emod, h2]
  have h3 : ((2 ^ k : Nat) : Int) = 2 ^ k := by simp
  rw [h3, Int.emod_emod_of_dvd]
  have hd : (2 ^ k : Nat) ∣ 2 ^ 32 := Nat.pow_dvd_pow 2 (by omega)
  have := Int.natCast_dvd_natCast.mpr hd
  simpa using this
theorem jI_min (x y : Int) (hx : jR x) (hy : jR y) : (if jI y < jI x then jI y else jI x) = jI (min x y) := by
  by_cases h : y < x
  · rw [if_pos ((jI_lt hy hx).mpr h), Int.min_eq_right (by omega)]
  · rw [if_neg (fun q => h ((jI_lt hy hx).mp q)), Int.min_eq_left (by omega)]
theorem jI_max (x y : Int) (hx : jR x) (hy : jR y) : (if jI x < jI y then jI y else jI x) = jI (max x y) := by
  by_cases h : x < y
  · rw [if_pos ((jI_lt hx hy).mpr h), Int.max_eq_right (by omega)]
  · rw [if_neg (fun q => h ((jI_lt hx hy).mp q)), Int.max_eq_left (by omega)]
theorem jI_i2b {x : Int} (hx : 0 ≤ x) (hx2 : x < 256) : (jI x).toInt8.toInt32 = jI (if x < 128 then x else x - 256) := by
  apply Int32.toInt_inj.mp
  rw [Int8.toInt_toInt32, Int32.toInt_toInt8, jI_toInt ⟨by omega, by omega⟩]
  by_cases h : x < 128
  · rw [if_pos h, jI_toInt ⟨by omega, by omega⟩]
    exact Int.bmod_eq_of_le (by omega) (by omega)
  · rw [if_neg h, jI_toInt ⟨by omega, by omega⟩]
    simp only [Int.bmod]
    omega
theorem pd_words (G : pd_G) : ∀ st : List pv, ((st.map (pd_up G)).map fun v => v.category).sum ≤ 2 * st.length
  | [] => by simp
  | v :: st => by
    have ih := pd_words G st
    have hc := lv_cat (pd_up G v)
    simp only [List.map_cons, List.sum_cons, List.length_cons]
    omega
section PDMORE
variable {G : pd_G} {M : pd_M} {d mc ms : Nat} {X : Option (Nat × (Nat → Int))} {R : pd_R} {pc n t : Nat} {lv : List (Option pv)} {st : List pv} {sz ce sl : Nat} {hp : pd_P}
theorem pt_idiv {x y : Int} (h : pd_i M pc .idiv 1 n) (h1 : 0 ≤ x) (h2 : x < 2147483648) (h3 : 0 < y) (h4 : y < 2147483648) (k : pd_T G M d mc ms X R n lv (vi (x / y) :: st) sz ce sl hp) : pd_T G M d mc ms X R pc lv (vi y :: vi x :: st) sz ce sl hp := by
  intro p e Rm s m args below meth c Q hx hq H locs ls hH hS hl
  obtain ⟨g1, rfl⟩ := h
  refine lv_idiv hx.1 hx.2.1 g1 (jI_ne0 h3 h4) ?_
  rw [jI_div h1 h2 h3 h4]
  exact k p e Rm s m args below meth c Q hx hq H locs ls hH hS hl
theorem pt_irem {x y : Int} (h : pd_i M pc .irem 1 n) (h1 : 0 ≤ x) (h2 : x < 2147483648) (h3 : 0 < y) (h4 : y < 2147483648) (k : pd_T G M d mc ms X R n lv (vi (x % y) :: st) sz ce sl hp) : pd_T G M d mc ms X R pc lv (vi y :: vi x :: st) sz ce sl hp := by
  intro p e Rm s m args below meth c Q hx hq H locs ls hH hS hl
  obtain ⟨g1, rfl⟩ := h
  refine lv_irem hx.1 hx.2.1 g1 (jI_ne0 h3 h4) ?_
  rw [jI_rem h1 h2 h3 h4]
  exact k p e Rm s m args below meth c Q hx hq H locs ls hH hS hl
theorem pt_iand {x m0 : Int} (kb : Nat) (h : pd_i M pc .iand 1 n) (hk : kb ≤ 30) (hm : m0 = 2 ^ kb - 1) (k : pd_T G M d mc ms X R n lv (vi (x % 2 ^ kb) :: st) sz ce sl hp) : pd_T G M d mc ms X R pc lv (vi m0 :: vi x :: st) sz ce sl hp := by
  intro p e Rm s m args below meth c Q hx hq H locs ls hH hS hl
  obtain ⟨g1, rfl⟩ := h
  refine lv_iand hx.1 hx.2.1 g1 ?_
  rw [jI_and_mask x kb hk hm]
  exact k p e Rm s m args below meth c Q hx hq H locs ls hH hS hl
theorem pt_i2b {x : Int} (h : pd_i M pc .i2b 1 n) (h1 : 0 ≤ x) (h2 : x < 256) (k : pd_T G M d mc ms X R n lv (vi (if x < 128 then x else x - 256) :: st) sz ce sl hp) : pd_T G M d mc ms X R pc lv (vi x :: st) sz ce sl hp := by
  intro p e Rm s m args below meth c Q hx hq H locs ls hH hS hl
  obtain ⟨g1, rfl⟩ := h
  exact lv_i2b hx.1 hx.2.1 g1 (jI_i2b h1 h2) (k p e Rm s m args below meth c Q hx hq H locs ls hH hS hl)
theorem pt_ior {x y z : Int} (h : pd_i M pc .ior 1 n) (he : jI x ||| jI y = jI z) (k : pd_T G M d mc ms X R n lv (vi z :: st) sz ce sl hp) : pd_T G M d mc ms X R pc lv (vi y :: vi x :: st) sz ce sl hp := by
  intro p e Rm s m args below meth c Q hx hq H locs ls hH hS hl
  obtain ⟨g1, rfl⟩ := h
  refine lv_ior hx.1 hx.2.1 g1 ?_
  rw [he]
  exact k p e Rm s m args below meth c Q hx hq H locs ls hH hS hl
theorem pt_ishl {x y z : Int} (h : pd_i M pc .ishl 1 n) (he : jI x <<< (jI y &&& 31) = jI z) (k : pd_T G M d mc ms X R n lv (vi z :: st) sz ce sl hp) : pd_T G M d mc ms X R pc lv (vi y :: vi x :: st) sz ce sl hp := by
  intro p e Rm s m args below meth c Q hx hq H locs ls hH hS hl
  obtain ⟨g1, rfl⟩ := h
  refine lv_ishl hx.1 hx.2.1 g1 ?_
  rw [he]
  exact k p e Rm s m args below meth c Q hx hq H locs ls hH hS hl
theorem pt_ishr {x y z : Int} (h : pd_i M pc .ishr 1 n) (he : jI x >>> (jI y &&& 31) = jI z) (k : pd_T G M d mc ms X R n lv (vi z :: st) sz ce sl hp) : pd_T G M d mc ms X R pc lv (vi y :: vi x :: st) sz ce sl hp := by
  intro p e Rm s m args below meth c Q hx hq H locs ls hH hS hl
  obtain ⟨g1, rfl⟩ := h
  refine lv_ishr hx.1 hx.2.1 g1 ?_
  rw [he]
  exact k p e Rm s m args below meth c Q hx hq H locs ls hH hS hl
theorem pt_lcmp {x y : Int} (h : pd_i M pc .lcmp 1 n) (he : x = y) (k : pd_T G M d mc ms X R n lv (vi 0 :: st) sz ce sl hp) : pd_T G M d mc ms X R pc lv (vl y :: vl x :: st) sz ce sl hp := by
  intro p e Rm s m args below meth c Q hx hq H locs ls hH hS hl
  obtain ⟨g1, rfl⟩ := h
  refine W.lcmp hx.1 hx.2.1 g1 ?_
  have e0 : lg_cmp (jL x) (jL y) = jI 0 := by
    subst he
    unfold lg_cmp
    rw [if_neg (by simp [Int64.lt_irrefl]), if_pos rfl]
    rfl
  rw [e0]
  exact k p e Rm s m args below meth c Q hx hq H locs ls hH hS hl
theorem mth_min : Cond.static Lib.Math.min.name ∈ pd_tbl ∧ Cond.code Lib.Math.min.name Lib.Math.min.code 2 (some .int) ∈ pd_tbl ∧ Cond.initialized "java/lang/Math" ∈ pd_tbl := ⟨pd_m 395 (by decide +kernel) (by decide +kernel), pd_m 396 (by decide +kernel) (by decide +kernel), pd_m 59 (by decide +kernel) (by decide +kernel)⟩
def pd_min (M : pd_M) (pc n : Nat) : Prop := ∃ idx, pd_i M pc (.invokestatic idx) 3 n ∧ Cond.methodLink M.1.cls idx Lib.Math.min.name ∈ pd_tbl
theorem pt_min {x y : Int} (h : pd_min M pc n) (h1 : jR x) (h2 : jR y) (hd : 1 ≤ d) (hr : st.length ≤ 8) (hce : ce ≤ mc) (hsl : sl ≤ ms) (k : pd_T G M d mc ms X R n lv (vi (min x y) :: st) sz ce sl hp) : pd_T G M d mc ms X R pc lv (vi y :: vi x :: st) sz ce sl hp := by
  intro p e Rm s m args below meth c Q hx hq H locs ls hH hS hl
  obtain ⟨idx, ⟨g1, rfl⟩, g2⟩ := h
  have hts := hx.2.2.2.2.1
  obtain ⟨r1, r2, r3, r4⟩ := hx.2.2.2.2.2.2.1
  have hcat := pd_words G st
  refine va_mmin hx.1 hx.2.1 (hx.2.2.1.trans hl.1.symm) hx.2.2.2.1 (hts _ g2) (hts _ mth_min.1) (hts _ mth_min.2.2) (hts _ mth_min.2.1) (by omega) (by omega) (by omega) (by omega) g1 ?_
  rw [jI_min x y h1 h2]
  exact k p e Rm s m args below meth c Q hx hq H locs ls hH hS hl
theorem mth_max : Cond.static Lib.Math.max.name ∈ pd_tbl ∧ Cond.code Lib.Math.max.name Lib.Math.max.code 2 (some .int) ∈ pd_tbl ∧ Cond.initialized "java/lang/Math" ∈ pd_tbl := ⟨pd_m 436 (by decide +kernel) (by decide +kernel), pd_m 437 (by decide +kernel) (by decide +kernel), pd_m 59 (by decide +kernel) (by decide +kernel)⟩
def pd_max (M : pd_M) (pc n : Nat) : Prop := ∃ idx, pd_i M pc (.invokestatic idx) 3 n ∧ Cond.methodLink M.1.cls idx Lib.Math.max.name ∈ pd_tbl
theorem pt_max {x y : Int} (h : pd_max M pc n) (h1 : jR x) (h2 : jR y) (hd : 1 ≤ d) (hr : st.length ≤ 8) (hce : ce ≤ mc) (hsl : sl ≤ ms) (k : pd_T G M d mc ms X R n lv (vi (max x y) :: st) sz ce sl hp) : pd_T G M d mc ms X R pc lv (vi y :: vi x :: st) sz ce sl hp := by
  intro p e Rm s m args below meth c Q hx hq H locs ls hH hS hl
  obtain ⟨idx, ⟨g1, rfl⟩, g2⟩ := h
  have hts := hx.2.2.2.2.1
  obtain ⟨r1, r2, r3, r4⟩ := hx.2.2.2.2.2.2.1
  have hcat := pd_words G st
  refine va_mmax hx.1 hx.2.1 (hx.2.2.1.trans hl.1.symm) hx.2.2.2.1 (hts _ g2) (hts _ mth_max.1) (hts _ mth_max.2.2) (hts _ mth_max.2.1) (by omega) (by omega) (by omega) (by omega) g1 ?_
  rw [jI_max x y h1 h2]
  exact k p e Rm s m args below meth c Q hx hq H locs ls hH hS hl
end PDMORE
end
section
/-! calls -/
theorem pd_goodin {N : pd_M} {ar : Nat} (h : pd_ok N ar) : GoodIn pd_tbl (pd_ws N) := by
  intro w hw
  have key : ∀ w ∈ pd_tbl, w ∈ pd_tbl ∧ ((w.onTables && w.keeps) = true ∨ ∃ ty, w = .arrayClass ty) := fun w hw => ⟨hw, good_of_word (List.mem_filter.mp hw).2⟩
  rcases List.mem_cons.mp hw with rfl | hw
  · exact key _ h.1
  · exact key w hw
theorem pd_blind (G : pd_G) (sz : Nat) (hp : pd_P) (av : List Value) : FrameBlind (va_Pc av (pd_Pc G sz hp)) := fun a U g mk h => ⟨h.1, h.2.1, h.2.2.same rfl⟩
theorem pd_len {N : pd_M} {ar : Nat} (h : pd_ok N ar) (sig : MethodDescriptor) (hs : parseMethodDescriptor N.1.desc = some sig) : ar = sig.parameters.length := by
  have h2 := h.2.2.2.2.2.1
  rw [hs] at h2
  exact (Option.some.inj h2).symm
section PDCALL
variable {p : Program} {l : Launch} {e : Env} {Rm : Room} {s : State} {m : MethodId} {args : Array Value} {below : List Frame} {meth : Method} {c : Code} {H : Heap} {locs : List Loc} {cells slots mc1 ms1 : Nat} {Q : State → Prop} {G : pd_G} {pc : Nat} {ls : Array Slot} {rest st0 : List Value} {a : Array Value} {Rc : pd_R}
theorem pd_call (hr : va_Run p l e Rm s m args below meth c H locs cells slots mc1 ms1 (F0 m pc ls st0) rest (pd_Qc G Rc a) (pd_A G)) (hS : va_S (pd_A G) s.heap H locs)
    (kk : ∀ (v : Option pv) (sz' : Nat) (hp' : pd_P) (H1 : Heap) (locs1 : List Loc), Rc v sz' hp' → pd_H G sz' hp' H1 → va_S (pd_A G) s.heap H1 locs1 → W p l e Rm s m args below meth c H1 locs1 (cells + mc1) (slots + ms1) Q (F0 m (pc + 3) ls ((v.map (pd_up G)).toList ++ rest))) : W p l e Rm s m args below meth c H locs cells slots Q (F0 m pc ls st0) := by
  intro T hT X
  obtain ⟨v, st₀, t, T', L, h0, X', hL, e1, e2, ⟨⟨v', sz', hp', hv, hR, hH'⟩, hz, hk⟩, st⟩ := hr T hT X
  cases hv
  rw [h0] at hz hk
  obtain ⟨t2, a1, b1⟩ := kk v' sz' hp' T'.heap (locs ++ L) hR (by rw [e1]; exact hH')
    ⟨Nat.le_trans hS.1 (by rw [e1]; exact hz), fun q h1 h2 => by rw [e1, hk q (Nat.lt_of_lt_of_le h1 hS.1) h2]; exact hS.2.1 q h1 h2, fun q hq => by
      rcases List.mem_append.mp hq with h | h
      · exact hS.2.2 q h
      · exact hL q h⟩ T' rfl X'
  exact ⟨t2, st t2 a1, b1⟩
end PDCALL
def pd_kv (M : pd_M) (pc : Nat) (N : pd_M) (ar n : Nat) : Prop := ∃ idx, pd_i M pc (.invokevirtual idx) 3 n ∧ Cond.methodLink M.1.cls idx N.1 ∈ pd_tbl ∧ Cond.instanceMethod N.1 ∈ pd_tbl ∧ Cond.selects N.1.cls N.1 N.1 ∈ pd_tbl ∧ pd_ok N ar
/-- a virtual call of N0 on an object of N's class, which has N in its place -/
def pd_ku (M : pd_M) (pc : Nat) (N0 N : pd_M) (ar n : Nat) : Prop := ∃ idx, pd_i M pc (.invokevirtual idx) 3 n ∧ Cond.methodLink M.1.cls idx N0.1 ∈ pd_tbl ∧ Cond.sameMethod N0.1.cls N0.1.cls N0.1.name N0.1.desc ∈ pd_tbl ∧ Cond.instanceMethod N0.1 ∈ pd_tbl ∧ Cond.selects N.1.cls N0.1 N.1 ∈ pd_tbl ∧ Cond.instanceMethod N.1 ∈ pd_tbl ∧ pd_ok N0 ar ∧ pd_ok N ar ∧ N0.1.desc = N.1.desc
def pd_ks (M : pd_M) (pc : Nat) (N : pd_M) (ar n : Nat) : Prop := ∃ idx, pd_i M pc (.invokestatic idx) 3 n ∧ (Cond.methodLink M.1.cls idx N.1 ∈ pd_tbl ∨ ∃ host, (M.1.cls, idx, N.1, host) ∈ pd_nest) ∧ Cond.static N.1 ∈ pd_tbl ∧ pd_ok N ar
def pd_kI (M : pd_M) (pc : Nat) (N : pd_M) (ar n : Nat) : Prop := ∃ idx, pd_i M pc (.invokespecial idx) 3 n ∧ (Cond.methodLink M.1.cls idx N.1 ∈ pd_tbl ∨ ∃ host, (M.1.cls, idx, N.1, host) ∈ pd_nest) ∧ Cond.instanceMethod N.1 ∈ pd_tbl ∧ N.1.name = "<init>" ∧ N.2.2.2 = none ∧ pd_ok N ar
/-- a call of the method of the class above -/
def pd_kU (M : pd_M) (pc : Nat) (N : pd_M) (ar n : Nat) : Prop := ∃ idx, pd_i M pc (.invokespecial idx) 3 n ∧ Cond.methodLink M.1.cls idx N.1 ∈ pd_tbl ∧ Cond.sameMethod N.1.cls N.1.cls N.1.name N.1.desc ∈ pd_tbl ∧ Cond.superclass M.1.cls N.1.cls ∈ pd_tbl ∧ Cond.instanceMethod N.1 ∈ pd_tbl ∧ N.1.name ≠ "<init>" ∧ pd_ok N ar
def pd_cn (ci : Nat) : Option String := (pd_cl[ci]?).map (fun q => q.1)
section PDK
variable {G : pd_G} {M : pd_M} {d mc ms : Nat} {X : Option (Nat × (Nat → Int))} {R : pd_R} {pc n t : Nat} {lv : List (Option pv)} {st : List pv} {sz ce sl : Nat} {hp : pd_P} {N : pd_M} {d1 mc1 ms1 : Nat} {Rc : pd_R} {As rest : List pv}
theorem pd_back (G : pd_G) {p : Program} {Rm : Room} {s : State} {m : MethodId} {args : Array Value} {meth : Method} {c : Code} (hx : pd_cx G M d mc ms X p Rm s m args meth c) {ar : Nat} (hok : pd_ok N ar) (hd : d1 + 1 ≤ d) :
    (pd_rm d1 mc1 ms1).cells = mc1 ∧ (pd_rm d1 mc1 ms1).slots = ms1 ∧ (pd_rm d1 mc1 ms1).frames + 1 ≤ Rm.frames ∧ 8 + (N.2.2.1 + 11) + (pd_rm d1 mc1 ms1).locals ≤ Rm.locals ∧ (∀ w ∈ pd_ws N, ∀ (a' : Array Value) (U : State), s.WarmedH U.vm → w.before a' U = true) ∧ Cond.code N.1 N.2.1 N.2.2.1 N.2.2.2 ∈ pd_ws N := by
  obtain ⟨r1, r2, r3, r4⟩ := hx.2.2.2.2.2.2.1
  have h45 := hok.2.2.2.2.2.2
  refine ⟨rfl, rfl, by show d1 + 1 ≤ _; omega, by show 8 + (N.2.2.1 + 11) + 64 * d1 ≤ _; omega, pay_in hx.2.2.2.2.1 (pd_goodin hok), List.mem_cons_self⟩
theorem pd_pre (G : pd_G) {s : State} {H : Heap} (hK : pd_K G s) (hH : pd_H G sz hp H) (av : List pv) (U : State) (hU : U.heap = H) (hW : s.WarmedH U.vm) : va_Pc (av.map (pd_up G)) (pd_Pc G sz hp) (av.map (pd_up G)).toArray U := ⟨rfl, by rw [hU]; exact hH, hK.warm hW⟩
theorem pt_kv {a ci : Nat} {fs : List pv} (h : pd_kv M pc N As.length n) (hcon : pd_C G N d1 mc1 ms1 (vr a :: As) sz hp Rc) (hob : hp a = ob ci fs) (hcl : pd_cn ci = some N.1.cls) (hst : st = As.reverse ++ vr a :: rest) (hr : rest.length ≤ 4) (hd : d1 + 1 ≤ d) (hce : ce + mc1 ≤ mc) (hsl : sl + ms1 ≤ ms) (k : ∀ (v : Option pv) (sz' : Nat) (hp' : pd_P), Rc v sz' hp' → pd_T G M d mc ms X R n lv (v.toList ++ rest) sz' (ce + mc1) (sl + ms1) hp') : pd_T G M d mc ms X R pc lv st sz ce sl hp := by
  intro p e Rm s m args below meth c Q hx hq H locs ls hH hS hl
  have hts := hx.2.2.2.2.1
  have hcat := pd_words G rest
  obtain ⟨r1, r2, r3, r4⟩ := hx.2.2.2.2.2.2.1
  obtain ⟨idx, ⟨g1, rfl⟩, g2, g3, g4, g5⟩ := h
  have hne : ci ≠ 99 := by rintro rfl; simp [pd_cn] at hcl
  obtain ⟨k0, rfl, hk0⟩ := pd_lt hH (a := a) (by rw [hob]; intro q; exact hne (congrArg Prod.fst (Sum.inr.inj q)))
  have hw := pd_w_get (G := G) (hp := hp) hk0
  rw [hob] at hw
  obtain ⟨q, hq1, hq2⟩ : ∃ q : vw_C, pd_cl[ci]? = some q ∧ q.1 = N.1.cls := by
    unfold pd_cn at hcl
    cases hz : pd_cl[ci]? with
    | none => rw [hz] at hcl; cases hcl
    | some q => rw [hz] at hcl; exact ⟨q, rfl, Option.some.inj hcl⟩
  have hrec := va_recv (q0 := k0) hx.2.2.2.2.2.1.1 hH.2.1 hq1 hw
  rw [hq2] at hrec
  have hb := pd_back (d1 := d1) (mc1 := mc1) (ms1 := ms1) G hx g5 hd
  have hrun : va_Run p G.1 e Rm s m args below meth c H locs ce sl mc1 ms1 (F0 m pc ls (st.map (pd_up G))) (rest.map (pd_up G)) (pd_Qc G Rc ((vr (k0 + 1) :: As).map (pd_up G)).toArray) (pd_A G) := va_runV (g := F0 m pc ls (st.map (pd_up G))) (b := pd_ad G (k0 + 1)) (As := As.map (pd_up G)) (rest := rest.map (pd_up G)) ⟨hx.1, hx.2.1, hx.2.2.1, hx.2.2.2.1, hts⟩ hcon
    (show CallW Rm s args M.1.cls N.1.cls idx N.1 N.2.1 N.2.2.1 N.2.2.2 (pd_ws N) (pd_rm d1 mc1 ms1) mc1 ms1 As.length from ⟨⟨hb.1, hb.2.1, hb.2.2.1, hb.2.2.2.1, hb.2.2.2.2.1, hb.2.2.2.2.2, hts _ g5.1, hts _ g5.2.1, ⟨g5.2.2.2.1, g5.2.2.2.2.1⟩, pd_len g5, hts _ g2⟩, hts _ g3, hts _ g4⟩)
    ⟨pd_blind G sz hp _, hrec, fun U hU hW => pd_pre G hx.2.2.2.2.2.1 hH (vr (k0 + 1) :: As) U hU hW⟩ rfl (by simp) hl.1 (by
    rw [show (F0 m pc ls (st.map (pd_up G))).stack = st.map (pd_up G) from rfl, hst]; simp [pd_up, va_rf, pd_ad]) (lv_room (by omega)) g1 ⟨by omega, by omega⟩
  refine pd_call hrun hS ?_
  intro v sz' hp' H1 locs1 hR hH1 hS1
  have := k v sz' hp' hR p e Rm s m args below meth c Q hx hq H1 locs1 ls hH1 hS1 hl
  rw [List.map_append] at this
  cases v <;> exact this
theorem pt_ku {N0 : pd_M} {a ci : Nat} {fs : List pv} (h : pd_ku M pc N0 N As.length n) (hcon : pd_C G N d1 mc1 ms1 (vr a :: As) sz hp Rc) (hob : hp a = ob ci fs) (hcl : pd_cn ci = some N.1.cls) (hst : st = As.reverse ++ vr a :: rest) (hr : rest.length ≤ 4) (hd : d1 + 1 ≤ d) (hce : ce + mc1 ≤ mc) (hsl : sl + ms1 ≤ ms) (k : ∀ (v : Option pv) (sz' : Nat) (hp' : pd_P), Rc v sz' hp' → pd_T G M d mc ms X R n lv (v.toList ++ rest) sz' (ce + mc1) (sl + ms1) hp') : pd_T G M d mc ms X R pc lv st sz ce sl hp := by
  intro p e Rm s m args below meth c Q hx hq H locs ls hH hS hl
  have hts := hx.2.2.2.2.1
  have hcat := pd_words G rest
  obtain ⟨r1, r2, r3, r4⟩ := hx.2.2.2.2.2.2.1
  obtain ⟨idx, ⟨g1, rfl⟩, g2, g3, g4, g6, g7, g0, g5, g8⟩ := h
  have hne : ci ≠ 99 := by rintro rfl; simp [pd_cn] at hcl
  obtain ⟨k0, rfl, hk0⟩ := pd_lt hH (a := a) (by rw [hob]; intro q; exact hne (congrArg Prod.fst (Sum.inr.inj q)))
  have hw := pd_w_get (G := G) (hp := hp) hk0
  rw [hob] at hw
  obtain ⟨q, hq1, hq2⟩ : ∃ q : vw_C, pd_cl[ci]? = some q ∧ q.1 = N.1.cls := by
    unfold pd_cn at hcl
    cases hz : pd_cl[ci]? with
    | none => rw [hz] at hcl; cases hcl
    | some q => rw [hz] at hcl; exact ⟨q, rfl, Option.some.inj hcl⟩
  have hrec := va_recv (q0 := k0) hx.2.2.2.2.2.1.1 hH.2.1 hq1 hw
  rw [hq2] at hrec
  have hb := pd_back (d1 := d1) (mc1 := mc1) (ms1 := ms1) G hx g5 hd
  have hrun : va_Run p G.1 e Rm s m args below meth c H locs ce sl mc1 ms1 (F0 m pc ls (st.map (pd_up G))) (rest.map (pd_up G)) (pd_Qc G Rc ((vr (k0 + 1) :: As).map (pd_up G)).toArray) (pd_A G) := va_runU (g := F0 m pc ls (st.map (pd_up G))) (b := pd_ad G (k0 + 1)) (As := As.map (pd_up G)) (rest := rest.map (pd_up G)) ⟨hx.1, hx.2.1, hx.2.2.1, hx.2.2.2.1, hts⟩ hcon
    (show va_CU Rm s args M.1.cls N.1.cls N0.1.cls idx N0.1 N.1 N.2.1 N.2.2.1 N.2.2.2 (pd_ws N) (pd_rm d1 mc1 ms1) mc1 ms1 As.length from ⟨hb, hts _ g5.1, hts _ g5.2.1, ⟨g0.2.2.2.1, g0.2.2.2.2.1⟩, pd_len g0, hts _ g2, hts _ g3, va_Decl.of (hts _ g4) (hts _ g0.1), hts _ g6, hts _ g7⟩)
    ⟨pd_blind G sz hp _, hrec, fun U hU hW => pd_pre G hx.2.2.2.2.2.1 hH (vr (k0 + 1) :: As) U hU hW⟩ rfl (by simp) hl.1 (by
    rw [show (F0 m pc ls (st.map (pd_up G))).stack = st.map (pd_up G) from rfl, hst]; simp [pd_up, va_rf, pd_ad]) (lv_room (by omega)) g1 ⟨by omega, by omega⟩
  refine pd_call hrun hS ?_
  intro v sz' hp' H1 locs1 hR hH1 hS1
  have := k v sz' hp' hR p e Rm s m args below meth c Q hx hq H1 locs1 ls hH1 hS1 hl
  rw [List.map_append] at this
  cases v <;> exact this
theorem pt_ks (h : pd_ks M pc N As.length n) (hcon : pd_C G N d1 mc1 ms1 As sz hp Rc) (hst : st = As.reverse ++ rest) (hr : rest.length ≤ 4) (hd : d1 + 1 ≤ d) (hce : ce + mc1 ≤ mc) (hsl : sl + ms1 ≤ ms) (k : ∀ (v : Option pv) (sz' : Nat) (hp' : pd_P), Rc v sz' hp' → pd_T G M d mc ms X R n lv (v.toList ++ rest) sz' (ce + mc1) (sl + ms1) hp') : pd_T G M d mc ms X R pc lv st sz ce sl hp := by
  intro p e Rm s m args below meth c Q hx hq H locs ls hH hS hl
  have hts := hx.2.2.2.2.1
  have hcat := pd_words G rest
  obtain ⟨r1, r2, r3, r4⟩ := hx.2.2.2.2.2.2.1
  obtain ⟨idx, ⟨g1, rfl⟩, g2, g3, g5⟩ := h
  have hb := pd_back (d1 := d1) (mc1 := mc1) (ms1 := ms1) G hx g5 hd
  have hrun : va_Run p G.1 e Rm s m args below meth c H locs ce sl mc1 ms1 (F0 m pc ls (st.map (pd_up G))) (rest.map (pd_up G)) (pd_Qc G Rc (As.map (pd_up G)).toArray) (pd_A G) := by
    rcases g2 with g2 | ⟨host, g2⟩
    · exact va_runS (g := F0 m pc ls (st.map (pd_up G))) (As := As.map (pd_up G)) (rest := rest.map (pd_up G)) ⟨hx.1, hx.2.1, hx.2.2.1, hx.2.2.2.1, hts⟩ hcon
        (show CallB Rm s args M.1.cls idx N.1 N.2.1 N.2.2.1 N.2.2.2 (pd_ws N) (pd_rm d1 mc1 ms1) mc1 ms1 As.length ∧ (Cond.static N.1).before args s = true from ⟨⟨hb.1, hb.2.1, hb.2.2.1, hb.2.2.2.1, hb.2.2.2.2.1, hb.2.2.2.2.2, hts _ g5.1, hts _ g5.2.1, ⟨g5.2.2.2.1, g5.2.2.2.2.1⟩, pd_len g5, hts _ g2⟩, hts _ g3⟩)
        ⟨pd_blind G sz hp _, fun U hU hW => pd_pre G hx.2.2.2.2.2.1 hH As U hU hW⟩ rfl (by simp) hl.1 (by
        rw [show (F0 m pc ls (st.map (pd_up G))).stack = st.map (pd_up G) from rfl, hst]; simp) (lv_room (by omega)) g1 ⟨by omega, by omega⟩
    · exact va_runSN (g := F0 m pc ls (st.map (pd_up G))) (As := As.map (pd_up G)) (rest := rest.map (pd_up G)) ⟨hx.1, hx.2.1, hx.2.2.1, hx.2.2.2.1, hts⟩ hcon
        (show va_CN Rm s args M.1.cls idx N.1 host N.2.1 N.2.2.1 N.2.2.2 (pd_ws N) (pd_rm d1 mc1 ms1) mc1 ms1 As.length ∧ (Cond.static N.1).before args s = true ∧ True from ⟨⟨hb, hts _ g5.1, hts _ g5.2.1, ⟨g5.2.2.2.1, g5.2.2.2.2.1⟩, pd_len g5, va_Nw.use rfl (hx.2.2.2.2.2.1.2.1 _ g2)⟩, hts _ g3, trivial⟩)
        ⟨pd_blind G sz hp _, fun U hU hW => pd_pre G hx.2.2.2.2.2.1 hH As U hU hW⟩ rfl (by simp) hl.1 (by
        rw [show (F0 m pc ls (st.map (pd_up G))).stack = st.map (pd_up G) from rfl, hst]; simp) (lv_room (by omega)) g1 ⟨by omega, by omega⟩
  refine pd_call hrun hS ?_
  intro v sz' hp' H1 locs1 hR hH1 hS1
  have := k v sz' hp' hR p e Rm s m args below meth c Q hx hq H1 locs1 ls hH1 hS1 hl
  rw [List.map_append] at this
  cases v <;> exact this
theorem pt_kI {a : Nat} (h : pd_kI M pc N As.length n) (hcon : pd_C G N d1 mc1 ms1 (vr (a + 1) :: As) sz hp Rc) (hst : st = As.reverse ++ vr (a + 1) :: rest) (hr : rest.length ≤ 4) (hd : d1 + 1 ≤ d) (hce : ce + mc1 ≤ mc) (hsl : sl + ms1 ≤ ms) (k : ∀ (v : Option pv) (sz' : Nat) (hp' : pd_P), Rc v sz' hp' → pd_T G M d mc ms X R n lv (v.toList ++ rest) sz' (ce + mc1) (sl + ms1) hp') : pd_T G M d mc ms X R pc lv st sz ce sl hp := by
  intro p e Rm s m args below meth c Q hx hq H locs ls hH hS hl
  have hts := hx.2.2.2.2.1
  have hcat := pd_words G rest
  obtain ⟨r1, r2, r3, r4⟩ := hx.2.2.2.2.2.2.1
  obtain ⟨idx, ⟨g1, rfl⟩, g2, g3, g4, g6, g5⟩ := h
  have hb := pd_back (d1 := d1) (mc1 := mc1) (ms1 := ms1) G hx g5 hd
  have hrun : va_Run p G.1 e Rm s m args below meth c H locs ce sl mc1 ms1 (F0 m pc ls (st.map (pd_up G))) (rest.map (pd_up G)) (pd_Qc G Rc ((vr (a + 1) :: As).map (pd_up G)).toArray) (pd_A G) := by
    have hcd : Cond.code N.1 N.2.1 N.2.2.1 none = Cond.code N.1 N.2.1 N.2.2.1 N.2.2.2 := by rw [g6]
    rcases g2 with g2 | ⟨host, g2⟩
    · exact va_runI (g := F0 m pc ls (st.map (pd_up G))) (b := pd_ad G (a + 1)) (As := As.map (pd_up G)) (rest := rest.map (pd_up G)) ⟨hx.1, hx.2.1, hx.2.2.1, hx.2.2.2.1, hts⟩ hcon
        (show CallB Rm s args M.1.cls idx N.1 N.2.1 N.2.2.1 none (pd_ws N) (pd_rm d1 mc1 ms1) mc1 ms1 As.length ∧ N.1.name = "<init>" ∧ (Cond.instanceMethod N.1).before args s = true from ⟨⟨hb.1, hb.2.1, hb.2.2.1, hb.2.2.2.1, hb.2.2.2.2.1, by rw [hcd]; exact hb.2.2.2.2.2, by rw [hcd]; exact hts _ g5.1, hts _ g5.2.1, ⟨g5.2.2.2.1, g5.2.2.2.2.1⟩, pd_len g5, hts _ g2⟩, g4, hts _ g3⟩)
        ⟨pd_blind G sz hp _, fun U hU hW => pd_pre G hx.2.2.2.2.2.1 hH (vr (a + 1) :: As) U hU hW⟩ rfl (by simp) hl.1 (by
        rw [show (F0 m pc ls (st.map (pd_up G))).stack = st.map (pd_up G) from rfl, hst]; simp [pd_up, va_rf, pd_ad]) (lv_room (by omega)) g1 ⟨by omega, by omega⟩
    · exact va_runIN (g := F0 m pc ls (st.map (pd_up G))) (b := pd_ad G (a + 1)) (As := As.map (pd_up G)) (rest := rest.map (pd_up G)) ⟨hx.1, hx.2.1, hx.2.2.1, hx.2.2.2.1, hts⟩ hcon
        (show va_CN Rm s args M.1.cls idx N.1 host N.2.1 N.2.2.1 none (pd_ws N) (pd_rm d1 mc1 ms1) mc1 ms1 As.length ∧ N.1.name = "<init>" ∧ (Cond.instanceMethod N.1).before args s = true from ⟨⟨⟨hb.1, hb.2.1, hb.2.2.1, hb.2.2.2.1, hb.2.2.2.2.1, by rw [hcd]; exact hb.2.2.2.2.2⟩, by rw [hcd]; exact hts _ g5.1, hts _ g5.2.1, ⟨g5.2.2.2.1, g5.2.2.2.2.1⟩, pd_len g5, va_Nw.use rfl (hx.2.2.2.2.2.1.2.1 _ g2)⟩, g4, hts _ g3⟩)
        ⟨pd_blind G sz hp _, fun U hU hW => pd_pre G hx.2.2.2.2.2.1 hH (vr (a + 1) :: As) U hU hW⟩ rfl (by simp) hl.1 (by
        rw [show (F0 m pc ls (st.map (pd_up G))).stack = st.map (pd_up G) from rfl, hst]; simp [pd_up, va_rf, pd_ad]) (lv_room (by omega)) g1 ⟨by omega, by omega⟩
  refine pd_call hrun hS ?_
  intro v sz' hp' H1 locs1 hR hH1 hS1
  have := k v sz' hp' hR p e Rm s m args below meth c Q hx hq H1 locs1 ls hH1 hS1 hl
  rw [List.map_append] at this
  cases v <;> exact this
theorem pt_kU {a ci : Nat} {fs : List pv} {C : String} (h : pd_kU M pc N As.length n) (hcon : pd_C G N d1 mc1 ms1 (vr a :: As) sz hp Rc) (hob : hp a = ob ci fs) (hcl : pd_cn ci = some C) (hst : st = As.reverse ++ vr a :: rest) (hr : rest.length ≤ 4) (hd : d1 + 1 ≤ d) (hce : ce + mc1 ≤ mc) (hsl : sl + ms1 ≤ ms) (k : ∀ (v : Option pv) (sz' : Nat) (hp' : pd_P), Rc v sz' hp' → pd_T G M d mc ms X R n lv (v.toList ++ rest) sz' (ce + mc1) (sl + ms1) hp') : pd_T G M d mc ms X R pc lv st sz ce sl hp := by
  intro p e Rm s m args below meth c Q hx hq H locs ls hH hS hl
  have hts := hx.2.2.2.2.1
  have hcat := pd_words G rest
  obtain ⟨r1, r2, r3, r4⟩ := hx.2.2.2.2.2.2.1
  obtain ⟨idx, ⟨g1, rfl⟩, g2, g3, g4, g6, g7, g5⟩ := h
  have hne : ci ≠ 99 := by rintro rfl; simp [pd_cn] at hcl
  obtain ⟨k0, rfl, hk0⟩ := pd_lt hH (a := a) (by rw [hob]; intro q; exact hne (congrArg Prod.fst (Sum.inr.inj q)))
  have hw := pd_w_get (G := G) (hp := hp) hk0
  rw [hob] at hw
  obtain ⟨q, hq1, hq2⟩ : ∃ q : vw_C, pd_cl[ci]? = some q ∧ q.1 = C := by
    unfold pd_cn at hcl
    cases hz : pd_cl[ci]? with
    | none => rw [hz] at hcl; cases hcl
    | some q => rw [hz] at hcl; exact ⟨q, rfl, Option.some.inj hcl⟩
  have hrec := va_recv (q0 := k0) hx.2.2.2.2.2.1.1 hH.2.1 hq1 hw
  rw [hq2] at hrec
  have hb := pd_back (d1 := d1) (mc1 := mc1) (ms1 := ms1) G hx g5 hd
  have hat := (hx.2.2.2.2.2.1.1.1 ci q hq1).2
  rw [hq2] at hat
  have hrun : va_Run p G.1 e Rm s m args below meth c H locs ce sl mc1 ms1 (F0 m pc ls (st.map (pd_up G))) (rest.map (pd_up G)) (pd_Qc G Rc ((vr (k0 + 1) :: As).map (pd_up G)).toArray) (pd_A G) := va_runSU (g := F0 m pc ls (st.map (pd_up G))) (b := pd_ad G (k0 + 1)) (As := As.map (pd_up G)) (rest := rest.map (pd_up G)) hat ⟨hx.1, hx.2.1, hx.2.2.1, hx.2.2.2.1, hts⟩ hcon
    (show va_CS Rm s args M.1.cls idx N.1 N.2.1 N.2.2.1 N.2.2.2 (pd_ws N) (pd_rm d1 mc1 ms1) mc1 ms1 As.length from ⟨hb, hts _ g2, hts _ g3, hts _ g4, hts _ g6, hts _ g5.2.1, hts _ g5.1, g7, pd_len g5⟩)
    ⟨pd_blind G sz hp _, hrec, fun U hU hW => pd_pre G hx.2.2.2.2.2.1 hH (vr (k0 + 1) :: As) U hU hW⟩ rfl (by simp) hl.1 (by
    rw [show (F0 m pc ls (st.map (pd_up G))).stack = st.map (pd_up G) from rfl, hst]; simp [pd_up, va_rf, pd_ad]) (lv_room (by omega)) g1 ⟨by omega, by omega⟩
  refine pd_call hrun hS ?_
  intro v sz' hp' H1 locs1 hR hH1 hS1
  have := k v sz' hp' hR p e Rm s m args below meth c Q hx hq H1 locs1 ls hH1 hS1 hl
  rw [List.map_append] at this
  cases v <;> exact this
end PDK
end
section
theorem ac_int : Cond.arrayClass .int ∈ pd_tbl := pd_m 102 (by decide +kernel) (by decide +kernel)
theorem ac_byte : Cond.arrayClass .byte ∈ pd_tbl := pd_m 822 (by decide +kernel) (by decide +kernel)
theorem ac_bool : Cond.arrayClass .boolean ∈ pd_tbl := pd_m 182 (by decide +kernel) (by decide +kernel)
theorem oi_inst : Cond.instanceMethod objectInit ∈ pd_tbl := pd_m 67 (by decide +kernel) (by decide +kernel)
theorem oi_code : Cond.code objectInit ⟨#[0xb1]⟩ 1 none ∈ pd_tbl := pd_m 68 (by decide +kernel) (by decide +kernel)
/-! making, copying, references into rows -/
def pd_df (ci : Nat) (fs : List pv) : Prop := ∃ (C : String) (T : u_T) (N : Nat) (ty0 : Nat → FieldType), pd_cl[ci]? = some (C, T, N) ∧ (∀ w ∈ u_ws C T N, w ∈ pd_tbl) ∧ (∀ k, k < N → parseFieldDescriptor (T k).2.2.1 = some (ty0 k)) ∧ fs.length = N ∧ (∀ (G : pd_G) (j : Nat), j < N → defaultValue (ty0 j) = vp_V (fs.map (pd_up G)) j) ∧ Cond.instantiable C N ∈ pd_tbl ∧ Cond.initialized C ∈ pd_tbl
def pd_nwi (M : pd_M) (pc ci n : Nat) : Prop := ∃ idx, pd_i M pc (.new idx) 3 n ∧ ∃ C, pd_cn ci = some C ∧ Cond.classLink M.1.cls idx C ∈ pd_tbl
theorem pd_H.push {G : pd_G} {sz : Nat} {hp : pd_P} {H H1 : Heap} {e : pd_E} (hH : pd_H G sz hp H) (hz : H1.size = H.size + 1) (ho : ∀ q : Nat, q < H.size → H1[q]? = H[q]?) (he : va_at G.2.1 pd_cl (G.2.2.2.1 + sz, pd_e G e) H1) : pd_H G (sz + 1) (va_up hp (sz + 1) e) H1 := by
  refine ⟨by rw [hz, hH.1]; omega, ?_, fun j hj => ?_⟩
  · rw [← pd_w_push]
    refine va_P.app (hH.2.1.kept fun k q hk => ho q.1 ((hH.2.1 k q hk).lt)) (fun k q hk => ?_)
    have hz : k < 1 := (List.getElem?_eq_some_iff.mp hk).1
    rw [show k = 0 by omega] at hk
    cases hk
    exact he
  · rw [va_up_ne _ _ (by omega)]
    exact hH.2.2 j (by omega)
theorem pd_S.push {G : pd_G} {s : State} {H H1 : Heap} {locs : List Loc} (hS : va_S (pd_A G) s.heap H locs) (hz : H1.size = H.size + 1) (ho : ∀ q : Nat, q < H.size → H1[q]? = H[q]?) : va_S (pd_A G) s.heap H1 locs :=
  ⟨Nat.le_trans hS.1 (by omega), fun x h1 h2 => (ho x (Nat.lt_of_lt_of_le h1 hS.1)).trans (hS.2.1 x h1 h2), hS.2.2⟩
section PDNEW
variable {G : pd_G} {M : pd_M} {d mc ms : Nat} {X : Option (Nat × (Nat → Int))} {R : pd_R} {pc n t : Nat} {lv : List (Option pv)} {st : List pv} {sz ce sl : Nat} {hp : pd_P}
theorem pt_new {ci : Nat} {fs : List pv} (h : pd_nwi M pc ci n) (hd0 : pd_df ci fs) (hce : ce + 1 ≤ mc) (hsl : sl + fs.length ≤ ms) (k : pd_T G M d mc ms X R n lv (vr (sz + 1) :: st) (sz + 1) (ce + 1) (sl + fs.length) (va_up hp (sz + 1) (ob ci fs))) : pd_T G M d mc ms X R pc lv st sz ce sl hp := by
  intro p e Rm s m args below meth c Q hx hq H locs ls hH hS hl
  obtain ⟨idx, ⟨g1, rfl⟩, C0, g2, g3⟩ := h
  obtain ⟨C, T, N, ty0, f1, f2, f3, f4, f5, f6, f7⟩ := hd0
  have hC : C0 = C := by
    unfold pd_cn at g2
    rw [f1] at g2
    exact (Option.some.inj g2).symm
  subst hC
  have hts := hx.2.2.2.2.1
  obtain ⟨r1, r2, r3, r4⟩ := hx.2.2.2.2.2.2.1
  have hKn := hx.2.2.2.2.2.1.1.1 ci _ f1
  rw [f4] at hsl k
  refine W.newcK hx.1 hx.2.1 hx.2.2.2.1 (hts _ g3) (hts _ f6) (hts _ f7) rfl g1 (by omega) (by omega) hKn.2.1 hH.1 fun H1 kC hkC e1 z1 o1 => ?_
  have ho : ∀ q : Nat, q < H.size → H1[q]? = H[q]? := fun q hq2 => o1 q (by rw [← hH.1]; exact hq2)
  have hz : H1.size = H.size + 1 := by rw [z1, hH.1]
  refine k p e Rm s m args below meth c Q hx hq H1 locs ls (pd_H.push hH hz ho ?_) (pd_S.push hS hz ho) hl
  exact ⟨_, f1, (u_born ty0 hts f2 hKn hkC e1 f3).to (f5 G)⟩
theorem pt_newa {at0 : ArrayType} {kd N : Nat} {z : Int} (h : pd_i M pc (.newarray at0) 2 n) (hk : (at0 = .int ∧ kd = 0) ∨ (at0 = .byte ∧ kd = 1) ∨ (at0 = .boolean ∧ kd = 2)) (hz : z = (N : Int)) (hN : N ≤ 65536) (hce : ce + 1 ≤ mc) (hsl : sl + N ≤ ms) (k : pd_T G M d mc ms X R n lv (vr (sz + 1) :: st) (sz + 1) (ce + 1) (sl + N) (va_up hp (sz + 1) (.inl (kd, N, .inl (fun _ => 0))))) : pd_T G M d mc ms X R pc lv (vi z :: st) sz ce sl hp := by
  intro p e Rm s m args below meth c Q hx hq H locs ls hH hS hl
  obtain ⟨g1, rfl⟩ := h
  subst hz
  have hts := hx.2.2.2.2.1
  obtain ⟨r1, r2, r3, r4⟩ := hx.2.2.2.2.2.2.1
  have hcl : (jI (N : Int)).toNatClampNeg = N := by
    rw [jI_cl (n := 65537) (by omega) (by omega) (by decide)]
    simp
  have hneg : ¬ jI (N : Int) < 0 := by
    intro hh
    have hh2 : jI (N : Int) < jI 0 := hh
    rw [jI_lt ⟨by omega, by omega⟩ jR_0] at hh2
    omega
  have hcases : (Cond.arrayClass (newarray.typeOf at0)).before args s = true ∧ (pd_ty G)[kd]? = some (G.2.2.1 kd, newarray.typeOf at0) ∧ N * componentBytes (newarray.typeOf at0) ≤ 536870912 ∧ defaultValue (newarray.typeOf at0) = .int (jI 0) := by
    rcases hk with ⟨rfl, rfl⟩ | ⟨rfl, rfl⟩ | ⟨rfl, rfl⟩
    · exact ⟨hts _ ac_int, rfl, by show N * 4 ≤ _; omega, rfl⟩
    · exact ⟨hts _ ac_byte, rfl, by show N * 1 ≤ _; omega, rfl⟩
    · exact ⟨hts _ ac_bool, rfl, by show N * 1 ≤ _; omega, rfl⟩
  obtain ⟨k1, k2, k3, k4⟩ := hcases
  refine va_newaK hx.1 hx.2.1 k1 rfl g1 rfl hneg hcl k3 (by omega) (by omega) hH.1 fun H1 cA e1 z1 o1 hAr hNm => ?_
  have hRA := (hx.2.2.2.2.2.1.1.2 kd _ k2).2
  have hcA : cA = G.2.2.1 kd := by
    rcases hk with ⟨rfl, rfl⟩ | ⟨rfl, rfl⟩ | ⟨rfl, rfl⟩ <;> exact Option.some.inj (hNm.symm.trans hRA)
  subst hcA
  have ho : ∀ q : Nat, q < H.size → H1[q]? = H[q]? := fun q hq2 => o1 q (by rw [← hH.1]; exact hq2)
  have hz : H1.size = H.size + 1 := by rw [z1, hH.1]
  refine k p e Rm s m args below meth c Q hx hq H1 locs ls (pd_H.push hH hz ho ?_) (pd_S.push hS hz ho) hl
  show H1[_]? = some (vp_cell _ _)
  rw [vp_cell_i]
  rw [k4] at e1
  exact e1
theorem pt_newq {kd N : Nat} {C : String} {z : Int} (h : ∃ idx, pd_i M pc (.anewarray idx) 3 n ∧ Cond.classLink M.1.cls idx C ∈ pd_tbl) (hk : (kd = 3 ∧ C = "PantryDoors$Life") ∨ (kd = 4 ∧ C = "PantryDoors$State") ∨ (kd = 5 ∧ C = "PantryDoors$Good")) (hz : z = (N : Int)) (hN : N ≤ 65536) (hce : ce + 1 ≤ mc) (hsl : sl + N ≤ ms) (k : pd_T G M d mc ms X R n lv (vr (sz + 1) :: st) (sz + 1) (ce + 1) (sl + N) (va_up hp (sz + 1) (ra kd N (fun _ => none)))) : pd_T G M d mc ms X R pc lv (vi z :: st) sz ce sl hp := by
  intro p e Rm s m args below meth c Q hx hq H locs ls hH hS hl
  obtain ⟨idx, ⟨g1, rfl⟩, g2⟩ := h
  subst hz
  have hts := hx.2.2.2.2.1
  obtain ⟨r1, r2, r3, r4⟩ := hx.2.2.2.2.2.2.1
  have hcl : (jI (N : Int)).toNatClampNeg = N := by
    rw [jI_cl (n := 65537) (by omega) (by omega) (by decide)]
    simp
  have hneg : ¬ jI (N : Int) < 0 := by
    intro hh
    have hh2 : jI (N : Int) < jI 0 := hh
    rw [jI_lt ⟨by omega, by omega⟩ jR_0] at hh2
    omega
  have hcases : va_AO C s ∧ (pd_ty G)[kd]? = some (G.2.2.1 kd, .object C) := by
    rcases hk with ⟨rfl, rfl⟩ | ⟨rfl, rfl⟩ | ⟨rfl, rfl⟩
    · exact ⟨hx.2.2.2.2.2.1.2.2.1, rfl⟩
    · exact ⟨hx.2.2.2.2.2.1.2.2.2.1, rfl⟩
    · exact ⟨hx.2.2.2.2.2.1.2.2.2.2, rfl⟩
  obtain ⟨k1, k2⟩ := hcases
  refine W.anew hx.1 hx.2.1 hx.2.2.2.1 (hts _ g2) (va_AO.use k1) rfl g1 rfl hneg (by rw [hcl]; omega) (by omega) (by rw [hcl]; omega) fun cA kA comp f1 f2 f3 f4 => ?_
  obtain ⟨kA2, comp2, m1, m2, m3, m4⟩ := (hx.2.2.2.2.2.1.1.2 kd _ k2).2
  have hcA : cA = G.2.2.1 kd := Option.some.inj (f1.symm.trans m4)
  subst hcA
  rw [hcl]
  generalize hH1 : H.push ({ cls := G.2.2.1 kd, slots := Array.replicate N .null, vm := .none } : Cell) = H1
  have z1 : H1.size = H.size + 1 := by rw [← hH1, Array.size_push]
  have e1 : H1[H.size]? = some (arrV (G.2.2.1 kd) N (fun _ => .null)) := by rw [← hH1, Array.getElem?_push_size, ← arrV_new]
  have o1 : ∀ q : Nat, q < H.size → H1[q]? = H[q]? := fun q hq => by rw [← hH1, Array.getElem?_push, if_neg (Nat.ne_of_lt hq)]
  have hadr : (Value.ref H.size : Value) = pd_up G (vr (sz + 1)) := by rw [hH.1]; rfl
  rw [hadr]
  refine k p e Rm s m args below meth c Q hx hq H1 locs ls (pd_H.push hH z1 o1 ?_) (pd_S.push hS z1 o1) hl
  show H1[_]? = some (vp_cell _ _)
  rw [vp_cell_q, ← hH.1]
  exact e1
theorem pt_aast {a kd N v ci : Nat} {C : String} {f : Int → Option Nat} {fs : List pv} {z : Int} (h : pd_i M pc .aastore 1 n) (hc : hp a = ra kd N f) (hty : (pd_ty G)[kd]? = some (G.2.2.1 kd, .object C)) (h0 : 0 ≤ z) (hz : z < N) (hN : (N : Int) ≤ 2147483648) (hv : hp v = ob ci fs) (hcn : ∃ D, pd_cn ci = some D ∧ (D = C ∨ Cond.castable D C ∈ pd_tbl)) (k : pd_T G M d mc ms X R n lv st sz ce sl (va_up hp a (ra kd N (uI f z (some v))))) : pd_T G M d mc ms X R pc lv (vr v :: vi z :: vr a :: st) sz ce sl hp := by
  intro p e Rm s m args below meth c Q hx hq H locs ls hH hS hl
  obtain ⟨h1, rfl⟩ := h
  obtain ⟨k0, rfl, hk0⟩ := pd_lt hH (a := a) (by rw [hc]; intro q; cases q)
  have hw := pd_w_get (G := G) (hp := hp) hk0
  rw [hc] at hw
  obtain ⟨DD, hD1, hD2⟩ := hcn
  have hne : ci ≠ 99 := by rintro rfl; simp [pd_cn] at hD1
  obtain ⟨kv, rfl, hkv⟩ := pd_lt hH (a := v) (by rw [hv]; intro q; exact hne (congrArg Prod.fst (Sum.inr.inj q)))
  have hwv := pd_w_get (G := G) (hp := hp) hkv
  rw [hv] at hwv
  have hcl := jI_cl h0 hz hN
  have hin := jI_in h0 hz hN
  obtain ⟨r', hr', cellV, q1, q2, q3, -⟩ := hH.2.1 kv _ hwv
  have hrn : r'.1 = DD := by
    unfold pd_cn at hD1
    rw [hr'] at hD1
    exact Option.some.inj hD1
  have hcls := (hx.2.2.2.2.2.1.1.1 ci r' hr').2
  rw [hrn] at hcls
  obtain ⟨kA, comp, k1, k2, k3, -⟩ := (hx.2.2.2.2.2.1.1.2 kd _ hty).2
  obtain ⟨kE, hkE, -⟩ := Vm.findClass_spec k3
  have hasg : s.vm.assignable (G.2.1.1 ci) comp = true := by
    rcases hD2 with rfl | hD2
    · have : comp = G.2.1.1 ci := Option.some.inj (k3.symm.trans hcls.1)
      rw [this]
      exact va_assign hcls
    · obtain ⟨c0, t1, f1, f2, f3⟩ := Cond.castable_spec (hx.2.2.2.2.1 _ hD2)
      cases hcls.1.symm.trans f1
      cases k3.symm.trans f2
      exact f3
  obtain ⟨kC, hkC, -⟩ := hcls.2
  refine W.aast hx.1 hx.2.1 (hH.2.1 k0 _ hw) (fun q h => by cases h) (fun h => by cases h) k1 k2 rfl hkE ⟨fun q => hin (Or.inl q), by show _ < (arrV _ _ _).slots.size; rw [arrV_size]; exact Nat.not_le.mp fun q => hin (Or.inr q)⟩ q1 (fun q h => by rw [q3] at h; cases h) (by rw [q2]; exact hkC) (by rw [q2]; exact hasg) rfl rfl h1 fun H1 e1 z1 oq => ?_
  refine k p e Rm s m args below meth c Q hx hq H1 _ ls (pd_H.set hH hk0 z1 (hH.2.1.set (pd_w_D G sz hp) hw ?_ oq)) (hS.put z1 oq (Nat.le_add_right _ _)) hl
  show H1[_]? = some (vp_cell _ _)
  rw [e1]
  rw [vp_cell_q, vp_cell_q, arrV_store]
  congr 2
  funext q
  by_cases hqz : q = (jI z).toNatClampNeg
  · subst hqz
    simp [updV, uI, hcl, Int.toNat_of_nonneg h0, va_rf, pd_ad]
  · have hq2 : ¬ (q : Int) = z := fun w => hqz (by rw [hcl]; omega)
    simp [updV, uI, hqz, hq2]
theorem pt_oinit {a : Nat} (h : ∃ idx, pd_i M pc (.invokespecial idx) 3 n ∧ Cond.methodLink M.1.cls idx objectInit ∈ pd_tbl) (hd : 1 ≤ d) (hr : st.length ≤ 8) (k : pd_T G M d mc ms X R n lv st sz ce sl hp) : pd_T G M d mc ms X R pc lv (vr (a + 1) :: st) sz ce sl hp := by
  intro p e Rm s m args below meth c Q hx hq H locs ls hH hS hl
  obtain ⟨idx, ⟨g1, rfl⟩, g2⟩ := h
  have hts := hx.2.2.2.2.1
  obtain ⟨r1, r2, r3, r4⟩ := hx.2.2.2.2.2.2.1
  have hcat := pd_words G st
  exact W.objInit hx.1 hx.2.1 hx.2.2.2.1 (hts _ g2) (hts _ oi_inst) (hts _ oi_code) rfl (by rw [hx.2.2.1]; exact hl.1) rfl g1 (by omega) (by show 2 * 0 + _ + 12 ≤ _; omega) (k p e Rm s m args below meth c Q hx hq H locs ls hH hS hl)
end PDNEW
end
section
theorem cp_nat : Cond.native arraycopyName ∈ pd_tbl := pd_m 493 (by decide +kernel) (by decide +kernel)
theorem cp_st : Cond.static arraycopyName ∈ pd_tbl := pd_m 492 (by decide +kernel) (by decide +kernel)
theorem cp_in : Cond.initialized "java/lang/System" ∈ pd_tbl := pd_m 60 (by decide +kernel) (by decide +kernel)
theorem pd_arrV {cA : ClassId} {N : Nat} {f g : Nat → Value} (h : ∀ j, j < N → f j = g j) : arrV cA N f = arrV cA N g := by
  unfold arrV
  congr 1
  congr 1
  funext j
  exact h j.1 j.2
/-- a row's numbers count within its bounds alone -/
theorem pd_H.ext {G : pd_G} {sz : Nat} {hp : pd_P} {H : Heap} {a kd N : Nat} {f g : Int → Int} (hH : pd_H G sz hp H) (hc : hp a = .inl (kd, N, .inl f)) (h : ∀ i : Int, 0 ≤ i → i < N → f i = g i) : pd_H G sz (va_up hp a (.inl (kd, N, .inl g))) H := by
  obtain ⟨k0, rfl, hk0⟩ := pd_lt hH (a := a) (by rw [hc]; intro q; cases q)
  have hw := pd_w_get (G := G) (hp := hp) hk0
  rw [hc] at hw
  refine pd_H.set hH hk0 rfl (hH.2.1.set (pd_w_D G sz hp) hw ?_ (fun q _ => rfl))
  have h1 : H[G.2.2.2.1 + k0]? = some (vp_cell (G.2.2.1 kd) (N, .inl (fun j : Nat => jI (f j)))) := hH.2.1 k0 _ hw
  show H[G.2.2.2.1 + k0]? = some (vp_cell (G.2.2.1 kd) (N, .inl (fun j : Nat => jI (g j))))
  rw [h1, vp_cell_i, vp_cell_i]
  congr 1
  exact pd_arrV (fun j hj => by rw [h j (by omega) (by omega)])
section PDCP
variable {G : pd_G} {M : pd_M} {d mc ms : Nat} {X : Option (Nat × (Nat → Int))} {R : pd_R} {pc n t : Nat} {lv : List (Option pv)} {st : List pv} {sz ce sl : Nat} {hp : pd_P}
theorem pt_ext {a kd N : Nat} {f g : Int → Int} (hc : hp a = .inl (kd, N, .inl f)) (h : ∀ i : Int, 0 ≤ i → i < N → f i = g i) (k : pd_T G M d mc ms X R pc lv st sz ce sl (va_up hp a (.inl (kd, N, .inl g)))) : pd_T G M d mc ms X R pc lv st sz ce sl hp := by
  intro p e Rm s m args below meth c Q hx hq H locs ls hH hS hl
  exact k p e Rm s m args below meth c Q hx hq H locs ls (pd_H.ext hH hc h) hS hl
/-- a whole row of ints over another of its length -/
theorem pt_copy {a0 a1 N : Nat} {f g : Int → Int} {z : Int} (h : ∃ idx, pd_i M pc (.invokestatic idx) 3 n ∧ Cond.methodLink M.1.cls idx arraycopyName ∈ pd_tbl) (hc0 : hp a0 = ia N f) (hc1 : hp a1 = ia N g) (hz : z = (N : Int)) (hN : N ≤ 65536) (hd : 1 ≤ d) (hr : st.length ≤ 8) (k : pd_T G M d mc ms X R n lv st sz ce sl (va_up hp a1 (ia N f))) : pd_T G M d mc ms X R pc lv (vi z :: vi 0 :: vr a1 :: vi 0 :: vr a0 :: st) sz ce sl hp := by
  intro p e Rm s m args below meth c Q hx hq H locs ls hH hS hl
  obtain ⟨idx, ⟨g1, rfl⟩, g2⟩ := h
  subst hz
  obtain ⟨k0, rfl, hk0⟩ := pd_lt hH (a := a0) (by rw [hc0]; intro q; cases q)
  obtain ⟨k1, rfl, hk1⟩ := pd_lt hH (a := a1) (by rw [hc1]; intro q; cases q)
  have hw0 := pd_w_get (G := G) (hp := hp) hk0
  rw [hc0] at hw0
  have hw1 := pd_w_get (G := G) (hp := hp) hk1
  rw [hc1] at hw1
  have hts := hx.2.2.2.2.1
  obtain ⟨r1, r2, r3, r4⟩ := hx.2.2.2.2.2.2.1
  have hcat := pd_words G st
  have hcl : (jI (N : Int)).toNatClampNeg = N := by
    rw [jI_cl (n := 65537) (by omega) (by omega) (by decide)]
    simp
  have hti : (jI (N : Int)).toInt = N := jI_toInt ⟨by omega, by omega⟩
  have hneg : ¬ jI (N : Int) < 0 := by
    intro hh
    have hh2 : jI (N : Int) < jI 0 := hh
    rw [jI_lt ⟨by omega, by omega⟩ jR_0] at hh2
    omega
  have hz0 : ¬ jI 0 < 0 := by decide
  have hz1 : (jI 0).toInt = 0 := by decide
  have hz2 : (jI 0).toNatClampNeg = 0 := by decide
  intro T hT Y
  have e0 : H[G.2.2.2.1 + k0]? = some (vp_cell (G.2.2.1 0) (N, .inl (fun j : Nat => jI (f j)))) := hH.2.1 k0 _ hw0
  have e1 : H[G.2.2.2.1 + k1]? = some (vp_cell (G.2.2.1 0) (N, .inl (fun j : Nat => jI (g j)))) := hH.2.1 k1 _ hw1
  obtain ⟨-, kc, hkc, cm, hkk⟩ := (hx.2.2.2.2.2.1.1.2 0 _ rfl).1 N (fun j : Nat => .int (jI (f j)))
  have hsz : ∀ u : Nat → Int32, (vp_cell (G.2.2.1 0) (N, .inl u)).slots.size = N := fun u => by rw [vp_cell_i]; exact arrV_size _ _ _
  obtain ⟨vm', Y', step⟩ := Y.arraycopy hx.1 hx.2.2.2.1 (hts _ g2) (hts _ cp_nat) (hts _ cp_st) (hts _ cp_in) (src := G.2.2.2.1 + k0) (dst := G.2.2.2.1 + k1) (cs := vp_cell (G.2.2.1 0) (N, .inl (fun j : Nat => jI (f j)))) (cd := vp_cell (G.2.2.1 0) (N, .inl (fun j : Nat => jI (g j)))) (srcPos := jI 0) (destPos := jI 0) (n := jI (N : Int)) (by rw [hT]; exact e0) (by rw [hT]; exact e1)
    (fun _ h => by cases h) (fun _ h => by cases h) (fun h => by cases h) (fun h => by cases h) hkc hkc hkk hkk (by rfl) hz0 hz0 hneg
    (by rw [hsz, hz1, hti]; omega) (by rw [hsz, hz1, hti]; omega)
    (fun vm₁ _ i hi => by
      rw [hcl] at hi
      have e9 : (vp_cell (G.2.2.1 0) (N, .inl (fun j : Nat => jI (f j)))).slots.getD ((jI 0).toNatClampNeg + i) .null = .int (jI (f i)) := by
        rw [hz2, Nat.zero_add, vp_cell_i, Array.getD_eq_getD_getElem?, arrV_read _ _ hi]
        rfl
      rw [e9]
      exact ⟨rfl, trivial⟩)
    (g := F0 m pc ls ((vi (N : Int) :: vi 0 :: vr (k1 + 1) :: vi 0 :: vr (k0 + 1) :: st).map (pd_up G))) rfl (by rw [hx.2.2.1]; exact hl.1) (rest := st.map (pd_up G)) rfl (by rw [hx.2.1]; exact g1) (by omega)
    (by show 2 * 0 + _ + (5 + 2 + 11) ≤ _; omega)
  have ec : copied (vp_cell (G.2.2.1 0) (N, .inl (fun j : Nat => jI (f j)))) (vp_cell (G.2.2.1 0) (N, .inl (fun j : Nat => jI (g j)))) (jI 0) (jI 0) (jI (N : Int)) = vp_cell (G.2.2.1 0) (N, .inl (fun j : Nat => jI (f j))) := by
    have h9 := va_copied (fun z => Value.int z) (G.2.2.1 0) (G.2.2.1 0) (n0 := N) (n1 := N) (sp := (jI 0).toNatClampNeg) (dp := (jI 0).toNatClampNeg) (n := (jI (N : Int)).toNatClampNeg) (fun j : Nat => jI (f j)) (fun j : Nat => jI (g j)) (by rw [hz2, hcl]; omega)
    refine Eq.trans h9 ?_
    rw [vp_cell_i]
    refine pd_arrV (fun j hj => ?_)
    rw [hz2, hcl]
    unfold va_cpy
    rw [if_pos ⟨by omega, by omega⟩, Nat.sub_zero, Nat.zero_add]
  rw [ec] at Y' step
  have hl1 : G.2.2.2.1 + k1 < H.size := (Array.getElem?_eq_some_iff.mp e1).1
  have hheap : ((T.setVm vm').setCell (G.2.2.2.1 + k1) (vp_cell (G.2.2.1 0) (N, .inl (fun j : Nat => jI (f j))))).heap = H.setIfInBounds (G.2.2.2.1 + k1) (vp_cell (G.2.2.1 0) (N, .inl (fun j : Nat => jI (f j)))) := by rw [← hT]; rfl
  have oq : ∀ q : Nat, q ≠ G.2.2.2.1 + k1 → (H.setIfInBounds (G.2.2.2.1 + k1) (vp_cell (G.2.2.1 0) (N, .inl (fun j : Nat => jI (f j)))))[q]? = H[q]? := fun q hq => by simp [Array.getElem?_setIfInBounds, Ne.symm hq]
  have hH2 : pd_H G sz (va_up hp (k1 + 1) (ia N f)) (H.setIfInBounds (G.2.2.2.1 + k1) (vp_cell (G.2.2.1 0) (N, .inl (fun j : Nat => jI (f j))))) := by
    refine pd_H.set hH hk1 (by simp) (hH.2.1.set (pd_w_D G sz hp) hw1 ?_ oq)
    show (H.setIfInBounds _ _)[G.2.2.2.1 + k1]? = some _
    simp [Array.getElem?_setIfInBounds, hl1]
  obtain ⟨t, a1, b1⟩ := k p e Rm s m args below meth c Q hx hq _ _ ls hH2 ⟨by simp; exact hS.1, fun q h1 h2 => by
      rw [oq q (fun e => h2 (by rw [e]; exact Nat.le_add_right _ _))]
      exact hS.2.1 q h1 h2, fun q hq => by
      rcases List.mem_append.mp hq with h | h
      · exact hS.2.2 q h
      · obtain ⟨z, -, hz⟩ := List.mem_map.mp h
        rw [← hz]
        exact Nat.le_add_right _ _⟩ hl _ hheap Y'
  exact ⟨t, step t a1, b1⟩
abbrev pd_pure (r : pv) (sz : Nat) (hp : pd_P) : pd_R := fun v sz' hp' => v = some r ∧ sz' = sz ∧ hp' = hp
variable {N : pd_M} {d1 : Nat} {Rc : pd_R} {rest : List pv}
theorem pt_kv0 {a ci : Nat} {fs : List pv} (h : pd_kv M pc N 0 n) (hcon : pd_C G N d1 0 0 [vr a] sz hp Rc) (hob : hp a = ob ci fs) (hcl : pd_cn ci = some N.1.cls) (hr : rest.length ≤ 4) (hd : d1 + 1 ≤ d) (hce : ce ≤ mc) (hsl : sl ≤ ms) (k : ∀ (v : Option pv) (sz' : Nat) (hp' : pd_P), Rc v sz' hp' → pd_T G M d mc ms X R n lv (v.toList ++ rest) sz' ce sl hp') : pd_T G M d mc ms X R pc lv (vr a :: rest) sz ce sl hp := pt_kv (As := []) (rest := rest) h hcon hob hcl rfl hr hd hce hsl k
theorem pt_kv0r {a ci : Nat} {fs : List pv} {r : pv} (h : pd_kv M pc N 0 n) (hcon : pd_C G N d1 0 0 [vr a] sz hp (pd_pure r sz hp)) (hob : hp a = ob ci fs) (hcl : pd_cn ci = some N.1.cls) (hr : rest.length ≤ 4) (hd : d1 + 1 ≤ d) (hce : ce ≤ mc) (hsl : sl ≤ ms) (k : pd_T G M d mc ms X R n lv (r :: rest) sz ce sl hp) : pd_T G M d mc ms X R pc lv (vr a :: rest) sz ce sl hp := pt_kv (As := []) (rest := rest) h hcon hob hcl rfl hr hd hce hsl (fun v sz' hp' q => by obtain ⟨rfl, rfl, rfl⟩ := q; exact k)
theorem pt_kv1 {x1 : pv} {a ci : Nat} {fs : List pv} (h : pd_kv M pc N 1 n) (hcon : pd_C G N d1 0 0 [vr a, x1] sz hp Rc) (hob : hp a = ob ci fs) (hcl : pd_cn ci = some N.1.cls) (hr : rest.length ≤ 4) (hd : d1 + 1 ≤ d) (hce : ce ≤ mc) (hsl : sl ≤ ms) (k : ∀ (v : Option pv) (sz' : Nat) (hp' : pd_P), Rc v sz' hp' → pd_T G M d mc ms X R n lv (v.toList ++ rest) sz' ce sl hp') : pd_T G M d mc ms X R pc lv (x1 :: vr a :: rest) sz ce sl hp := pt_kv (As := [x1]) (rest := rest) h hcon hob hcl rfl hr hd hce hsl k
theorem pt_kv1r {x1 : pv} {a ci : Nat} {fs : List pv} {r : pv} (h : pd_kv M pc N 1 n) (hcon : pd_C G N d1 0 0 [vr a, x1] sz hp (pd_pure r sz hp)) (hob : hp a = ob ci fs) (hcl : pd_cn ci = some N.1.cls) (hr : rest.length ≤ 4) (hd : d1 + 1 ≤ d) (hce : ce ≤ mc) (hsl : sl ≤ ms) (k : pd_T G M d mc ms X R n lv (r :: rest) sz ce sl hp) : pd_T G M d mc ms X R pc lv (x1 :: vr a :: rest) sz ce sl hp := pt_kv (As := [x1]) (rest := rest) h hcon hob hcl rfl hr hd hce hsl (fun v sz' hp' q => by obtain ⟨rfl, rfl, rfl⟩ := q; exact k)
theorem pt_kv2 {x1 x2 : pv} {a ci : Nat} {fs : List pv} (h : pd_kv M pc N 2 n) (hcon : pd_C G N d1 0 0 [vr a, x1, x2] sz hp Rc) (hob : hp a = ob ci fs) (hcl : pd_cn ci = some N.1.cls) (hr : rest.length ≤ 4) (hd : d1 + 1 ≤ d) (hce : ce ≤ mc) (hsl : sl ≤ ms) (k : ∀ (v : Option pv) (sz' : Nat) (hp' : pd_P), Rc v sz' hp' → pd_T G M d mc ms X R n lv (v.toList ++ rest) sz' ce sl hp') : pd_T G M d mc ms X R pc lv (x2 :: x1 :: vr a :: rest) sz ce sl hp := pt_kv (As := [x1, x2]) (rest := rest) h hcon hob hcl rfl hr hd hce hsl k
theorem pt_kv2r {x1 x2 : pv} {a ci : Nat} {fs : List pv} {r : pv} (h : pd_kv M pc N 2 n) (hcon : pd_C G N d1 0 0 [vr a, x1, x2] sz hp (pd_pure r sz hp)) (hob : hp a = ob ci fs) (hcl : pd_cn ci = some N.1.cls) (hr : rest.length ≤ 4) (hd : d1 + 1 ≤ d) (hce : ce ≤ mc) (hsl : sl ≤ ms) (k : pd_T G M d mc ms X R n lv (r :: rest) sz ce sl hp) : pd_T G M d mc ms X R pc lv (x2 :: x1 :: vr a :: rest) sz ce sl hp := pt_kv (As := [x1, x2]) (rest := rest) h hcon hob hcl rfl hr hd hce hsl (fun v sz' hp' q => by obtain ⟨rfl, rfl, rfl⟩ := q; exact k)
theorem pt_kv3 {x1 x2 x3 : pv} {a ci : Nat} {fs : List pv} (h : pd_kv M pc N 3 n) (hcon : pd_C G N d1 0 0 [vr a, x1, x2, x3] sz hp Rc) (hob : hp a = ob ci fs) (hcl : pd_cn ci = some N.1.cls) (hr : rest.length ≤ 4) (hd : d1 + 1 ≤ d) (hce : ce ≤ mc) (hsl : sl ≤ ms) (k : ∀ (v : Option pv) (sz' : Nat) (hp' : pd_P), Rc v sz' hp' → pd_T G M d mc ms X R n lv (v.toList ++ rest) sz' ce sl hp') : pd_T G M d mc ms X R pc lv (x3 :: x2 :: x1 :: vr a :: rest) sz ce sl hp := pt_kv (As := [x1, x2, x3]) (rest := rest) h hcon hob hcl rfl hr hd hce hsl k
theorem pt_kv3r {x1 x2 x3 : pv} {a ci : Nat} {fs : List pv} {r : pv} (h : pd_kv M pc N 3 n) (hcon : pd_C G N d1 0 0 [vr a, x1, x2, x3] sz hp (pd_pure r sz hp)) (hob : hp a = ob ci fs) (hcl : pd_cn ci = some N.1.cls) (hr : rest.length ≤ 4) (hd : d1 + 1 ≤ d) (hce : ce ≤ mc) (hsl : sl ≤ ms) (k : pd_T G M d mc ms X R n lv (r :: rest) sz ce sl hp) : pd_T G M d mc ms X R pc lv (x3 :: x2 :: x1 :: vr a :: rest) sz ce sl hp := pt_kv (As := [x1, x2, x3]) (rest := rest) h hcon hob hcl rfl hr hd hce hsl (fun v sz' hp' q => by obtain ⟨rfl, rfl, rfl⟩ := q; exact k)
theorem pt_ku3 {N0 : pd_M} {x1 x2 x3 : pv} {a ci : Nat} {fs : List pv} (h : pd_ku M pc N0 N 3 n) (hcon : pd_C G N d1 0 0 [vr a, x1, x2, x3] sz hp Rc) (hob : hp a = ob ci fs) (hcl : pd_cn ci = some N.1.cls) (hr : rest.length ≤ 4) (hd : d1 + 1 ≤ d) (hce : ce ≤ mc) (hsl : sl ≤ ms) (k : ∀ (v : Option pv) (sz' : Nat) (hp' : pd_P), Rc v sz' hp' → pd_T G M d mc ms X R n lv (v.toList ++ rest) sz' ce sl hp') : pd_T G M d mc ms X R pc lv (x3 :: x2 :: x1 :: vr a :: rest) sz ce sl hp := pt_ku (As := [x1, x2, x3]) (rest := rest) h hcon hob hcl rfl hr hd hce hsl k
theorem pt_ku3r {N0 : pd_M} {x1 x2 x3 : pv} {a ci : Nat} {fs : List pv} {r : pv} (h : pd_ku M pc N0 N 3 n) (hcon : pd_C G N d1 0 0 [vr a, x1, x2, x3] sz hp (pd_pure r sz hp)) (hob : hp a = ob ci fs) (hcl : pd_cn ci = some N.1.cls) (hr : rest.length ≤ 4) (hd : d1 + 1 ≤ d) (hce : ce ≤ mc) (hsl : sl ≤ ms) (k : pd_T G M d mc ms X R n lv (r :: rest) sz ce sl hp) : pd_T G M d mc ms X R pc lv (x3 :: x2 :: x1 :: vr a :: rest) sz ce sl hp := pt_ku (As := [x1, x2, x3]) (rest := rest) h hcon hob hcl rfl hr hd hce hsl (fun v sz' hp' q => by obtain ⟨rfl, rfl, rfl⟩ := q; exact k)
theorem pt_kU3 {x1 x2 x3 : pv} {a ci : Nat} {fs : List pv} (h : pd_kU M pc N 3 n) (hcon : pd_C G N d1 0 0 [vr a, x1, x2, x3] sz hp Rc) (hob : hp a = ob ci fs) {C : String} (hcl : pd_cn ci = some C) (hr : rest.length ≤ 4) (hd : d1 + 1 ≤ d) (hce : ce ≤ mc) (hsl : sl ≤ ms) (k : ∀ (v : Option pv) (sz' : Nat) (hp' : pd_P), Rc v sz' hp' → pd_T G M d mc ms X R n lv (v.toList ++ rest) sz' ce sl hp') : pd_T G M d mc ms X R pc lv (x3 :: x2 :: x1 :: vr a :: rest) sz ce sl hp := pt_kU (As := [x1, x2, x3]) (rest := rest) h hcon hob hcl rfl hr hd hce hsl k
theorem pt_kU3r {x1 x2 x3 : pv} {a ci : Nat} {fs : List pv} {r : pv} (h : pd_kU M pc N 3 n) (hcon : pd_C G N d1 0 0 [vr a, x1, x2, x3] sz hp (pd_pure r sz hp)) (hob : hp a = ob ci fs) {C : String} (hcl : pd_cn ci = some C) (hr : rest.length ≤ 4) (hd : d1 + 1 ≤ d) (hce : ce ≤ mc) (hsl : sl ≤ ms) (k : pd_T G M d mc ms X R n lv (r :: rest) sz ce sl hp) : pd_T G M d mc ms X R pc lv (x3 :: x2 :: x1 :: vr a :: rest) sz ce sl hp := pt_kU (As := [x1, x2, x3]) (rest := rest) h hcon hob hcl rfl hr hd hce hsl (fun v sz' hp' q => by obtain ⟨rfl, rfl, rfl⟩ := q; exact k)
theorem pt_ks1 {x1 : pv} (h : pd_ks M pc N 1 n) (hcon : pd_C G N d1 0 0 [x1] sz hp Rc) (hr : rest.length ≤ 4) (hd : d1 + 1 ≤ d) (hce : ce ≤ mc) (hsl : sl ≤ ms) (k : ∀ (v : Option pv) (sz' : Nat) (hp' : pd_P), Rc v sz' hp' → pd_T G M d mc ms X R n lv (v.toList ++ rest) sz' ce sl hp') : pd_T G M d mc ms X R pc lv (x1 :: rest) sz ce sl hp := pt_ks (As := [x1]) (rest := rest) h hcon rfl hr hd hce hsl k
theorem pt_ks1r {x1 : pv} {r : pv} (h : pd_ks M pc N 1 n) (hcon : pd_C G N d1 0 0 [x1] sz hp (pd_pure r sz hp)) (hr : rest.length ≤ 4) (hd : d1 + 1 ≤ d) (hce : ce ≤ mc) (hsl : sl ≤ ms) (k : pd_T G M d mc ms X R n lv (r :: rest) sz ce sl hp) : pd_T G M d mc ms X R pc lv (x1 :: rest) sz ce sl hp := pt_ks (As := [x1]) (rest := rest) h hcon rfl hr hd hce hsl (fun v sz' hp' q => by obtain ⟨rfl, rfl, rfl⟩ := q; exact k)
theorem pt_ks2 {x1 x2 : pv} (h : pd_ks M pc N 2 n) (hcon : pd_C G N d1 0 0 [x1, x2] sz hp Rc) (hr : rest.length ≤ 4) (hd : d1 + 1 ≤ d) (hce : ce ≤ mc) (hsl : sl ≤ ms) (k : ∀ (v : Option pv) (sz' : Nat) (hp' : pd_P), Rc v sz' hp' → pd_T G M d mc ms X R n lv (v.toList ++ rest) sz' ce sl hp') : pd_T G M d mc ms X R pc lv (x2 :: x1 :: rest) sz ce sl hp := pt_ks (As := [x1, x2]) (rest := rest) h hcon rfl hr hd hce hsl k
theorem pt_ks2r {x1 x2 : pv} {r : pv} (h : pd_ks M pc N 2 n) (hcon : pd_C G N d1 0 0 [x1, x2] sz hp (pd_pure r sz hp)) (hr : rest.length ≤ 4) (hd : d1 + 1 ≤ d) (hce : ce ≤ mc) (hsl : sl ≤ ms) (k : pd_T G M d mc ms X R n lv (r :: rest) sz ce sl hp) : pd_T G M d mc ms X R pc lv (x2 :: x1 :: rest) sz ce sl hp := pt_ks (As := [x1, x2]) (rest := rest) h hcon rfl hr hd hce hsl (fun v sz' hp' q => by obtain ⟨rfl, rfl, rfl⟩ := q; exact k)
theorem pt_ks3 {x1 x2 x3 : pv} (h : pd_ks M pc N 3 n) (hcon : pd_C G N d1 0 0 [x1, x2, x3] sz hp Rc) (hr : rest.length ≤ 4) (hd : d1 + 1 ≤ d) (hce : ce ≤ mc) (hsl : sl ≤ ms) (k : ∀ (v : Option pv) (sz' : Nat) (hp' : pd_P), Rc v sz' hp' → pd_T G M d mc ms X R n lv (v.toList ++ rest) sz' ce sl hp') : pd_T G M d mc ms X R pc lv (x3 :: x2 :: x1 :: rest) sz ce sl hp := pt_ks (As := [x1, x2, x3]) (rest := rest) h hcon rfl hr hd hce hsl k
theorem pt_ks3r {x1 x2 x3 : pv} {r : pv} (h : pd_ks M pc N 3 n) (hcon : pd_C G N d1 0 0 [x1, x2, x3] sz hp (pd_pure r sz hp)) (hr : rest.length ≤ 4) (hd : d1 + 1 ≤ d) (hce : ce ≤ mc) (hsl : sl ≤ ms) (k : pd_T G M d mc ms X R n lv (r :: rest) sz ce sl hp) : pd_T G M d mc ms X R pc lv (x3 :: x2 :: x1 :: rest) sz ce sl hp := pt_ks (As := [x1, x2, x3]) (rest := rest) h hcon rfl hr hd hce hsl (fun v sz' hp' q => by obtain ⟨rfl, rfl, rfl⟩ := q; exact k)
theorem pt_ks4 {x1 x2 x3 x4 : pv} (h : pd_ks M pc N 4 n) (hcon : pd_C G N d1 0 0 [x1, x2, x3, x4] sz hp Rc) (hr : rest.length ≤ 4) (hd : d1 + 1 ≤ d) (hce : ce ≤ mc) (hsl : sl ≤ ms) (k : ∀ (v : Option pv) (sz' : Nat) (hp' : pd_P), Rc v sz' hp' → pd_T G M d mc ms X R n lv (v.toList ++ rest) sz' ce sl hp') : pd_T G M d mc ms X R pc lv (x4 :: x3 :: x2 :: x1 :: rest) sz ce sl hp := pt_ks (As := [x1, x2, x3, x4]) (rest := rest) h hcon rfl hr hd hce hsl k
theorem pt_ks4r {x1 x2 x3 x4 : pv} {r : pv} (h : pd_ks M pc N 4 n) (hcon : pd_C G N d1 0 0 [x1, x2, x3, x4] sz hp (pd_pure r sz hp)) (hr : rest.length ≤ 4) (hd : d1 + 1 ≤ d) (hce : ce ≤ mc) (hsl : sl ≤ ms) (k : pd_T G M d mc ms X R n lv (r :: rest) sz ce sl hp) : pd_T G M d mc ms X R pc lv (x4 :: x3 :: x2 :: x1 :: rest) sz ce sl hp := pt_ks (As := [x1, x2, x3, x4]) (rest := rest) h hcon rfl hr hd hce hsl (fun v sz' hp' q => by obtain ⟨rfl, rfl, rfl⟩ := q; exact k)
theorem pt_kI0 {a mc1 ms1 : Nat} (h : pd_kI M pc N 0 n) (hcon : pd_C G N d1 mc1 ms1 [vr (a + 1)] sz hp Rc) (hr : rest.length ≤ 4) (hd : d1 + 1 ≤ d) (hce : ce + mc1 ≤ mc) (hsl : sl + ms1 ≤ ms) (k : ∀ (v : Option pv) (sz' : Nat) (hp' : pd_P), Rc v sz' hp' → pd_T G M d mc ms X R n lv (v.toList ++ rest) sz' (ce + mc1) (sl + ms1) hp') : pd_T G M d mc ms X R pc lv (vr (a + 1) :: rest) sz ce sl hp := pt_kI (As := []) (rest := rest) h hcon rfl hr hd hce hsl k
theorem pt_istore0 {a0 : Option pv} {r : List (Option pv)} {z : Int} (h : pd_is M pc 0 n) (ho : pd_o1 (a0 :: r) 0 = true) (k : pd_T G M d mc ms X R n (some (vi z) :: r) st sz ce sl hp) : pd_T G M d mc ms X R pc (a0 :: r) (vi z :: st) sz ce sl hp := pt_istore h ho k
theorem pt_astore0 {a0 : Option pv} {r : List (Option pv)} {z : Nat} (h : pd_as M pc 0 n) (ho : pd_o1 (a0 :: r) 0 = true) (k : pd_T G M d mc ms X R n (some (vr z) :: r) st sz ce sl hp) : pd_T G M d mc ms X R pc (a0 :: r) (vr z :: st) sz ce sl hp := pt_astore h ho k
theorem pt_iinc0 {a0 : Option pv} {r : List (Option pv)} {z c0 : Int} (h : pd_ii M pc 0 c0 n) (ho : pd_o1 (some (vi z) :: r) 0 = true) (k : pd_T G M d mc ms X R n (some (vi (z + c0)) :: r) st sz ce sl hp) : pd_T G M d mc ms X R pc (some (vi z) :: r) st sz ce sl hp := pt_iinc h ho rfl k
theorem pt_lstore0 {a0 b0 : Option pv} {r : List (Option pv)} {z : Int} (h : pd_js M pc 0 n) (ho : pd_o1 (a0 :: b0 :: r) 0 = true) (k : pd_T G M d mc ms X R n (some (vl z) :: none :: r) st sz ce sl hp) : pd_T G M d mc ms X R pc (a0 :: b0 :: r) (vl z :: st) sz ce sl hp := pt_lstore h ho k
theorem pt_istore1 {a0 a1 : Option pv} {r : List (Option pv)} {z : Int} (h : pd_is M pc 1 n) (ho : pd_o1 (a0 :: a1 :: r) 1 = true) (k : pd_T G M d mc ms X R n (a0 :: some (vi z) :: r) st sz ce sl hp) : pd_T G M d mc ms X R pc (a0 :: a1 :: r) (vi z :: st) sz ce sl hp := pt_istore h ho k
theorem pt_astore1 {a0 a1 : Option pv} {r : List (Option pv)} {z : Nat} (h : pd_as M pc 1 n) (ho : pd_o1 (a0 :: a1 :: r) 1 = true) (k : pd_T G M d mc ms X R n (a0 :: some (vr z) :: r) st sz ce sl hp) : pd_T G M d mc ms X R pc (a0 :: a1 :: r) (vr z :: st) sz ce sl hp := pt_astore h ho k
theorem pt_iinc1 {a0 a1 : Option pv} {r : List (Option pv)} {z c0 : Int} (h : pd_ii M pc 1 c0 n) (ho : pd_o1 (a0 :: some (vi z) :: r) 1 = true) (k : pd_T G M d mc ms X R n (a0 :: some (vi (z + c0)) :: r) st sz ce sl hp) : pd_T G M d mc ms X R pc (a0 :: some (vi z) :: r) st sz ce sl hp := pt_iinc h ho rfl k
theorem pt_lstore1 {a0 a1 b0 : Option pv} {r : List (Option pv)} {z : Int} (h : pd_js M pc 1 n) (ho : pd_o1 (a0 :: a1 :: b0 :: r) 1 = true) (k : pd_T G M d mc ms X R n (a0 :: some (vl z) :: none :: r) st sz ce sl hp) : pd_T G M d mc ms X R pc (a0 :: a1 :: b0 :: r) (vl z :: st) sz ce sl hp := pt_lstore h ho k
theorem pt_istore2 {a0 a1 a2 : Option pv} {r : List (Option pv)} {z : Int} (h : pd_is M pc 2 n) (ho : pd_o1 (a0 :: a1 :: a2 :: r) 2 = true) (k : pd_T G M d mc ms X R n (a0 :: a1 :: some (vi z) :: r) st sz ce sl hp) : pd_T G M d mc ms X R pc (a0 :: a1 :: a2 :: r) (vi z :: st) sz ce sl hp := pt_istore h ho k
theorem pt_astore2 {a0 a1 a2 : Option pv} {r : List (Option pv)} {z : Nat} (h : pd_as M pc 2 n) (ho : pd_o1 (a0 :: a1 :: a2 :: r) 2 = true) (k : pd_T G M d mc ms X R n (a0 :: a1 :: some (vr z) :: r) st sz ce sl hp) : pd_T G M d mc ms X R pc (a0 :: a1 :: a2 :: r) (vr z :: st) sz ce sl hp := pt_astore h ho k
theorem pt_iinc2 {a0 a1 a2 : Option pv} {r : List (Option pv)} {z c0 : Int} (h : pd_ii M pc 2 c0 n) (ho : pd_o1 (a0 :: a1 :: some (vi z) :: r) 2 = true) (k : pd_T G M d mc ms X R n (a0 :: a1 :: some (vi (z + c0)) :: r) st sz ce sl hp) : pd_T G M d mc ms X R pc (a0 :: a1 :: some (vi z) :: r) st sz ce sl hp := pt_iinc h ho rfl k
theorem pt_lstore2 {a0 a1 a2 b0 : Option pv} {r : List (Option pv)} {z : Int} (h : pd_js M pc 2 n) (ho : pd_o1 (a0 :: a1 :: a2 :: b0 :: r) 2 = true) (k : pd_T G M d mc ms X R n (a0 :: a1 :: some (vl z) :: none :: r) st sz ce sl hp) : pd_T G M d mc ms X R pc (a0 :: a1 :: a2 :: b0 :: r) (vl z :: st) sz ce sl hp := pt_lstore h ho k
theorem pt_istore3 {a0 a1 a2 a3 : Option pv} {r : List (Option pv)} {z : Int} (h : pd_is M pc 3 n) (ho : pd_o1 (a0 :: a1 :: a2 :: a3 :: r) 3 = true) (k : pd_T G M d mc ms X R n (a0 :: a1 :: a2 :: some (vi z) :: r) st sz ce sl hp) : pd_T G M d mc ms X R pc (a0 :: a1 :: a2 :: a3 :: r) (vi z :: st) sz ce sl hp := pt_istore h ho k
theorem pt_astore3 {a0 a1 a2 a3 : Option pv} {r : List (Option pv)} {z : Nat} (h : pd_as M pc 3 n) (ho : pd_o1 (a0 :: a1 :: a2 :: a3 :: r) 3 = true) (k : pd_T G M d mc ms X R n (a0 :: a1 :: a2 :: some (vr z) :: r) st sz ce sl hp) : pd_T G M d mc ms X R pc (a0 :: a1 :: a2 :: a3 :: r) (vr z :: st) sz ce sl hp := pt_astore h ho k
theorem pt_iinc3 {a0 a1 a2 a3 : Option pv} {r : List (Option pv)} {z c0 : Int} (h : pd_ii M pc 3 c0 n) (ho : pd_o1 (a0 :: a1 :: a2 :: some (vi z) :: r) 3 = true) (k : pd_T G M d mc ms X R n (a0 :: a1 :: a2 :: some (vi (z + c0)) :: r) st sz ce sl hp) : pd_T G M d mc ms X R pc (a0 :: a1 :: a2 :: some (vi z) :: r) st sz ce sl hp := pt_iinc h ho rfl k
theorem pt_lstore3 {a0 a1 a2 a3 b0 : Option pv} {r : List (Option pv)} {z : Int} (h : pd_js M pc 3 n) (ho : pd_o1 (a0 :: a1 :: a2 :: a3 :: b0 :: r) 3 = true) (k : pd_T G M d mc ms X R n (a0 :: a1 :: a2 :: some (vl z) :: none :: r) st sz ce sl hp) : pd_T G M d mc ms X R pc (a0 :: a1 :: a2 :: a3 :: b0 :: r) (vl z :: st) sz ce sl hp := pt_lstore h ho k
theorem pt_istore4 {a0 a1 a2 a3 a4 : Option pv} {r : List (Option pv)} {z : Int} (h : pd_is M pc 4 n) (ho : pd_o1 (a0 :: a1 :: a2 :: a3 :: a4 :: r) 4 = true) (k : pd_T G M d mc ms X R n (a0 :: a1 :: a2 :: a3 :: some (vi z) :: r) st sz ce sl hp) : pd_T G M d mc ms X R pc (a0 :: a1 :: a2 :: a3 :: a4 :: r) (vi z :: st) sz ce sl hp := pt_istore h ho k
theorem pt_astore4 {a0 a1 a2 a3 a4 : Option pv} {r : List (Option pv)} {z : Nat} (h : pd_as M pc 4 n) (ho : pd_o1 (a0 :: a1 :: a2 :: a3 :: a4 :: r) 4 = true) (k : pd_T G M d mc ms X R n (a0 :: a1 :: a2 :: a3 :: some (vr z) :: r) st sz ce sl hp) : pd_T G M d mc ms X R pc (a0 :: a1 :: a2 :: a3 :: a4 :: r) (vr z :: st) sz ce sl hp := pt_astore h ho k
theorem pt_iinc4 {a0 a1 a2 a3 a4 : Option pv} {r : List (Option pv)} {z c0 : Int} (h : pd_ii M pc 4 c0 n) (ho : pd_o1 (a0 :: a1 :: a2 :: a3 :: some (vi z) :: r) 4 = true) (k : pd_T G M d mc ms X R n (a0 :: a1 :: a2 :: a3 :: some (vi (z + c0)) :: r) st sz ce sl hp) : pd_T G M d mc ms X R pc (a0 :: a1 :: a2 :: a3 :: some (vi z) :: r) st sz ce sl hp := pt_iinc h ho rfl k
theorem pt_lstore4 {a0 a1 a2 a3 a4 b0 : Option pv} {r : List (Option pv)} {z : Int} (h : pd_js M pc 4 n) (ho : pd_o1 (a0 :: a1 :: a2 :: a3 :: a4 :: b0 :: r) 4 = true) (k : pd_T G M d mc ms X R n (a0 :: a1 :: a2 :: a3 :: some (vl z) :: none :: r) st sz ce sl hp) : pd_T G M d mc ms X R pc (a0 :: a1 :: a2 :: a3 :: a4 :: b0 :: r) (vl z :: st) sz ce sl hp := pt_lstore h ho k
theorem pt_istore5 {a0 a1 a2 a3 a4 a5 : Option pv} {r : List (Option pv)} {z : Int} (h : pd_is M pc 5 n) (ho : pd_o1 (a0 :: a1 :: a2 :: a3 :: a4 :: a5 :: r) 5 = true) (k : pd_T G M d mc ms X R n (a0 :: a1 :: a2 :: a3 :: a4 :: some (vi z) :: r) st sz ce sl hp) : pd_T G M d mc ms X R pc (a0 :: a1 :: a2 :: a3 :: a4 :: a5 :: r) (vi z :: st) sz ce sl hp := pt_istore h ho k
theorem pt_astore5 {a0 a1 a2 a3 a4 a5 : Option pv} {r : List (Option pv)} {z : Nat} (h : pd_as M pc 5 n) (ho : pd_o1 (a0 :: a1 :: a2 :: a3 :: a4 :: a5 :: r) 5 = true) (k : pd_T G M d mc ms X R n (a0 :: a1 :: a2 :: a3 :: a4 :: some (vr z) :: r) st sz ce sl hp) : pd_T G M d mc ms X R pc (a0 :: a1 :: a2 :: a3 :: a4 :: a5 :: r) (vr z :: st) sz ce sl hp := pt_astore h ho k
theorem pt_iinc5 {a0 a1 a2 a3 a4 a5 : Option pv} {r : List (Option pv)} {z c0 : Int} (h : pd_ii M pc 5 c0 n) (ho : pd_o1 (a0 :: a1 :: a2 :: a3 :: a4 :: some (vi z) :: r) 5 = true) (k : pd_T G M d mc ms X R n (a0 :: a1 :: a2 :: a3 :: a4 :: some (vi (z + c0)) :: r) st sz ce sl hp) : pd_T G M d mc ms X R pc (a0 :: a1 :: a2 :: a3 :: a4 :: some (vi z) :: r) st sz ce sl hp := pt_iinc h ho rfl k
theorem pt_lstore5 {a0 a1 a2 a3 a4 a5 b0 : Option pv} {r : List (Option pv)} {z : Int} (h : pd_js M pc 5 n) (ho : pd_o1 (a0 :: a1 :: a2 :: a3 :: a4 :: a5 :: b0 :: r) 5 = true) (k : pd_T G M d mc ms X R n (a0 :: a1 :: a2 :: a3 :: a4 :: some (vl z) :: none :: r) st sz ce sl hp) : pd_T G M d mc ms X R pc (a0 :: a1 :: a2 :: a3 :: a4 :: a5 :: b0 :: r) (vl z :: st) sz ce sl hp := pt_lstore h ho k
theorem pt_istore6 {a0 a1 a2 a3 a4 a5 a6 : Option pv} {r : List (Option pv)} {z : Int} (h : pd_is M pc 6 n) (ho : pd_o1 (a0 :: a1 :: a2 :: a3 :: a4 :: a5 :: a6 :: r) 6 = true) (k : pd_T G M d mc ms X R n (a0 :: a1 :: a2 :: a3 :: a4 :: a5 :: some (vi z) :: r) st sz ce sl hp) : pd_T G M d mc ms X R pc (a0 :: a1 :: a2 :: a3 :: a4 :: a5 :: a6 :: r) (vi z :: st) sz ce sl hp := pt_istore h ho k
theorem pt_astore6 {a0 a1 a2 a3 a4 a5 a6 : Option pv} {r : List (Option pv)} {z : Nat} (h : pd_as M pc 6 n) (ho : pd_o1 (a0 :: a1 :: a2 :: a3 :: a4 :: a5 :: a6 :: r) 6 = true) (k : pd_T G M d mc ms X R n (a0 :: a1 :: a2 :: a3 :: a4 :: a5 :: some (vr z) :: r) st sz ce sl hp) : pd_T G M d mc ms X R pc (a0 :: a1 :: a2 :: a3 :: a4 :: a5 :: a6 :: r) (vr z :: st) sz ce sl hp := pt_astore h ho k
theorem pt_iinc6 {a0 a1 a2 a3 a4 a5 a6 : Option pv} {r : List (Option pv)} {z c0 : Int} (h : pd_ii M pc 6 c0 n) (ho : pd_o1 (a0 :: a1 :: a2 :: a3 :: a4 :: a5 :: some (vi z) :: r) 6 = true) (k : pd_T G M d mc ms X R n (a0 :: a1 :: a2 :: a3 :: a4 :: a5 :: some (vi (z + c0)) :: r) st sz ce sl hp) : pd_T G M d mc ms X R pc (a0 :: a1 :: a2 :: a3 :: a4 :: a5 :: some (vi z) :: r) st sz ce sl hp := pt_iinc h ho rfl k
theorem pt_lstore6 {a0 a1 a2 a3 a4 a5 a6 b0 : Option pv} {r : List (Option pv)} {z : Int} (h : pd_js M pc 6 n) (ho : pd_o1 (a0 :: a1 :: a2 :: a3 :: a4 :: a5 :: a6 :: b0 :: r) 6 = true) (k : pd_T G M d mc ms X R n (a0 :: a1 :: a2 :: a3 :: a4 :: a5 :: some (vl z) :: none :: r) st sz ce sl hp) : pd_T G M d mc ms X R pc (a0 :: a1 :: a2 :: a3 :: a4 :: a5 :: a6 :: b0 :: r) (vl z :: st) sz ce sl hp := pt_lstore h ho k
theorem pt_istore7 {a0 a1 a2 a3 a4 a5 a6 a7 : Option pv} {r : List (Option pv)} {z : Int} (h : pd_is M pc 7 n) (ho : pd_o1 (a0 :: a1 :: a2 :: a3 :: a4 :: a5 :: a6 :: a7 :: r) 7 = true) (k : pd_T G M d mc ms X R n (a0 :: a1 :: a2 :: a3 :: a4 :: a5 :: a6 :: some (vi z) :: r) st sz ce sl hp) : pd_T G M d mc ms X R pc (a0 :: a1 :: a2 :: a3 :: a4 :: a5 :: a6 :: a7 :: r) (vi z :: st) sz ce sl hp := pt_istore h ho k
theorem pt_astore7 {a0 a1 a2 a3 a4 a5 a6 a7 : Option pv} {r : List (Option pv)} {z : Nat} (h : pd_as M pc 7 n) (ho : pd_o1 (a0 :: a1 :: a2 :: a3 :: a4 :: a5 :: a6 :: a7 :: r) 7 = true) (k : pd_T G M d mc ms X R n (a0 :: a1 :: a2 :: a3 :: a4 :: a5 :: a6 :: some (vr z) :: r) st sz ce sl hp) : pd_T G M d mc ms X R pc (a0 :: a1 :: a2 :: a3 :: a4 :: a5 :: a6 :: a7 :: r) (vr z :: st) sz ce sl hp := pt_astore h ho k
theorem pt_iinc7 {a0 a1 a2 a3 a4 a5 a6 a7 : Option pv} {r : List (Option pv)} {z c0 : Int} (h : pd_ii M pc 7 c0 n) (ho : pd_o1 (a0 :: a1 :: a2 :: a3 :: a4 :: a5 :: a6 :: some (vi z) :: r) 7 = true) (k : pd_T G M d mc ms X R n (a0 :: a1 :: a2 :: a3 :: a4 :: a5 :: a6 :: some (vi (z + c0)) :: r) st sz ce sl hp) : pd_T G M d mc ms X R pc (a0 :: a1 :: a2 :: a3 :: a4 :: a5 :: a6 :: some (vi z) :: r) st sz ce sl hp := pt_iinc h ho rfl k
theorem pt_lstore7 {a0 a1 a2 a3 a4 a5 a6 a7 b0 : Option pv} {r : List (Option pv)} {z : Int} (h : pd_js M pc 7 n) (ho : pd_o1 (a0 :: a1 :: a2 :: a3 :: a4 :: a5 :: a6 :: a7 :: b0 :: r) 7 = true) (k : pd_T G M d mc ms X R n (a0 :: a1 :: a2 :: a3 :: a4 :: a5 :: a6 :: some (vl z) :: none :: r) st sz ce sl hp) : pd_T G M d mc ms X R pc (a0 :: a1 :: a2 :: a3 :: a4 :: a5 :: a6 :: a7 :: b0 :: r) (vl z :: st) sz ce sl hp := pt_lstore h ho k
theorem pt_istore8 {a0 a1 a2 a3 a4 a5 a6 a7 a8 : Option pv} {r : List (Option pv)} {z : Int} (h : pd_is M pc 8 n) (ho : pd_o1 (a0 :: a1 :: a2 :: a3 :: a4 :: a5 :: a6 :: a7 :: a8 :: r) 8 = true) (k : pd_T G M d mc ms X R n (a0 :: a1 :: a2 :: a3 :: a4 :: a5 :: a6 :: a7 :: some (vi z) :: r) st sz ce sl hp) : pd_T G M d mc ms X R pc (a0 :: a1 :: a2 :: a3 :: a4 :: a5 :: a6 :: a7 :: a8 :: r) (vi z :: st) sz ce sl hp := pt_istore h ho k
theorem pt_astore8 {a0 a1 a2 a3 a4 a5 a6 a7 a8 : Option pv} {r : List (Option pv)} {z : Nat} (h : pd_as M pc 8 n) (ho : pd_o1 (a0 :: a1 :: a2 :: a3 :: a4 :: a5 :: a6 :: a7 :: a8 :: r) 8 = true) (k : pd_T G M d mc ms X R n (a0 :: a1 :: a2 :: a3 :: a4 :: a5 :: a6 :: a7 :: some (vr z) :: r) st sz ce sl hp) : pd_T G M d mc ms X R pc (a0 :: a1 :: a2 :: a3 :: a4 :: a5 :: a6 :: a7 :: a8 :: r) (vr z :: st) sz ce sl hp := pt_astore h ho k
theorem pt_iinc8 {a0 a1 a2 a3 a4 a5 a6 a7 a8 : Option pv} {r : List (Option pv)} {z c0 : Int} (h : pd_ii M pc 8 c0 n) (ho : pd_o1 (a0 :: a1 :: a2 :: a3 :: a4 :: a5 :: a6 :: a7 :: some (vi z) :: r) 8 = true) (k : pd_T G M d mc ms X R n (a0 :: a1 :: a2 :: a3 :: a4 :: a5 :: a6 :: a7 :: some (vi (z + c0)) :: r) st sz ce sl hp) : pd_T G M d mc ms X R pc (a0 :: a1 :: a2 :: a3 :: a4 :: a5 :: a6 :: a7 :: some (vi z) :: r) st sz ce sl hp := pt_iinc h ho rfl k
theorem pt_lstore8 {a0 a1 a2 a3 a4 a5 a6 a7 a8 b0 : Option pv} {r : List (Option pv)} {z : Int} (h : pd_js M pc 8 n) (ho : pd_o1 (a0 :: a1 :: a2 :: a3 :: a4 :: a5 :: a6 :: a7 :: a8 :: b0 :: r) 8 = true) (k : pd_T G M d mc ms X R n (a0 :: a1 :: a2 :: a3 :: a4 :: a5 :: a6 :: a7 :: some (vl z) :: none :: r) st sz ce sl hp) : pd_T G M d mc ms X R pc (a0 :: a1 :: a2 :: a3 :: a4 :: a5 :: a6 :: a7 :: a8 :: b0 :: r) (vl z :: st) sz ce sl hp := pt_lstore h ho k
theorem pt_istore9 {a0 a1 a2 a3 a4 a5 a6 a7 a8 a9 : Option pv} {r : List (Option pv)} {z : Int} (h : pd_is M pc 9 n) (ho : pd_o1 (a0 :: a1 :: a2 :: a3 :: a4 :: a5 :: a6 :: a7 :: a8 :: a9 :: r) 9 = true) (k : pd_T G M d mc ms X R n (a0 :: a1 :: a2 :: a3 :: a4 :: a5 :: a6 :: a7 :: a8 :: some (vi z) :: r) st sz ce sl hp) : pd_T G M d mc ms X R pc (a0 :: a1 :: a2 :: a3 :: a4 :: a5 :: a6 :: a7 :: a8 :: a9 :: r) (vi z :: st) sz ce sl hp := pt_istore h ho k
theorem pt_astore9 {a0 a1 a2 a3 a4 a5 a6 a7 a8 a9 : Option pv} {r : List (Option pv)} {z : Nat} (h : pd_as M pc 9 n) (ho : pd_o1 (a0 :: a1 :: a2 :: a3 :: a4 :: a5 :: a6 :: a7 :: a8 :: a9 :: r) 9 = true) (k : pd_T G M d mc ms X R n (a0 :: a1 :: a2 :: a3 :: a4 :: a5 :: a6 :: a7 :: a8 :: some (vr z) :: r) st sz ce sl hp) : pd_T G M d mc ms X R pc (a0 :: a1 :: a2 :: a3 :: a4 :: a5 :: a6 :: a7 :: a8 :: a9 :: r) (vr z :: st) sz ce sl hp := pt_astore h ho k
theorem pt_iinc9 {a0 a1 a2 a3 a4 a5 a6 a7 a8 a9 : Option pv} {r : List (Option pv)} {z c0 : Int} (h : pd_ii M pc 9 c0 n) (ho : pd_o1 (a0 :: a1 :: a2 :: a3 :: a4 :: a5 :: a6 :: a7 :: a8 :: some (vi z) :: r) 9 = true) (k : pd_T G M d mc ms X R n (a0 :: a1 :: a2 :: a3 :: a4 :: a5 :: a6 :: a7 :: a8 :: some (vi (z + c0)) :: r) st sz ce sl hp) : pd_T G M d mc ms X R pc (a0 :: a1 :: a2 :: a3 :: a4 :: a5 :: a6 :: a7 :: a8 :: some (vi z) :: r) st sz ce sl hp := pt_iinc h ho rfl k
theorem pt_lstore9 {a0 a1 a2 a3 a4 a5 a6 a7 a8 a9 b0 : Option pv} {r : List (Option pv)} {z : Int} (h : pd_js M pc 9 n) (ho : pd_o1 (a0 :: a1 :: a2 :: a3 :: a4 :: a5 :: a6 :: a7 :: a8 :: a9 :: b0 :: r) 9 = true) (k : pd_T G M d mc ms X R n (a0 :: a1 :: a2 :: a3 :: a4 :: a5 :: a6 :: a7 :: a8 :: some (vl z) :: none :: r) st sz ce sl hp) : pd_T G M d mc ms X R pc (a0 :: a1 :: a2 :: a3 :: a4 :: a5 :: a6 :: a7 :: a8 :: a9 :: b0 :: r) (vl z :: st) sz ce sl hp := pt_lstore h ho k
theorem pt_istore10 {a0 a1 a2 a3 a4 a5 a6 a7 a8 a9 a10 : Option pv} {r : List (Option pv)} {z : Int} (h : pd_is M pc 10 n) (ho : pd_o1 (a0 :: a1 :: a2 :: a3 :: a4 :: a5 :: a6 :: a7 :: a8 :: a9 :: a10 :: r) 10 = true) (k : pd_T G M d mc ms X R n (a0 :: a1 :: a2 :: a3 :: a4 :: a5 :: a6 :: a7 :: a8 :: a9 :: some (vi z) :: r) st sz ce sl hp) : pd_T G M d mc ms X R pc (a0 :: a1 :: a2 :: a3 :: a4 :: a5 :: a6 :: a7 :: a8 :: a9 :: a10 :: r) (vi z :: st) sz ce sl hp := pt_istore h ho k
theorem pt_astore10 {a0 a1 a2 a3 a4 a5 a6 a7 a8 a9 a10 : Option pv} {r : List (Option pv)} {z : Nat} (h : pd_as M pc 10 n) (ho : pd_o1 (a0 :: a1 :: a2 :: a3 :: a4 :: a5 :: a6 :: a7 :: a8 :: a9 :: a10 :: r) 10 = true) (k : pd_T G M d mc ms X R n (a0 :: a1 :: a2 :: a3 :: a4 :: a5 :: a6 :: a7 :: a8 :: a9 :: some (vr z) :: r) st sz ce sl hp) : pd_T G M d mc ms X R pc (a0 :: a1 :: a2 :: a3 :: a4 :: a5 :: a6 :: a7 :: a8 :: a9 :: a10 :: r) (vr z :: st) sz ce sl hp := pt_astore h ho k
theorem pt_iinc10 {a0 a1 a2 a3 a4 a5 a6 a7 a8 a9 a10 : Option pv} {r : List (Option pv)} {z c0 : Int} (h : pd_ii M pc 10 c0 n) (ho : pd_o1 (a0 :: a1 :: a2 :: a3 :: a4 :: a5 :: a6 :: a7 :: a8 :: a9 :: some (vi z) :: r) 10 = true) (k : pd_T G M d mc ms X R n (a0 :: a1 :: a2 :: a3 :: a4 :: a5 :: a6 :: a7 :: a8 :: a9 :: some (vi (z + c0)) :: r) st sz ce sl hp) : pd_T G M d mc ms X R pc (a0 :: a1 :: a2 :: a3 :: a4 :: a5 :: a6 :: a7 :: a8 :: a9 :: some (vi z) :: r) st sz ce sl hp := pt_iinc h ho rfl k
theorem pt_lstore10 {a0 a1 a2 a3 a4 a5 a6 a7 a8 a9 a10 b0 : Option pv} {r : List (Option pv)} {z : Int} (h : pd_js M pc 10 n) (ho : pd_o1 (a0 :: a1 :: a2 :: a3 :: a4 :: a5 :: a6 :: a7 :: a8 :: a9 :: a10 :: b0 :: r) 10 = true) (k : pd_T G M d mc ms X R n (a0 :: a1 :: a2 :: a3 :: a4 :: a5 :: a6 :: a7 :: a8 :: a9 :: some (vl z) :: none :: r) st sz ce sl hp) : pd_T G M d mc ms X R pc (a0 :: a1 :: a2 :: a3 :: a4 :: a5 :: a6 :: a7 :: a8 :: a9 :: a10 :: b0 :: r) (vl z :: st) sz ce sl hp := pt_lstore h ho k
theorem pt_istore11 {a0 a1 a2 a3 a4 a5 a6 a7 a8 a9 a10 a11 : Option pv} {r : List (Option pv)} {z : Int} (h : pd_is M pc 11 n) (ho : pd_o1 (a0 :: a1 :: a2 :: a3 :: a4 :: a5 :: a6 :: a7 :: a8 :: a9 :: a10 :: a11 :: r) 11 = true) (k : pd_T G M d mc ms X R n (a0 :: a1 :: a2 :: a3 :: a4 :: a5 :: a6 :: a7 :: a8 :: a9 :: a10 :: some (vi z) :: r) st sz ce sl hp) : pd_T G M d mc ms X R pc (a0 :: a1 :: a2 :: a3 :: a4 :: a5 :: a6 :: a7 :: a8 :: a9 :: a10 :: a11 :: r) (vi z :: st) sz ce sl hp := pt_istore h ho k
theorem pt_astore11 {a0 a1 a2 a3 a4 a5 a6 a7 a8 a9 a10 a11 : Option pv} {r : List (Option pv)} {z : Nat} (h : pd_as M pc 11 n) (ho : pd_o1 (a0 :: a1 :: a2 :: a3 :: a4 :: a5 :: a6 :: a7 :: a8 :: a9 :: a10 :: a11 :: r) 11 = true) (k : pd_T G M d mc ms X R n (a0 :: a1 :: a2 :: a3 :: a4 :: a5 :: a6 :: a7 :: a8 :: a9 :: a10 :: some (vr z) :: r) st sz ce sl hp) : pd_T G M d mc ms X R pc (a0 :: a1 :: a2 :: a3 :: a4 :: a5 :: a6 :: a7 :: a8 :: a9 :: a10 :: a11 :: r) (vr z :: st) sz ce sl hp := pt_astore h ho k
theorem pt_iinc11 {a0 a1 a2 a3 a4 a5 a6 a7 a8 a9 a10 a11 : Option pv} {r : List (Option pv)} {z c0 : Int} (h : pd_ii M pc 11 c0 n) (ho : pd_o1 (a0 :: a1 :: a2 :: a3 :: a4 :: a5 :: a6 :: a7 :: a8 :: a9 :: a10 :: some (vi z) :: r) 11 = true) (k : pd_T G M d mc ms X R n (a0 :: a1 :: a2 :: a3 :: a4 :: a5 :: a6 :: a7 :: a8 :: a9 :: a10 :: some (vi (z + c0)) :: r) st sz ce sl hp) : pd_T G M d mc ms X R pc (a0 :: a1 :: a2 :: a3 :: a4 :: a5 :: a6 :: a7 :: a8 :: a9 :: a10 :: some (vi z) :: r) st sz ce sl hp := pt_iinc h ho rfl k
theorem pt_lstore11 {a0 a1 a2 a3 a4 a5 a6 a7 a8 a9 a10 a11 b0 : Option pv} {r : List (Option pv)} {z : Int} (h : pd_js M pc 11 n) (ho : pd_o1 (a0 :: a1 :: a2 :: a3 :: a4 :: a5 :: a6 :: a7 :: a8 :: a9 :: a10 :: a11 :: b0 :: r) 11 = true) (k : pd_T G M d mc ms X R n (a0 :: a1 :: a2 :: a3 :: a4 :: a5 :: a6 :: a7 :: a8 :: a9 :: a10 :: some (vl z) :: none :: r) st sz ce sl hp) : pd_T G M d mc ms X R pc (a0 :: a1 :: a2 :: a3 :: a4 :: a5 :: a6 :: a7 :: a8 :: a9 :: a10 :: a11 :: b0 :: r) (vl z :: st) sz ce sl hp := pt_lstore h ho k
theorem pt_istore12 {a0 a1 a2 a3 a4 a5 a6 a7 a8 a9 a10 a11 a12 : Option pv} {r : List (Option pv)} {z : Int} (h : pd_is M pc 12 n) (ho : pd_o1 (a0 :: a1 :: a2 :: a3 :: a4 :: a5 :: a6 :: a7 :: a8 :: a9 :: a10 :: a11 :: a12 :: r) 12 = true) (k : pd_T G M d mc ms X R n (a0 :: a1 :: a2 :: a3 :: a4 :: a5 :: a6 :: a7 :: a8 :: a9 :: a10 :: a11 :: some (vi z) :: r) st sz ce sl hp) : pd_T G M d mc ms X R pc (a0 :: a1 :: a2 :: a3 :: a4 :: a5 :: a6 :: a7 :: a8 :: a9 :: a10 :: a11 :: a12 :: r) (vi z :: st) sz ce sl hp := pt_istore h ho k
theorem pt_astore12 {a0 a1 a2 a3 a4 a5 a6 a7 a8 a9 a10 a11 a12 : Option pv} {r : List (Option pv)} {z : Nat} (h : pd_as M pc 12 n) (ho : pd_o1 (a0 :: a1 :: a2 :: a3 :: a4 :: a5 :: a6 :: a7 :: a8 :: a9 :: a10 :: a11 :: a12 :: r) 12 = true) (k : pd_T G M d mc ms X R n (a0 :: a1 :: a2 :: a3 :: a4 :: a5 :: a6 :: a7 :: a8 :: a9 :: a10 :: a11 :: some (vr z) :: r) st sz ce sl hp) : pd_T G M d mc ms X R pc (a0 :: a1 :: a2 :: a3 :: a4 :: a5 :: a6 :: a7 :: a8 :: a9 :: a10 :: a11 :: a12 :: r) (vr z :: st) sz ce sl hp := pt_astore h ho k
theorem pt_iinc12 {a0 a1 a2 a3 a4 a5 a6 a7 a8 a9 a10 a11 a12 : Option pv} {r : List (Option pv)} {z c0 : Int} (h : pd_ii M pc 12 c0 n) (ho : pd_o1 (a0 :: a1 :: a2 :: a3 :: a4 :: a5 :: a6 :: a7 :: a8 :: a9 :: a10 :: a11 :: some (vi z) :: r) 12 = true) (k : pd_T G M d mc ms X R n (a0 :: a1 :: a2 :: a3 :: a4 :: a5 :: a6 :: a7 :: a8 :: a9 :: a10 :: a11 :: some (vi (z + c0)) :: r) st sz ce sl hp) : pd_T G M d mc ms X R pc (a0 :: a1 :: a2 :: a3 :: a4 :: a5 :: a6 :: a7 :: a8 :: a9 :: a10 :: a11 :: some (vi z) :: r) st sz ce sl hp := pt_iinc h ho rfl k
theorem pt_lstore12 {a0 a1 a2 a3 a4 a5 a6 a7 a8 a9 a10 a11 a12 b0 : Option pv} {r : List (Option pv)} {z : Int} (h : pd_js M pc 12 n) (ho : pd_o1 (a0 :: a1 :: a2 :: a3 :: a4 :: a5 :: a6 :: a7 :: a8 :: a9 :: a10 :: a11 :: a12 :: b0 :: r) 12 = true) (k : pd_T G M d mc ms X R n (a0 :: a1 :: a2 :: a3 :: a4 :: a5 :: a6 :: a7 :: a8 :: a9 :: a10 :: a11 :: some (vl z) :: none :: r) st sz ce sl hp) : pd_T G M d mc ms X R pc (a0 :: a1 :: a2 :: a3 :: a4 :: a5 :: a6 :: a7 :: a8 :: a9 :: a10 :: a11 :: a12 :: b0 :: r) (vl z :: st) sz ce sl hp := pt_lstore h ho k
theorem pt_istore13 {a0 a1 a2 a3 a4 a5 a6 a7 a8 a9 a10 a11 a12 a13 : Option pv} {r : List (Option pv)} {z : Int} (h : pd_is M pc 13 n) (ho : pd_o1 (a0 :: a1 :: a2 :: a3 :: a4 :: a5 :: a6 :: a7 :: a8 :: a9 :: a10 :: a11 :: a12 :: a13 :: r) 13 = true) (k : pd_T G M d mc ms X R n (a0 :: a1 :: a2 :: a3 :: a4 :: a5 :: a6 :: a7 :: a8 :: a9 :: a10 :: a11 :: a12 :: some (vi z) :: r) st sz ce sl hp) : pd_T G M d mc ms X R pc (a0 :: a1 :: a2 :: a3 :: a4 :: a5 :: a6 :: a7 :: a8 :: a9 :: a10 :: a11 :: a12 :: a13 :: r) (vi z :: st) sz ce sl hp := pt_istore h ho k
theorem pt_astore13 {a0 a1 a2 a3 a4 a5 a6 a7 a8 a9 a10 a11 a12 a13 : Option pv} {r : List (Option pv)} {z : Nat} (h : pd_as M pc 13 n) (ho : pd_o1 (a0 :: a1 :: a2 :: a3 :: a4 :: a5 :: a6 :: a7 :: a8 :: a9 :: a10 :: a11 :: a12 :: a13 :: r) 13 = true) (k : pd_T G M d mc ms X R n (a0 :: a1 :: a2 :: a3 :: a4 :: a5 :: a6 :: a7 :: a8 :: a9 :: a10 :: a11 :: a12 :: some (vr z) :: r) st sz ce sl hp) : pd_T G M d mc ms X R pc (a0 :: a1 :: a2 :: a3 :: a4 :: a5 :: a6 :: a7 :: a8 :: a9 :: a10 :: a11 :: a12 :: a13 :: r) (vr z :: st) sz ce sl hp := pt_astore h ho k
theorem pt_iinc13 {a0 a1 a2 a3 a4 a5 a6 a7 a8 a9 a10 a11 a12 a13 : Option pv} {r : List (Option pv)} {z c0 : Int} (h : pd_ii M pc 13 c0 n) (ho : pd_o1 (a0 :: a1 :: a2 :: a3 :: a4 :: a5 :: a6 :: a7 :: a8 :: a9 :: a10 :: a11 :: a12 :: some (vi z) :: r) 13 = true) (k : pd_T G M d mc ms X R n (a0 :: a1 :: a2 :: a3 :: a4 :: a5 :: a6 :: a7 :: a8 :: a9 :: a10 :: a11 :: a12 :: some (vi (z + c0)) :: r) st sz ce sl hp) : pd_T G M d mc ms X R pc (a0 :: a1 :: a2 :: a3 :: a4 :: a5 :: a6 :: a7 :: a8 :: a9 :: a10 :: a11 :: a12 :: some (vi z) :: r) st sz ce sl hp := pt_iinc h ho rfl k
end PDCP
end
section
def mT_init : pd_M := (⟨"PantryDoors$Text", "<init>", "()V"⟩, prog_12_method_1_code, 1, none)
theorem kT_init : pd_ok mT_init 0 := ⟨(pd_m 73 (by decide +kernel) (by decide +kernel)), (pd_m 47 (by decide +kernel) (by decide +kernel)), by decide +kernel, by decide, by decide, by decide +kernel, by decide⟩
def mT_tell : pd_M := (⟨"PantryDoors$Text", "tell", "(LPantryDoors$House;)I"⟩, prog_12_method_2_code, 3, (some .int))
theorem kT_tell : pd_ok mT_tell 1 := ⟨(pd_m 370 (by decide +kernel) (by decide +kernel)), (pd_m 47 (by decide +kernel) (by decide +kernel)), by decide +kernel, by decide, by decide, by decide +kernel, by decide⟩
def mT_readItem : pd_M := (⟨"PantryDoors$Text", "readItem", "(LPantryDoors$House;)Z"⟩, prog_12_method_3_code, 5, (some .boolean))
theorem kT_readItem : pd_ok mT_readItem 1 := ⟨(pd_m 400 (by decide +kernel) (by decide +kernel)), (pd_m 47 (by decide +kernel) (by decide +kernel)), by decide +kernel, by decide, by decide, by decide +kernel, by decide⟩
def mT_canBegin : pd_M := (⟨"PantryDoors$Text", "canBegin", "(LPantryDoors$House;I)Z"⟩, prog_12_method_4_code, 3, (some .boolean))
theorem kT_canBegin : pd_ok mT_canBegin 2 := ⟨(pd_m 404 (by decide +kernel) (by decide +kernel)), (pd_m 47 (by decide +kernel) (by decide +kernel)), by decide +kernel, by decide, by decide, by decide +kernel, by decide⟩
def mT_numbersOf : pd_M := (⟨"PantryDoors$Text", "numbersOf", "(I)I"⟩, prog_12_method_5_code, 1, (some .int))
theorem kT_numbersOf : pd_ok mT_numbersOf 1 := ⟨(pd_m 407 (by decide +kernel) (by decide +kernel)), (pd_m 47 (by decide +kernel) (by decide +kernel)), by decide +kernel, by decide, by decide, by decide +kernel, by decide⟩
def mT_leastOf : pd_M := (⟨"PantryDoors$Text", "leastOf", "(II)I"⟩, prog_12_method_6_code, 2, (some .int))
theorem kT_leastOf : pd_ok mT_leastOf 2 := ⟨(pd_m 410 (by decide +kernel) (by decide +kernel)), (pd_m 47 (by decide +kernel) (by decide +kernel)), by decide +kernel, by decide, by decide, by decide +kernel, by decide⟩
def mT_mostOf : pd_M := (⟨"PantryDoors$Text", "mostOf", "(LPantryDoors$House;II)I"⟩, prog_12_method_7_code, 3, (some .int))
theorem kT_mostOf : pd_ok mT_mostOf 3 := ⟨(pd_m 413 (by decide +kernel) (by decide +kernel)), (pd_m 47 (by decide +kernel) (by decide +kernel)), by decide +kernel, by decide, by decide, by decide +kernel, by decide⟩
def mT_put : pd_M := (⟨"PantryDoors$Text", "put", "(LPantryDoors$House;I)V"⟩, prog_12_method_8_code, 3, none)
theorem kT_put : pd_ok mT_put 2 := ⟨(pd_m 417 (by decide +kernel) (by decide +kernel)), (pd_m 47 (by decide +kernel) (by decide +kernel)), by decide +kernel, by decide, by decide, by decide +kernel, by decide⟩
def mT_putGood : pd_M := (⟨"PantryDoors$Text", "putGood", "(LPantryDoors$House;)V"⟩, prog_12_method_9_code, 3, none)
theorem kT_putGood : pd_ok mT_putGood 1 := ⟨(pd_m 421 (by decide +kernel) (by decide +kernel)), (pd_m 47 (by decide +kernel) (by decide +kernel)), by decide +kernel, by decide, by decide, by decide +kernel, by decide⟩
def mT_putDoor : pd_M := (⟨"PantryDoors$Text", "putDoor", "(LPantryDoors$House;)V"⟩, prog_12_method_10_code, 2, none)
theorem kT_putDoor : pd_ok mT_putDoor 1 := ⟨(pd_m 425 (by decide +kernel) (by decide +kernel)), (pd_m 47 (by decide +kernel) (by decide +kernel)), by decide +kernel, by decide, by decide, by decide +kernel, by decide⟩
def mT_next : pd_M := (⟨"PantryDoors$Text", "next", "()V"⟩, prog_12_method_11_code, 1, none)
theorem kT_next : pd_ok mT_next 0 := ⟨(pd_m 378 (by decide +kernel) (by decide +kernel)), (pd_m 47 (by decide +kernel) (by decide +kernel)), by decide +kernel, by decide, by decide, by decide +kernel, by decide⟩
def mT_nextLetters : pd_M := (⟨"PantryDoors$Text", "nextLetters", "()V"⟩, prog_12_method_12_code, 1, none)
theorem kT_nextLetters : pd_ok mT_nextLetters 0 := ⟨(pd_m 386 (by decide +kernel) (by decide +kernel)), (pd_m 47 (by decide +kernel) (by decide +kernel)), by decide +kernel, by decide, by decide, by decide +kernel, by decide⟩
def mT_nextNumber : pd_M := (⟨"PantryDoors$Text", "nextNumber", "()V"⟩, prog_12_method_13_code, 2, none)
theorem kT_nextNumber : pd_ok mT_nextNumber 0 := ⟨(pd_m 393 (by decide +kernel) (by decide +kernel)), (pd_m 47 (by decide +kernel) (by decide +kernel)), by decide +kernel, by decide, by decide, by decide +kernel, by decide⟩
def mT_isLetter : pd_M := (⟨"PantryDoors$Text", "isLetter", "(I)Z"⟩, prog_12_method_14_code, 1, (some .boolean))
theorem kT_isLetter : pd_ok mT_isLetter 1 := ⟨(pd_m 381 (by decide +kernel) (by decide +kernel)), (pd_m 47 (by decide +kernel) (by decide +kernel)), by decide +kernel, by decide, by decide, by decide +kernel, by decide⟩
def mT_isDigit : pd_M := (⟨"PantryDoors$Text", "isDigit", "(I)Z"⟩, prog_12_method_15_code, 1, (some .boolean))
theorem kT_isDigit : pd_ok mT_isDigit 1 := ⟨(pd_m 389 (by decide +kernel) (by decide +kernel)), (pd_m 47 (by decide +kernel) (by decide +kernel)), by decide +kernel, by decide, by decide, by decide +kernel, by decide⟩
def mH_init : pd_M := (⟨"PantryDoors$House", "<init>", "()V"⟩, prog_6_method_1_code, 1, none)
theorem kH_init : pd_ok mH_init 0 := ⟨(pd_m 249 (by decide +kernel) (by decide +kernel)), (pd_m 57 (by decide +kernel) (by decide +kernel)), by decide +kernel, by decide, by decide, by decide +kernel, by decide⟩
def mH_empty : pd_M := (⟨"PantryDoors$House", "empty", "()V"⟩, prog_6_method_2_code, 2, none)
theorem kH_empty : pd_ok mH_empty 0 := ⟨(pd_m 374 (by decide +kernel) (by decide +kernel)), (pd_m 57 (by decide +kernel) (by decide +kernel)), by decide +kernel, by decide, by decide, by decide +kernel, by decide⟩
def mH_has : pd_M := (⟨"PantryDoors$House", "has", "(I)Z"⟩, prog_6_method_3_code, 2, (some .boolean))
theorem kH_has : pd_ok mH_has 1 := ⟨(pd_m 449 (by decide +kernel) (by decide +kernel)), (pd_m 57 (by decide +kernel) (by decide +kernel)), by decide +kernel, by decide, by decide, by decide +kernel, by decide⟩
def mH_leads : pd_M := (⟨"PantryDoors$House", "leads", "(I)I"⟩, prog_6_method_4_code, 2, (some .int))
theorem kH_leads : pd_ok mH_leads 1 := ⟨(pd_m 467 (by decide +kernel) (by decide +kernel)), (pd_m 57 (by decide +kernel) (by decide +kernel)), by decide +kernel, by decide, by decide, by decide +kernel, by decide⟩
def mH_rest : pd_M := (⟨"PantryDoors$House", "rest", "(III)I"⟩, prog_6_method_5_code, 5, (some .int))
theorem kH_rest : pd_ok mH_rest 3 := ⟨(pd_m 433 (by decide +kernel) (by decide +kernel)), (pd_m 57 (by decide +kernel) (by decide +kernel)), by decide +kernel, by decide, by decide, by decide +kernel, by decide⟩
def mH_reckonStores : pd_M := (⟨"PantryDoors$House", "reckonStores", "()V"⟩, prog_6_method_6_code, 3, none)
theorem kH_reckonStores : pd_ok mH_reckonStores 0 := ⟨(pd_m 429 (by decide +kernel) (by decide +kernel)), (pd_m 57 (by decide +kernel) (by decide +kernel)), by decide +kernel, by decide, by decide, by decide +kernel, by decide⟩
def mS_init : pd_M := (⟨"PantryDoors$State", "<init>", "()V"⟩, prog_10_method_1_code, 1, none)
theorem kS_init : pd_ok mS_init 0 := ⟨(pd_m 113 (by decide +kernel) (by decide +kernel)), (pd_m 49 (by decide +kernel) (by decide +kernel)), by decide +kernel, by decide, by decide, by decide +kernel, by decide⟩
def mS_begin : pd_M := (⟨"PantryDoors$State", "begin", "(LPantryDoors$House;)V"⟩, prog_10_method_2_code, 3, none)
theorem kS_begin : pd_ok mS_begin 1 := ⟨(pd_m 445 (by decide +kernel) (by decide +kernel)), (pd_m 49 (by decide +kernel) (by decide +kernel)), by decide +kernel, by decide, by decide, by decide +kernel, by decide⟩
def mS_copy : pd_M := (⟨"PantryDoors$State", "copy", "(LPantryDoors$State;)V"⟩, prog_10_method_3_code, 2, none)
theorem kS_copy : pd_ok mS_copy 1 := ⟨(pd_m 490 (by decide +kernel) (by decide +kernel)), (pd_m 49 (by decide +kernel) (by decide +kernel)), by decide +kernel, by decide, by decide, by decide +kernel, by decide⟩
def mS_leads : pd_M := (⟨"PantryDoors$State", "leads", "(LPantryDoors$House;)I"⟩, prog_10_method_4_code, 2, (some .int))
theorem kS_leads : pd_ok mS_leads 1 := ⟨(pd_m 507 (by decide +kernel) (by decide +kernel)), (pd_m 49 (by decide +kernel) (by decide +kernel)), by decide +kernel, by decide, by decide, by decide +kernel, by decide⟩
def mS_open : pd_M := (⟨"PantryDoors$State", "open", "(LPantryDoors$House;I)I"⟩, prog_10_method_5_code, 3, (some .int))
theorem kS_open : pd_ok mS_open 2 := ⟨(pd_m 459 (by decide +kernel) (by decide +kernel)), (pd_m 49 (by decide +kernel) (by decide +kernel)), by decide +kernel, by decide, by decide, by decide +kernel, by decide⟩
def mS_openOn : pd_M := (⟨"PantryDoors$State", "openOn", "(LPantryDoors$House;II)I"⟩, prog_10_method_6_code, 5, (some .int))
theorem kS_openOn : pd_ok mS_openOn 3 := ⟨(pd_m 463 (by decide +kernel) (by decide +kernel)), (pd_m 49 (by decide +kernel) (by decide +kernel)), by decide +kernel, by decide, by decide, by decide +kernel, by decide⟩
def mS_add : pd_M := (⟨"PantryDoors$State", "add", "(II)I"⟩, prog_10_method_7_code, 3, (some .int))
theorem kS_add : pd_ok mS_add 2 := ⟨(pd_m 511 (by decide +kernel) (by decide +kernel)), (pd_m 49 (by decide +kernel) (by decide +kernel)), by decide +kernel, by decide, by decide, by decide +kernel, by decide⟩
def mS_pass : pd_M := (⟨"PantryDoors$State", "pass", "(LPantryDoors$House;)I"⟩, prog_10_method_8_code, 5, (some .int))
theorem kS_pass : pd_ok mS_pass 1 := ⟨(pd_m 497 (by decide +kernel) (by decide +kernel)), (pd_m 49 (by decide +kernel) (by decide +kernel)), by decide +kernel, by decide, by decide, by decide +kernel, by decide⟩
def mL_init : pd_M := (⟨"PantryDoors$Life", "<init>", "()V"⟩, prog_8_method_1_code, 2, none)
theorem kL_init : pd_ok mL_init 0 := ⟨(pd_m 107 (by decide +kernel) (by decide +kernel)), (pd_m 48 (by decide +kernel) (by decide +kernel)), by decide +kernel, by decide, by decide, by decide +kernel, by decide⟩
def mL_begin : pd_M := (⟨"PantryDoors$Life", "begin", "(LPantryDoors$House;)V"⟩, prog_8_method_2_code, 2, none)
theorem kL_begin : pd_ok mL_begin 1 := ⟨(pd_m 441 (by decide +kernel) (by decide +kernel)), (pd_m 48 (by decide +kernel) (by decide +kernel)), by decide +kernel, by decide, by decide, by decide +kernel, by decide⟩
def mL_remember : pd_M := (⟨"PantryDoors$Life", "remember", "()V"⟩, prog_8_method_3_code, 1, none)
theorem kL_remember : pd_ok mL_remember 0 := ⟨(pd_m 482 (by decide +kernel) (by decide +kernel)), (pd_m 48 (by decide +kernel) (by decide +kernel)), by decide +kernel, by decide, by decide, by decide +kernel, by decide⟩
def mL_loseOldest : pd_M := (⟨"PantryDoors$Life", "loseOldest", "()V"⟩, prog_8_method_4_code, 3, none)
theorem kL_loseOldest : pd_ok mL_loseOldest 0 := ⟨(pd_m 486 (by decide +kernel) (by decide +kernel)), (pd_m 48 (by decide +kernel) (by decide +kernel)), by decide +kernel, by decide, by decide, by decide +kernel, by decide⟩
def mL_recall : pd_M := (⟨"PantryDoors$Life", "recall", "()V"⟩, prog_8_method_5_code, 1, none)
theorem kL_recall : pd_ok mL_recall 0 := ⟨(pd_m 528 (by decide +kernel) (by decide +kernel)), (pd_m 48 (by decide +kernel) (by decide +kernel)), by decide +kernel, by decide, by decide, by decide +kernel, by decide⟩
def mL_copy : pd_M := (⟨"PantryDoors$Life", "copy", "(LPantryDoors$Life;)V"⟩, prog_8_method_6_code, 3, none)
theorem kL_copy : pd_ok mL_copy 1 := ⟨(pd_m 706 (by decide +kernel) (by decide +kernel)), (pd_m 48 (by decide +kernel) (by decide +kernel)), by decide +kernel, by decide, by decide, by decide +kernel, by decide⟩
def mP_init : pd_M := (⟨"PantryDoors$Plan", "<init>", "()V"⟩, prog_9_method_1_code, 1, none)
theorem kP_init : pd_ok mP_init 0 := ⟨(pd_m 159 (by decide +kernel) (by decide +kernel)), (pd_m 50 (by decide +kernel) (by decide +kernel)), by decide +kernel, by decide, by decide, by decide +kernel, by decide⟩
def mP_reckon : pd_M := (⟨"PantryDoors$Plan", "reckon", "(LPantryDoors$House;LPantryDoors$State;I)I"⟩, prog_9_method_2_code, 5, (some .int))
theorem kP_reckon : pd_ok mP_reckon 3 := ⟨(pd_m 566 (by decide +kernel) (by decide +kernel)), (pd_m 50 (by decide +kernel) (by decide +kernel)), by decide +kernel, by decide, by decide, by decide +kernel, by decide⟩
def mP_growTree : pd_M := (⟨"PantryDoors$Plan", "growTree", "(LPantryDoors$House;LPantryDoors$State;I)V"⟩, prog_9_method_3_code, 9, none)
theorem kP_growTree : pd_ok mP_growTree 3 := ⟨(pd_m 572 (by decide +kernel) (by decide +kernel)), (pd_m 50 (by decide +kernel) (by decide +kernel)), by decide +kernel, by decide, by decide, by decide +kernel, by decide⟩
def mP_reckonWanted : pd_M := (⟨"PantryDoors$Plan", "reckonWanted", "(I)V"⟩, prog_9_method_4_code, 5, none)
theorem kP_reckonWanted : pd_ok mP_reckonWanted 1 := ⟨(pd_m 578 (by decide +kernel) (by decide +kernel)), (pd_m 50 (by decide +kernel) (by decide +kernel)), by decide +kernel, by decide, by decide, by decide +kernel, by decide⟩
def mP_allWanted : pd_M := (⟨"PantryDoors$Plan", "allWanted", "()I"⟩, prog_9_method_5_code, 3, (some .int))
theorem kP_allWanted : pd_ok mP_allWanted 0 := ⟨(pd_m 585 (by decide +kernel) (by decide +kernel)), (pd_m 50 (by decide +kernel) (by decide +kernel)), by decide +kernel, by decide, by decide, by decide +kernel, by decide⟩
def mP_descend : pd_M := (⟨"PantryDoors$Plan", "descend", "(I)V"⟩, prog_9_method_6_code, 3, none)
theorem kP_descend : pd_ok mP_descend 1 := ⟨(pd_m 589 (by decide +kernel) (by decide +kernel)), (pd_m 50 (by decide +kernel) (by decide +kernel)), by decide +kernel, by decide, by decide, by decide +kernel, by decide⟩
def mP_ascend : pd_M := (⟨"PantryDoors$Plan", "ascend", "()V"⟩, prog_9_method_7_code, 2, none)
theorem kP_ascend : pd_ok mP_ascend 0 := ⟨(pd_m 593 (by decide +kernel) (by decide +kernel)), (pd_m 50 (by decide +kernel) (by decide +kernel)), by decide +kernel, by decide, by decide, by decide +kernel, by decide⟩
def mP_choose : pd_M := (⟨"PantryDoors$Plan", "choose", "(LPantryDoors$Plan;II)Z"⟩, prog_9_method_8_code, 5, (some .boolean))
theorem kP_choose : pd_ok mP_choose 3 := ⟨(pd_m 581 (by decide +kernel) (by decide +kernel)), (pd_m 50 (by decide +kernel) (by decide +kernel)), by decide +kernel, by decide, by decide, by decide +kernel, by decide⟩
def mD_init : pd_M := (⟨"PantryDoors", "<init>", "()V"⟩, prog_1_method_1_code, 2, none)
theorem kD_init : pd_ok mD_init 0 := ⟨(pd_m 65 (by decide +kernel) (by decide +kernel)), (pd_m 46 (by decide +kernel) (by decide +kernel)), by decide +kernel, by decide, by decide, by decide +kernel, by decide⟩
def mD_type : pd_M := (⟨"PantryDoors", "type", "(I)I"⟩, prog_1_method_2_code, 2, (some .int))
theorem kD_type : pd_ok mD_type 1 := ⟨(pd_m 355 (by decide +kernel) (by decide +kernel)), (pd_m 46 (by decide +kernel) (by decide +kernel)), by decide +kernel, by decide, by decide, by decide +kernel, by decide⟩
def mD_clear : pd_M := (⟨"PantryDoors", "clear", "()I"⟩, prog_1_method_3_code, 2, (some .int))
theorem kD_clear : pd_ok mD_clear 0 := ⟨(pd_m 362 (by decide +kernel) (by decide +kernel)), (pd_m 46 (by decide +kernel) (by decide +kernel)), by decide +kernel, by decide, by decide, by decide +kernel, by decide⟩
def mD_house : pd_M := (⟨"PantryDoors", "house", "()I"⟩, prog_1_method_4_code, 4, (some .int))
theorem kD_house : pd_ok mD_house 0 := ⟨(pd_m 366 (by decide +kernel) (by decide +kernel)), (pd_m 46 (by decide +kernel) (by decide +kernel)), by decide +kernel, by decide, by decide, by decide +kernel, by decide⟩
def mD_good : pd_M := (⟨"PantryDoors", "good", "(II)I"⟩, prog_1_method_5_code, 3, (some .int))
theorem kD_good : pd_ok mD_good 2 := ⟨(pd_m 454 (by decide +kernel) (by decide +kernel)), (pd_m 46 (by decide +kernel) (by decide +kernel)), by decide +kernel, by decide, by decide, by decide +kernel, by decide⟩
def mD_day : pd_M := (⟨"PantryDoors", "day", "(III)I"⟩, prog_1_method_6_code, 4, (some .int))
theorem kD_day : pd_ok mD_day 3 := ⟨(pd_m 474 (by decide +kernel) (by decide +kernel)), (pd_m 46 (by decide +kernel) (by decide +kernel)), by decide +kernel, by decide, by decide, by decide +kernel, by decide⟩
def mD_goes : pd_M := (⟨"PantryDoors", "goes", "()I"⟩, prog_1_method_7_code, 1, (some .int))
theorem kD_goes : pd_ok mD_goes 0 := ⟨(pd_m 478 (by decide +kernel) (by decide +kernel)), (pd_m 46 (by decide +kernel) (by decide +kernel)), by decide +kernel, by decide, by decide, by decide +kernel, by decide⟩
def mD_takes : pd_M := (⟨"PantryDoors", "takes", "(II)I"⟩, prog_1_method_8_code, 4, (some .int))
theorem kD_takes : pd_ok mD_takes 2 := ⟨(pd_m 503 (by decide +kernel) (by decide +kernel)), (pd_m 46 (by decide +kernel) (by decide +kernel)), by decide +kernel, by decide, by decide, by decide +kernel, by decide⟩
def mD_buys : pd_M := (⟨"PantryDoors", "buys", "(II)I"⟩, prog_1_method_9_code, 3, (some .int))
theorem kD_buys : pd_ok mD_buys 2 := ⟨(pd_m 516 (by decide +kernel) (by decide +kernel)), (pd_m 46 (by decide +kernel) (by decide +kernel)), by decide +kernel, by decide, by decide, by decide +kernel, by decide⟩
def mD_holds : pd_M := (⟨"PantryDoors", "holds", "(I)I"⟩, prog_1_method_10_code, 2, (some .int))
theorem kD_holds : pd_ok mD_holds 1 := ⟨(pd_m 520 (by decide +kernel) (by decide +kernel)), (pd_m 46 (by decide +kernel) (by decide +kernel)), by decide +kernel, by decide, by decide, by decide +kernel, by decide⟩
def mD_undo : pd_M := (⟨"PantryDoors", "undo", "()I"⟩, prog_1_method_11_code, 1, (some .int))
theorem kD_undo : pd_ok mD_undo 0 := ⟨(pd_m 524 (by decide +kernel) (by decide +kernel)), (pd_m 46 (by decide +kernel) (by decide +kernel)), by decide +kernel, by decide, by decide, by decide +kernel, by decide⟩
def mD_now : pd_M := (⟨"PantryDoors", "now", "(I)I"⟩, prog_1_method_12_code, 2, (some .int))
theorem kD_now : pd_ok mD_now 1 := ⟨(pd_m 532 (by decide +kernel) (by decide +kernel)), (pd_m 46 (by decide +kernel) (by decide +kernel)), by decide +kernel, by decide, by decide, by decide +kernel, by decide⟩
def mD_firstLack : pd_M := (⟨"PantryDoors", "firstLack", "()I"⟩, prog_1_method_13_code, 5, (some .int))
theorem kD_firstLack : pd_ok mD_firstLack 0 := ⟨(pd_m 539 (by decide +kernel) (by decide +kernel)), (pd_m 46 (by decide +kernel) (by decide +kernel)), by decide +kernel, by decide, by decide, by decide +kernel, by decide⟩
def mD_gives : pd_M := (⟨"PantryDoors", "gives", "(II)I"⟩, prog_1_method_14_code, 3, (some .int))
theorem kD_gives : pd_ok mD_gives 2 := ⟨(pd_m 544 (by decide +kernel) (by decide +kernel)), (pd_m 46 (by decide +kernel) (by decide +kernel)), by decide +kernel, by decide, by decide, by decide +kernel, by decide⟩
def mD_steps : pd_M := (⟨"PantryDoors", "steps", "(I)I"⟩, prog_1_method_15_code, 4, (some .int))
theorem kD_steps : pd_ok mD_steps 1 := ⟨(pd_m 549 (by decide +kernel) (by decide +kernel)), (pd_m 46 (by decide +kernel) (by decide +kernel)), by decide +kernel, by decide, by decide, by decide +kernel, by decide⟩
def mD_meetings : pd_M := (⟨"PantryDoors", "meetings", "(I)I"⟩, prog_1_method_16_code, 4, (some .int))
theorem kD_meetings : pd_ok mD_meetings 1 := ⟨(pd_m 553 (by decide +kernel) (by decide +kernel)), (pd_m 46 (by decide +kernel) (by decide +kernel)), by decide +kernel, by decide, by decide, by decide +kernel, by decide⟩
def mD_hungry : pd_M := (⟨"PantryDoors", "hungry", "(II)I"⟩, prog_1_method_17_code, 7, (some .int))
theorem kD_hungry : pd_ok mD_hungry 2 := ⟨(pd_m 557 (by decide +kernel) (by decide +kernel)), (pd_m 46 (by decide +kernel) (by decide +kernel)), by decide +kernel, by decide, by decide, by decide +kernel, by decide⟩
def mD_fed : pd_M := (⟨"PantryDoors", "fed", "(II)I"⟩, prog_1_method_18_code, 4, (some .int))
theorem kD_fed : pd_ok mD_fed 2 := ⟨(pd_m 562 (by decide +kernel) (by decide +kernel)), (pd_m 46 (by decide +kernel) (by decide +kernel)), by decide +kernel, by decide, by decide, by decide +kernel, by decide⟩
def mD_carry : pd_M := (⟨"PantryDoors", "carry", "(II)I"⟩, prog_1_method_19_code, 5, (some .int))
theorem kD_carry : pd_ok mD_carry 2 := ⟨(pd_m 597 (by decide +kernel) (by decide +kernel)), (pd_m 46 (by decide +kernel) (by decide +kernel)), by decide +kernel, by decide, by decide, by decide +kernel, by decide⟩
def mD_reckonLoads : pd_M := (⟨"PantryDoors", "reckonLoads", "(I)V"⟩, prog_1_method_20_code, 7, none)
theorem kD_reckonLoads : pd_ok mD_reckonLoads 1 := ⟨(pd_m 601 (by decide +kernel) (by decide +kernel)), (pd_m 46 (by decide +kernel) (by decide +kernel)), by decide +kernel, by decide, by decide, by decide +kernel, by decide⟩
def mD_worthWith : pd_M := (⟨"PantryDoors", "worthWith", "(III)I"⟩, prog_1_method_21_code, 4, (some .int))
theorem kD_worthWith : pd_ok mD_worthWith 3 := ⟨(pd_m 605 (by decide +kernel) (by decide +kernel)), (pd_m 46 (by decide +kernel) (by decide +kernel)), by decide +kernel, by decide, by decide, by decide +kernel, by decide⟩
def mD_leastCarried : pd_M := (⟨"PantryDoors", "leastCarried", "(II)I"⟩, prog_1_method_22_code, 5, (some .int))
theorem kD_leastCarried : pd_ok mD_leastCarried 2 := ⟨(pd_m 610 (by decide +kernel) (by decide +kernel)), (pd_m 46 (by decide +kernel) (by decide +kernel)), by decide +kernel, by decide, by decide, by decide +kernel, by decide⟩
def mD_odds : pd_M := (⟨"PantryDoors", "odds", "(III)I"⟩, prog_1_method_23_code, 7, (some .int))
theorem kD_odds : pd_ok mD_odds 3 := ⟨(pd_m 614 (by decide +kernel) (by decide +kernel)), (pd_m 46 (by decide +kernel) (by decide +kernel)), by decide +kernel, by decide, by decide, by decide +kernel, by decide⟩
def mD_commonFactors : pd_M := (⟨"PantryDoors", "commonFactors", "(IIII)I"⟩, prog_1_method_24_code, 7, (some .int))
theorem kD_commonFactors : pd_ok mD_commonFactors 4 := ⟨(pd_m 617 (by decide +kernel) (by decide +kernel)), (pd_m 46 (by decide +kernel) (by decide +kernel)), by decide +kernel, by decide, by decide, by decide +kernel, by decide⟩
def mD_store : pd_M := (⟨"PantryDoors", "store", "(II)I"⟩, prog_1_method_25_code, 3, (some .int))
theorem kD_store : pd_ok mD_store 2 := ⟨(pd_m 621 (by decide +kernel) (by decide +kernel)), (pd_m 46 (by decide +kernel) (by decide +kernel)), by decide +kernel, by decide, by decide, by decide +kernel, by decide⟩
def mD_saw : pd_M := (⟨"PantryDoors", "saw", "(II)I"⟩, prog_1_method_26_code, 3, (some .int))
theorem kD_saw : pd_ok mD_saw 2 := ⟨(pd_m 625 (by decide +kernel) (by decide +kernel)), (pd_m 46 (by decide +kernel) (by decide +kernel)), by decide +kernel, by decide, by decide, by decide +kernel, by decide⟩
def mD_days : pd_M := (⟨"PantryDoors", "days", "()I"⟩, prog_1_method_27_code, 3, (some .int))
theorem kD_days : pd_ok mD_days 0 := ⟨(pd_m 629 (by decide +kernel) (by decide +kernel)), (pd_m 46 (by decide +kernel) (by decide +kernel)), by decide +kernel, by decide, by decide, by decide +kernel, by decide⟩
def mD_isAsSeen : pd_M := (⟨"PantryDoors", "isAsSeen", "(I)Z"⟩, prog_1_method_28_code, 3, (some .boolean))
theorem kD_isAsSeen : pd_ok mD_isAsSeen 1 := ⟨(pd_m 633 (by decide +kernel) (by decide +kernel)), (pd_m 46 (by decide +kernel) (by decide +kernel)), by decide +kernel, by decide, by decide, by decide +kernel, by decide⟩
def mD_look : pd_M := (⟨"PantryDoors", "look", "()I"⟩, prog_1_method_29_code, 6, (some .int))
theorem kD_look : pd_ok mD_look 0 := ⟨(pd_m 637 (by decide +kernel) (by decide +kernel)), (pd_m 46 (by decide +kernel) (by decide +kernel)), by decide +kernel, by decide, by decide, by decide +kernel, by decide⟩
def mD_mostAlike : pd_M := (⟨"PantryDoors", "mostAlike", "(II)I"⟩, prog_1_method_30_code, 5, (some .int))
theorem kD_mostAlike : pd_ok mD_mostAlike 2 := ⟨(pd_m 642 (by decide +kernel) (by decide +kernel)), (pd_m 46 (by decide +kernel) (by decide +kernel)), by decide +kernel, by decide, by decide, by decide +kernel, by decide⟩
def mD_alike : pd_M := (⟨"PantryDoors", "alike", "(III)I"⟩, prog_1_method_31_code, 6, (some .int))
theorem kD_alike : pd_ok mD_alike 3 := ⟨(pd_m 646 (by decide +kernel) (by decide +kernel)), (pd_m 46 (by decide +kernel) (by decide +kernel)), by decide +kernel, by decide, by decide, by decide +kernel, by decide⟩
def mD_gave : pd_M := (⟨"PantryDoors", "gave", "(II)I"⟩, prog_1_method_32_code, 3, (some .int))
theorem kD_gave : pd_ok mD_gave 2 := ⟨(pd_m 650 (by decide +kernel) (by decide +kernel)), (pd_m 46 (by decide +kernel) (by decide +kernel)), by decide +kernel, by decide, by decide, by decide +kernel, by decide⟩
def mD_laws : pd_M := (⟨"PantryDoors", "laws", "(I)I"⟩, prog_1_method_33_code, 6, (some .int))
theorem kD_laws : pd_ok mD_laws 1 := ⟨(pd_m 654 (by decide +kernel) (by decide +kernel)), (pd_m 46 (by decide +kernel) (by decide +kernel)), by decide +kernel, by decide, by decide, by decide +kernel, by decide⟩
def mD_isAsGave : pd_M := (⟨"PantryDoors", "isAsGave", "(II)Z"⟩, prog_1_method_34_code, 4, (some .boolean))
theorem kD_isAsGave : pd_ok mD_isAsGave 2 := ⟨(pd_m 658 (by decide +kernel) (by decide +kernel)), (pd_m 46 (by decide +kernel) (by decide +kernel)), by decide +kernel, by decide, by decide, by decide +kernel, by decide⟩
def mD_forget : pd_M := (⟨"PantryDoors", "forget", "()I"⟩, prog_1_method_35_code, 2, (some .int))
theorem kD_forget : pd_ok mD_forget 0 := ⟨(pd_m 663 (by decide +kernel) (by decide +kernel)), (pd_m 46 (by decide +kernel) (by decide +kernel)), by decide +kernel, by decide, by decide, by decide +kernel, by decide⟩
def mD_mark : pd_M := (⟨"PantryDoors", "mark", "(II)I"⟩, prog_1_method_36_code, 3, (some .int))
theorem kD_mark : pd_ok mD_mark 2 := ⟨(pd_m 667 (by decide +kernel) (by decide +kernel)), (pd_m 46 (by decide +kernel) (by decide +kernel)), by decide +kernel, by decide, by decide, by decide +kernel, by decide⟩
def mD_keep : pd_M := (⟨"PantryDoors", "keep", "(I)I"⟩, prog_1_method_37_code, 2, (some .int))
theorem kD_keep : pd_ok mD_keep 1 := ⟨(pd_m 702 (by decide +kernel) (by decide +kernel)), (pd_m 46 (by decide +kernel) (by decide +kernel)), by decide +kernel, by decide, by decide, by decide +kernel, by decide⟩
def mD_back : pd_M := (⟨"PantryDoors", "back", "(I)I"⟩, prog_1_method_38_code, 2, (some .int))
theorem kD_back : pd_ok mD_back 1 := ⟨(pd_m 710 (by decide +kernel) (by decide +kernel)), (pd_m 46 (by decide +kernel) (by decide +kernel)), by decide +kernel, by decide, by decide, by decide +kernel, by decide⟩
def mD_count : pd_M := (⟨"PantryDoors", "count", "(I)I"⟩, prog_1_method_39_code, 2, (some .int))
theorem kD_count : pd_ok mD_count 1 := ⟨(pd_m 714 (by decide +kernel) (by decide +kernel)), (pd_m 46 (by decide +kernel) (by decide +kernel)), by decide +kernel, by decide, by decide, by decide +kernel, by decide⟩
def mD_trace : pd_M := (⟨"PantryDoors", "trace", "()J"⟩, prog_1_method_40_code, 4, (some .long))
theorem kD_trace : pd_ok mD_trace 0 := ⟨(pd_m 718 (by decide +kernel) (by decide +kernel)), (pd_m 46 (by decide +kernel) (by decide +kernel)), by decide +kernel, by decide, by decide, by decide +kernel, by decide⟩
def mD_within : pd_M := (⟨"PantryDoors", "within", "(III)Z"⟩, prog_1_method_41_code, 3, (some .boolean))
theorem kD_within : pd_ok mD_within 3 := ⟨(pd_m 358 (by decide +kernel) (by decide +kernel)), (pd_m 46 (by decide +kernel) (by decide +kernel)), by decide +kernel, by decide, by decide, by decide +kernel, by decide⟩
def mD_sum : pd_M := (⟨"PantryDoors", "sum", "([I)I"⟩, prog_1_method_42_code, 3, (some .int))
theorem kD_sum : pd_ok mD_sum 1 := ⟨(pd_m 535 (by decide +kernel) (by decide +kernel)), (pd_m 46 (by decide +kernel) (by decide +kernel)), by decide +kernel, by decide, by decide, by decide +kernel, by decide⟩
def mD_leadsBy : pd_M := (⟨"PantryDoors", "leadsBy", "(III)I"⟩, prog_1_method_43_code, 3, (some .int))
theorem kD_leadsBy : pd_ok mD_leadsBy 3 := ⟨(pd_m 470 (by decide +kernel) (by decide +kernel)), (pd_m 46 (by decide +kernel) (by decide +kernel)), by decide +kernel, by decide, by decide, by decide +kernel, by decide⟩
def mR_init : pd_M := (⟨"PantryDoorsModel", "<init>", "()V"⟩, prog_14_method_1_code, 1, none)
theorem kR_init : pd_ok mR_init 0 := ⟨(pd_m 723 (by decide +kernel) (by decide +kernel)), (pd_m 58 (by decide +kernel) (by decide +kernel)), by decide +kernel, by decide, by decide, by decide +kernel, by decide⟩
def mR_in : pd_M := (⟨"PantryDoorsModel", "in", "(III)Z"⟩, prog_14_method_3_code, 3, (some .boolean))
theorem kR_in : pd_ok mR_in 3 := ⟨(pd_m 829 (by decide +kernel) (by decide +kernel)), (pd_m 58 (by decide +kernel) (by decide +kernel)), by decide +kernel, by decide, by decide, by decide +kernel, by decide⟩
def mR_has : pd_M := (⟨"PantryDoorsModel", "has", "(II)Z"⟩, prog_14_method_4_code, 2, (some .boolean))
theorem kR_has : pd_ok mR_has 2 := ⟨(pd_m 1002 (by decide +kernel) (by decide +kernel)), (pd_m 58 (by decide +kernel) (by decide +kernel)), by decide +kernel, by decide, by decide, by decide +kernel, by decide⟩
def mR_type : pd_M := (⟨"PantryDoorsModel", "type", "(I)I"⟩, prog_14_method_5_code, 2, (some .int))
theorem kR_type : pd_ok mR_type 1 := ⟨(pd_m 826 (by decide +kernel) (by decide +kernel)), (pd_m 58 (by decide +kernel) (by decide +kernel)), by decide +kernel, by decide, by decide, by decide +kernel, by decide⟩
def mR_clear : pd_M := (⟨"PantryDoorsModel", "clear", "()I"⟩, prog_14_method_6_code, 2, (some .int))
theorem kR_clear : pd_ok mR_clear 0 := ⟨(pd_m 833 (by decide +kernel) (by decide +kernel)), (pd_m 58 (by decide +kernel) (by decide +kernel)), by decide +kernel, by decide, by decide, by decide +kernel, by decide⟩
def mR_here : pd_M := (⟨"PantryDoorsModel", "here", "()I"⟩, prog_14_method_7_code, 1, (some .int))
theorem kR_here : pd_ok mR_here 0 := ⟨(pd_m 849 (by decide +kernel) (by decide +kernel)), (pd_m 58 (by decide +kernel) (by decide +kernel)), by decide +kernel, by decide, by decide, by decide +kernel, by decide⟩
def mR_step : pd_M := (⟨"PantryDoorsModel", "step", "()V"⟩, prog_14_method_8_code, 2, none)
theorem kR_step : pd_ok mR_step 0 := ⟨(pd_m 845 (by decide +kernel) (by decide +kernel)), (pd_m 58 (by decide +kernel) (by decide +kernel)), by decide +kernel, by decide, by decide, by decide +kernel, by decide⟩
def mR_due : pd_M := (⟨"PantryDoorsModel", "due", "(Z)V"⟩, prog_14_method_9_code, 2, none)
theorem kR_due : pd_ok mR_due 1 := ⟨(pd_m 857 (by decide +kernel) (by decide +kernel)), (pd_m 58 (by decide +kernel) (by decide +kernel)), by decide +kernel, by decide, by decide, by decide +kernel, by decide⟩
def mR_number : pd_M := (⟨"PantryDoorsModel", "number", "(II)I"⟩, prog_14_method_10_code, 4, (some .int))
theorem kR_number : pd_ok mR_number 2 := ⟨(pd_m 869 (by decide +kernel) (by decide +kernel)), (pd_m 58 (by decide +kernel) (by decide +kernel)), by decide +kernel, by decide, by decide, by decide +kernel, by decide⟩
def mR_readGood : pd_M := (⟨"PantryDoorsModel", "readGood", "()V"⟩, prog_14_method_11_code, 2, none)
theorem kR_readGood : pd_ok mR_readGood 0 := ⟨(pd_m 865 (by decide +kernel) (by decide +kernel)), (pd_m 58 (by decide +kernel) (by decide +kernel)), by decide +kernel, by decide, by decide, by decide +kernel, by decide⟩
def mR_readOf : pd_M := (⟨"PantryDoorsModel", "readOf", "([I)V"⟩, prog_14_method_12_code, 5, none)
theorem kR_readOf : pd_ok mR_readOf 1 := ⟨(pd_m 873 (by decide +kernel) (by decide +kernel)), (pd_m 58 (by decide +kernel) (by decide +kernel)), by decide +kernel, by decide, by decide, by decide +kernel, by decide⟩
def mR_item : pd_M := (⟨"PantryDoorsModel", "item", "(I)V"⟩, prog_14_method_13_code, 2, none)
theorem kR_item : pd_ok mR_item 1 := ⟨(pd_m 861 (by decide +kernel) (by decide +kernel)), (pd_m 58 (by decide +kernel) (by decide +kernel)), by decide +kernel, by decide, by decide, by decide +kernel, by decide⟩
def mR_may : pd_M := (⟨"PantryDoorsModel", "may", "(I)Z"⟩, prog_14_method_14_code, 2, (some .boolean))
theorem kR_may : pd_ok mR_may 1 := ⟨(pd_m 853 (by decide +kernel) (by decide +kernel)), (pd_m 58 (by decide +kernel) (by decide +kernel)), by decide +kernel, by decide, by decide, by decide +kernel, by decide⟩
def mR_read : pd_M := (⟨"PantryDoorsModel", "read", "()V"⟩, prog_14_method_15_code, 2, none)
theorem kR_read : pd_ok mR_read 0 := ⟨(pd_m 841 (by decide +kernel) (by decide +kernel)), (pd_m 58 (by decide +kernel) (by decide +kernel)), by decide +kernel, by decide, by decide, by decide +kernel, by decide⟩
def mR_house : pd_M := (⟨"PantryDoorsModel", "house", "()I"⟩, prog_14_method_16_code, 2, (some .int))
theorem kR_house : pd_ok mR_house 0 := ⟨(pd_m 837 (by decide +kernel) (by decide +kernel)), (pd_m 58 (by decide +kernel) (by decide +kernel)), by decide +kernel, by decide, by decide, by decide +kernel, by decide⟩
def mR_take : pd_M := (⟨"PantryDoorsModel", "take", "()V"⟩, prog_14_method_17_code, 2, none)
theorem kR_take : pd_ok mR_take 0 := ⟨(pd_m 950 (by decide +kernel) (by decide +kernel)), (pd_m 58 (by decide +kernel) (by decide +kernel)), by decide +kernel, by decide, by decide, by decide +kernel, by decide⟩
def mR_isGood : pd_M := (⟨"PantryDoorsModel", "isGood", "(I)Z"⟩, prog_14_method_18_code, 2, (some .boolean))
theorem kR_isGood : pd_ok mR_isGood 1 := ⟨(pd_m 881 (by decide +kernel) (by decide +kernel)), (pd_m 58 (by decide +kernel) (by decide +kernel)), by decide +kernel, by decide, by decide, by decide +kernel, by decide⟩
def mR_isDay : pd_M := (⟨"PantryDoorsModel", "isDay", "(I)Z"⟩, prog_14_method_19_code, 1, (some .boolean))
theorem kR_isDay : pd_ok mR_isDay 1 := ⟨(pd_m 903 (by decide +kernel) (by decide +kernel)), (pd_m 58 (by decide +kernel) (by decide +kernel)), by decide +kernel, by decide, by decide, by decide +kernel, by decide⟩
def mR_lawOn : pd_M := (⟨"PantryDoorsModel", "lawOn", "(III)I"⟩, prog_14_method_20_code, 3, (some .int))
theorem kR_lawOn : pd_ok mR_lawOn 3 := ⟨(pd_m 896 (by decide +kernel) (by decide +kernel)), (pd_m 58 (by decide +kernel) (by decide +kernel)), by decide +kernel, by decide, by decide, by decide +kernel, by decide⟩
def mR_givesOn : pd_M := (⟨"PantryDoorsModel", "givesOn", "(I)I"⟩, prog_14_method_21_code, 2, (some .int))
theorem kR_givesOn : pd_ok mR_givesOn 1 := ⟨(pd_m 893 (by decide +kernel) (by decide +kernel)), (pd_m 58 (by decide +kernel) (by decide +kernel)), by decide +kernel, by decide, by decide, by decide +kernel, by decide⟩
def mR_opens : pd_M := (⟨"PantryDoorsModel", "opens", "([I)I"⟩, prog_14_method_22_code, 2, (some .int))
theorem kR_opens : pd_ok mR_opens 1 := ⟨(pd_m 889 (by decide +kernel) (by decide +kernel)), (pd_m 58 (by decide +kernel) (by decide +kernel)), by decide +kernel, by decide, by decide, by decide +kernel, by decide⟩
def mR_canTake : pd_M := (⟨"PantryDoorsModel", "canTake", "([II)I"⟩, prog_14_method_23_code, 4, (some .int))
theorem kR_canTake : pd_ok mR_canTake 2 := ⟨(pd_m 885 (by decide +kernel) (by decide +kernel)), (pd_m 58 (by decide +kernel) (by decide +kernel)), by decide +kernel, by decide, by decide, by decide +kernel, by decide⟩
def mR_atMost : pd_M := (⟨"PantryDoorsModel", "atMost", "(I)I"⟩, prog_14_method_24_code, 1, (some .int))
theorem kR_atMost : pd_ok mR_atMost 1 := ⟨(pd_m 918 (by decide +kernel) (by decide +kernel)), (pd_m 58 (by decide +kernel) (by decide +kernel)), by decide +kernel, by decide, by decide, by decide +kernel, by decide⟩
def mR_takeOf : pd_M := (⟨"PantryDoorsModel", "takeOf", "([III)V"⟩, prog_14_method_25_code, 4, none)
theorem kR_takeOf : pd_ok mR_takeOf 3 := ⟨(pd_m 926 (by decide +kernel) (by decide +kernel)), (pd_m 58 (by decide +kernel) (by decide +kernel)), by decide +kernel, by decide, by decide, by decide +kernel, by decide⟩
def mR_passOn : pd_M := (⟨"PantryDoorsModel", "passOn", "([I)I"⟩, prog_14_method_26_code, 5, (some .int))
theorem kR_passOn : pd_ok mR_passOn 1 := ⟨(pd_m 915 (by decide +kernel) (by decide +kernel)), (pd_m 58 (by decide +kernel) (by decide +kernel)), by decide +kernel, by decide, by decide, by decide +kernel, by decide⟩
def mR_good : pd_M := (⟨"PantryDoorsModel", "good", "(II)I"⟩, prog_14_method_27_code, 3, (some .int))
theorem kR_good : pd_ok mR_good 2 := ⟨(pd_m 877 (by decide +kernel) (by decide +kernel)), (pd_m 58 (by decide +kernel) (by decide +kernel)), by decide +kernel, by decide, by decide, by decide +kernel, by decide⟩
def mR_day : pd_M := (⟨"PantryDoorsModel", "day", "(III)I"⟩, prog_14_method_28_code, 4, (some .int))
theorem kR_day : pd_ok mR_day 3 := ⟨(pd_m 900 (by decide +kernel) (by decide +kernel)), (pd_m 58 (by decide +kernel) (by decide +kernel)), by decide +kernel, by decide, by decide, by decide +kernel, by decide⟩
def mR_know : pd_M := (⟨"PantryDoorsModel", "know", "()V"⟩, prog_14_method_29_code, 2, none)
theorem kR_know : pd_ok mR_know 0 := ⟨(pd_m 911 (by decide +kernel) (by decide +kernel)), (pd_m 58 (by decide +kernel) (by decide +kernel)), by decide +kernel, by decide, by decide, by decide +kernel, by decide⟩
def mR_goes : pd_M := (⟨"PantryDoorsModel", "goes", "()I"⟩, prog_14_method_30_code, 1, (some .int))
theorem kR_goes : pd_ok mR_goes 0 := ⟨(pd_m 907 (by decide +kernel) (by decide +kernel)), (pd_m 58 (by decide +kernel) (by decide +kernel)), by decide +kernel, by decide, by decide, by decide +kernel, by decide⟩
def mR_takes : pd_M := (⟨"PantryDoorsModel", "takes", "(II)I"⟩, prog_14_method_31_code, 3, (some .int))
theorem kR_takes : pd_ok mR_takes 2 := ⟨(pd_m 922 (by decide +kernel) (by decide +kernel)), (pd_m 58 (by decide +kernel) (by decide +kernel)), by decide +kernel, by decide, by decide, by decide +kernel, by decide⟩
def mR_buys : pd_M := (⟨"PantryDoorsModel", "buys", "(II)I"⟩, prog_14_method_32_code, 3, (some .int))
theorem kR_buys : pd_ok mR_buys 2 := ⟨(pd_m 930 (by decide +kernel) (by decide +kernel)), (pd_m 58 (by decide +kernel) (by decide +kernel)), by decide +kernel, by decide, by decide, by decide +kernel, by decide⟩
def mR_holds : pd_M := (⟨"PantryDoorsModel", "holds", "(I)I"⟩, prog_14_method_33_code, 2, (some .int))
theorem kR_holds : pd_ok mR_holds 1 := ⟨(pd_m 934 (by decide +kernel) (by decide +kernel)), (pd_m 58 (by decide +kernel) (by decide +kernel)), by decide +kernel, by decide, by decide, by decide +kernel, by decide⟩
def mR_undo : pd_M := (⟨"PantryDoorsModel", "undo", "()I"⟩, prog_14_method_34_code, 2, (some .int))
theorem kR_undo : pd_ok mR_undo 0 := ⟨(pd_m 938 (by decide +kernel) (by decide +kernel)), (pd_m 58 (by decide +kernel) (by decide +kernel)), by decide +kernel, by decide, by decide, by decide +kernel, by decide⟩
def mR_firstHungry : pd_M := (⟨"PantryDoorsModel", "firstHungry", "()I"⟩, prog_14_method_35_code, 1, (some .int))
theorem kR_firstHungry : pd_ok mR_firstHungry 0 := ⟨(pd_m 946 (by decide +kernel) (by decide +kernel)), (pd_m 58 (by decide +kernel) (by decide +kernel)), by decide +kernel, by decide, by decide, by decide +kernel, by decide⟩
def mR_now : pd_M := (⟨"PantryDoorsModel", "now", "(I)I"⟩, prog_14_method_36_code, 4, (some .int))
theorem kR_now : pd_ok mR_now 1 := ⟨(pd_m 942 (by decide +kernel) (by decide +kernel)), (pd_m 58 (by decide +kernel) (by decide +kernel)), by decide +kernel, by decide, by decide, by decide +kernel, by decide⟩
def mR_gives : pd_M := (⟨"PantryDoorsModel", "gives", "(II)I"⟩, prog_14_method_37_code, 5, (some .int))
theorem kR_gives : pd_ok mR_gives 2 := ⟨(pd_m 954 (by decide +kernel) (by decide +kernel)), (pd_m 58 (by decide +kernel) (by decide +kernel)), by decide +kernel, by decide, by decide, by decide +kernel, by decide⟩
def mR_hungry : pd_M := (⟨"PantryDoorsModel", "hungry", "(II)I"⟩, prog_14_method_38_code, 4, (some .int))
theorem kR_hungry : pd_ok mR_hungry 2 := ⟨(pd_m 958 (by decide +kernel) (by decide +kernel)), (pd_m 58 (by decide +kernel) (by decide +kernel)), by decide +kernel, by decide, by decide, by decide +kernel, by decide⟩
def mR_takenBy : pd_M := (⟨"PantryDoorsModel", "takenBy", "(II)I"⟩, prog_14_method_39_code, 8, (some .int))
theorem kR_takenBy : pd_ok mR_takenBy 2 := ⟨(pd_m 966 (by decide +kernel) (by decide +kernel)), (pd_m 58 (by decide +kernel) (by decide +kernel)), by decide +kernel, by decide, by decide, by decide +kernel, by decide⟩
def mR_fed : pd_M := (⟨"PantryDoorsModel", "fed", "(II)I"⟩, prog_14_method_40_code, 9, (some .int))
theorem kR_fed : pd_ok mR_fed 2 := ⟨(pd_m 962 (by decide +kernel) (by decide +kernel)), (pd_m 58 (by decide +kernel) (by decide +kernel)), by decide +kernel, by decide, by decide, by decide +kernel, by decide⟩
def mR_tellMost : pd_M := (⟨"PantryDoorsModel", "tellMost", "()V"⟩, prog_14_method_41_code, 6, none)
theorem kR_tellMost : pd_ok mR_tellMost 0 := ⟨(pd_m 974 (by decide +kernel) (by decide +kernel)), (pd_m 58 (by decide +kernel) (by decide +kernel)), by decide +kernel, by decide, by decide, by decide +kernel, by decide⟩
def mR_carry : pd_M := (⟨"PantryDoorsModel", "carry", "(II)I"⟩, prog_14_method_42_code, 6, (some .int))
theorem kR_carry : pd_ok mR_carry 2 := ⟨(pd_m 970 (by decide +kernel) (by decide +kernel)), (pd_m 58 (by decide +kernel) (by decide +kernel)), by decide +kernel, by decide, by decide, by decide +kernel, by decide⟩
def mR_odds : pd_M := (⟨"PantryDoorsModel", "odds", "(III)I"⟩, prog_14_method_43_code, 9, (some .int))
theorem kR_odds : pd_ok mR_odds 3 := ⟨(pd_m 978 (by decide +kernel) (by decide +kernel)), (pd_m 58 (by decide +kernel) (by decide +kernel)), by decide +kernel, by decide, by decide, by decide +kernel, by decide⟩
def mR_storeOf : pd_M := (⟨"PantryDoorsModel", "storeOf", "(II)I"⟩, prog_14_method_44_code, 4, (some .int))
theorem kR_storeOf : pd_ok mR_storeOf 2 := ⟨(pd_m 986 (by decide +kernel) (by decide +kernel)), (pd_m 58 (by decide +kernel) (by decide +kernel)), by decide +kernel, by decide, by decide, by decide +kernel, by decide⟩
def mR_store : pd_M := (⟨"PantryDoorsModel", "store", "(II)I"⟩, prog_14_method_45_code, 3, (some .int))
theorem kR_store : pd_ok mR_store 2 := ⟨(pd_m 982 (by decide +kernel) (by decide +kernel)), (pd_m 58 (by decide +kernel) (by decide +kernel)), by decide +kernel, by decide, by decide, by decide +kernel, by decide⟩
def mR_saw : pd_M := (⟨"PantryDoorsModel", "saw", "(II)I"⟩, prog_14_method_46_code, 3, (some .int))
theorem kR_saw : pd_ok mR_saw 2 := ⟨(pd_m 990 (by decide +kernel) (by decide +kernel)), (pd_m 58 (by decide +kernel) (by decide +kernel)), by decide +kernel, by decide, by decide, by decide +kernel, by decide⟩
def mR_days : pd_M := (⟨"PantryDoorsModel", "days", "()I"⟩, prog_14_method_47_code, 5, (some .int))
theorem kR_days : pd_ok mR_days 0 := ⟨(pd_m 994 (by decide +kernel) (by decide +kernel)), (pd_m 58 (by decide +kernel) (by decide +kernel)), by decide +kernel, by decide, by decide, by decide +kernel, by decide⟩
def mR_look : pd_M := (⟨"PantryDoorsModel", "look", "()I"⟩, prog_14_method_48_code, 9, (some .int))
theorem kR_look : pd_ok mR_look 0 := ⟨(pd_m 998 (by decide +kernel) (by decide +kernel)), (pd_m 58 (by decide +kernel) (by decide +kernel)), by decide +kernel, by decide, by decide, by decide +kernel, by decide⟩
def mR_gave : pd_M := (⟨"PantryDoorsModel", "gave", "(II)I"⟩, prog_14_method_49_code, 3, (some .int))
theorem kR_gave : pd_ok mR_gave 2 := ⟨(pd_m 1006 (by decide +kernel) (by decide +kernel)), (pd_m 58 (by decide +kernel) (by decide +kernel)), by decide +kernel, by decide, by decide, by decide +kernel, by decide⟩
def mR_laws : pd_M := (⟨"PantryDoorsModel", "laws", "(I)I"⟩, prog_14_method_50_code, 8, (some .int))
theorem kR_laws : pd_ok mR_laws 1 := ⟨(pd_m 1010 (by decide +kernel) (by decide +kernel)), (pd_m 58 (by decide +kernel) (by decide +kernel)), by decide +kernel, by decide, by decide, by decide +kernel, by decide⟩
def mR_forget : pd_M := (⟨"PantryDoorsModel", "forget", "()I"⟩, prog_14_method_51_code, 2, (some .int))
theorem kR_forget : pd_ok mR_forget 0 := ⟨(pd_m 1014 (by decide +kernel) (by decide +kernel)), (pd_m 58 (by decide +kernel) (by decide +kernel)), by decide +kernel, by decide, by decide, by decide +kernel, by decide⟩
def mR_bodiesOf : pd_M := (⟨"PantryDoorsModel", "bodiesOf", "(I)I"⟩, prog_14_method_52_code, 1, (some .int))
theorem kR_bodiesOf : pd_ok mR_bodiesOf 1 := ⟨(pd_m 1022 (by decide +kernel) (by decide +kernel)), (pd_m 58 (by decide +kernel) (by decide +kernel)), by decide +kernel, by decide, by decide, by decide +kernel, by decide⟩
def mR_mark : pd_M := (⟨"PantryDoorsModel", "mark", "(II)I"⟩, prog_14_method_53_code, 7, (some .int))
theorem kR_mark : pd_ok mR_mark 2 := ⟨(pd_m 1018 (by decide +kernel) (by decide +kernel)), (pd_m 58 (by decide +kernel) (by decide +kernel)), by decide +kernel, by decide, by decide, by decide +kernel, by decide⟩
def mR_trace : pd_M := (⟨"PantryDoorsModel", "trace", "()J"⟩, prog_14_method_54_code, 1, (some .long))
theorem kR_trace : pd_ok mR_trace 0 := ⟨(pd_m 1027 (by decide +kernel) (by decide +kernel)), (pd_m 58 (by decide +kernel) (by decide +kernel)), by decide +kernel, by decide, by decide, by decide +kernel, by decide⟩
def mR_keep : pd_M := (⟨"PantryDoorsModel", "keep", "(I)I"⟩, prog_14_method_55_code, 3, (some .int))
theorem kR_keep : pd_ok mR_keep 1 := ⟨(pd_m 1031 (by decide +kernel) (by decide +kernel)), (pd_m 58 (by decide +kernel) (by decide +kernel)), by decide +kernel, by decide, by decide, by decide +kernel, by decide⟩
def mR_back : pd_M := (⟨"PantryDoorsModel", "back", "(I)I"⟩, prog_14_method_56_code, 3, (some .int))
theorem kR_back : pd_ok mR_back 1 := ⟨(pd_m 1035 (by decide +kernel) (by decide +kernel)), (pd_m 58 (by decide +kernel) (by decide +kernel)), by decide +kernel, by decide, by decide, by decide +kernel, by decide⟩
def mR_count : pd_M := (⟨"PantryDoorsModel", "count", "(I)I"⟩, prog_14_method_57_code, 2, (some .int))
theorem kR_count : pd_ok mR_count 1 := ⟨(pd_m 1039 (by decide +kernel) (by decide +kernel)), (pd_m 58 (by decide +kernel) (by decide +kernel)), by decide +kernel, by decide, by decide, by decide +kernel, by decide⟩
def mG_init : pd_M := (⟨"PantryDoors$Good", "<init>", "()V"⟩, prog_4_method_1_code, 1, none)
theorem kG_init : pd_ok mG_init 0 := ⟨(pd_m 188 (by decide +kernel) (by decide +kernel)), (pd_m 51 (by decide +kernel) (by decide +kernel)), by decide +kernel, by decide, by decide, by decide +kernel, by decide⟩
def mG_marks : pd_M := (⟨"PantryDoors$Good", "marks", "(LPantryDoors$House;LPantryDoors$State;I)I"⟩, prog_4_method_2_code, 4, (some .int))
theorem kG_marks : pd_ok mG_marks 3 := ⟨(pd_m 698 (by decide +kernel) (by decide +kernel)), (pd_m 51 (by decide +kernel) (by decide +kernel)), by decide +kernel, by decide, by decide, by decide +kernel, by decide⟩
def mSu_init : pd_M := (⟨"PantryDoors$Sugar", "<init>", "()V"⟩, prog_11_method_1_code, 1, none)
theorem kSu_init : pd_ok mSu_init 0 := ⟨(pd_m 209 (by decide +kernel) (by decide +kernel)), (pd_m 52 (by decide +kernel) (by decide +kernel)), by decide +kernel, by decide, by decide, by decide +kernel, by decide⟩
def mSu_marks : pd_M := (⟨"PantryDoors$Sugar", "marks", "(LPantryDoors$House;LPantryDoors$State;I)I"⟩, prog_11_method_2_code, 4, (some .int))
theorem kSu_marks : pd_ok mSu_marks 3 := ⟨(pd_m 684 (by decide +kernel) (by decide +kernel)), (pd_m 52 (by decide +kernel) (by decide +kernel)), by decide +kernel, by decide, by decide, by decide +kernel, by decide⟩
def mHa_init : pd_M := (⟨"PantryDoors$Ham", "<init>", "()V"⟩, prog_5_method_1_code, 1, none)
theorem kHa_init : pd_ok mHa_init 0 := ⟨(pd_m 217 (by decide +kernel) (by decide +kernel)), (pd_m 53 (by decide +kernel) (by decide +kernel)), by decide +kernel, by decide, by decide, by decide +kernel, by decide⟩
def mHa_marks : pd_M := (⟨"PantryDoors$Ham", "marks", "(LPantryDoors$House;LPantryDoors$State;I)I"⟩, prog_5_method_2_code, 4, (some .int))
theorem kHa_marks : pd_ok mHa_marks 3 := ⟨(pd_m 689 (by decide +kernel) (by decide +kernel)), (pd_m 53 (by decide +kernel) (by decide +kernel)), by decide +kernel, by decide, by decide, by decide +kernel, by decide⟩
def mCo_init : pd_M := (⟨"PantryDoors$Cone", "<init>", "()V"⟩, prog_3_method_1_code, 1, none)
theorem kCo_init : pd_ok mCo_init 0 := ⟨(pd_m 225 (by decide +kernel) (by decide +kernel)), (pd_m 54 (by decide +kernel) (by decide +kernel)), by decide +kernel, by decide, by decide, by decide +kernel, by decide⟩
def mCo_marks : pd_M := (⟨"PantryDoors$Cone", "marks", "(LPantryDoors$House;LPantryDoors$State;I)I"⟩, prog_3_method_2_code, 4, (some .int))
theorem kCo_marks : pd_ok mCo_marks 3 := ⟨(pd_m 680 (by decide +kernel) (by decide +kernel)), (pd_m 54 (by decide +kernel) (by decide +kernel)), by decide +kernel, by decide, by decide, by decide +kernel, by decide⟩
def mJe_init : pd_M := (⟨"PantryDoors$Jelly", "<init>", "()V"⟩, prog_7_method_1_code, 1, none)
theorem kJe_init : pd_ok mJe_init 0 := ⟨(pd_m 233 (by decide +kernel) (by decide +kernel)), (pd_m 55 (by decide +kernel) (by decide +kernel)), by decide +kernel, by decide, by decide, by decide +kernel, by decide⟩
def mJe_marks : pd_M := (⟨"PantryDoors$Jelly", "marks", "(LPantryDoors$House;LPantryDoors$State;I)I"⟩, prog_7_method_2_code, 4, (some .int))
theorem kJe_marks : pd_ok mJe_marks 3 := ⟨(pd_m 694 (by decide +kernel) (by decide +kernel)), (pd_m 55 (by decide +kernel) (by decide +kernel)), by decide +kernel, by decide, by decide, by decide +kernel, by decide⟩
def mCa_init : pd_M := (⟨"PantryDoors$Candle", "<init>", "()V"⟩, prog_2_method_1_code, 1, none)
theorem kCa_init : pd_ok mCa_init 0 := ⟨(pd_m 241 (by decide +kernel) (by decide +kernel)), (pd_m 56 (by decide +kernel) (by decide +kernel)), by decide +kernel, by decide, by decide, by decide +kernel, by decide⟩
def mCa_marks : pd_M := (⟨"PantryDoors$Candle", "marks", "(LPantryDoors$House;LPantryDoors$State;I)I"⟩, prog_2_method_2_code, 4, (some .int))
theorem kCa_marks : pd_ok mCa_marks 3 := ⟨(pd_m 675 (by decide +kernel) (by decide +kernel)), (pd_m 56 (by decide +kernel) (by decide +kernel)), by decide +kernel, by decide, by decide, by decide +kernel, by decide⟩
theorem fT_11_10 : pd_fl "PantryDoors$Text" 11 10 0 (tyX10 0) := ⟨RX10, TX10, 8, "PantryDoors$Text", tyX10, rfl, by decide, iw10, (pd_m 75 (by decide +kernel) (by decide +kernel)), Or.inl rfl, tyX10_ok, nmX10, rfl⟩
theorem fT_15_10 : pd_fl "PantryDoors$Text" 15 10 2 (tyX10 2) := ⟨RX10, TX10, 8, "PantryDoors$Text", tyX10, rfl, by decide, iw10, (pd_m 79 (by decide +kernel) (by decide +kernel)), Or.inl rfl, tyX10_ok, nmX10, rfl⟩
theorem fT_23_10 : pd_fl "PantryDoors$Text" 23 10 3 (tyX10 3) := ⟨RX10, TX10, 8, "PantryDoors$Text", tyX10, rfl, by decide, iw10, (pd_m 80 (by decide +kernel) (by decide +kernel)), Or.inl rfl, tyX10_ok, nmX10, rfl⟩
theorem fT_27_10 : pd_fl "PantryDoors$Text" 27 10 7 (tyX10 7) := ⟨RX10, TX10, 8, "PantryDoors$Text", tyX10, rfl, by decide, iw10, (pd_m 84 (by decide +kernel) (by decide +kernel)), Or.inl rfl, tyX10_ok, nmX10, rfl⟩
theorem fT_34_10 : pd_fl "PantryDoors$Text" 34 10 5 (tyX10 5) := ⟨RX10, TX10, 8, "PantryDoors$Text", tyX10, rfl, by decide, iw10, (pd_m 82 (by decide +kernel) (by decide +kernel)), Or.inl rfl, tyX10_ok, nmX10, rfl⟩
theorem fT_41_10 : pd_fl "PantryDoors$Text" 41 10 4 (tyX10 4) := ⟨RX10, TX10, 8, "PantryDoors$Text", tyX10, rfl, by decide, iw10, (pd_m 81 (by decide +kernel) (by decide +kernel)), Or.inl rfl, tyX10_ok, nmX10, rfl⟩
theorem fT_44_10 : pd_fl "PantryDoors$Text" 44 10 6 (tyX10 6) := ⟨RX10, TX10, 8, "PantryDoors$Text", tyX10, rfl, by decide, iw10, (pd_m 83 (by decide +kernel) (by decide +kernel)), Or.inl rfl, tyX10_ok, nmX10, rfl⟩
theorem fT_71_4 : pd_fl "PantryDoors$Text" 71 4 7 (tyX4 7) := ⟨RX4, TX4, 10, "PantryDoors$House", tyX4, rfl, by decide, iw4, (pd_m 276 (by decide +kernel) (by decide +kernel)), Or.inl rfl, tyX4_ok, nmX4, rfl⟩
theorem fT_78_4 : pd_fl "PantryDoors$Text" 78 4 4 (tyX4 4) := ⟨RX4, TX4, 10, "PantryDoors$House", tyX4, rfl, by decide, iw4, (pd_m 267 (by decide +kernel) (by decide +kernel)), Or.inl rfl, tyX4_ok, nmX4, rfl⟩
theorem fT_81_4 : pd_fl "PantryDoors$Text" 81 4 5 (tyX4 5) := ⟨RX4, TX4, 10, "PantryDoors$House", tyX4, rfl, by decide, iw4, (pd_m 271 (by decide +kernel) (by decide +kernel)), Or.inl rfl, tyX4_ok, nmX4, rfl⟩
theorem fT_87_4 : pd_fl "PantryDoors$Text" 87 4 0 (tyX4 0) := ⟨RX4, TX4, 10, "PantryDoors$House", tyX4, rfl, by decide, iw4, (pd_m 254 (by decide +kernel) (by decide +kernel)), Or.inl rfl, tyX4_ok, nmX4, rfl⟩
theorem fT_90_4 : pd_fl "PantryDoors$Text" 90 4 1 (tyX4 1) := ⟨RX4, TX4, 10, "PantryDoors$House", tyX4, rfl, by decide, iw4, (pd_m 257 (by decide +kernel) (by decide +kernel)), Or.inl rfl, tyX4_ok, nmX4, rfl⟩
theorem fT_93_4 : pd_fl "PantryDoors$Text" 93 4 2 (tyX4 2) := ⟨RX4, TX4, 10, "PantryDoors$House", tyX4, rfl, by decide, iw4, (pd_m 260 (by decide +kernel) (by decide +kernel)), Or.inl rfl, tyX4_ok, nmX4, rfl⟩
theorem fT_96_4 : pd_fl "PantryDoors$Text" 96 4 3 (tyX4 3) := ⟨RX4, TX4, 10, "PantryDoors$House", tyX4, rfl, by decide, iw4, (pd_m 264 (by decide +kernel) (by decide +kernel)), Or.inl rfl, tyX4_ok, nmX4, rfl⟩
theorem fT_99_4 : pd_fl "PantryDoors$Text" 99 4 8 (tyX4 8) := ⟨RX4, TX4, 10, "PantryDoors$House", tyX4, rfl, by decide, iw4, (pd_m 280 (by decide +kernel) (by decide +kernel)), Or.inl rfl, tyX4_ok, nmX4, rfl⟩
theorem fT_102_4 : pd_fl "PantryDoors$Text" 102 4 9 (tyX4 9) := ⟨RX4, TX4, 10, "PantryDoors$House", tyX4, rfl, by decide, iw4, (pd_m 283 (by decide +kernel) (by decide +kernel)), Or.inl rfl, tyX4_ok, nmX4, rfl⟩
theorem fT_105_10 : pd_fl "PantryDoors$Text" 105 10 1 (tyX10 1) := ⟨RX10, TX10, 8, "PantryDoors$Text", tyX10, rfl, by decide, iw10, (pd_m 78 (by decide +kernel) (by decide +kernel)), Or.inl rfl, tyX10_ok, nmX10, rfl⟩
theorem fH_9_4 : pd_fl "PantryDoors$House" 9 4 0 (tyX4 0) := ⟨RX4, TX4, 10, "PantryDoors$House", tyX4, rfl, by decide, iw4, (pd_m 251 (by decide +kernel) (by decide +kernel)), Or.inl rfl, tyX4_ok, nmX4, rfl⟩
theorem fH_15_4 : pd_fl "PantryDoors$House" 15 4 1 (tyX4 1) := ⟨RX4, TX4, 10, "PantryDoors$House", tyX4, rfl, by decide, iw4, (pd_m 255 (by decide +kernel) (by decide +kernel)), Or.inl rfl, tyX4_ok, nmX4, rfl⟩
theorem fH_18_4 : pd_fl "PantryDoors$House" 18 4 2 (tyX4 2) := ⟨RX4, TX4, 10, "PantryDoors$House", tyX4, rfl, by decide, iw4, (pd_m 258 (by decide +kernel) (by decide +kernel)), Or.inl rfl, tyX4_ok, nmX4, rfl⟩
theorem fH_21_4 : pd_fl "PantryDoors$House" 21 4 3 (tyX4 3) := ⟨RX4, TX4, 10, "PantryDoors$House", tyX4, rfl, by decide, iw4, (pd_m 261 (by decide +kernel) (by decide +kernel)), Or.inl rfl, tyX4_ok, nmX4, rfl⟩
theorem fH_24_4 : pd_fl "PantryDoors$House" 24 4 4 (tyX4 4) := ⟨RX4, TX4, 10, "PantryDoors$House", tyX4, rfl, by decide, iw4, (pd_m 265 (by decide +kernel) (by decide +kernel)), Or.inl rfl, tyX4_ok, nmX4, rfl⟩
theorem fH_27_4 : pd_fl "PantryDoors$House" 27 4 5 (tyX4 5) := ⟨RX4, TX4, 10, "PantryDoors$House", tyX4, rfl, by decide, iw4, (pd_m 268 (by decide +kernel) (by decide +kernel)), Or.inl rfl, tyX4_ok, nmX4, rfl⟩
theorem fH_30_4 : pd_fl "PantryDoors$House" 30 4 6 (tyX4 6) := ⟨RX4, TX4, 10, "PantryDoors$House", tyX4, rfl, by decide, iw4, (pd_m 272 (by decide +kernel) (by decide +kernel)), Or.inl rfl, tyX4_ok, nmX4, rfl⟩
theorem fH_33_4 : pd_fl "PantryDoors$House" 33 4 7 (tyX4 7) := ⟨RX4, TX4, 10, "PantryDoors$House", tyX4, rfl, by decide, iw4, (pd_m 274 (by decide +kernel) (by decide +kernel)), Or.inl rfl, tyX4_ok, nmX4, rfl⟩
theorem fH_37_4 : pd_fl "PantryDoors$House" 37 4 8 (tyX4 8) := ⟨RX4, TX4, 10, "PantryDoors$House", tyX4, rfl, by decide, iw4, (pd_m 279 (by decide +kernel) (by decide +kernel)), Or.inl rfl, tyX4_ok, nmX4, rfl⟩
theorem fH_40_4 : pd_fl "PantryDoors$House" 40 4 9 (tyX4 9) := ⟨RX4, TX4, 10, "PantryDoors$House", tyX4, rfl, by decide, iw4, (pd_m 282 (by decide +kernel) (by decide +kernel)), Or.inl rfl, tyX4_ok, nmX4, rfl⟩
theorem fS_9_8 : pd_fl "PantryDoors$State" 9 8 0 (tyX8 0) := ⟨RX8, TX8, 5, "PantryDoors$State", tyX8, rfl, by decide, iw8, (pd_m 115 (by decide +kernel) (by decide +kernel)), Or.inl rfl, tyX8_ok, nmX8, rfl⟩
theorem fS_15_8 : pd_fl "PantryDoors$State" 15 8 1 (tyX8 1) := ⟨RX8, TX8, 5, "PantryDoors$State", tyX8, rfl, by decide, iw8, (pd_m 119 (by decide +kernel) (by decide +kernel)), Or.inl rfl, tyX8_ok, nmX8, rfl⟩
theorem fS_18_8 : pd_fl "PantryDoors$State" 18 8 2 (tyX8 2) := ⟨RX8, TX8, 5, "PantryDoors$State", tyX8, rfl, by decide, iw8, (pd_m 122 (by decide +kernel) (by decide +kernel)), Or.inl rfl, tyX8_ok, nmX8, rfl⟩
theorem fS_21_8 : pd_fl "PantryDoors$State" 21 8 3 (tyX8 3) := ⟨RX8, TX8, 5, "PantryDoors$State", tyX8, rfl, by decide, iw8, (pd_m 124 (by decide +kernel) (by decide +kernel)), Or.inl rfl, tyX8_ok, nmX8, rfl⟩
theorem fS_25_8 : pd_fl "PantryDoors$State" 25 8 4 (tyX8 4) := ⟨RX8, TX8, 5, "PantryDoors$State", tyX8, rfl, by decide, iw8, (pd_m 128 (by decide +kernel) (by decide +kernel)), Or.inl rfl, tyX8_ok, nmX8, rfl⟩
theorem fS_35_4 : pd_fl "PantryDoors$State" 35 4 0 (tyX4 0) := ⟨RX4, TX4, 10, "PantryDoors$House", tyX4, rfl, by decide, iw4, (pd_m 252 (by decide +kernel) (by decide +kernel)), Or.inl rfl, tyX4_ok, nmX4, rfl⟩
theorem fS_52_4 : pd_fl "PantryDoors$State" 52 4 5 (tyX4 5) := ⟨RX4, TX4, 10, "PantryDoors$House", tyX4, rfl, by decide, iw4, (pd_m 269 (by decide +kernel) (by decide +kernel)), Or.inl rfl, tyX4_ok, nmX4, rfl⟩
theorem fS_61_4 : pd_fl "PantryDoors$State" 61 4 7 (tyX4 7) := ⟨RX4, TX4, 10, "PantryDoors$House", tyX4, rfl, by decide, iw4, (pd_m 277 (by decide +kernel) (by decide +kernel)), Or.inl rfl, tyX4_ok, nmX4, rfl⟩
theorem fL_10_6 : pd_fl "PantryDoors$Life" 10 6 0 (tyX6 0) := ⟨RX6, TX6, 3, "PantryDoors$Life", tyX6, rfl, by decide, iw6, (pd_m 142 (by decide +kernel) (by decide +kernel)), Or.inl rfl, tyX6_ok, nmX6, rfl⟩
theorem fL_16_6 : pd_fl "PantryDoors$Life" 16 6 1 (tyX6 1) := ⟨RX6, TX6, 3, "PantryDoors$Life", tyX6, rfl, by decide, iw6, (pd_m 144 (by decide +kernel) (by decide +kernel)), Or.inl rfl, tyX6_ok, nmX6, rfl⟩
theorem fL_24_6 : pd_fl "PantryDoors$Life" 24 6 2 (tyX6 2) := ⟨RX6, TX6, 3, "PantryDoors$Life", tyX6, rfl, by decide, iw6, (pd_m 145 (by decide +kernel) (by decide +kernel)), Or.inl rfl, tyX6_ok, nmX6, rfl⟩
theorem fP_9_7 : pd_fl "PantryDoors$Plan" 9 7 0 (tyX7 0) := ⟨RX7, TX7, 6, "PantryDoors$Plan", tyX7, rfl, by decide, iw7, (pd_m 161 (by decide +kernel) (by decide +kernel)), Or.inl rfl, tyX7_ok, nmX7, rfl⟩
theorem fP_15_7 : pd_fl "PantryDoors$Plan" 15 7 2 (tyX7 2) := ⟨RX7, TX7, 6, "PantryDoors$Plan", tyX7, rfl, by decide, iw7, (pd_m 165 (by decide +kernel) (by decide +kernel)), Or.inl rfl, tyX7_ok, nmX7, rfl⟩
theorem fP_18_7 : pd_fl "PantryDoors$Plan" 18 7 3 (tyX7 3) := ⟨RX7, TX7, 6, "PantryDoors$Plan", tyX7, rfl, by decide, iw7, (pd_m 166 (by decide +kernel) (by decide +kernel)), Or.inl rfl, tyX7_ok, nmX7, rfl⟩
theorem fP_21_7 : pd_fl "PantryDoors$Plan" 21 7 4 (tyX7 4) := ⟨RX7, TX7, 6, "PantryDoors$Plan", tyX7, rfl, by decide, iw7, (pd_m 167 (by decide +kernel) (by decide +kernel)), Or.inl rfl, tyX7_ok, nmX7, rfl⟩
theorem fP_24_4 : pd_fl "PantryDoors$Plan" 24 4 7 (tyX4 7) := ⟨RX4, TX4, 10, "PantryDoors$House", tyX4, rfl, by decide, iw4, (pd_m 275 (by decide +kernel) (by decide +kernel)), Or.inl rfl, tyX4_ok, nmX4, rfl⟩
theorem fP_30_7 : pd_fl "PantryDoors$Plan" 30 7 5 (tyX7 5) := ⟨RX7, TX7, 6, "PantryDoors$Plan", tyX7, rfl, by decide, iw7, (pd_m 168 (by decide +kernel) (by decide +kernel)), Or.inl rfl, tyX7_ok, nmX7, rfl⟩
theorem fP_37_8 : pd_fl "PantryDoors$Plan" 37 8 3 (tyX8 3) := ⟨RX8, TX8, 5, "PantryDoors$State", tyX8, rfl, by decide, iw8, (pd_m 125 (by decide +kernel) (by decide +kernel)), Or.inl rfl, tyX8_ok, nmX8, rfl⟩
theorem fP_45_7 : pd_fl "PantryDoors$Plan" 45 7 1 (tyX7 1) := ⟨RX7, TX7, 6, "PantryDoors$Plan", tyX7, rfl, by decide, iw7, (pd_m 163 (by decide +kernel) (by decide +kernel)), Or.inl rfl, tyX7_ok, nmX7, rfl⟩
theorem fP_60_8 : pd_fl "PantryDoors$Plan" 60 8 0 (tyX8 0) := ⟨RX8, TX8, 5, "PantryDoors$State", tyX8, rfl, by decide, iw8, (pd_m 117 (by decide +kernel) (by decide +kernel)), Or.inl rfl, tyX8_ok, nmX8, rfl⟩
theorem fD_12_11 : pd_fl "PantryDoors" 12 11 0 (tyX11 0) := ⟨RX11, TX11, 15, "PantryDoors", tyX11, rfl, by decide, iw11, (pd_m 306 (by decide +kernel) (by decide +kernel)), Or.inl rfl, tyX11_ok, nmX11, rfl⟩
theorem fD_19_11 : pd_fl "PantryDoors" 19 11 1 (tyX11 1) := ⟨RX11, TX11, 15, "PantryDoors", tyX11, rfl, by decide, iw11, (pd_m 307 (by decide +kernel) (by decide +kernel)), Or.inl rfl, tyX11_ok, nmX11, rfl⟩
theorem fD_23_11 : pd_fl "PantryDoors" 23 11 2 (tyX11 2) := ⟨RX11, TX11, 15, "PantryDoors", tyX11, rfl, by decide, iw11, (pd_m 308 (by decide +kernel) (by decide +kernel)), Or.inl rfl, tyX11_ok, nmX11, rfl⟩
theorem fD_27_11 : pd_fl "PantryDoors" 27 11 3 (tyX11 3) := ⟨RX11, TX11, 15, "PantryDoors", tyX11, rfl, by decide, iw11, (pd_m 309 (by decide +kernel) (by decide +kernel)), Or.inl rfl, tyX11_ok, nmX11, rfl⟩
theorem fD_31_11 : pd_fl "PantryDoors" 31 11 4 (tyX11 4) := ⟨RX11, TX11, 15, "PantryDoors", tyX11, rfl, by decide, iw11, (pd_m 310 (by decide +kernel) (by decide +kernel)), Or.inl rfl, tyX11_ok, nmX11, rfl⟩
theorem fD_35_11 : pd_fl "PantryDoors" 35 11 5 (tyX11 5) := ⟨RX11, TX11, 15, "PantryDoors", tyX11, rfl, by decide, iw11, (pd_m 311 (by decide +kernel) (by decide +kernel)), Or.inl rfl, tyX11_ok, nmX11, rfl⟩
theorem fD_38_11 : pd_fl "PantryDoors" 38 11 6 (tyX11 6) := ⟨RX11, TX11, 15, "PantryDoors", tyX11, rfl, by decide, iw11, (pd_m 312 (by decide +kernel) (by decide +kernel)), Or.inl rfl, tyX11_ok, nmX11, rfl⟩
theorem fD_41_11 : pd_fl "PantryDoors" 41 11 7 (tyX11 7) := ⟨RX11, TX11, 15, "PantryDoors", tyX11, rfl, by decide, iw11, (pd_m 313 (by decide +kernel) (by decide +kernel)), Or.inl rfl, tyX11_ok, nmX11, rfl⟩
theorem fD_44_11 : pd_fl "PantryDoors" 44 11 8 (tyX11 8) := ⟨RX11, TX11, 15, "PantryDoors", tyX11, rfl, by decide, iw11, (pd_m 314 (by decide +kernel) (by decide +kernel)), Or.inl rfl, tyX11_ok, nmX11, rfl⟩
theorem fD_50_11 : pd_fl "PantryDoors" 50 11 9 (tyX11 9) := ⟨RX11, TX11, 15, "PantryDoors", tyX11, rfl, by decide, iw11, (pd_m 315 (by decide +kernel) (by decide +kernel)), Or.inl rfl, tyX11_ok, nmX11, rfl⟩
theorem fD_72_11 : pd_fl "PantryDoors" 72 11 10 (tyX11 10) := ⟨RX11, TX11, 15, "PantryDoors", tyX11, rfl, by decide, iw11, (pd_m 316 (by decide +kernel) (by decide +kernel)), Or.inl rfl, tyX11_ok, nmX11, rfl⟩
theorem fD_79_11 : pd_fl "PantryDoors" 79 11 11 (tyX11 11) := ⟨RX11, TX11, 15, "PantryDoors", tyX11, rfl, by decide, iw11, (pd_m 317 (by decide +kernel) (by decide +kernel)), Or.inl rfl, tyX11_ok, nmX11, rfl⟩
theorem fD_83_11 : pd_fl "PantryDoors" 83 11 12 (tyX11 12) := ⟨RX11, TX11, 15, "PantryDoors", tyX11, rfl, by decide, iw11, (pd_m 318 (by decide +kernel) (by decide +kernel)), Or.inl rfl, tyX11_ok, nmX11, rfl⟩
theorem fD_90_10 : pd_fl "PantryDoors" 90 10 1 (tyX10 1) := ⟨RX10, TX10, 8, "PantryDoors$Text", tyX10, rfl, by decide, iw10, (pd_m 77 (by decide +kernel) (by decide +kernel)), Or.inl rfl, tyX10_ok, nmX10, rfl⟩
theorem fD_94_10 : pd_fl "PantryDoors" 94 10 0 (tyX10 0) := ⟨RX10, TX10, 8, "PantryDoors$Text", tyX10, rfl, by decide, iw10, (pd_m 76 (by decide +kernel) (by decide +kernel)), Or.inl rfl, tyX10_ok, nmX10, rfl⟩
theorem fD_108_11 : pd_fl "PantryDoors" 108 11 13 (tyX11 13) := ⟨RX11, TX11, 15, "PantryDoors", tyX11, rfl, by decide, iw11, (pd_m 319 (by decide +kernel) (by decide +kernel)), Or.inl rfl, tyX11_ok, nmX11, rfl⟩
theorem fD_111_11 : pd_fl "PantryDoors" 111 11 14 (tyX11 14) := ⟨RX11, TX11, 15, "PantryDoors", tyX11, rfl, by decide, iw11, (pd_m 320 (by decide +kernel) (by decide +kernel)), Or.inl rfl, tyX11_ok, nmX11, rfl⟩
theorem fD_118_4 : pd_fl "PantryDoors" 118 4 0 (tyX4 0) := ⟨RX4, TX4, 10, "PantryDoors$House", tyX4, rfl, by decide, iw4, (pd_m 253 (by decide +kernel) (by decide +kernel)), Or.inl rfl, tyX4_ok, nmX4, rfl⟩
theorem fD_121_4 : pd_fl "PantryDoors" 121 4 1 (tyX4 1) := ⟨RX4, TX4, 10, "PantryDoors$House", tyX4, rfl, by decide, iw4, (pd_m 256 (by decide +kernel) (by decide +kernel)), Or.inl rfl, tyX4_ok, nmX4, rfl⟩
theorem fD_124_4 : pd_fl "PantryDoors" 124 4 2 (tyX4 2) := ⟨RX4, TX4, 10, "PantryDoors$House", tyX4, rfl, by decide, iw4, (pd_m 259 (by decide +kernel) (by decide +kernel)), Or.inl rfl, tyX4_ok, nmX4, rfl⟩
theorem fD_127_4 : pd_fl "PantryDoors" 127 4 3 (tyX4 3) := ⟨RX4, TX4, 10, "PantryDoors$House", tyX4, rfl, by decide, iw4, (pd_m 263 (by decide +kernel) (by decide +kernel)), Or.inl rfl, tyX4_ok, nmX4, rfl⟩
theorem fD_130_6 : pd_fl "PantryDoors" 130 6 0 (tyX6 0) := ⟨RX6, TX6, 3, "PantryDoors$Life", tyX6, rfl, by decide, iw6, (pd_m 143 (by decide +kernel) (by decide +kernel)), Or.inl rfl, tyX6_ok, nmX6, rfl⟩
theorem fD_134_8 : pd_fl "PantryDoors" 134 8 0 (tyX8 0) := ⟨RX8, TX8, 5, "PantryDoors$State", tyX8, rfl, by decide, iw8, (pd_m 118 (by decide +kernel) (by decide +kernel)), Or.inl rfl, tyX8_ok, nmX8, rfl⟩
theorem fD_139_8 : pd_fl "PantryDoors" 139 8 1 (tyX8 1) := ⟨RX8, TX8, 5, "PantryDoors$State", tyX8, rfl, by decide, iw8, (pd_m 121 (by decide +kernel) (by decide +kernel)), Or.inl rfl, tyX8_ok, nmX8, rfl⟩
theorem fD_146_4 : pd_fl "PantryDoors" 146 4 4 (tyX4 4) := ⟨RX4, TX4, 10, "PantryDoors$House", tyX4, rfl, by decide, iw4, (pd_m 266 (by decide +kernel) (by decide +kernel)), Or.inl rfl, tyX4_ok, nmX4, rfl⟩
theorem fD_149_4 : pd_fl "PantryDoors" 149 4 5 (tyX4 5) := ⟨RX4, TX4, 10, "PantryDoors$House", tyX4, rfl, by decide, iw4, (pd_m 270 (by decide +kernel) (by decide +kernel)), Or.inl rfl, tyX4_ok, nmX4, rfl⟩
theorem fD_152_8 : pd_fl "PantryDoors" 152 8 2 (tyX8 2) := ⟨RX8, TX8, 5, "PantryDoors$State", tyX8, rfl, by decide, iw8, (pd_m 123 (by decide +kernel) (by decide +kernel)), Or.inl rfl, tyX8_ok, nmX8, rfl⟩
theorem fD_155_8 : pd_fl "PantryDoors" 155 8 3 (tyX8 3) := ⟨RX8, TX8, 5, "PantryDoors$State", tyX8, rfl, by decide, iw8, (pd_m 127 (by decide +kernel) (by decide +kernel)), Or.inl rfl, tyX8_ok, nmX8, rfl⟩
theorem fD_171_8 : pd_fl "PantryDoors" 171 8 4 (tyX8 4) := ⟨RX8, TX8, 5, "PantryDoors$State", tyX8, rfl, by decide, iw8, (pd_m 129 (by decide +kernel) (by decide +kernel)), Or.inl rfl, tyX8_ok, nmX8, rfl⟩
theorem fD_175_6 : pd_fl "PantryDoors" 175 6 2 (tyX6 2) := ⟨RX6, TX6, 3, "PantryDoors$Life", tyX6, rfl, by decide, iw6, (pd_m 146 (by decide +kernel) (by decide +kernel)), Or.inl rfl, tyX6_ok, nmX6, rfl⟩
theorem fD_189_4 : pd_fl "PantryDoors" 189 4 7 (tyX4 7) := ⟨RX4, TX4, 10, "PantryDoors$House", tyX4, rfl, by decide, iw4, (pd_m 278 (by decide +kernel) (by decide +kernel)), Or.inl rfl, tyX4_ok, nmX4, rfl⟩
theorem fD_214_7 : pd_fl "PantryDoors" 214 7 1 (tyX7 1) := ⟨RX7, TX7, 6, "PantryDoors$Plan", tyX7, rfl, by decide, iw7, (pd_m 164 (by decide +kernel) (by decide +kernel)), Or.inl rfl, tyX7_ok, nmX7, rfl⟩
theorem fD_215_7 : pd_fl "PantryDoors" 215 7 0 (tyX7 0) := ⟨RX7, TX7, 6, "PantryDoors$Plan", tyX7, rfl, by decide, iw7, (pd_m 162 (by decide +kernel) (by decide +kernel)), Or.inl rfl, tyX7_ok, nmX7, rfl⟩
theorem fD_235_4 : pd_fl "PantryDoors" 235 4 6 (tyX4 6) := ⟨RX4, TX4, 10, "PantryDoors$House", tyX4, rfl, by decide, iw4, (pd_m 273 (by decide +kernel) (by decide +kernel)), Or.inl rfl, tyX4_ok, nmX4, rfl⟩
theorem fD_265_4 : pd_fl "PantryDoors" 265 4 8 (tyX4 8) := ⟨RX4, TX4, 10, "PantryDoors$House", tyX4, rfl, by decide, iw4, (pd_m 281 (by decide +kernel) (by decide +kernel)), Or.inl rfl, tyX4_ok, nmX4, rfl⟩
theorem fD_268_4 : pd_fl "PantryDoors" 268 4 9 (tyX4 9) := ⟨RX4, TX4, 10, "PantryDoors$House", tyX4, rfl, by decide, iw4, (pd_m 284 (by decide +kernel) (by decide +kernel)), Or.inl rfl, tyX4_ok, nmX4, rfl⟩
theorem fD_271_2 : pd_fl "PantryDoors" 271 2 0 (tyX2 0) := ⟨RX2, TX2, 1, "PantryDoors$Good", tyX2, rfl, by decide, iw2, (pd_m 201 (by decide +kernel) (by decide +kernel)), Or.inl rfl, tyX2_ok, nmX2, rfl⟩
theorem fD_271_9 : pd_fl "PantryDoors" 271 9 0 (tyX9 0) := ⟨RX9, TX9, 1, "PantryDoors$Good", tyX9, rfl, by decide, iw9, (pd_m 201 (by decide +kernel) (by decide +kernel)), Or.inl rfl, tyX9_ok, nmX9, rfl⟩
theorem fD_271_3 : pd_fl "PantryDoors" 271 3 0 (tyX3 0) := ⟨RX3, TX3, 1, "PantryDoors$Good", tyX3, rfl, by decide, iw3, (pd_m 201 (by decide +kernel) (by decide +kernel)), Or.inl rfl, tyX3_ok, nmX3, rfl⟩
theorem fD_271_1 : pd_fl "PantryDoors" 271 1 0 (tyX1 0) := ⟨RX1, TX1, 1, "PantryDoors$Good", tyX1, rfl, by decide, iw1, (pd_m 201 (by decide +kernel) (by decide +kernel)), Or.inl rfl, tyX1_ok, nmX1, rfl⟩
theorem fD_271_5 : pd_fl "PantryDoors" 271 5 0 (tyX5 0) := ⟨RX5, TX5, 1, "PantryDoors$Good", tyX5, rfl, by decide, iw5, (pd_m 201 (by decide +kernel) (by decide +kernel)), Or.inl rfl, tyX5_ok, nmX5, rfl⟩
theorem fD_271_0 : pd_fl "PantryDoors" 271 0 0 (tyX0 0) := ⟨RX0, TX0, 1, "PantryDoors$Good", tyX0, rfl, by decide, iw0, (pd_m 201 (by decide +kernel) (by decide +kernel)), Or.inl rfl, tyX0_ok, nmX0, rfl⟩
theorem fR_7_12 : pd_fl "PantryDoorsModel" 7 12 0 (tyX12 0) := ⟨RX12, TX12, 32, "PantryDoorsModel", tyX12, rfl, by decide, iw12, (pd_m 725 (by decide +kernel) (by decide +kernel)), Or.inl rfl, tyX12_ok, nmX12, rfl⟩
theorem fR_13_12 : pd_fl "PantryDoorsModel" 13 12 2 (tyX12 2) := ⟨RX12, TX12, 32, "PantryDoorsModel", tyX12, rfl, by decide, iw12, (pd_m 727 (by decide +kernel) (by decide +kernel)), Or.inl rfl, tyX12_ok, nmX12, rfl⟩
theorem fR_17_12 : pd_fl "PantryDoorsModel" 17 12 3 (tyX12 3) := ⟨RX12, TX12, 32, "PantryDoorsModel", tyX12, rfl, by decide, iw12, (pd_m 728 (by decide +kernel) (by decide +kernel)), Or.inl rfl, tyX12_ok, nmX12, rfl⟩
theorem fR_20_12 : pd_fl "PantryDoorsModel" 20 12 4 (tyX12 4) := ⟨RX12, TX12, 32, "PantryDoorsModel", tyX12, rfl, by decide, iw12, (pd_m 729 (by decide +kernel) (by decide +kernel)), Or.inl rfl, tyX12_ok, nmX12, rfl⟩
theorem fR_23_12 : pd_fl "PantryDoorsModel" 23 12 5 (tyX12 5) := ⟨RX12, TX12, 32, "PantryDoorsModel", tyX12, rfl, by decide, iw12, (pd_m 730 (by decide +kernel) (by decide +kernel)), Or.inl rfl, tyX12_ok, nmX12, rfl⟩
theorem fR_26_12 : pd_fl "PantryDoorsModel" 26 12 6 (tyX12 6) := ⟨RX12, TX12, 32, "PantryDoorsModel", tyX12, rfl, by decide, iw12, (pd_m 731 (by decide +kernel) (by decide +kernel)), Or.inl rfl, tyX12_ok, nmX12, rfl⟩
theorem fR_29_12 : pd_fl "PantryDoorsModel" 29 12 7 (tyX12 7) := ⟨RX12, TX12, 32, "PantryDoorsModel", tyX12, rfl, by decide, iw12, (pd_m 732 (by decide +kernel) (by decide +kernel)), Or.inl rfl, tyX12_ok, nmX12, rfl⟩
theorem fR_32_12 : pd_fl "PantryDoorsModel" 32 12 8 (tyX12 8) := ⟨RX12, TX12, 32, "PantryDoorsModel", tyX12, rfl, by decide, iw12, (pd_m 733 (by decide +kernel) (by decide +kernel)), Or.inl rfl, tyX12_ok, nmX12, rfl⟩
theorem fR_35_12 : pd_fl "PantryDoorsModel" 35 12 9 (tyX12 9) := ⟨RX12, TX12, 32, "PantryDoorsModel", tyX12, rfl, by decide, iw12, (pd_m 734 (by decide +kernel) (by decide +kernel)), Or.inl rfl, tyX12_ok, nmX12, rfl⟩
theorem fR_38_12 : pd_fl "PantryDoorsModel" 38 12 17 (tyX12 17) := ⟨RX12, TX12, 32, "PantryDoorsModel", tyX12, rfl, by decide, iw12, (pd_m 742 (by decide +kernel) (by decide +kernel)), Or.inl rfl, tyX12_ok, nmX12, rfl⟩
theorem fR_41_12 : pd_fl "PantryDoorsModel" 41 12 18 (tyX12 18) := ⟨RX12, TX12, 32, "PantryDoorsModel", tyX12, rfl, by decide, iw12, (pd_m 743 (by decide +kernel) (by decide +kernel)), Or.inl rfl, tyX12_ok, nmX12, rfl⟩
theorem fR_44_12 : pd_fl "PantryDoorsModel" 44 12 19 (tyX12 19) := ⟨RX12, TX12, 32, "PantryDoorsModel", tyX12, rfl, by decide, iw12, (pd_m 744 (by decide +kernel) (by decide +kernel)), Or.inl rfl, tyX12_ok, nmX12, rfl⟩
theorem fR_47_12 : pd_fl "PantryDoorsModel" 47 12 20 (tyX12 20) := ⟨RX12, TX12, 32, "PantryDoorsModel", tyX12, rfl, by decide, iw12, (pd_m 745 (by decide +kernel) (by decide +kernel)), Or.inl rfl, tyX12_ok, nmX12, rfl⟩
theorem fR_50_12 : pd_fl "PantryDoorsModel" 50 12 21 (tyX12 21) := ⟨RX12, TX12, 32, "PantryDoorsModel", tyX12, rfl, by decide, iw12, (pd_m 746 (by decide +kernel) (by decide +kernel)), Or.inl rfl, tyX12_ok, nmX12, rfl⟩
theorem fR_54_12 : pd_fl "PantryDoorsModel" 54 12 22 (tyX12 22) := ⟨RX12, TX12, 32, "PantryDoorsModel", tyX12, rfl, by decide, iw12, (pd_m 747 (by decide +kernel) (by decide +kernel)), Or.inl rfl, tyX12_ok, nmX12, rfl⟩
theorem fR_57_12 : pd_fl "PantryDoorsModel" 57 12 23 (tyX12 23) := ⟨RX12, TX12, 32, "PantryDoorsModel", tyX12, rfl, by decide, iw12, (pd_m 748 (by decide +kernel) (by decide +kernel)), Or.inl rfl, tyX12_ok, nmX12, rfl⟩
theorem fR_60_12 : pd_fl "PantryDoorsModel" 60 12 24 (tyX12 24) := ⟨RX12, TX12, 32, "PantryDoorsModel", tyX12, rfl, by decide, iw12, (pd_m 749 (by decide +kernel) (by decide +kernel)), Or.inl rfl, tyX12_ok, nmX12, rfl⟩
theorem fR_63_12 : pd_fl "PantryDoorsModel" 63 12 25 (tyX12 25) := ⟨RX12, TX12, 32, "PantryDoorsModel", tyX12, rfl, by decide, iw12, (pd_m 750 (by decide +kernel) (by decide +kernel)), Or.inl rfl, tyX12_ok, nmX12, rfl⟩
theorem fR_66_12 : pd_fl "PantryDoorsModel" 66 12 27 (tyX12 27) := ⟨RX12, TX12, 32, "PantryDoorsModel", tyX12, rfl, by decide, iw12, (pd_m 752 (by decide +kernel) (by decide +kernel)), Or.inl rfl, tyX12_ok, nmX12, rfl⟩
theorem fR_69_12 : pd_fl "PantryDoorsModel" 69 12 28 (tyX12 28) := ⟨RX12, TX12, 32, "PantryDoorsModel", tyX12, rfl, by decide, iw12, (pd_m 753 (by decide +kernel) (by decide +kernel)), Or.inl rfl, tyX12_ok, nmX12, rfl⟩
theorem fR_72_12 : pd_fl "PantryDoorsModel" 72 12 30 (tyX12 30) := ⟨RX12, TX12, 32, "PantryDoorsModel", tyX12, rfl, by decide, iw12, (pd_m 755 (by decide +kernel) (by decide +kernel)), Or.inl rfl, tyX12_ok, nmX12, rfl⟩
theorem fR_79_12 : pd_fl "PantryDoorsModel" 79 12 1 (tyX12 1) := ⟨RX12, TX12, 32, "PantryDoorsModel", tyX12, rfl, by decide, iw12, (pd_m 726 (by decide +kernel) (by decide +kernel)), Or.inl rfl, tyX12_ok, nmX12, rfl⟩
theorem fR_83_12 : pd_fl "PantryDoorsModel" 83 12 10 (tyX12 10) := ⟨RX12, TX12, 32, "PantryDoorsModel", tyX12, rfl, by decide, iw12, (pd_m 735 (by decide +kernel) (by decide +kernel)), Or.inl rfl, tyX12_ok, nmX12, rfl⟩
theorem fR_90_12 : pd_fl "PantryDoorsModel" 90 12 11 (tyX12 11) := ⟨RX12, TX12, 32, "PantryDoorsModel", tyX12, rfl, by decide, iw12, (pd_m 736 (by decide +kernel) (by decide +kernel)), Or.inl rfl, tyX12_ok, nmX12, rfl⟩
theorem fR_93_12 : pd_fl "PantryDoorsModel" 93 12 13 (tyX12 13) := ⟨RX12, TX12, 32, "PantryDoorsModel", tyX12, rfl, by decide, iw12, (pd_m 738 (by decide +kernel) (by decide +kernel)), Or.inl rfl, tyX12_ok, nmX12, rfl⟩
theorem fR_96_12 : pd_fl "PantryDoorsModel" 96 12 12 (tyX12 12) := ⟨RX12, TX12, 32, "PantryDoorsModel", tyX12, rfl, by decide, iw12, (pd_m 737 (by decide +kernel) (by decide +kernel)), Or.inl rfl, tyX12_ok, nmX12, rfl⟩
theorem fR_99_12 : pd_fl "PantryDoorsModel" 99 12 14 (tyX12 14) := ⟨RX12, TX12, 32, "PantryDoorsModel", tyX12, rfl, by decide, iw12, (pd_m 739 (by decide +kernel) (by decide +kernel)), Or.inl rfl, tyX12_ok, nmX12, rfl⟩
theorem fR_121_12 : pd_fl "PantryDoorsModel" 121 12 16 (tyX12 16) := ⟨RX12, TX12, 32, "PantryDoorsModel", tyX12, rfl, by decide, iw12, (pd_m 741 (by decide +kernel) (by decide +kernel)), Or.inl rfl, tyX12_ok, nmX12, rfl⟩
theorem fR_124_12 : pd_fl "PantryDoorsModel" 124 12 15 (tyX12 15) := ⟨RX12, TX12, 32, "PantryDoorsModel", tyX12, rfl, by decide, iw12, (pd_m 740 (by decide +kernel) (by decide +kernel)), Or.inl rfl, tyX12_ok, nmX12, rfl⟩
theorem fR_138_12 : pd_fl "PantryDoorsModel" 138 12 26 (tyX12 26) := ⟨RX12, TX12, 32, "PantryDoorsModel", tyX12, rfl, by decide, iw12, (pd_m 751 (by decide +kernel) (by decide +kernel)), Or.inl rfl, tyX12_ok, nmX12, rfl⟩
theorem fR_141_12 : pd_fl "PantryDoorsModel" 141 12 29 (tyX12 29) := ⟨RX12, TX12, 32, "PantryDoorsModel", tyX12, rfl, by decide, iw12, (pd_m 754 (by decide +kernel) (by decide +kernel)), Or.inl rfl, tyX12_ok, nmX12, rfl⟩
theorem fR_205_12 : pd_fl "PantryDoorsModel" 205 12 31 (tyX12 31) := ⟨RX12, TX12, 32, "PantryDoorsModel", tyX12, rfl, by decide, iw12, (pd_m 756 (by decide +kernel) (by decide +kernel)), Or.inl rfl, tyX12_ok, nmX12, rfl⟩
theorem fG_7_2 : pd_fl "PantryDoors$Good" 7 2 0 (tyX2 0) := ⟨RX2, TX2, 1, "PantryDoors$Good", tyX2, rfl, by decide, iw2, (pd_m 190 (by decide +kernel) (by decide +kernel)), Or.inl rfl, tyX2_ok, nmX2, rfl⟩
theorem fG_7_9 : pd_fl "PantryDoors$Good" 7 9 0 (tyX9 0) := ⟨RX9, TX9, 1, "PantryDoors$Good", tyX9, rfl, by decide, iw9, (pd_m 190 (by decide +kernel) (by decide +kernel)), Or.inl rfl, tyX9_ok, nmX9, rfl⟩
theorem fG_7_3 : pd_fl "PantryDoors$Good" 7 3 0 (tyX3 0) := ⟨RX3, TX3, 1, "PantryDoors$Good", tyX3, rfl, by decide, iw3, (pd_m 190 (by decide +kernel) (by decide +kernel)), Or.inl rfl, tyX3_ok, nmX3, rfl⟩
theorem fG_7_1 : pd_fl "PantryDoors$Good" 7 1 0 (tyX1 0) := ⟨RX1, TX1, 1, "PantryDoors$Good", tyX1, rfl, by decide, iw1, (pd_m 190 (by decide +kernel) (by decide +kernel)), Or.inl rfl, tyX1_ok, nmX1, rfl⟩
theorem fG_7_5 : pd_fl "PantryDoors$Good" 7 5 0 (tyX5 0) := ⟨RX5, TX5, 1, "PantryDoors$Good", tyX5, rfl, by decide, iw5, (pd_m 190 (by decide +kernel) (by decide +kernel)), Or.inl rfl, tyX5_ok, nmX5, rfl⟩
theorem fG_7_0 : pd_fl "PantryDoors$Good" 7 0 0 (tyX0 0) := ⟨RX0, TX0, 1, "PantryDoors$Good", tyX0, rfl, by decide, iw0, (pd_m 190 (by decide +kernel) (by decide +kernel)), Or.inl rfl, tyX0_ok, nmX0, rfl⟩
theorem fG_13_8 : pd_fl "PantryDoors$Good" 13 8 0 (tyX8 0) := ⟨RX8, TX8, 5, "PantryDoors$State", tyX8, rfl, by decide, iw8, (pd_m 116 (by decide +kernel) (by decide +kernel)), Or.inl rfl, tyX8_ok, nmX8, rfl⟩
theorem fSu_7_9 : pd_fl "PantryDoors$Sugar" 7 9 0 (tyX9 0) := ⟨RX9, TX9, 1, "PantryDoors$Sugar", tyX9, rfl, by decide, iw9, (pd_m 195 (by decide +kernel) (by decide +kernel)), (Or.inr (pd_m 196 (by decide +kernel) (by decide +kernel))), tyX9_ok, nmX9, rfl⟩
theorem fSu_7_1 : pd_fl "PantryDoors$Sugar" 7 1 0 (tyX1 0) := ⟨RX1, TX1, 1, "PantryDoors$Sugar", tyX1, rfl, by decide, iw1, (pd_m 195 (by decide +kernel) (by decide +kernel)), (Or.inr (pd_m 196 (by decide +kernel) (by decide +kernel))), tyX1_ok, nmX1, rfl⟩
theorem fSu_19_4 : pd_fl "PantryDoors$Sugar" 19 4 3 (tyX4 3) := ⟨RX4, TX4, 10, "PantryDoors$House", tyX4, rfl, by decide, iw4, (pd_m 262 (by decide +kernel) (by decide +kernel)), Or.inl rfl, tyX4_ok, nmX4, rfl⟩
theorem fHa_7_3 : pd_fl "PantryDoors$Ham" 7 3 0 (tyX3 0) := ⟨RX3, TX3, 1, "PantryDoors$Ham", tyX3, rfl, by decide, iw3, (pd_m 197 (by decide +kernel) (by decide +kernel)), (Or.inr (pd_m 198 (by decide +kernel) (by decide +kernel))), tyX3_ok, nmX3, rfl⟩
theorem fHa_7_5 : pd_fl "PantryDoors$Ham" 7 5 0 (tyX5 0) := ⟨RX5, TX5, 1, "PantryDoors$Ham", tyX5, rfl, by decide, iw5, (pd_m 197 (by decide +kernel) (by decide +kernel)), (Or.inr (pd_m 198 (by decide +kernel) (by decide +kernel))), tyX5_ok, nmX5, rfl⟩
theorem fHa_19_8 : pd_fl "PantryDoors$Ham" 19 8 1 (tyX8 1) := ⟨RX8, TX8, 5, "PantryDoors$State", tyX8, rfl, by decide, iw8, (pd_m 120 (by decide +kernel) (by decide +kernel)), Or.inl rfl, tyX8_ok, nmX8, rfl⟩
theorem fCo_7_1 : pd_fl "PantryDoors$Cone" 7 1 0 (tyX1 0) := ⟨RX1, TX1, 1, "PantryDoors$Cone", tyX1, rfl, by decide, iw1, (pd_m 193 (by decide +kernel) (by decide +kernel)), (Or.inr (pd_m 194 (by decide +kernel) (by decide +kernel))), tyX1_ok, nmX1, rfl⟩
theorem fJe_7_5 : pd_fl "PantryDoors$Jelly" 7 5 0 (tyX5 0) := ⟨RX5, TX5, 1, "PantryDoors$Jelly", tyX5, rfl, by decide, iw5, (pd_m 199 (by decide +kernel) (by decide +kernel)), (Or.inr (pd_m 200 (by decide +kernel) (by decide +kernel))), tyX5_ok, nmX5, rfl⟩
theorem fCa_7_0 : pd_fl "PantryDoors$Candle" 7 0 0 (tyX0 0) := ⟨RX0, TX0, 1, "PantryDoors$Candle", tyX0, rfl, by decide, iw0, (pd_m 191 (by decide +kernel) (by decide +kernel)), (Or.inr (pd_m 192 (by decide +kernel) (by decide +kernel))), tyX0_ok, nmX0, rfl⟩
theorem fCa_19_8 : pd_fl "PantryDoors$Candle" 19 8 3 (tyX8 3) := ⟨RX8, TX8, 5, "PantryDoors$State", tyX8, rfl, by decide, iw8, (pd_m 126 (by decide +kernel) (by decide +kernel)), Or.inl rfl, tyX8_ok, nmX8, rfl⟩
theorem df0 : pd_df 0 [vl 0] := ⟨RX0, TX0, 1, tyX0, rfl, iw0, tyX0_ok, rfl, fun G j hj => by
  match j, hj with
  | 0, _ => rfl
  | j + 1, hj => exact absurd hj (by omega), (pd_m 238 (by decide +kernel) (by decide +kernel)), (pd_m 56 (by decide +kernel) (by decide +kernel))⟩
theorem df1 : pd_df 1 [vl 0] := ⟨RX1, TX1, 1, tyX1, rfl, iw1, tyX1_ok, rfl, fun G j hj => by
  match j, hj with
  | 0, _ => rfl
  | j + 1, hj => exact absurd hj (by omega), (pd_m 222 (by decide +kernel) (by decide +kernel)), (pd_m 54 (by decide +kernel) (by decide +kernel))⟩
theorem df2 : pd_df 2 [vl 0] := ⟨RX2, TX2, 1, tyX2, rfl, iw2, tyX2_ok, rfl, fun G j hj => by
  match j, hj with
  | 0, _ => rfl
  | j + 1, hj => exact absurd hj (by omega), (pd_m 185 (by decide +kernel) (by decide +kernel)), (pd_m 51 (by decide +kernel) (by decide +kernel))⟩
theorem df3 : pd_df 3 [vl 0] := ⟨RX3, TX3, 1, tyX3, rfl, iw3, tyX3_ok, rfl, fun G j hj => by
  match j, hj with
  | 0, _ => rfl
  | j + 1, hj => exact absurd hj (by omega), (pd_m 214 (by decide +kernel) (by decide +kernel)), (pd_m 53 (by decide +kernel) (by decide +kernel))⟩
theorem df4 : pd_df 4 [vn, vn, vn, vn, vn, vn, vn, vi 0, vi 0, vi 0] := ⟨RX4, TX4, 10, tyX4, rfl, iw4, tyX4_ok, rfl, fun G j hj => by
  match j, hj with
  | 0, _ => rfl
  | 1, _ => rfl
  | 2, _ => rfl
  | 3, _ => rfl
  | 4, _ => rfl
  | 5, _ => rfl
  | 6, _ => rfl
  | 7, _ => rfl
  | 8, _ => rfl
  | 9, _ => rfl
  | j + 10, hj => exact absurd hj (by omega), (pd_m 246 (by decide +kernel) (by decide +kernel)), (pd_m 57 (by decide +kernel) (by decide +kernel))⟩
theorem df5 : pd_df 5 [vl 0] := ⟨RX5, TX5, 1, tyX5, rfl, iw5, tyX5_ok, rfl, fun G j hj => by
  match j, hj with
  | 0, _ => rfl
  | j + 1, hj => exact absurd hj (by omega), (pd_m 230 (by decide +kernel) (by decide +kernel)), (pd_m 55 (by decide +kernel) (by decide +kernel))⟩
theorem df6 : pd_df 6 [vn, vn, vi 0] := ⟨RX6, TX6, 3, tyX6, rfl, iw6, tyX6_ok, rfl, fun G j hj => by
  match j, hj with
  | 0, _ => rfl
  | 1, _ => rfl
  | 2, _ => rfl
  | j + 3, hj => exact absurd hj (by omega), (pd_m 104 (by decide +kernel) (by decide +kernel)), (pd_m 48 (by decide +kernel) (by decide +kernel))⟩
theorem df7 : pd_df 7 [vn, vi 0, vn, vn, vn, vi 0] := ⟨RX7, TX7, 6, tyX7, rfl, iw7, tyX7_ok, rfl, fun G j hj => by
  match j, hj with
  | 0, _ => rfl
  | 1, _ => rfl
  | 2, _ => rfl
  | 3, _ => rfl
  | 4, _ => rfl
  | 5, _ => rfl
  | j + 6, hj => exact absurd hj (by omega), (pd_m 156 (by decide +kernel) (by decide +kernel)), (pd_m 50 (by decide +kernel) (by decide +kernel))⟩
theorem df8 : pd_df 8 [vn, vn, vn, vi 0, vi 0] := ⟨RX8, TX8, 5, tyX8, rfl, iw8, tyX8_ok, rfl, fun G j hj => by
  match j, hj with
  | 0, _ => rfl
  | 1, _ => rfl
  | 2, _ => rfl
  | 3, _ => rfl
  | 4, _ => rfl
  | j + 5, hj => exact absurd hj (by omega), (pd_m 110 (by decide +kernel) (by decide +kernel)), (pd_m 49 (by decide +kernel) (by decide +kernel))⟩
theorem df9 : pd_df 9 [vl 0] := ⟨RX9, TX9, 1, tyX9, rfl, iw9, tyX9_ok, rfl, fun G j hj => by
  match j, hj with
  | 0, _ => rfl
  | j + 1, hj => exact absurd hj (by omega), (pd_m 206 (by decide +kernel) (by decide +kernel)), (pd_m 52 (by decide +kernel) (by decide +kernel))⟩
theorem df10 : pd_df 10 [vn, vi 0, vn, vi 0, vi 0, vi 0, vi 0, vi 0] := ⟨RX10, TX10, 8, tyX10, rfl, iw10, tyX10_ok, rfl, fun G j hj => by
  match j, hj with
  | 0, _ => rfl
  | 1, _ => rfl
  | 2, _ => rfl
  | 3, _ => rfl
  | 4, _ => rfl
  | 5, _ => rfl
  | 6, _ => rfl
  | 7, _ => rfl
  | j + 8, hj => exact absurd hj (by omega), (pd_m 70 (by decide +kernel) (by decide +kernel)), (pd_m 47 (by decide +kernel) (by decide +kernel))⟩
theorem df11 : pd_df 11 [vn, vn, vn, vn, vn, vn, vn, vn, vn, vn, vn, vn, vn, vi 0, vi 0] := ⟨RX11, TX11, 15, tyX11, rfl, iw11, tyX11_ok, rfl, fun G j hj => by
  match j, hj with
  | 0, _ => rfl
  | 1, _ => rfl
  | 2, _ => rfl
  | 3, _ => rfl
  | 4, _ => rfl
  | 5, _ => rfl
  | 6, _ => rfl
  | 7, _ => rfl
  | 8, _ => rfl
  | 9, _ => rfl
  | 10, _ => rfl
  | 11, _ => rfl
  | 12, _ => rfl
  | 13, _ => rfl
  | 14, _ => rfl
  | j + 15, hj => exact absurd hj (by omega), (pd_m 62 (by decide +kernel) (by decide +kernel)), (pd_m 46 (by decide +kernel) (by decide +kernel))⟩
theorem df12 : pd_df 12 [vn, vi 0, vn, vn, vn, vn, vn, vn, vn, vn, vi 0, vi 0, vi 0, vi 0, vi 0, vi 0, vi 0, vn, vn, vn, vn, vn, vn, vn, vn, vn, vi 0, vn, vn, vi 0, vn, vl 0] := ⟨RX12, TX12, 32, tyX12, rfl, iw12, tyX12_ok, rfl, fun G j hj => by
  match j, hj with
  | 0, _ => rfl
  | 1, _ => rfl
  | 2, _ => rfl
  | 3, _ => rfl
  | 4, _ => rfl
  | 5, _ => rfl
  | 6, _ => rfl
  | 7, _ => rfl
  | 8, _ => rfl
  | 9, _ => rfl
  | 10, _ => rfl
  | 11, _ => rfl
  | 12, _ => rfl
  | 13, _ => rfl
  | 14, _ => rfl
  | 15, _ => rfl
  | 16, _ => rfl
  | 17, _ => rfl
  | 18, _ => rfl
  | 19, _ => rfl
  | 20, _ => rfl
  | 21, _ => rfl
  | 22, _ => rfl
  | 23, _ => rfl
  | 24, _ => rfl
  | 25, _ => rfl
  | 26, _ => rfl
  | 27, _ => rfl
  | 28, _ => rfl
  | 29, _ => rfl
  | 30, _ => rfl
  | 31, _ => rfl
  | j + 32, hj => exact absurd hj (by omega), (pd_m 720 (by decide +kernel) (by decide +kernel)), (pd_m 58 (by decide +kernel) (by decide +kernel))⟩
end
section
theorem eG_init_0 : pd_al mG_init 0 0 1 := Or.inl ⟨0, rfl, by decide +kernel, rfl⟩
theorem eG_init_1 : ∃ idx, pd_i mG_init 1 (.invokespecial idx) 3 4 ∧ Cond.methodLink mG_init.1.cls idx objectInit ∈ pd_tbl := ⟨1, ⟨by decide +kernel, rfl⟩, (pd_m 189 (by decide +kernel) (by decide +kernel))⟩
theorem eG_init_4 : pd_rd mG_init 4 none := (by decide +kernel : decode mG_init.2.1 4 = .ok (.return_, 1))
theorem eG_marks_0 : pd_al mG_marks 0 0 1 := Or.inl ⟨0, rfl, by decide +kernel, rfl⟩
theorem eG_marks_1 : pd_i mG_marks 1 (.dup) 1 2 := ⟨by decide +kernel, rfl⟩
theorem eG_marks_2_2 : pd_gf mG_marks 2 2 0 5 := ⟨7, _, ⟨by decide +kernel, rfl⟩, fG_7_2⟩
theorem eG_marks_2_9 : pd_gf mG_marks 2 9 0 5 := ⟨7, _, ⟨by decide +kernel, rfl⟩, fG_7_9⟩
theorem eG_marks_2_3 : pd_gf mG_marks 2 3 0 5 := ⟨7, _, ⟨by decide +kernel, rfl⟩, fG_7_3⟩
theorem eG_marks_2_1 : pd_gf mG_marks 2 1 0 5 := ⟨7, _, ⟨by decide +kernel, rfl⟩, fG_7_1⟩
theorem eG_marks_2_5 : pd_gf mG_marks 2 5 0 5 := ⟨7, _, ⟨by decide +kernel, rfl⟩, fG_7_5⟩
theorem eG_marks_2_0 : pd_gf mG_marks 2 0 0 5 := ⟨7, _, ⟨by decide +kernel, rfl⟩, fG_7_0⟩
theorem eG_marks_5 : pd_jc mG_marks 5 1 6 := Or.inl ⟨1, ⟨by decide +kernel, rfl⟩, by decide⟩
theorem eG_marks_6 : pd_i mG_marks 6 (.ladd) 1 7 := ⟨by decide +kernel, rfl⟩
theorem eG_marks_7_2 : pd_pf mG_marks 7 2 0 .long 10 := ⟨7, ⟨by decide +kernel, rfl⟩, fG_7_2, Or.inl ⟨_, rfl⟩⟩
theorem eG_marks_7_9 : pd_pf mG_marks 7 9 0 .long 10 := ⟨7, ⟨by decide +kernel, rfl⟩, fG_7_9, Or.inl ⟨_, rfl⟩⟩
theorem eG_marks_7_3 : pd_pf mG_marks 7 3 0 .long 10 := ⟨7, ⟨by decide +kernel, rfl⟩, fG_7_3, Or.inl ⟨_, rfl⟩⟩
theorem eG_marks_7_1 : pd_pf mG_marks 7 1 0 .long 10 := ⟨7, ⟨by decide +kernel, rfl⟩, fG_7_1, Or.inl ⟨_, rfl⟩⟩
theorem eG_marks_7_5 : pd_pf mG_marks 7 5 0 .long 10 := ⟨7, ⟨by decide +kernel, rfl⟩, fG_7_5, Or.inl ⟨_, rfl⟩⟩
theorem eG_marks_7_0 : pd_pf mG_marks 7 0 0 .long 10 := ⟨7, ⟨by decide +kernel, rfl⟩, fG_7_0, Or.inl ⟨_, rfl⟩⟩
theorem eG_marks_10 : pd_al mG_marks 10 2 11 := Or.inl ⟨2, rfl, by decide +kernel, rfl⟩
theorem eG_marks_11 : pd_gf mG_marks 11 8 0 14 := ⟨13, _, ⟨by decide +kernel, rfl⟩, fG_13_8⟩
theorem eG_marks_14 : pd_il mG_marks 14 3 15 := Or.inl ⟨3, rfl, by decide +kernel, rfl⟩
theorem eG_marks_15 : pd_i mG_marks 15 (.iaload) 1 16 := ⟨by decide +kernel, rfl⟩
theorem eG_marks_16 {z : Int} : pd_rd mG_marks 16 (some (vi z)) := (by decide +kernel : decode mG_marks.2.1 16 = .ok (.ireturn, 1))
theorem eSu_init_0 : pd_al mSu_init 0 0 1 := Or.inl ⟨0, rfl, by decide +kernel, rfl⟩
theorem eSu_init_1 : pd_kI mSu_init 1 mG_init 0 4 := ⟨1, ⟨by decide +kernel, rfl⟩, Or.inr ⟨"PantryDoors", by decide +kernel⟩, (pd_m 187 (by decide +kernel) (by decide +kernel)), rfl, rfl, kG_init⟩
theorem eSu_init_4 : pd_rd mSu_init 4 none := (by decide +kernel : decode mSu_init.2.1 4 = .ok (.return_, 1))
theorem eSu_marks_0 : pd_al mSu_marks 0 0 1 := Or.inl ⟨0, rfl, by decide +kernel, rfl⟩
theorem eSu_marks_1 : pd_i mSu_marks 1 (.dup) 1 2 := ⟨by decide +kernel, rfl⟩
theorem eSu_marks_2_9 : pd_gf mSu_marks 2 9 0 5 := ⟨7, _, ⟨by decide +kernel, rfl⟩, fSu_7_9⟩
theorem eSu_marks_2_1 : pd_gf mSu_marks 2 1 0 5 := ⟨7, _, ⟨by decide +kernel, rfl⟩, fSu_7_1⟩
theorem eSu_marks_5 : pd_jc mSu_marks 5 (10) 8 := Or.inr ⟨13, ⟨by decide +kernel, rfl⟩, (pd_m 685 (by decide +kernel) (by decide +kernel))⟩
theorem eSu_marks_8 : pd_i mSu_marks 8 (.ladd) 1 9 := ⟨by decide +kernel, rfl⟩
theorem eSu_marks_9_9 : pd_pf mSu_marks 9 9 0 .long 12 := ⟨7, ⟨by decide +kernel, rfl⟩, fSu_7_9, Or.inl ⟨_, rfl⟩⟩
theorem eSu_marks_9_1 : pd_pf mSu_marks 9 1 0 .long 12 := ⟨7, ⟨by decide +kernel, rfl⟩, fSu_7_1, Or.inl ⟨_, rfl⟩⟩
theorem eSu_marks_12 : pd_al mSu_marks 12 0 13 := Or.inl ⟨0, rfl, by decide +kernel, rfl⟩
theorem eSu_marks_13 : pd_al mSu_marks 13 1 14 := Or.inl ⟨1, rfl, by decide +kernel, rfl⟩
theorem eSu_marks_14 : pd_al mSu_marks 14 2 15 := Or.inl ⟨2, rfl, by decide +kernel, rfl⟩
theorem eSu_marks_15 : pd_il mSu_marks 15 3 16 := Or.inl ⟨3, rfl, by decide +kernel, rfl⟩
theorem eSu_marks_16 : pd_kU mSu_marks 16 mG_marks 3 19 := ⟨15, ⟨by decide +kernel, rfl⟩, (pd_m 686 (by decide +kernel) (by decide +kernel)), (pd_m 672 (by decide +kernel) (by decide +kernel)), (pd_m 212 (by decide +kernel) (by decide +kernel)), (pd_m 670 (by decide +kernel) (by decide +kernel)), by decide, kG_marks⟩
theorem eSu_marks_19 : pd_al mSu_marks 19 1 20 := Or.inl ⟨1, rfl, by decide +kernel, rfl⟩
theorem eSu_marks_20 : pd_gf mSu_marks 20 4 3 23 := ⟨19, _, ⟨by decide +kernel, rfl⟩, fSu_19_4⟩
theorem eSu_marks_23 : pd_il mSu_marks 23 3 24 := Or.inl ⟨3, rfl, by decide +kernel, rfl⟩
theorem eSu_marks_24 : pd_i mSu_marks 24 (.iaload) 1 25 := ⟨by decide +kernel, rfl⟩
theorem eSu_marks_25 : pd_i mSu_marks 25 (.iadd) 1 26 := ⟨by decide +kernel, rfl⟩
theorem eSu_marks_26 {z : Int} : pd_rd mSu_marks 26 (some (vi z)) := (by decide +kernel : decode mSu_marks.2.1 26 = .ok (.ireturn, 1))
theorem eHa_init_0 : pd_al mHa_init 0 0 1 := Or.inl ⟨0, rfl, by decide +kernel, rfl⟩
theorem eHa_init_1 : pd_kI mHa_init 1 mG_init 0 4 := ⟨1, ⟨by decide +kernel, rfl⟩, Or.inr ⟨"PantryDoors", by decide +kernel⟩, (pd_m 187 (by decide +kernel) (by decide +kernel)), rfl, rfl, kG_init⟩
theorem eHa_init_4 : pd_rd mHa_init 4 none := (by decide +kernel : decode mHa_init.2.1 4 = .ok (.return_, 1))
theorem eHa_marks_0 : pd_al mHa_marks 0 0 1 := Or.inl ⟨0, rfl, by decide +kernel, rfl⟩
theorem eHa_marks_1 : pd_i mHa_marks 1 (.dup) 1 2 := ⟨by decide +kernel, rfl⟩
theorem eHa_marks_2_3 : pd_gf mHa_marks 2 3 0 5 := ⟨7, _, ⟨by decide +kernel, rfl⟩, fHa_7_3⟩
theorem eHa_marks_2_5 : pd_gf mHa_marks 2 5 0 5 := ⟨7, _, ⟨by decide +kernel, rfl⟩, fHa_7_5⟩
theorem eHa_marks_5 : pd_jc mHa_marks 5 (100) 8 := Or.inr ⟨13, ⟨by decide +kernel, rfl⟩, (pd_m 690 (by decide +kernel) (by decide +kernel))⟩
theorem eHa_marks_8 : pd_i mHa_marks 8 (.ladd) 1 9 := ⟨by decide +kernel, rfl⟩
theorem eHa_marks_9_3 : pd_pf mHa_marks 9 3 0 .long 12 := ⟨7, ⟨by decide +kernel, rfl⟩, fHa_7_3, Or.inl ⟨_, rfl⟩⟩
theorem eHa_marks_9_5 : pd_pf mHa_marks 9 5 0 .long 12 := ⟨7, ⟨by decide +kernel, rfl⟩, fHa_7_5, Or.inl ⟨_, rfl⟩⟩
theorem eHa_marks_12 : pd_al mHa_marks 12 0 13 := Or.inl ⟨0, rfl, by decide +kernel, rfl⟩
theorem eHa_marks_13 : pd_al mHa_marks 13 1 14 := Or.inl ⟨1, rfl, by decide +kernel, rfl⟩
theorem eHa_marks_14 : pd_al mHa_marks 14 2 15 := Or.inl ⟨2, rfl, by decide +kernel, rfl⟩
theorem eHa_marks_15 : pd_il mHa_marks 15 3 16 := Or.inl ⟨3, rfl, by decide +kernel, rfl⟩
theorem eHa_marks_16 : pd_kU mHa_marks 16 mG_marks 3 19 := ⟨15, ⟨by decide +kernel, rfl⟩, (pd_m 691 (by decide +kernel) (by decide +kernel)), (pd_m 672 (by decide +kernel) (by decide +kernel)), (pd_m 220 (by decide +kernel) (by decide +kernel)), (pd_m 670 (by decide +kernel) (by decide +kernel)), by decide, kG_marks⟩
theorem eHa_marks_19 : pd_al mHa_marks 19 2 20 := Or.inl ⟨2, rfl, by decide +kernel, rfl⟩
theorem eHa_marks_20 : pd_gf mHa_marks 20 8 1 23 := ⟨19, _, ⟨by decide +kernel, rfl⟩, fHa_19_8⟩
theorem eHa_marks_23 : pd_il mHa_marks 23 3 24 := Or.inl ⟨3, rfl, by decide +kernel, rfl⟩
theorem eHa_marks_24 : pd_i mHa_marks 24 (.iaload) 1 25 := ⟨by decide +kernel, rfl⟩
theorem eHa_marks_25 : pd_i mHa_marks 25 (.isub) 1 26 := ⟨by decide +kernel, rfl⟩
theorem eHa_marks_26 {z : Int} : pd_rd mHa_marks 26 (some (vi z)) := (by decide +kernel : decode mHa_marks.2.1 26 = .ok (.ireturn, 1))
theorem eCo_init_0 : pd_al mCo_init 0 0 1 := Or.inl ⟨0, rfl, by decide +kernel, rfl⟩
theorem eCo_init_1 : pd_kI mCo_init 1 mSu_init 0 4 := ⟨1, ⟨by decide +kernel, rfl⟩, Or.inr ⟨"PantryDoors", by decide +kernel⟩, (pd_m 208 (by decide +kernel) (by decide +kernel)), rfl, rfl, kSu_init⟩
theorem eCo_init_4 : pd_rd mCo_init 4 none := (by decide +kernel : decode mCo_init.2.1 4 = .ok (.return_, 1))
theorem eCo_marks_0 : pd_al mCo_marks 0 0 1 := Or.inl ⟨0, rfl, by decide +kernel, rfl⟩
theorem eCo_marks_1 : pd_i mCo_marks 1 (.dup) 1 2 := ⟨by decide +kernel, rfl⟩
theorem eCo_marks_2_1 : pd_gf mCo_marks 2 1 0 5 := ⟨7, _, ⟨by decide +kernel, rfl⟩, fCo_7_1⟩
theorem eCo_marks_5 : pd_jc mCo_marks 5 (1000) 8 := Or.inr ⟨13, ⟨by decide +kernel, rfl⟩, (pd_m 681 (by decide +kernel) (by decide +kernel))⟩
theorem eCo_marks_8 : pd_i mCo_marks 8 (.ladd) 1 9 := ⟨by decide +kernel, rfl⟩
theorem eCo_marks_9_1 : pd_pf mCo_marks 9 1 0 .long 12 := ⟨7, ⟨by decide +kernel, rfl⟩, fCo_7_1, Or.inl ⟨_, rfl⟩⟩
theorem eCo_marks_12 : pd_al mCo_marks 12 0 13 := Or.inl ⟨0, rfl, by decide +kernel, rfl⟩
theorem eCo_marks_13 : pd_al mCo_marks 13 1 14 := Or.inl ⟨1, rfl, by decide +kernel, rfl⟩
theorem eCo_marks_14 : pd_al mCo_marks 14 2 15 := Or.inl ⟨2, rfl, by decide +kernel, rfl⟩
theorem eCo_marks_15 : pd_il mCo_marks 15 3 16 := Or.inl ⟨3, rfl, by decide +kernel, rfl⟩
theorem eCo_marks_16 : pd_kU mCo_marks 16 mSu_marks 3 19 := ⟨15, ⟨by decide +kernel, rfl⟩, (pd_m 682 (by decide +kernel) (by decide +kernel)), (pd_m 1040 (by decide +kernel) (by decide +kernel)), (pd_m 228 (by decide +kernel) (by decide +kernel)), (pd_m 683 (by decide +kernel) (by decide +kernel)), by decide, kSu_marks⟩
theorem eCo_marks_19 : pd_ic mCo_marks 19 2 20 := Or.inl ⟨by decide +kernel, rfl⟩
theorem eCo_marks_20 : pd_i mCo_marks 20 (.imul) 1 21 := ⟨by decide +kernel, rfl⟩
theorem eCo_marks_21 {z : Int} : pd_rd mCo_marks 21 (some (vi z)) := (by decide +kernel : decode mCo_marks.2.1 21 = .ok (.ireturn, 1))
theorem eJe_init_0 : pd_al mJe_init 0 0 1 := Or.inl ⟨0, rfl, by decide +kernel, rfl⟩
theorem eJe_init_1 : pd_kI mJe_init 1 mHa_init 0 4 := ⟨1, ⟨by decide +kernel, rfl⟩, Or.inr ⟨"PantryDoors", by decide +kernel⟩, (pd_m 216 (by decide +kernel) (by decide +kernel)), rfl, rfl, kHa_init⟩
theorem eJe_init_4 : pd_rd mJe_init 4 none := (by decide +kernel : decode mJe_init.2.1 4 = .ok (.return_, 1))
theorem eJe_marks_0 : pd_al mJe_marks 0 0 1 := Or.inl ⟨0, rfl, by decide +kernel, rfl⟩
theorem eJe_marks_1 : pd_i mJe_marks 1 (.dup) 1 2 := ⟨by decide +kernel, rfl⟩
theorem eJe_marks_2_5 : pd_gf mJe_marks 2 5 0 5 := ⟨7, _, ⟨by decide +kernel, rfl⟩, fJe_7_5⟩
theorem eJe_marks_5 : pd_jc mJe_marks 5 (10000) 8 := Or.inr ⟨13, ⟨by decide +kernel, rfl⟩, (pd_m 695 (by decide +kernel) (by decide +kernel))⟩
theorem eJe_marks_8 : pd_i mJe_marks 8 (.ladd) 1 9 := ⟨by decide +kernel, rfl⟩
theorem eJe_marks_9_5 : pd_pf mJe_marks 9 5 0 .long 12 := ⟨7, ⟨by decide +kernel, rfl⟩, fJe_7_5, Or.inl ⟨_, rfl⟩⟩
theorem eJe_marks_12 : pd_al mJe_marks 12 0 13 := Or.inl ⟨0, rfl, by decide +kernel, rfl⟩
theorem eJe_marks_13 : pd_al mJe_marks 13 1 14 := Or.inl ⟨1, rfl, by decide +kernel, rfl⟩
theorem eJe_marks_14 : pd_al mJe_marks 14 2 15 := Or.inl ⟨2, rfl, by decide +kernel, rfl⟩
theorem eJe_marks_15 : pd_il mJe_marks 15 3 16 := Or.inl ⟨3, rfl, by decide +kernel, rfl⟩
theorem eJe_marks_16 : pd_kU mJe_marks 16 mHa_marks 3 19 := ⟨15, ⟨by decide +kernel, rfl⟩, (pd_m 696 (by decide +kernel) (by decide +kernel)), (pd_m 1041 (by decide +kernel) (by decide +kernel)), (pd_m 236 (by decide +kernel) (by decide +kernel)), (pd_m 688 (by decide +kernel) (by decide +kernel)), by decide, kHa_marks⟩
theorem eJe_marks_19 : pd_il mJe_marks 19 3 20 := Or.inl ⟨3, rfl, by decide +kernel, rfl⟩
theorem eJe_marks_20 : pd_i mJe_marks 20 (.iadd) 1 21 := ⟨by decide +kernel, rfl⟩
theorem eJe_marks_21 {z : Int} : pd_rd mJe_marks 21 (some (vi z)) := (by decide +kernel : decode mJe_marks.2.1 21 = .ok (.ireturn, 1))
theorem eCa_init_0 : pd_al mCa_init 0 0 1 := Or.inl ⟨0, rfl, by decide +kernel, rfl⟩
theorem eCa_init_1 : pd_kI mCa_init 1 mG_init 0 4 := ⟨1, ⟨by decide +kernel, rfl⟩, Or.inr ⟨"PantryDoors", by decide +kernel⟩, (pd_m 187 (by decide +kernel) (by decide +kernel)), rfl, rfl, kG_init⟩
theorem eCa_init_4 : pd_rd mCa_init 4 none := (by decide +kernel : decode mCa_init.2.1 4 = .ok (.return_, 1))
theorem eCa_marks_0 : pd_al mCa_marks 0 0 1 := Or.inl ⟨0, rfl, by decide +kernel, rfl⟩
theorem eCa_marks_1 : pd_i mCa_marks 1 (.dup) 1 2 := ⟨by decide +kernel, rfl⟩
theorem eCa_marks_2_0 : pd_gf mCa_marks 2 0 0 5 := ⟨7, _, ⟨by decide +kernel, rfl⟩, fCa_7_0⟩
theorem eCa_marks_5 : pd_jc mCa_marks 5 (100000) 8 := Or.inr ⟨13, ⟨by decide +kernel, rfl⟩, (pd_m 676 (by decide +kernel) (by decide +kernel))⟩
theorem eCa_marks_8 : pd_i mCa_marks 8 (.ladd) 1 9 := ⟨by decide +kernel, rfl⟩
theorem eCa_marks_9_0 : pd_pf mCa_marks 9 0 0 .long 12 := ⟨7, ⟨by decide +kernel, rfl⟩, fCa_7_0, Or.inl ⟨_, rfl⟩⟩
theorem eCa_marks_12 : pd_al mCa_marks 12 0 13 := Or.inl ⟨0, rfl, by decide +kernel, rfl⟩
theorem eCa_marks_13 : pd_al mCa_marks 13 1 14 := Or.inl ⟨1, rfl, by decide +kernel, rfl⟩
theorem eCa_marks_14 : pd_al mCa_marks 14 2 15 := Or.inl ⟨2, rfl, by decide +kernel, rfl⟩
theorem eCa_marks_15 : pd_il mCa_marks 15 3 16 := Or.inl ⟨3, rfl, by decide +kernel, rfl⟩
theorem eCa_marks_16 : pd_kU mCa_marks 16 mG_marks 3 19 := ⟨15, ⟨by decide +kernel, rfl⟩, (pd_m 677 (by decide +kernel) (by decide +kernel)), (pd_m 672 (by decide +kernel) (by decide +kernel)), (pd_m 244 (by decide +kernel) (by decide +kernel)), (pd_m 670 (by decide +kernel) (by decide +kernel)), by decide, kG_marks⟩
theorem eCa_marks_19 : pd_al mCa_marks 19 2 20 := Or.inl ⟨2, rfl, by decide +kernel, rfl⟩
theorem eCa_marks_20 : pd_gf mCa_marks 20 8 3 23 := ⟨19, _, ⟨by decide +kernel, rfl⟩, fCa_19_8⟩
theorem eCa_marks_23 : pd_i mCa_marks 23 (.iadd) 1 24 := ⟨by decide +kernel, rfl⟩
theorem eCa_marks_24 {z : Int} : pd_rd mCa_marks 24 (some (vi z)) := (by decide +kernel : decode mCa_marks.2.1 24 = .ok (.ireturn, 1))
theorem eH_init_0 : pd_al mH_init 0 0 1 := Or.inl ⟨0, rfl, by decide +kernel, rfl⟩
theorem eH_init_1 : ∃ idx, pd_i mH_init 1 (.invokespecial idx) 3 4 ∧ Cond.methodLink mH_init.1.cls idx objectInit ∈ pd_tbl := ⟨3, ⟨by decide +kernel, rfl⟩, (pd_m 250 (by decide +kernel) (by decide +kernel))⟩
theorem eH_init_4 : pd_al mH_init 4 0 5 := Or.inl ⟨0, rfl, by decide +kernel, rfl⟩
theorem eH_init_5 : pd_ic mH_init 5 4 6 := Or.inl ⟨by decide +kernel, rfl⟩
theorem eH_init_6 : pd_i mH_init 6 (.newarray .int) 2 8 := ⟨by decide +kernel, rfl⟩
theorem eH_init_8 : pd_pf mH_init 8 4 0 (.array .int) 11 := ⟨9, ⟨by decide +kernel, rfl⟩, fH_9_4, Or.inr ⟨rfl, rfl⟩⟩
theorem eH_init_11 : pd_al mH_init 11 0 12 := Or.inl ⟨0, rfl, by decide +kernel, rfl⟩
theorem eH_init_12 : pd_ic mH_init 12 4 13 := Or.inl ⟨by decide +kernel, rfl⟩
theorem eH_init_13 : pd_i mH_init 13 (.newarray .int) 2 15 := ⟨by decide +kernel, rfl⟩
theorem eH_init_15 : pd_pf mH_init 15 4 1 (.array .int) 18 := ⟨15, ⟨by decide +kernel, rfl⟩, fH_15_4, Or.inr ⟨rfl, rfl⟩⟩
theorem eH_init_18 : pd_al mH_init 18 0 19 := Or.inl ⟨0, rfl, by decide +kernel, rfl⟩
theorem eH_init_19 : pd_ic mH_init 19 4 20 := Or.inl ⟨by decide +kernel, rfl⟩
theorem eH_init_20 : pd_i mH_init 20 (.newarray .int) 2 22 := ⟨by decide +kernel, rfl⟩
theorem eH_init_22 : pd_pf mH_init 22 4 2 (.array .int) 25 := ⟨18, ⟨by decide +kernel, rfl⟩, fH_18_4, Or.inr ⟨rfl, rfl⟩⟩
theorem eH_init_25 : pd_al mH_init 25 0 26 := Or.inl ⟨0, rfl, by decide +kernel, rfl⟩
theorem eH_init_26 : pd_ic mH_init 26 4 27 := Or.inl ⟨by decide +kernel, rfl⟩
theorem eH_init_27 : pd_i mH_init 27 (.newarray .int) 2 29 := ⟨by decide +kernel, rfl⟩
theorem eH_init_29 : pd_pf mH_init 29 4 3 (.array .int) 32 := ⟨21, ⟨by decide +kernel, rfl⟩, fH_21_4, Or.inr ⟨rfl, rfl⟩⟩
theorem eH_init_32 : pd_al mH_init 32 0 33 := Or.inl ⟨0, rfl, by decide +kernel, rfl⟩
theorem eH_init_33 : pd_ic mH_init 33 80 35 := Or.inr (Or.inl ⟨⟨by decide +kernel, rfl⟩, by decide⟩)
theorem eH_init_35 : pd_i mH_init 35 (.newarray .int) 2 37 := ⟨by decide +kernel, rfl⟩
theorem eH_init_37 : pd_pf mH_init 37 4 4 (.array .int) 40 := ⟨24, ⟨by decide +kernel, rfl⟩, fH_24_4, Or.inr ⟨rfl, rfl⟩⟩
theorem eH_init_40 : pd_al mH_init 40 0 41 := Or.inl ⟨0, rfl, by decide +kernel, rfl⟩
theorem eH_init_41 : pd_ic mH_init 41 80 43 := Or.inr (Or.inl ⟨⟨by decide +kernel, rfl⟩, by decide⟩)
theorem eH_init_43 : pd_i mH_init 43 (.newarray .int) 2 45 := ⟨by decide +kernel, rfl⟩
theorem eH_init_45 : pd_pf mH_init 45 4 5 (.array .int) 48 := ⟨27, ⟨by decide +kernel, rfl⟩, fH_27_4, Or.inr ⟨rfl, rfl⟩⟩
theorem eH_init_48 : pd_al mH_init 48 0 49 := Or.inl ⟨0, rfl, by decide +kernel, rfl⟩
theorem eH_init_49 : pd_ic mH_init 49 84 51 := Or.inr (Or.inl ⟨⟨by decide +kernel, rfl⟩, by decide⟩)
theorem eH_init_51 : pd_i mH_init 51 (.newarray .int) 2 53 := ⟨by decide +kernel, rfl⟩
theorem eH_init_53 : pd_pf mH_init 53 4 6 (.array .int) 56 := ⟨30, ⟨by decide +kernel, rfl⟩, fH_30_4, Or.inr ⟨rfl, rfl⟩⟩
theorem eH_init_56 : pd_al mH_init 56 0 57 := Or.inl ⟨0, rfl, by decide +kernel, rfl⟩
theorem eH_init_57 : pd_ic mH_init 57 0 58 := Or.inl ⟨by decide +kernel, rfl⟩
theorem eH_init_58 : pd_pf mH_init 58 4 7 .int 61 := ⟨33, ⟨by decide +kernel, rfl⟩, fH_33_4, Or.inl ⟨_, rfl⟩⟩
theorem eH_init_61 : pd_al mH_init 61 0 62 := Or.inl ⟨0, rfl, by decide +kernel, rfl⟩
theorem eH_init_62 : pd_ic mH_init 62 2 63 := Or.inl ⟨by decide +kernel, rfl⟩
theorem eH_init_63 : pd_pf mH_init 63 4 8 .int 66 := ⟨37, ⟨by decide +kernel, rfl⟩, fH_37_4, Or.inl ⟨_, rfl⟩⟩
theorem eH_init_66 : pd_al mH_init 66 0 67 := Or.inl ⟨0, rfl, by decide +kernel, rfl⟩
theorem eH_init_67 : pd_ic mH_init 67 3 68 := Or.inl ⟨by decide +kernel, rfl⟩
theorem eH_init_68 : pd_pf mH_init 68 4 9 .int 71 := ⟨40, ⟨by decide +kernel, rfl⟩, fH_40_4, Or.inl ⟨_, rfl⟩⟩
theorem eH_init_71 : pd_rd mH_init 71 none := (by decide +kernel : decode mH_init.2.1 71 = .ok (.return_, 1))
theorem eH_empty_0 : pd_al mH_empty 0 0 1 := Or.inl ⟨0, rfl, by decide +kernel, rfl⟩
theorem eH_empty_1 : pd_ic mH_empty 1 0 2 := Or.inl ⟨by decide +kernel, rfl⟩
theorem eH_empty_2 : pd_pf mH_empty 2 4 7 .int 5 := ⟨33, ⟨by decide +kernel, rfl⟩, fH_33_4, Or.inl ⟨_, rfl⟩⟩
theorem eH_empty_5 : pd_al mH_empty 5 0 6 := Or.inl ⟨0, rfl, by decide +kernel, rfl⟩
theorem eH_empty_6 : pd_ic mH_empty 6 2 7 := Or.inl ⟨by decide +kernel, rfl⟩
theorem eH_empty_7 : pd_pf mH_empty 7 4 8 .int 10 := ⟨37, ⟨by decide +kernel, rfl⟩, fH_37_4, Or.inl ⟨_, rfl⟩⟩
theorem eH_empty_10 : pd_al mH_empty 10 0 11 := Or.inl ⟨0, rfl, by decide +kernel, rfl⟩
theorem eH_empty_11 : pd_ic mH_empty 11 3 12 := Or.inl ⟨by decide +kernel, rfl⟩
theorem eH_empty_12 : pd_pf mH_empty 12 4 9 .int 15 := ⟨40, ⟨by decide +kernel, rfl⟩, fH_40_4, Or.inl ⟨_, rfl⟩⟩
theorem eH_empty_15 : pd_ic mH_empty 15 0 16 := Or.inl ⟨by decide +kernel, rfl⟩
theorem eH_empty_16 : pd_is mH_empty 16 1 17 := ⟨by decide, Or.inl ⟨1, rfl, by decide +kernel, rfl⟩⟩
theorem eH_empty_17 : pd_il mH_empty 17 1 18 := Or.inl ⟨1, rfl, by decide +kernel, rfl⟩
theorem eH_empty_18 : pd_ic mH_empty 18 80 20 := Or.inr (Or.inl ⟨⟨by decide +kernel, rfl⟩, by decide⟩)
theorem eH_empty_20 : pd_b2 mH_empty 20 .ge 23 43 := ⟨23, ⟨by decide +kernel, rfl⟩, by decide⟩
theorem eH_empty_23 : pd_al mH_empty 23 0 24 := Or.inl ⟨0, rfl, by decide +kernel, rfl⟩
theorem eH_empty_24 : pd_gf mH_empty 24 4 4 27 := ⟨24, _, ⟨by decide +kernel, rfl⟩, fH_24_4⟩
theorem eH_empty_27 : pd_il mH_empty 27 1 28 := Or.inl ⟨1, rfl, by decide +kernel, rfl⟩
theorem eH_empty_28 : pd_ic mH_empty 28 0 29 := Or.inl ⟨by decide +kernel, rfl⟩
theorem eH_empty_29 : pd_i mH_empty 29 (.iastore) 1 30 := ⟨by decide +kernel, rfl⟩
theorem eH_empty_30 : pd_al mH_empty 30 0 31 := Or.inl ⟨0, rfl, by decide +kernel, rfl⟩
theorem eH_empty_31 : pd_gf mH_empty 31 4 5 34 := ⟨27, _, ⟨by decide +kernel, rfl⟩, fH_27_4⟩
theorem eH_empty_34 : pd_il mH_empty 34 1 35 := Or.inl ⟨1, rfl, by decide +kernel, rfl⟩
theorem eH_empty_35 : pd_ic mH_empty 35 0 36 := Or.inl ⟨by decide +kernel, rfl⟩
theorem eH_empty_36 : pd_i mH_empty 36 (.iastore) 1 37 := ⟨by decide +kernel, rfl⟩
theorem eH_empty_37 : pd_ii mH_empty 37 1 1 40 := ⟨by decide, by decide +kernel, rfl⟩
theorem eH_empty_40 : pd_go mH_empty 40 17 := ⟨-23, by decide +kernel, by decide⟩
theorem eH_empty_43 : pd_rd mH_empty 43 none := (by decide +kernel : decode mH_empty.2.1 43 = .ok (.return_, 1))
theorem eH_has_0 : pd_il mH_has 0 1 1 := Or.inl ⟨1, rfl, by decide +kernel, rfl⟩
theorem eH_has_1 : pd_ic mH_has 1 0 2 := Or.inl ⟨by decide +kernel, rfl⟩
theorem eH_has_2 : pd_al mH_has 2 0 3 := Or.inl ⟨0, rfl, by decide +kernel, rfl⟩
theorem eH_has_3 : pd_gf mH_has 3 4 7 6 := ⟨33, _, ⟨by decide +kernel, rfl⟩, fH_33_4⟩
theorem eH_has_6 : pd_ic mH_has 6 1 7 := Or.inl ⟨by decide +kernel, rfl⟩
theorem eH_has_7 : pd_i mH_has 7 (.isub) 1 8 := ⟨by decide +kernel, rfl⟩
theorem eH_has_8 : pd_ks mH_has 8 mD_within 3 11 := ⟨43, ⟨by decide +kernel, rfl⟩, Or.inr ⟨"PantryDoors", by decide +kernel⟩, (pd_m 357 (by decide +kernel) (by decide +kernel)), kD_within⟩
theorem eH_has_11 {z : Int} (h : z = 0 ∨ z = 1) : pd_rd mH_has 11 (some (vi z)) := ⟨by decide +kernel, h⟩
theorem eH_leads_0 : pd_al mH_leads 0 0 1 := Or.inl ⟨0, rfl, by decide +kernel, rfl⟩
theorem eH_leads_1 : pd_gf mH_leads 1 4 8 4 := ⟨37, _, ⟨by decide +kernel, rfl⟩, fH_37_4⟩
theorem eH_leads_4 : pd_al mH_leads 4 0 5 := Or.inl ⟨0, rfl, by decide +kernel, rfl⟩
theorem eH_leads_5 : pd_gf mH_leads 5 4 9 8 := ⟨40, _, ⟨by decide +kernel, rfl⟩, fH_40_4⟩
theorem eH_leads_8 : pd_il mH_leads 8 1 9 := Or.inl ⟨1, rfl, by decide +kernel, rfl⟩
theorem eH_leads_9 : pd_ks mH_leads 9 mD_leadsBy 3 12 := ⟨47, ⟨by decide +kernel, rfl⟩, Or.inr ⟨"PantryDoors", by decide +kernel⟩, (pd_m 469 (by decide +kernel) (by decide +kernel)), kD_leadsBy⟩
theorem eH_leads_12 {z : Int} : pd_rd mH_leads 12 (some (vi z)) := (by decide +kernel : decode mH_leads.2.1 12 = .ok (.ireturn, 1))
theorem eH_rest_0 : pd_ic mH_rest 0 999 3 := Or.inr (Or.inr (Or.inl ⟨⟨by decide +kernel, rfl⟩, by decide⟩))
theorem eH_rest_3 : pd_il mH_rest 3 1 4 := Or.inl ⟨1, rfl, by decide +kernel, rfl⟩
theorem eH_rest_4 : pd_al mH_rest 4 0 5 := Or.inl ⟨0, rfl, by decide +kernel, rfl⟩
theorem eH_rest_5 : pd_gf mH_rest 5 4 4 8 := ⟨24, _, ⟨by decide +kernel, rfl⟩, fH_24_4⟩
theorem eH_rest_8 : pd_il mH_rest 8 2 9 := Or.inl ⟨2, rfl, by decide +kernel, rfl⟩
theorem eH_rest_9 : pd_ic mH_rest 9 4 10 := Or.inl ⟨by decide +kernel, rfl⟩
theorem eH_rest_10 : pd_i mH_rest 10 (.imul) 1 11 := ⟨by decide +kernel, rfl⟩
theorem eH_rest_11 : pd_il mH_rest 11 3 12 := Or.inl ⟨3, rfl, by decide +kernel, rfl⟩
theorem eH_rest_12 : pd_i mH_rest 12 (.iadd) 1 13 := ⟨by decide +kernel, rfl⟩
theorem eH_rest_13 : pd_i mH_rest 13 (.iaload) 1 14 := ⟨by decide +kernel, rfl⟩
theorem eH_rest_14 : pd_i mH_rest 14 (.iadd) 1 15 := ⟨by decide +kernel, rfl⟩
theorem eH_rest_15 : pd_min mH_rest 15 18 := ⟨51, ⟨by decide +kernel, rfl⟩, (pd_m 434 (by decide +kernel) (by decide +kernel))⟩
theorem eH_rest_18 : pd_is mH_rest 18 4 20 := ⟨by decide, Or.inr ⟨by decide +kernel, rfl⟩⟩
theorem eH_rest_20 : pd_il mH_rest 20 4 22 := Or.inr ⟨by decide +kernel, rfl⟩
theorem eH_rest_22 : pd_il mH_rest 22 4 24 := Or.inr ⟨by decide +kernel, rfl⟩
theorem eH_rest_24 : pd_al mH_rest 24 0 25 := Or.inl ⟨0, rfl, by decide +kernel, rfl⟩
theorem eH_rest_25 : pd_gf mH_rest 25 4 5 28 := ⟨27, _, ⟨by decide +kernel, rfl⟩, fH_27_4⟩
theorem eH_rest_28 : pd_il mH_rest 28 2 29 := Or.inl ⟨2, rfl, by decide +kernel, rfl⟩
theorem eH_rest_29 : pd_ic mH_rest 29 4 30 := Or.inl ⟨by decide +kernel, rfl⟩
theorem eH_rest_30 : pd_i mH_rest 30 (.imul) 1 31 := ⟨by decide +kernel, rfl⟩
theorem eH_rest_31 : pd_il mH_rest 31 3 32 := Or.inl ⟨3, rfl, by decide +kernel, rfl⟩
theorem eH_rest_32 : pd_i mH_rest 32 (.iadd) 1 33 := ⟨by decide +kernel, rfl⟩
theorem eH_rest_33 : pd_i mH_rest 33 (.iaload) 1 34 := ⟨by decide +kernel, rfl⟩
theorem eH_rest_34 : pd_min mH_rest 34 37 := ⟨51, ⟨by decide +kernel, rfl⟩, (pd_m 434 (by decide +kernel) (by decide +kernel))⟩
theorem eH_rest_37 : pd_i mH_rest 37 (.isub) 1 38 := ⟨by decide +kernel, rfl⟩
theorem eH_rest_38 : pd_is mH_rest 38 4 40 := ⟨by decide, Or.inr ⟨by decide +kernel, rfl⟩⟩
theorem eH_rest_40 : pd_il mH_rest 40 4 42 := Or.inr ⟨by decide +kernel, rfl⟩
theorem eH_rest_42 : pd_al mH_rest 42 0 43 := Or.inl ⟨0, rfl, by decide +kernel, rfl⟩
theorem eH_rest_43 : pd_gf mH_rest 43 4 1 46 := ⟨15, _, ⟨by decide +kernel, rfl⟩, fH_15_4⟩
theorem eH_rest_46 : pd_il mH_rest 46 3 47 := Or.inl ⟨3, rfl, by decide +kernel, rfl⟩
theorem eH_rest_47 : pd_i mH_rest 47 (.iaload) 1 48 := ⟨by decide +kernel, rfl⟩
theorem eH_rest_48 : pd_b2 mH_rest 48 .ge 51 55 := ⟨7, ⟨by decide +kernel, rfl⟩, by decide⟩
theorem eH_rest_51 : pd_ic mH_rest 51 (-1) 52 := Or.inl ⟨by decide +kernel, rfl⟩
theorem eH_rest_52 : pd_go mH_rest 52 64 := ⟨12, by decide +kernel, by decide⟩
theorem eH_rest_55 : pd_il mH_rest 55 4 57 := Or.inr ⟨by decide +kernel, rfl⟩
theorem eH_rest_57 : pd_al mH_rest 57 0 58 := Or.inl ⟨0, rfl, by decide +kernel, rfl⟩
theorem eH_rest_58 : pd_gf mH_rest 58 4 1 61 := ⟨15, _, ⟨by decide +kernel, rfl⟩, fH_15_4⟩
theorem eH_rest_61 : pd_il mH_rest 61 3 62 := Or.inl ⟨3, rfl, by decide +kernel, rfl⟩
theorem eH_rest_62 : pd_i mH_rest 62 (.iaload) 1 63 := ⟨by decide +kernel, rfl⟩
theorem eH_rest_63 : pd_i mH_rest 63 (.isub) 1 64 := ⟨by decide +kernel, rfl⟩
theorem eH_rest_64 {z : Int} : pd_rd mH_rest 64 (some (vi z)) := (by decide +kernel : decode mH_rest.2.1 64 = .ok (.ireturn, 1))
theorem eH_reckonStores_0 : pd_ic mH_reckonStores 0 0 1 := Or.inl ⟨by decide +kernel, rfl⟩
theorem eH_reckonStores_1 : pd_is mH_reckonStores 1 1 2 := ⟨by decide, Or.inl ⟨1, rfl, by decide +kernel, rfl⟩⟩
theorem eH_reckonStores_2 : pd_il mH_reckonStores 2 1 3 := Or.inl ⟨1, rfl, by decide +kernel, rfl⟩
theorem eH_reckonStores_3 : pd_al mH_reckonStores 3 0 4 := Or.inl ⟨0, rfl, by decide +kernel, rfl⟩
theorem eH_reckonStores_4 : pd_gf mH_reckonStores 4 4 7 7 := ⟨33, _, ⟨by decide +kernel, rfl⟩, fH_33_4⟩
theorem eH_reckonStores_7 : pd_b2 mH_reckonStores 7 .ge 10 74 := ⟨67, ⟨by decide +kernel, rfl⟩, by decide⟩
theorem eH_reckonStores_10 : pd_al mH_reckonStores 10 0 11 := Or.inl ⟨0, rfl, by decide +kernel, rfl⟩
theorem eH_reckonStores_11 : pd_gf mH_reckonStores 11 4 6 14 := ⟨30, _, ⟨by decide +kernel, rfl⟩, fH_30_4⟩
theorem eH_reckonStores_14 : pd_il mH_reckonStores 14 1 15 := Or.inl ⟨1, rfl, by decide +kernel, rfl⟩
theorem eH_reckonStores_15 : pd_al mH_reckonStores 15 0 16 := Or.inl ⟨0, rfl, by decide +kernel, rfl⟩
theorem eH_reckonStores_16 : pd_gf mH_reckonStores 16 4 0 19 := ⟨9, _, ⟨by decide +kernel, rfl⟩, fH_9_4⟩
theorem eH_reckonStores_19 : pd_il mH_reckonStores 19 1 20 := Or.inl ⟨1, rfl, by decide +kernel, rfl⟩
theorem eH_reckonStores_20 : pd_i mH_reckonStores 20 (.iaload) 1 21 := ⟨by decide +kernel, rfl⟩
theorem eH_reckonStores_21 : pd_i mH_reckonStores 21 (.iastore) 1 22 := ⟨by decide +kernel, rfl⟩
theorem eH_reckonStores_22 : pd_ic mH_reckonStores 22 0 23 := Or.inl ⟨by decide +kernel, rfl⟩
theorem eH_reckonStores_23 : pd_is mH_reckonStores 23 2 24 := ⟨by decide, Or.inl ⟨2, rfl, by decide +kernel, rfl⟩⟩
theorem eH_reckonStores_24 : pd_il mH_reckonStores 24 2 25 := Or.inl ⟨2, rfl, by decide +kernel, rfl⟩
theorem eH_reckonStores_25 : pd_ic mH_reckonStores 25 20 27 := Or.inr (Or.inl ⟨⟨by decide +kernel, rfl⟩, by decide⟩)
theorem eH_reckonStores_27 : pd_b2 mH_reckonStores 27 .ge 30 68 := ⟨41, ⟨by decide +kernel, rfl⟩, by decide⟩
theorem eH_reckonStores_30 : pd_al mH_reckonStores 30 0 31 := Or.inl ⟨0, rfl, by decide +kernel, rfl⟩
theorem eH_reckonStores_31 : pd_gf mH_reckonStores 31 4 6 34 := ⟨30, _, ⟨by decide +kernel, rfl⟩, fH_30_4⟩
theorem eH_reckonStores_34 : pd_il mH_reckonStores 34 2 35 := Or.inl ⟨2, rfl, by decide +kernel, rfl⟩
theorem eH_reckonStores_35 : pd_ic mH_reckonStores 35 1 36 := Or.inl ⟨by decide +kernel, rfl⟩
theorem eH_reckonStores_36 : pd_i mH_reckonStores 36 (.iadd) 1 37 := ⟨by decide +kernel, rfl⟩
theorem eH_reckonStores_37 : pd_ic mH_reckonStores 37 4 38 := Or.inl ⟨by decide +kernel, rfl⟩
theorem eH_reckonStores_38 : pd_i mH_reckonStores 38 (.imul) 1 39 := ⟨by decide +kernel, rfl⟩
theorem eH_reckonStores_39 : pd_il mH_reckonStores 39 1 40 := Or.inl ⟨1, rfl, by decide +kernel, rfl⟩
theorem eH_reckonStores_40 : pd_i mH_reckonStores 40 (.iadd) 1 41 := ⟨by decide +kernel, rfl⟩
theorem eH_reckonStores_41 : pd_ic mH_reckonStores 41 0 42 := Or.inl ⟨by decide +kernel, rfl⟩
theorem eH_reckonStores_42 : pd_al mH_reckonStores 42 0 43 := Or.inl ⟨0, rfl, by decide +kernel, rfl⟩
theorem eH_reckonStores_43 : pd_al mH_reckonStores 43 0 44 := Or.inl ⟨0, rfl, by decide +kernel, rfl⟩
theorem eH_reckonStores_44 : pd_gf mH_reckonStores 44 4 6 47 := ⟨30, _, ⟨by decide +kernel, rfl⟩, fH_30_4⟩
theorem eH_reckonStores_47 : pd_il mH_reckonStores 47 2 48 := Or.inl ⟨2, rfl, by decide +kernel, rfl⟩
theorem eH_reckonStores_48 : pd_ic mH_reckonStores 48 4 49 := Or.inl ⟨by decide +kernel, rfl⟩
theorem eH_reckonStores_49 : pd_i mH_reckonStores 49 (.imul) 1 50 := ⟨by decide +kernel, rfl⟩
theorem eH_reckonStores_50 : pd_il mH_reckonStores 50 1 51 := Or.inl ⟨1, rfl, by decide +kernel, rfl⟩
theorem eH_reckonStores_51 : pd_i mH_reckonStores 51 (.iadd) 1 52 := ⟨by decide +kernel, rfl⟩
theorem eH_reckonStores_52 : pd_i mH_reckonStores 52 (.iaload) 1 53 := ⟨by decide +kernel, rfl⟩
theorem eH_reckonStores_53 : pd_il mH_reckonStores 53 2 54 := Or.inl ⟨2, rfl, by decide +kernel, rfl⟩
theorem eH_reckonStores_54 : pd_il mH_reckonStores 54 1 55 := Or.inl ⟨1, rfl, by decide +kernel, rfl⟩
theorem eH_reckonStores_55 : pd_kv mH_reckonStores 55 mH_rest 3 58 := ⟨57, ⟨by decide +kernel, rfl⟩, (pd_m 430 (by decide +kernel) (by decide +kernel)), (pd_m 431 (by decide +kernel) (by decide +kernel)), (pd_m 432 (by decide +kernel) (by decide +kernel)), kH_rest⟩
theorem eH_reckonStores_58 : pd_max mH_reckonStores 58 61 := ⟨60, ⟨by decide +kernel, rfl⟩, (pd_m 435 (by decide +kernel) (by decide +kernel))⟩
theorem eH_reckonStores_61 : pd_i mH_reckonStores 61 (.iastore) 1 62 := ⟨by decide +kernel, rfl⟩
theorem eH_reckonStores_62 : pd_ii mH_reckonStores 62 2 1 65 := ⟨by decide, by decide +kernel, rfl⟩
theorem eH_reckonStores_65 : pd_go mH_reckonStores 65 24 := ⟨-41, by decide +kernel, by decide⟩
theorem eH_reckonStores_68 : pd_ii mH_reckonStores 68 1 1 71 := ⟨by decide, by decide +kernel, rfl⟩
theorem eH_reckonStores_71 : pd_go mH_reckonStores 71 2 := ⟨-69, by decide +kernel, by decide⟩
theorem eH_reckonStores_74 : pd_rd mH_reckonStores 74 none := (by decide +kernel : decode mH_reckonStores.2.1 74 = .ok (.return_, 1))
theorem eS_init_0 : pd_al mS_init 0 0 1 := Or.inl ⟨0, rfl, by decide +kernel, rfl⟩
theorem eS_init_1 : ∃ idx, pd_i mS_init 1 (.invokespecial idx) 3 4 ∧ Cond.methodLink mS_init.1.cls idx objectInit ∈ pd_tbl := ⟨3, ⟨by decide +kernel, rfl⟩, (pd_m 114 (by decide +kernel) (by decide +kernel))⟩
theorem eS_init_4 : pd_al mS_init 4 0 5 := Or.inl ⟨0, rfl, by decide +kernel, rfl⟩
theorem eS_init_5 : pd_ic mS_init 5 4 6 := Or.inl ⟨by decide +kernel, rfl⟩
theorem eS_init_6 : pd_i mS_init 6 (.newarray .int) 2 8 := ⟨by decide +kernel, rfl⟩
theorem eS_init_8 : pd_pf mS_init 8 8 0 (.array .int) 11 := ⟨9, ⟨by decide +kernel, rfl⟩, fS_9_8, Or.inr ⟨rfl, rfl⟩⟩
theorem eS_init_11 : pd_al mS_init 11 0 12 := Or.inl ⟨0, rfl, by decide +kernel, rfl⟩
theorem eS_init_12 : pd_ic mS_init 12 4 13 := Or.inl ⟨by decide +kernel, rfl⟩
theorem eS_init_13 : pd_i mS_init 13 (.newarray .int) 2 15 := ⟨by decide +kernel, rfl⟩
theorem eS_init_15 : pd_pf mS_init 15 8 1 (.array .int) 18 := ⟨15, ⟨by decide +kernel, rfl⟩, fS_15_8, Or.inr ⟨rfl, rfl⟩⟩
theorem eS_init_18 : pd_al mS_init 18 0 19 := Or.inl ⟨0, rfl, by decide +kernel, rfl⟩
theorem eS_init_19 : pd_ic mS_init 19 80 21 := Or.inr (Or.inl ⟨⟨by decide +kernel, rfl⟩, by decide⟩)
theorem eS_init_21 : pd_i mS_init 21 (.newarray .int) 2 23 := ⟨by decide +kernel, rfl⟩
theorem eS_init_23 : pd_pf mS_init 23 8 2 (.array .int) 26 := ⟨18, ⟨by decide +kernel, rfl⟩, fS_18_8, Or.inr ⟨rfl, rfl⟩⟩
theorem eS_init_26 : pd_rd mS_init 26 none := (by decide +kernel : decode mS_init.2.1 26 = .ok (.return_, 1))
theorem eS_begin_0 : pd_al mS_begin 0 0 1 := Or.inl ⟨0, rfl, by decide +kernel, rfl⟩
theorem eS_begin_1 : pd_ic mS_begin 1 0 2 := Or.inl ⟨by decide +kernel, rfl⟩
theorem eS_begin_2 : pd_pf mS_begin 2 8 3 .int 5 := ⟨21, ⟨by decide +kernel, rfl⟩, fS_21_8, Or.inl ⟨_, rfl⟩⟩
theorem eS_begin_5 : pd_al mS_begin 5 0 6 := Or.inl ⟨0, rfl, by decide +kernel, rfl⟩
theorem eS_begin_6 : pd_ic mS_begin 6 0 7 := Or.inl ⟨by decide +kernel, rfl⟩
theorem eS_begin_7 : pd_pf mS_begin 7 8 4 .boolean 10 := ⟨25, ⟨by decide +kernel, rfl⟩, fS_25_8, Or.inl ⟨_, rfl⟩⟩
theorem eS_begin_10 : pd_ic mS_begin 10 0 11 := Or.inl ⟨by decide +kernel, rfl⟩
theorem eS_begin_11 : pd_is mS_begin 11 2 12 := ⟨by decide, Or.inl ⟨2, rfl, by decide +kernel, rfl⟩⟩
theorem eS_begin_12 : pd_il mS_begin 12 2 13 := Or.inl ⟨2, rfl, by decide +kernel, rfl⟩
theorem eS_begin_13 : pd_ic mS_begin 13 4 14 := Or.inl ⟨by decide +kernel, rfl⟩
theorem eS_begin_14 : pd_b2 mS_begin 14 .ge 17 54 := ⟨40, ⟨by decide +kernel, rfl⟩, by decide⟩
theorem eS_begin_17 : pd_al mS_begin 17 0 18 := Or.inl ⟨0, rfl, by decide +kernel, rfl⟩
theorem eS_begin_18 : pd_gf mS_begin 18 8 0 21 := ⟨9, _, ⟨by decide +kernel, rfl⟩, fS_9_8⟩
theorem eS_begin_21 : pd_il mS_begin 21 2 22 := Or.inl ⟨2, rfl, by decide +kernel, rfl⟩
theorem eS_begin_22 : pd_al mS_begin 22 1 23 := Or.inl ⟨1, rfl, by decide +kernel, rfl⟩
theorem eS_begin_23 : pd_il mS_begin 23 2 24 := Or.inl ⟨2, rfl, by decide +kernel, rfl⟩
theorem eS_begin_24 : pd_kv mS_begin 24 mH_has 1 27 := ⟨29, ⟨by decide +kernel, rfl⟩, (pd_m 446 (by decide +kernel) (by decide +kernel)), (pd_m 447 (by decide +kernel) (by decide +kernel)), (pd_m 448 (by decide +kernel) (by decide +kernel)), kH_has⟩
theorem eS_begin_27 : pd_b1 mS_begin 27 .eq 30 39 := ⟨12, ⟨by decide +kernel, rfl⟩, by decide⟩
theorem eS_begin_30 : pd_al mS_begin 30 1 31 := Or.inl ⟨1, rfl, by decide +kernel, rfl⟩
theorem eS_begin_31 : pd_gf mS_begin 31 4 0 34 := ⟨35, _, ⟨by decide +kernel, rfl⟩, fS_35_4⟩
theorem eS_begin_34 : pd_il mS_begin 34 2 35 := Or.inl ⟨2, rfl, by decide +kernel, rfl⟩
theorem eS_begin_35 : pd_i mS_begin 35 (.iaload) 1 36 := ⟨by decide +kernel, rfl⟩
theorem eS_begin_36 : pd_go mS_begin 36 40 := ⟨4, by decide +kernel, by decide⟩
theorem eS_begin_39 : pd_ic mS_begin 39 0 40 := Or.inl ⟨by decide +kernel, rfl⟩
theorem eS_begin_40 : pd_i mS_begin 40 (.iastore) 1 41 := ⟨by decide +kernel, rfl⟩
theorem eS_begin_41 : pd_al mS_begin 41 0 42 := Or.inl ⟨0, rfl, by decide +kernel, rfl⟩
theorem eS_begin_42 : pd_gf mS_begin 42 8 1 45 := ⟨15, _, ⟨by decide +kernel, rfl⟩, fS_15_8⟩
theorem eS_begin_45 : pd_il mS_begin 45 2 46 := Or.inl ⟨2, rfl, by decide +kernel, rfl⟩
theorem eS_begin_46 : pd_ic mS_begin 46 0 47 := Or.inl ⟨by decide +kernel, rfl⟩
theorem eS_begin_47 : pd_i mS_begin 47 (.iastore) 1 48 := ⟨by decide +kernel, rfl⟩
theorem eS_begin_48 : pd_ii mS_begin 48 2 1 51 := ⟨by decide, by decide +kernel, rfl⟩
theorem eS_begin_51 : pd_go mS_begin 51 12 := ⟨-39, by decide +kernel, by decide⟩
theorem eS_begin_54 : pd_ic mS_begin 54 0 55 := Or.inl ⟨by decide +kernel, rfl⟩
theorem eS_begin_55 : pd_is mS_begin 55 2 56 := ⟨by decide, Or.inl ⟨2, rfl, by decide +kernel, rfl⟩⟩
theorem eS_begin_56 : pd_il mS_begin 56 2 57 := Or.inl ⟨2, rfl, by decide +kernel, rfl⟩
theorem eS_begin_57 : pd_ic mS_begin 57 80 59 := Or.inr (Or.inl ⟨⟨by decide +kernel, rfl⟩, by decide⟩)
theorem eS_begin_59 : pd_b2 mS_begin 59 .ge 62 75 := ⟨16, ⟨by decide +kernel, rfl⟩, by decide⟩
theorem eS_begin_62 : pd_al mS_begin 62 0 63 := Or.inl ⟨0, rfl, by decide +kernel, rfl⟩
theorem eS_begin_63 : pd_gf mS_begin 63 8 2 66 := ⟨18, _, ⟨by decide +kernel, rfl⟩, fS_18_8⟩
theorem eS_begin_66 : pd_il mS_begin 66 2 67 := Or.inl ⟨2, rfl, by decide +kernel, rfl⟩
theorem eS_begin_67 : pd_ic mS_begin 67 0 68 := Or.inl ⟨by decide +kernel, rfl⟩
theorem eS_begin_68 : pd_i mS_begin 68 (.iastore) 1 69 := ⟨by decide +kernel, rfl⟩
theorem eS_begin_69 : pd_ii mS_begin 69 2 1 72 := ⟨by decide, by decide +kernel, rfl⟩
theorem eS_begin_72 : pd_go mS_begin 72 56 := ⟨-16, by decide +kernel, by decide⟩
theorem eS_begin_75 : pd_rd mS_begin 75 none := (by decide +kernel : decode mS_begin.2.1 75 = .ok (.return_, 1))
theorem eS_copy_0 : pd_al mS_copy 0 0 1 := Or.inl ⟨0, rfl, by decide +kernel, rfl⟩
theorem eS_copy_1 : pd_al mS_copy 1 1 2 := Or.inl ⟨1, rfl, by decide +kernel, rfl⟩
theorem eS_copy_2 : pd_gf mS_copy 2 8 3 5 := ⟨21, _, ⟨by decide +kernel, rfl⟩, fS_21_8⟩
theorem eS_copy_5 : pd_pf mS_copy 5 8 3 .int 8 := ⟨21, ⟨by decide +kernel, rfl⟩, fS_21_8, Or.inl ⟨_, rfl⟩⟩
theorem eS_copy_8 : pd_al mS_copy 8 0 9 := Or.inl ⟨0, rfl, by decide +kernel, rfl⟩
theorem eS_copy_9 : pd_al mS_copy 9 1 10 := Or.inl ⟨1, rfl, by decide +kernel, rfl⟩
theorem eS_copy_10 : pd_gf mS_copy 10 8 4 13 := ⟨25, _, ⟨by decide +kernel, rfl⟩, fS_25_8⟩
theorem eS_copy_13 : pd_pf mS_copy 13 8 4 .boolean 16 := ⟨25, ⟨by decide +kernel, rfl⟩, fS_25_8, Or.inl ⟨_, rfl⟩⟩
theorem eS_copy_16 : pd_al mS_copy 16 1 17 := Or.inl ⟨1, rfl, by decide +kernel, rfl⟩
theorem eS_copy_17 : pd_gf mS_copy 17 8 0 20 := ⟨9, _, ⟨by decide +kernel, rfl⟩, fS_9_8⟩
theorem eS_copy_20 : pd_ic mS_copy 20 0 21 := Or.inl ⟨by decide +kernel, rfl⟩
theorem eS_copy_21 : pd_al mS_copy 21 0 22 := Or.inl ⟨0, rfl, by decide +kernel, rfl⟩
theorem eS_copy_22 : pd_gf mS_copy 22 8 0 25 := ⟨9, _, ⟨by decide +kernel, rfl⟩, fS_9_8⟩
theorem eS_copy_25 : pd_ic mS_copy 25 0 26 := Or.inl ⟨by decide +kernel, rfl⟩
theorem eS_copy_26 : pd_ic mS_copy 26 4 27 := Or.inl ⟨by decide +kernel, rfl⟩
theorem eS_copy_27 : ∃ idx, pd_i mS_copy 27 (.invokestatic idx) 3 30 ∧ Cond.methodLink mS_copy.1.cls idx arraycopyName ∈ pd_tbl := ⟨38, ⟨by decide +kernel, rfl⟩, (pd_m 491 (by decide +kernel) (by decide +kernel))⟩
theorem eS_copy_30 : pd_al mS_copy 30 1 31 := Or.inl ⟨1, rfl, by decide +kernel, rfl⟩
theorem eS_copy_31 : pd_gf mS_copy 31 8 1 34 := ⟨15, _, ⟨by decide +kernel, rfl⟩, fS_15_8⟩
theorem eS_copy_34 : pd_ic mS_copy 34 0 35 := Or.inl ⟨by decide +kernel, rfl⟩
theorem eS_copy_35 : pd_al mS_copy 35 0 36 := Or.inl ⟨0, rfl, by decide +kernel, rfl⟩
theorem eS_copy_36 : pd_gf mS_copy 36 8 1 39 := ⟨15, _, ⟨by decide +kernel, rfl⟩, fS_15_8⟩
theorem eS_copy_39 : pd_ic mS_copy 39 0 40 := Or.inl ⟨by decide +kernel, rfl⟩
theorem eS_copy_40 : pd_ic mS_copy 40 4 41 := Or.inl ⟨by decide +kernel, rfl⟩
theorem eS_copy_41 : ∃ idx, pd_i mS_copy 41 (.invokestatic idx) 3 44 ∧ Cond.methodLink mS_copy.1.cls idx arraycopyName ∈ pd_tbl := ⟨38, ⟨by decide +kernel, rfl⟩, (pd_m 491 (by decide +kernel) (by decide +kernel))⟩
theorem eS_copy_44 : pd_al mS_copy 44 1 45 := Or.inl ⟨1, rfl, by decide +kernel, rfl⟩
theorem eS_copy_45 : pd_gf mS_copy 45 8 2 48 := ⟨18, _, ⟨by decide +kernel, rfl⟩, fS_18_8⟩
theorem eS_copy_48 : pd_ic mS_copy 48 0 49 := Or.inl ⟨by decide +kernel, rfl⟩
theorem eS_copy_49 : pd_al mS_copy 49 0 50 := Or.inl ⟨0, rfl, by decide +kernel, rfl⟩
theorem eS_copy_50 : pd_gf mS_copy 50 8 2 53 := ⟨18, _, ⟨by decide +kernel, rfl⟩, fS_18_8⟩
theorem eS_copy_53 : pd_ic mS_copy 53 0 54 := Or.inl ⟨by decide +kernel, rfl⟩
theorem eS_copy_54 : pd_ic mS_copy 54 80 56 := Or.inr (Or.inl ⟨⟨by decide +kernel, rfl⟩, by decide⟩)
theorem eS_copy_56 : ∃ idx, pd_i mS_copy 56 (.invokestatic idx) 3 59 ∧ Cond.methodLink mS_copy.1.cls idx arraycopyName ∈ pd_tbl := ⟨38, ⟨by decide +kernel, rfl⟩, (pd_m 491 (by decide +kernel) (by decide +kernel))⟩
theorem eS_copy_59 : pd_rd mS_copy 59 none := (by decide +kernel : decode mS_copy.2.1 59 = .ok (.return_, 1))
theorem eS_leads_0 : pd_al mS_leads 0 0 1 := Or.inl ⟨0, rfl, by decide +kernel, rfl⟩
theorem eS_leads_1 : pd_gf mS_leads 1 8 4 4 := ⟨25, _, ⟨by decide +kernel, rfl⟩, fS_25_8⟩
theorem eS_leads_4 : pd_b1 mS_leads 4 .eq 7 12 := ⟨8, ⟨by decide +kernel, rfl⟩, by decide⟩
theorem eS_leads_7 : pd_ic mS_leads 7 (-9) 9 := Or.inr (Or.inl ⟨⟨by decide +kernel, rfl⟩, by decide⟩)
theorem eS_leads_9 : pd_go mS_leads 9 20 := ⟨11, by decide +kernel, by decide⟩
theorem eS_leads_12 : pd_al mS_leads 12 1 13 := Or.inl ⟨1, rfl, by decide +kernel, rfl⟩
theorem eS_leads_13 : pd_al mS_leads 13 0 14 := Or.inl ⟨0, rfl, by decide +kernel, rfl⟩
theorem eS_leads_14 : pd_gf mS_leads 14 8 3 17 := ⟨21, _, ⟨by decide +kernel, rfl⟩, fS_21_8⟩
theorem eS_leads_17 : pd_kv mS_leads 17 mH_leads 1 20 := ⟨44, ⟨by decide +kernel, rfl⟩, (pd_m 464 (by decide +kernel) (by decide +kernel)), (pd_m 465 (by decide +kernel) (by decide +kernel)), (pd_m 466 (by decide +kernel) (by decide +kernel)), kH_leads⟩
theorem eS_leads_20 {z : Int} : pd_rd mS_leads 20 (some (vi z)) := (by decide +kernel : decode mS_leads.2.1 20 = .ok (.ireturn, 1))
theorem eS_open_0 : pd_al mS_open 0 0 1 := Or.inl ⟨0, rfl, by decide +kernel, rfl⟩
theorem eS_open_1 : pd_al mS_open 1 1 2 := Or.inl ⟨1, rfl, by decide +kernel, rfl⟩
theorem eS_open_2 : pd_al mS_open 2 0 3 := Or.inl ⟨0, rfl, by decide +kernel, rfl⟩
theorem eS_open_3 : pd_gf mS_open 3 8 3 6 := ⟨21, _, ⟨by decide +kernel, rfl⟩, fS_21_8⟩
theorem eS_open_6 : pd_il mS_open 6 2 7 := Or.inl ⟨2, rfl, by decide +kernel, rfl⟩
theorem eS_open_7 : pd_kv mS_open 7 mS_openOn 3 10 := ⟨48, ⟨by decide +kernel, rfl⟩, (pd_m 460 (by decide +kernel) (by decide +kernel)), (pd_m 461 (by decide +kernel) (by decide +kernel)), (pd_m 462 (by decide +kernel) (by decide +kernel)), kS_openOn⟩
theorem eS_open_10 {z : Int} : pd_rd mS_open 10 (some (vi z)) := (by decide +kernel : decode mS_open.2.1 10 = .ok (.ireturn, 1))
theorem eS_openOn_0 : pd_al mS_openOn 0 0 1 := Or.inl ⟨0, rfl, by decide +kernel, rfl⟩
theorem eS_openOn_1 : pd_gf mS_openOn 1 8 4 4 := ⟨25, _, ⟨by decide +kernel, rfl⟩, fS_25_8⟩
theorem eS_openOn_4 : pd_b1 mS_openOn 4 .eq 7 12 := ⟨8, ⟨by decide +kernel, rfl⟩, by decide⟩
theorem eS_openOn_7 : pd_ic mS_openOn 7 (-9) 9 := Or.inr (Or.inl ⟨⟨by decide +kernel, rfl⟩, by decide⟩)
theorem eS_openOn_9 : pd_go mS_openOn 9 17 := ⟨8, by decide +kernel, by decide⟩
theorem eS_openOn_12 : pd_al mS_openOn 12 1 13 := Or.inl ⟨1, rfl, by decide +kernel, rfl⟩
theorem eS_openOn_13 : pd_il mS_openOn 13 2 14 := Or.inl ⟨2, rfl, by decide +kernel, rfl⟩
theorem eS_openOn_14 : pd_kv mS_openOn 14 mH_leads 1 17 := ⟨44, ⟨by decide +kernel, rfl⟩, (pd_m 464 (by decide +kernel) (by decide +kernel)), (pd_m 465 (by decide +kernel) (by decide +kernel)), (pd_m 466 (by decide +kernel) (by decide +kernel)), kH_leads⟩
theorem eS_openOn_17 : pd_is mS_openOn 17 4 19 := ⟨by decide, Or.inr ⟨by decide +kernel, rfl⟩⟩
theorem eS_openOn_19 : pd_il mS_openOn 19 4 21 := Or.inr ⟨by decide +kernel, rfl⟩
theorem eS_openOn_21 : pd_ic mS_openOn 21 (-9) 23 := Or.inr (Or.inl ⟨⟨by decide +kernel, rfl⟩, by decide⟩)
theorem eS_openOn_23 : pd_b2 mS_openOn 23 .ne 26 30 := ⟨7, ⟨by decide +kernel, rfl⟩, by decide⟩
theorem eS_openOn_26 : pd_ic mS_openOn 26 0 27 := Or.inl ⟨by decide +kernel, rfl⟩
theorem eS_openOn_27 : pd_go mS_openOn 27 53 := ⟨26, by decide +kernel, by decide⟩
theorem eS_openOn_30 : pd_al mS_openOn 30 1 31 := Or.inl ⟨1, rfl, by decide +kernel, rfl⟩
theorem eS_openOn_31 : pd_gf mS_openOn 31 4 5 34 := ⟨52, _, ⟨by decide +kernel, rfl⟩, fS_52_4⟩
theorem eS_openOn_34 : pd_il mS_openOn 34 4 36 := Or.inr ⟨by decide +kernel, rfl⟩
theorem eS_openOn_36 : pd_ic mS_openOn 36 4 37 := Or.inl ⟨by decide +kernel, rfl⟩
theorem eS_openOn_37 : pd_i mS_openOn 37 (.imul) 1 38 := ⟨by decide +kernel, rfl⟩
theorem eS_openOn_38 : pd_il mS_openOn 38 3 39 := Or.inl ⟨3, rfl, by decide +kernel, rfl⟩
theorem eS_openOn_39 : pd_i mS_openOn 39 (.iadd) 1 40 := ⟨by decide +kernel, rfl⟩
theorem eS_openOn_40 : pd_i mS_openOn 40 (.iaload) 1 41 := ⟨by decide +kernel, rfl⟩
theorem eS_openOn_41 : pd_al mS_openOn 41 0 42 := Or.inl ⟨0, rfl, by decide +kernel, rfl⟩
theorem eS_openOn_42 : pd_gf mS_openOn 42 8 2 45 := ⟨18, _, ⟨by decide +kernel, rfl⟩, fS_18_8⟩
theorem eS_openOn_45 : pd_il mS_openOn 45 4 47 := Or.inr ⟨by decide +kernel, rfl⟩
theorem eS_openOn_47 : pd_ic mS_openOn 47 4 48 := Or.inl ⟨by decide +kernel, rfl⟩
theorem eS_openOn_48 : pd_i mS_openOn 48 (.imul) 1 49 := ⟨by decide +kernel, rfl⟩
theorem eS_openOn_49 : pd_il mS_openOn 49 3 50 := Or.inl ⟨3, rfl, by decide +kernel, rfl⟩
theorem eS_openOn_50 : pd_i mS_openOn 50 (.iadd) 1 51 := ⟨by decide +kernel, rfl⟩
theorem eS_openOn_51 : pd_i mS_openOn 51 (.iaload) 1 52 := ⟨by decide +kernel, rfl⟩
theorem eS_openOn_52 : pd_i mS_openOn 52 (.isub) 1 53 := ⟨by decide +kernel, rfl⟩
theorem eS_openOn_53 {z : Int} : pd_rd mS_openOn 53 (some (vi z)) := (by decide +kernel : decode mS_openOn.2.1 53 = .ok (.ireturn, 1))
theorem eS_add_0 : pd_al mS_add 0 0 1 := Or.inl ⟨0, rfl, by decide +kernel, rfl⟩
theorem eS_add_1 : pd_gf mS_add 1 8 0 4 := ⟨9, _, ⟨by decide +kernel, rfl⟩, fS_9_8⟩
theorem eS_add_4 : pd_il mS_add 4 1 5 := Or.inl ⟨1, rfl, by decide +kernel, rfl⟩
theorem eS_add_5 : pd_ic mS_add 5 999 8 := Or.inr (Or.inr (Or.inl ⟨⟨by decide +kernel, rfl⟩, by decide⟩))
theorem eS_add_8 : pd_al mS_add 8 0 9 := Or.inl ⟨0, rfl, by decide +kernel, rfl⟩
theorem eS_add_9 : pd_gf mS_add 9 8 0 12 := ⟨9, _, ⟨by decide +kernel, rfl⟩, fS_9_8⟩
theorem eS_add_12 : pd_il mS_add 12 1 13 := Or.inl ⟨1, rfl, by decide +kernel, rfl⟩
theorem eS_add_13 : pd_i mS_add 13 (.iaload) 1 14 := ⟨by decide +kernel, rfl⟩
theorem eS_add_14 : pd_il mS_add 14 2 15 := Or.inl ⟨2, rfl, by decide +kernel, rfl⟩
theorem eS_add_15 : pd_i mS_add 15 (.iadd) 1 16 := ⟨by decide +kernel, rfl⟩
theorem eS_add_16 : pd_min mS_add 16 19 := ⟨55, ⟨by decide +kernel, rfl⟩, (pd_m 512 (by decide +kernel) (by decide +kernel))⟩
theorem eS_add_19 : pd_i mS_add 19 (.iastore) 1 20 := ⟨by decide +kernel, rfl⟩
theorem eS_add_20 : pd_al mS_add 20 0 21 := Or.inl ⟨0, rfl, by decide +kernel, rfl⟩
theorem eS_add_21 : pd_gf mS_add 21 8 0 24 := ⟨9, _, ⟨by decide +kernel, rfl⟩, fS_9_8⟩
theorem eS_add_24 : pd_il mS_add 24 1 25 := Or.inl ⟨1, rfl, by decide +kernel, rfl⟩
theorem eS_add_25 : pd_i mS_add 25 (.iaload) 1 26 := ⟨by decide +kernel, rfl⟩
theorem eS_add_26 {z : Int} : pd_rd mS_add 26 (some (vi z)) := (by decide +kernel : decode mS_add.2.1 26 = .ok (.ireturn, 1))
theorem eS_pass_0 : pd_ic mS_pass 0 0 1 := Or.inl ⟨by decide +kernel, rfl⟩
theorem eS_pass_1 : pd_is mS_pass 1 2 2 := ⟨by decide, Or.inl ⟨2, rfl, by decide +kernel, rfl⟩⟩
theorem eS_pass_2 : pd_ic mS_pass 2 0 3 := Or.inl ⟨by decide +kernel, rfl⟩
theorem eS_pass_3 : pd_is mS_pass 3 3 4 := ⟨by decide, Or.inl ⟨3, rfl, by decide +kernel, rfl⟩⟩
theorem eS_pass_4 : pd_il mS_pass 4 3 5 := Or.inl ⟨3, rfl, by decide +kernel, rfl⟩
theorem eS_pass_5 : pd_al mS_pass 5 1 6 := Or.inl ⟨1, rfl, by decide +kernel, rfl⟩
theorem eS_pass_6 : pd_gf mS_pass 6 4 7 9 := ⟨61, _, ⟨by decide +kernel, rfl⟩, fS_61_4⟩
theorem eS_pass_9 : pd_b2 mS_pass 9 .ge 12 75 := ⟨66, ⟨by decide +kernel, rfl⟩, by decide⟩
theorem eS_pass_12 : pd_al mS_pass 12 0 13 := Or.inl ⟨0, rfl, by decide +kernel, rfl⟩
theorem eS_pass_13 : pd_gf mS_pass 13 8 3 16 := ⟨21, _, ⟨by decide +kernel, rfl⟩, fS_21_8⟩
theorem eS_pass_16 : pd_ic mS_pass 16 20 18 := Or.inr (Or.inl ⟨⟨by decide +kernel, rfl⟩, by decide⟩)
theorem eS_pass_18 : pd_b2 mS_pass 18 .ge 21 75 := ⟨57, ⟨by decide +kernel, rfl⟩, by decide⟩
theorem eS_pass_21 : pd_al mS_pass 21 1 22 := Or.inl ⟨1, rfl, by decide +kernel, rfl⟩
theorem eS_pass_22 : pd_al mS_pass 22 0 23 := Or.inl ⟨0, rfl, by decide +kernel, rfl⟩
theorem eS_pass_23 : pd_gf mS_pass 23 8 0 26 := ⟨9, _, ⟨by decide +kernel, rfl⟩, fS_9_8⟩
theorem eS_pass_26 : pd_il mS_pass 26 3 27 := Or.inl ⟨3, rfl, by decide +kernel, rfl⟩
theorem eS_pass_27 : pd_i mS_pass 27 (.iaload) 1 28 := ⟨by decide +kernel, rfl⟩
theorem eS_pass_28 : pd_al mS_pass 28 0 29 := Or.inl ⟨0, rfl, by decide +kernel, rfl⟩
theorem eS_pass_29 : pd_gf mS_pass 29 8 3 32 := ⟨21, _, ⟨by decide +kernel, rfl⟩, fS_21_8⟩
theorem eS_pass_32 : pd_il mS_pass 32 3 33 := Or.inl ⟨3, rfl, by decide +kernel, rfl⟩
theorem eS_pass_33 : pd_kv mS_pass 33 mH_rest 3 36 := ⟨64, ⟨by decide +kernel, rfl⟩, (pd_m 498 (by decide +kernel) (by decide +kernel)), (pd_m 431 (by decide +kernel) (by decide +kernel)), (pd_m 432 (by decide +kernel) (by decide +kernel)), kH_rest⟩
theorem eS_pass_36 : pd_is mS_pass 36 4 38 := ⟨by decide, Or.inr ⟨by decide +kernel, rfl⟩⟩
theorem eS_pass_38 : pd_il mS_pass 38 4 40 := Or.inr ⟨by decide +kernel, rfl⟩
theorem eS_pass_40 : pd_ic mS_pass 40 (-1) 41 := Or.inl ⟨by decide +kernel, rfl⟩
theorem eS_pass_41 : pd_b2 mS_pass 41 .ne 44 57 := ⟨16, ⟨by decide +kernel, rfl⟩, by decide⟩
theorem eS_pass_44 : pd_ii mS_pass 44 2 1 47 := ⟨by decide, by decide +kernel, rfl⟩
theorem eS_pass_47 : pd_al mS_pass 47 0 48 := Or.inl ⟨0, rfl, by decide +kernel, rfl⟩
theorem eS_pass_48 : pd_gf mS_pass 48 8 1 51 := ⟨15, _, ⟨by decide +kernel, rfl⟩, fS_15_8⟩
theorem eS_pass_51 : pd_il mS_pass 51 3 52 := Or.inl ⟨3, rfl, by decide +kernel, rfl⟩
theorem eS_pass_52 : pd_i mS_pass 52 (.dup2) 1 53 := ⟨by decide +kernel, rfl⟩
theorem eS_pass_53 : pd_i mS_pass 53 (.iaload) 1 54 := ⟨by decide +kernel, rfl⟩
theorem eS_pass_54 : pd_ic mS_pass 54 1 55 := Or.inl ⟨by decide +kernel, rfl⟩
theorem eS_pass_55 : pd_i mS_pass 55 (.iadd) 1 56 := ⟨by decide +kernel, rfl⟩
theorem eS_pass_56 : pd_i mS_pass 56 (.iastore) 1 57 := ⟨by decide +kernel, rfl⟩
theorem eS_pass_57 : pd_al mS_pass 57 0 58 := Or.inl ⟨0, rfl, by decide +kernel, rfl⟩
theorem eS_pass_58 : pd_gf mS_pass 58 8 0 61 := ⟨9, _, ⟨by decide +kernel, rfl⟩, fS_9_8⟩
theorem eS_pass_61 : pd_il mS_pass 61 3 62 := Or.inl ⟨3, rfl, by decide +kernel, rfl⟩
theorem eS_pass_62 : pd_ic mS_pass 62 0 63 := Or.inl ⟨by decide +kernel, rfl⟩
theorem eS_pass_63 : pd_il mS_pass 63 4 65 := Or.inr ⟨by decide +kernel, rfl⟩
theorem eS_pass_65 : pd_max mS_pass 65 68 := ⟨68, ⟨by decide +kernel, rfl⟩, (pd_m 499 (by decide +kernel) (by decide +kernel))⟩
theorem eS_pass_68 : pd_i mS_pass 68 (.iastore) 1 69 := ⟨by decide +kernel, rfl⟩
theorem eS_pass_69 : pd_ii mS_pass 69 3 1 72 := ⟨by decide, by decide +kernel, rfl⟩
theorem eS_pass_72 : pd_go mS_pass 72 4 := ⟨-68, by decide +kernel, by decide⟩
theorem eS_pass_75 : pd_al mS_pass 75 0 76 := Or.inl ⟨0, rfl, by decide +kernel, rfl⟩
theorem eS_pass_76 : pd_i mS_pass 76 (.dup) 1 77 := ⟨by decide +kernel, rfl⟩
theorem eS_pass_77 : pd_gf mS_pass 77 8 3 80 := ⟨21, _, ⟨by decide +kernel, rfl⟩, fS_21_8⟩
theorem eS_pass_80 : pd_ic mS_pass 80 1 81 := Or.inl ⟨by decide +kernel, rfl⟩
theorem eS_pass_81 : pd_i mS_pass 81 (.iadd) 1 82 := ⟨by decide +kernel, rfl⟩
theorem eS_pass_82 : pd_pf mS_pass 82 8 3 .int 85 := ⟨21, ⟨by decide +kernel, rfl⟩, fS_21_8, Or.inl ⟨_, rfl⟩⟩
theorem eS_pass_85 : pd_il mS_pass 85 2 86 := Or.inl ⟨2, rfl, by decide +kernel, rfl⟩
theorem eS_pass_86 {z : Int} : pd_rd mS_pass 86 (some (vi z)) := (by decide +kernel : decode mS_pass.2.1 86 = .ok (.ireturn, 1))
theorem eL_init_0 : pd_al mL_init 0 0 1 := Or.inl ⟨0, rfl, by decide +kernel, rfl⟩
theorem eL_init_1 : ∃ idx, pd_i mL_init 1 (.invokespecial idx) 3 4 ∧ Cond.methodLink mL_init.1.cls idx objectInit ∈ pd_tbl := ⟨1, ⟨by decide +kernel, rfl⟩, (pd_m 108 (by decide +kernel) (by decide +kernel))⟩
theorem eL_init_4 : pd_al mL_init 4 0 5 := Or.inl ⟨0, rfl, by decide +kernel, rfl⟩
theorem eL_init_5 : pd_nwi mL_init 5 8 8 := ⟨7, ⟨by decide +kernel, rfl⟩, _, rfl, (pd_m 109 (by decide +kernel) (by decide +kernel))⟩
theorem eL_init_8 : pd_i mL_init 8 (.dup) 1 9 := ⟨by decide +kernel, rfl⟩
theorem eL_init_9 : pd_kI mL_init 9 mS_init 0 12 := ⟨9, ⟨by decide +kernel, rfl⟩, Or.inr ⟨"PantryDoors", by decide +kernel⟩, (pd_m 112 (by decide +kernel) (by decide +kernel)), rfl, rfl, kS_init⟩
theorem eL_init_12 : pd_pf mL_init 12 6 0 (.object "PantryDoors$State") 15 := ⟨10, ⟨by decide +kernel, rfl⟩, fL_10_6, Or.inr ⟨rfl, rfl⟩⟩
theorem eL_init_15 : pd_al mL_init 15 0 16 := Or.inl ⟨0, rfl, by decide +kernel, rfl⟩
theorem eL_init_16 : pd_ic mL_init 16 10 18 := Or.inr (Or.inl ⟨⟨by decide +kernel, rfl⟩, by decide⟩)
theorem eL_init_18 : ∃ idx, pd_i mL_init 18 (.anewarray idx) 3 21 ∧ Cond.classLink mL_init.1.cls idx "PantryDoors$State" ∈ pd_tbl := ⟨7, ⟨by decide +kernel, rfl⟩, (pd_m 109 (by decide +kernel) (by decide +kernel))⟩
theorem eL_init_21 : pd_pf mL_init 21 6 1 (.array (.object "PantryDoors$State")) 24 := ⟨16, ⟨by decide +kernel, rfl⟩, fL_16_6, Or.inr ⟨rfl, rfl⟩⟩
theorem eL_init_24 : pd_ic mL_init 24 0 25 := Or.inl ⟨by decide +kernel, rfl⟩
theorem eL_init_25 : pd_is mL_init 25 1 26 := ⟨by decide, Or.inl ⟨1, rfl, by decide +kernel, rfl⟩⟩
theorem eL_init_26 : pd_il mL_init 26 1 27 := Or.inl ⟨1, rfl, by decide +kernel, rfl⟩
theorem eL_init_27 : pd_ic mL_init 27 10 29 := Or.inr (Or.inl ⟨⟨by decide +kernel, rfl⟩, by decide⟩)
theorem eL_init_29 : pd_b2 mL_init 29 .ge 32 51 := ⟨22, ⟨by decide +kernel, rfl⟩, by decide⟩
theorem eL_init_32 : pd_al mL_init 32 0 33 := Or.inl ⟨0, rfl, by decide +kernel, rfl⟩
theorem eL_init_33 : pd_gf mL_init 33 6 1 36 := ⟨16, _, ⟨by decide +kernel, rfl⟩, fL_16_6⟩
theorem eL_init_36 : pd_il mL_init 36 1 37 := Or.inl ⟨1, rfl, by decide +kernel, rfl⟩
theorem eL_init_37 : pd_nwi mL_init 37 8 40 := ⟨7, ⟨by decide +kernel, rfl⟩, _, rfl, (pd_m 109 (by decide +kernel) (by decide +kernel))⟩
theorem eL_init_40 : pd_i mL_init 40 (.dup) 1 41 := ⟨by decide +kernel, rfl⟩
theorem eL_init_41 : pd_kI mL_init 41 mS_init 0 44 := ⟨9, ⟨by decide +kernel, rfl⟩, Or.inr ⟨"PantryDoors", by decide +kernel⟩, (pd_m 112 (by decide +kernel) (by decide +kernel)), rfl, rfl, kS_init⟩
theorem eL_init_44 : pd_i mL_init 44 (.aastore) 1 45 := ⟨by decide +kernel, rfl⟩
theorem eL_init_45 : pd_ii mL_init 45 1 1 48 := ⟨by decide, by decide +kernel, rfl⟩
theorem eL_init_48 : pd_go mL_init 48 26 := ⟨-22, by decide +kernel, by decide⟩
theorem eL_init_51 : pd_rd mL_init 51 none := (by decide +kernel : decode mL_init.2.1 51 = .ok (.return_, 1))
theorem eL_begin_0 : pd_al mL_begin 0 0 1 := Or.inl ⟨0, rfl, by decide +kernel, rfl⟩
theorem eL_begin_1 : pd_gf mL_begin 1 6 0 4 := ⟨10, _, ⟨by decide +kernel, rfl⟩, fL_10_6⟩
theorem eL_begin_4 : pd_al mL_begin 4 1 5 := Or.inl ⟨1, rfl, by decide +kernel, rfl⟩
theorem eL_begin_5 : pd_kv mL_begin 5 mS_begin 1 8 := ⟨20, ⟨by decide +kernel, rfl⟩, (pd_m 442 (by decide +kernel) (by decide +kernel)), (pd_m 443 (by decide +kernel) (by decide +kernel)), (pd_m 444 (by decide +kernel) (by decide +kernel)), kS_begin⟩
theorem eL_begin_8 : pd_al mL_begin 8 0 9 := Or.inl ⟨0, rfl, by decide +kernel, rfl⟩
theorem eL_begin_9 : pd_ic mL_begin 9 0 10 := Or.inl ⟨by decide +kernel, rfl⟩
theorem eL_begin_10 : pd_pf mL_begin 10 6 2 .int 13 := ⟨24, ⟨by decide +kernel, rfl⟩, fL_24_6, Or.inl ⟨_, rfl⟩⟩
theorem eL_begin_13 : pd_rd mL_begin 13 none := (by decide +kernel : decode mL_begin.2.1 13 = .ok (.return_, 1))
theorem eL_remember_0 : pd_al mL_remember 0 0 1 := Or.inl ⟨0, rfl, by decide +kernel, rfl⟩
theorem eL_remember_1 : pd_gf mL_remember 1 6 2 4 := ⟨24, _, ⟨by decide +kernel, rfl⟩, fL_24_6⟩
theorem eL_remember_4 : pd_ic mL_remember 4 10 6 := Or.inr (Or.inl ⟨⟨by decide +kernel, rfl⟩, by decide⟩)
theorem eL_remember_6 : pd_b2 mL_remember 6 .lt 9 13 := ⟨7, ⟨by decide +kernel, rfl⟩, by decide⟩
theorem eL_remember_9 : pd_al mL_remember 9 0 10 := Or.inl ⟨0, rfl, by decide +kernel, rfl⟩
theorem eL_remember_10 : pd_kv mL_remember 10 mL_loseOldest 0 13 := ⟨28, ⟨by decide +kernel, rfl⟩, (pd_m 483 (by decide +kernel) (by decide +kernel)), (pd_m 485 (by decide +kernel) (by decide +kernel)), (pd_m 8 (by decide +kernel) (by decide +kernel)), kL_loseOldest⟩
theorem eL_remember_13 : pd_al mL_remember 13 0 14 := Or.inl ⟨0, rfl, by decide +kernel, rfl⟩
theorem eL_remember_14 : pd_gf mL_remember 14 6 1 17 := ⟨16, _, ⟨by decide +kernel, rfl⟩, fL_16_6⟩
theorem eL_remember_17 : pd_al mL_remember 17 0 18 := Or.inl ⟨0, rfl, by decide +kernel, rfl⟩
theorem eL_remember_18 : pd_gf mL_remember 18 6 2 21 := ⟨24, _, ⟨by decide +kernel, rfl⟩, fL_24_6⟩
theorem eL_remember_21 : pd_i mL_remember 21 (.aaload) 1 22 := ⟨by decide +kernel, rfl⟩
theorem eL_remember_22 : pd_al mL_remember 22 0 23 := Or.inl ⟨0, rfl, by decide +kernel, rfl⟩
theorem eL_remember_23 : pd_gf mL_remember 23 6 0 26 := ⟨10, _, ⟨by decide +kernel, rfl⟩, fL_10_6⟩
theorem eL_remember_26 : pd_kv mL_remember 26 mS_copy 1 29 := ⟨31, ⟨by decide +kernel, rfl⟩, (pd_m 487 (by decide +kernel) (by decide +kernel)), (pd_m 488 (by decide +kernel) (by decide +kernel)), (pd_m 489 (by decide +kernel) (by decide +kernel)), kS_copy⟩
theorem eL_remember_29 : pd_al mL_remember 29 0 30 := Or.inl ⟨0, rfl, by decide +kernel, rfl⟩
theorem eL_remember_30 : pd_i mL_remember 30 (.dup) 1 31 := ⟨by decide +kernel, rfl⟩
theorem eL_remember_31 : pd_gf mL_remember 31 6 2 34 := ⟨24, _, ⟨by decide +kernel, rfl⟩, fL_24_6⟩
theorem eL_remember_34 : pd_ic mL_remember 34 1 35 := Or.inl ⟨by decide +kernel, rfl⟩
theorem eL_remember_35 : pd_i mL_remember 35 (.iadd) 1 36 := ⟨by decide +kernel, rfl⟩
theorem eL_remember_36 : pd_pf mL_remember 36 6 2 .int 39 := ⟨24, ⟨by decide +kernel, rfl⟩, fL_24_6, Or.inl ⟨_, rfl⟩⟩
theorem eL_remember_39 : pd_rd mL_remember 39 none := (by decide +kernel : decode mL_remember.2.1 39 = .ok (.return_, 1))
theorem eL_loseOldest_0 : pd_al mL_loseOldest 0 0 1 := Or.inl ⟨0, rfl, by decide +kernel, rfl⟩
theorem eL_loseOldest_1 : pd_gf mL_loseOldest 1 6 1 4 := ⟨16, _, ⟨by decide +kernel, rfl⟩, fL_16_6⟩
theorem eL_loseOldest_4 : pd_ic mL_loseOldest 4 0 5 := Or.inl ⟨by decide +kernel, rfl⟩
theorem eL_loseOldest_5 : pd_i mL_loseOldest 5 (.aaload) 1 6 := ⟨by decide +kernel, rfl⟩
theorem eL_loseOldest_6 : pd_as mL_loseOldest 6 1 7 := ⟨by decide, Or.inl ⟨1, rfl, by decide +kernel, rfl⟩⟩
theorem eL_loseOldest_7 : pd_ic mL_loseOldest 7 1 8 := Or.inl ⟨by decide +kernel, rfl⟩
theorem eL_loseOldest_8 : pd_is mL_loseOldest 8 2 9 := ⟨by decide, Or.inl ⟨2, rfl, by decide +kernel, rfl⟩⟩
theorem eL_loseOldest_9 : pd_il mL_loseOldest 9 2 10 := Or.inl ⟨2, rfl, by decide +kernel, rfl⟩
theorem eL_loseOldest_10 : pd_ic mL_loseOldest 10 10 12 := Or.inr (Or.inl ⟨⟨by decide +kernel, rfl⟩, by decide⟩)
theorem eL_loseOldest_12 : pd_b2 mL_loseOldest 12 .ge 15 35 := ⟨23, ⟨by decide +kernel, rfl⟩, by decide⟩
theorem eL_loseOldest_15 : pd_al mL_loseOldest 15 0 16 := Or.inl ⟨0, rfl, by decide +kernel, rfl⟩
theorem eL_loseOldest_16 : pd_gf mL_loseOldest 16 6 1 19 := ⟨16, _, ⟨by decide +kernel, rfl⟩, fL_16_6⟩
theorem eL_loseOldest_19 : pd_il mL_loseOldest 19 2 20 := Or.inl ⟨2, rfl, by decide +kernel, rfl⟩
theorem eL_loseOldest_20 : pd_ic mL_loseOldest 20 1 21 := Or.inl ⟨by decide +kernel, rfl⟩
theorem eL_loseOldest_21 : pd_i mL_loseOldest 21 (.isub) 1 22 := ⟨by decide +kernel, rfl⟩
theorem eL_loseOldest_22 : pd_al mL_loseOldest 22 0 23 := Or.inl ⟨0, rfl, by decide +kernel, rfl⟩
theorem eL_loseOldest_23 : pd_gf mL_loseOldest 23 6 1 26 := ⟨16, _, ⟨by decide +kernel, rfl⟩, fL_16_6⟩
theorem eL_loseOldest_26 : pd_il mL_loseOldest 26 2 27 := Or.inl ⟨2, rfl, by decide +kernel, rfl⟩
theorem eL_loseOldest_27 : pd_i mL_loseOldest 27 (.aaload) 1 28 := ⟨by decide +kernel, rfl⟩
theorem eL_loseOldest_28 : pd_i mL_loseOldest 28 (.aastore) 1 29 := ⟨by decide +kernel, rfl⟩
theorem eL_loseOldest_29 : pd_ii mL_loseOldest 29 2 1 32 := ⟨by decide, by decide +kernel, rfl⟩
theorem eL_loseOldest_32 : pd_go mL_loseOldest 32 9 := ⟨-23, by decide +kernel, by decide⟩
theorem eL_loseOldest_35 : pd_al mL_loseOldest 35 0 36 := Or.inl ⟨0, rfl, by decide +kernel, rfl⟩
theorem eL_loseOldest_36 : pd_gf mL_loseOldest 36 6 1 39 := ⟨16, _, ⟨by decide +kernel, rfl⟩, fL_16_6⟩
theorem eL_loseOldest_39 : pd_ic mL_loseOldest 39 9 41 := Or.inr (Or.inl ⟨⟨by decide +kernel, rfl⟩, by decide⟩)
theorem eL_loseOldest_41 : pd_al mL_loseOldest 41 1 42 := Or.inl ⟨1, rfl, by decide +kernel, rfl⟩
theorem eL_loseOldest_42 : pd_i mL_loseOldest 42 (.aastore) 1 43 := ⟨by decide +kernel, rfl⟩
theorem eL_loseOldest_43 : pd_al mL_loseOldest 43 0 44 := Or.inl ⟨0, rfl, by decide +kernel, rfl⟩
theorem eL_loseOldest_44 : pd_ic mL_loseOldest 44 9 46 := Or.inr (Or.inl ⟨⟨by decide +kernel, rfl⟩, by decide⟩)
theorem eL_loseOldest_46 : pd_pf mL_loseOldest 46 6 2 .int 49 := ⟨24, ⟨by decide +kernel, rfl⟩, fL_24_6, Or.inl ⟨_, rfl⟩⟩
theorem eL_loseOldest_49 : pd_rd mL_loseOldest 49 none := (by decide +kernel : decode mL_loseOldest.2.1 49 = .ok (.return_, 1))
theorem eL_recall_0 : pd_al mL_recall 0 0 1 := Or.inl ⟨0, rfl, by decide +kernel, rfl⟩
theorem eL_recall_1 : pd_gf mL_recall 1 6 2 4 := ⟨24, _, ⟨by decide +kernel, rfl⟩, fL_24_6⟩
theorem eL_recall_4 : pd_b1 mL_recall 4 .le 7 33 := ⟨29, ⟨by decide +kernel, rfl⟩, by decide⟩
theorem eL_recall_7 : pd_al mL_recall 7 0 8 := Or.inl ⟨0, rfl, by decide +kernel, rfl⟩
theorem eL_recall_8 : pd_i mL_recall 8 (.dup) 1 9 := ⟨by decide +kernel, rfl⟩
theorem eL_recall_9 : pd_gf mL_recall 9 6 2 12 := ⟨24, _, ⟨by decide +kernel, rfl⟩, fL_24_6⟩
theorem eL_recall_12 : pd_ic mL_recall 12 1 13 := Or.inl ⟨by decide +kernel, rfl⟩
theorem eL_recall_13 : pd_i mL_recall 13 (.isub) 1 14 := ⟨by decide +kernel, rfl⟩
theorem eL_recall_14 : pd_pf mL_recall 14 6 2 .int 17 := ⟨24, ⟨by decide +kernel, rfl⟩, fL_24_6, Or.inl ⟨_, rfl⟩⟩
theorem eL_recall_17 : pd_al mL_recall 17 0 18 := Or.inl ⟨0, rfl, by decide +kernel, rfl⟩
theorem eL_recall_18 : pd_gf mL_recall 18 6 0 21 := ⟨10, _, ⟨by decide +kernel, rfl⟩, fL_10_6⟩
theorem eL_recall_21 : pd_al mL_recall 21 0 22 := Or.inl ⟨0, rfl, by decide +kernel, rfl⟩
theorem eL_recall_22 : pd_gf mL_recall 22 6 1 25 := ⟨16, _, ⟨by decide +kernel, rfl⟩, fL_16_6⟩
theorem eL_recall_25 : pd_al mL_recall 25 0 26 := Or.inl ⟨0, rfl, by decide +kernel, rfl⟩
theorem eL_recall_26 : pd_gf mL_recall 26 6 2 29 := ⟨24, _, ⟨by decide +kernel, rfl⟩, fL_24_6⟩
theorem eL_recall_29 : pd_i mL_recall 29 (.aaload) 1 30 := ⟨by decide +kernel, rfl⟩
theorem eL_recall_30 : pd_kv mL_recall 30 mS_copy 1 33 := ⟨31, ⟨by decide +kernel, rfl⟩, (pd_m 487 (by decide +kernel) (by decide +kernel)), (pd_m 488 (by decide +kernel) (by decide +kernel)), (pd_m 489 (by decide +kernel) (by decide +kernel)), kS_copy⟩
theorem eL_recall_33 : pd_rd mL_recall 33 none := (by decide +kernel : decode mL_recall.2.1 33 = .ok (.return_, 1))
theorem eL_copy_0 : pd_al mL_copy 0 0 1 := Or.inl ⟨0, rfl, by decide +kernel, rfl⟩
theorem eL_copy_1 : pd_gf mL_copy 1 6 0 4 := ⟨10, _, ⟨by decide +kernel, rfl⟩, fL_10_6⟩
theorem eL_copy_4 : pd_al mL_copy 4 1 5 := Or.inl ⟨1, rfl, by decide +kernel, rfl⟩
theorem eL_copy_5 : pd_gf mL_copy 5 6 0 8 := ⟨10, _, ⟨by decide +kernel, rfl⟩, fL_10_6⟩
theorem eL_copy_8 : pd_kv mL_copy 8 mS_copy 1 11 := ⟨31, ⟨by decide +kernel, rfl⟩, (pd_m 487 (by decide +kernel) (by decide +kernel)), (pd_m 488 (by decide +kernel) (by decide +kernel)), (pd_m 489 (by decide +kernel) (by decide +kernel)), kS_copy⟩
theorem eL_copy_11 : pd_al mL_copy 11 0 12 := Or.inl ⟨0, rfl, by decide +kernel, rfl⟩
theorem eL_copy_12 : pd_al mL_copy 12 1 13 := Or.inl ⟨1, rfl, by decide +kernel, rfl⟩
theorem eL_copy_13 : pd_gf mL_copy 13 6 2 16 := ⟨24, _, ⟨by decide +kernel, rfl⟩, fL_24_6⟩
theorem eL_copy_16 : pd_pf mL_copy 16 6 2 .int 19 := ⟨24, ⟨by decide +kernel, rfl⟩, fL_24_6, Or.inl ⟨_, rfl⟩⟩
theorem eL_copy_19 : pd_ic mL_copy 19 0 20 := Or.inl ⟨by decide +kernel, rfl⟩
theorem eL_copy_20 : pd_is mL_copy 20 2 21 := ⟨by decide, Or.inl ⟨2, rfl, by decide +kernel, rfl⟩⟩
theorem eL_copy_21 : pd_il mL_copy 21 2 22 := Or.inl ⟨2, rfl, by decide +kernel, rfl⟩
theorem eL_copy_22 : pd_al mL_copy 22 0 23 := Or.inl ⟨0, rfl, by decide +kernel, rfl⟩
theorem eL_copy_23 : pd_gf mL_copy 23 6 2 26 := ⟨24, _, ⟨by decide +kernel, rfl⟩, fL_24_6⟩
theorem eL_copy_26 : pd_b2 mL_copy 26 .ge 29 50 := ⟨24, ⟨by decide +kernel, rfl⟩, by decide⟩
theorem eL_copy_29 : pd_al mL_copy 29 0 30 := Or.inl ⟨0, rfl, by decide +kernel, rfl⟩
theorem eL_copy_30 : pd_gf mL_copy 30 6 1 33 := ⟨16, _, ⟨by decide +kernel, rfl⟩, fL_16_6⟩
theorem eL_copy_33 : pd_il mL_copy 33 2 34 := Or.inl ⟨2, rfl, by decide +kernel, rfl⟩
theorem eL_copy_34 : pd_i mL_copy 34 (.aaload) 1 35 := ⟨by decide +kernel, rfl⟩
theorem eL_copy_35 : pd_al mL_copy 35 1 36 := Or.inl ⟨1, rfl, by decide +kernel, rfl⟩
theorem eL_copy_36 : pd_gf mL_copy 36 6 1 39 := ⟨16, _, ⟨by decide +kernel, rfl⟩, fL_16_6⟩
theorem eL_copy_39 : pd_il mL_copy 39 2 40 := Or.inl ⟨2, rfl, by decide +kernel, rfl⟩
theorem eL_copy_40 : pd_i mL_copy 40 (.aaload) 1 41 := ⟨by decide +kernel, rfl⟩
theorem eL_copy_41 : pd_kv mL_copy 41 mS_copy 1 44 := ⟨31, ⟨by decide +kernel, rfl⟩, (pd_m 487 (by decide +kernel) (by decide +kernel)), (pd_m 488 (by decide +kernel) (by decide +kernel)), (pd_m 489 (by decide +kernel) (by decide +kernel)), kS_copy⟩
theorem eL_copy_44 : pd_ii mL_copy 44 2 1 47 := ⟨by decide, by decide +kernel, rfl⟩
theorem eL_copy_47 : pd_go mL_copy 47 21 := ⟨-26, by decide +kernel, by decide⟩
theorem eL_copy_50 : pd_rd mL_copy 50 none := (by decide +kernel : decode mL_copy.2.1 50 = .ok (.return_, 1))
end
