section
-- ===== PART A: goes FIRST, ahead of the names: the tables' words, and 'selects' of the private methods out of them =====
/-- a private method of a class that the tables say can be made, by its rows of tables_1 -/
def lw_okq (q : MethodName × Nat) : Prop := (q.1.cls ≠ "java/lang/invoke/MethodHandle" ∧ q.1.cls ≠ "java/lang/invoke/VarHandle") ∧ Cond.instantiable q.1.cls q.2 ∈ tables_1 ∧ Cond.privateMethod q.1 ∈ tables_1 ∧ Cond.instanceMethod q.1 ∈ tables_1
theorem lw_p0 : lw_okq (⟨"PantryDoors$Text", "next", "()V"⟩, 8) := ⟨⟨by decide +kernel, by decide +kernel⟩, List.mem_of_getElem? (i := 25) (by decide +kernel), List.mem_of_getElem? (i := 331) (by decide +kernel), List.mem_of_getElem? (i := 332) (by decide +kernel)⟩
theorem lw_p1 : lw_okq (⟨"PantryDoors$Text", "nextLetters", "()V"⟩, 8) := ⟨⟨by decide +kernel, by decide +kernel⟩, List.mem_of_getElem? (i := 25) (by decide +kernel), List.mem_of_getElem? (i := 339) (by decide +kernel), List.mem_of_getElem? (i := 340) (by decide +kernel)⟩
theorem lw_p2 : lw_okq (⟨"PantryDoors$Text", "nextNumber", "()V"⟩, 8) := ⟨⟨by decide +kernel, by decide +kernel⟩, List.mem_of_getElem? (i := 25) (by decide +kernel), List.mem_of_getElem? (i := 346) (by decide +kernel), List.mem_of_getElem? (i := 347) (by decide +kernel)⟩
theorem lw_p3 : lw_okq (⟨"PantryDoors$Text", "readItem", "(LPantryDoors$House;)Z"⟩, 8) := ⟨⟨by decide +kernel, by decide +kernel⟩, List.mem_of_getElem? (i := 25) (by decide +kernel), List.mem_of_getElem? (i := 353) (by decide +kernel), List.mem_of_getElem? (i := 354) (by decide +kernel)⟩
theorem lw_p4 : lw_okq (⟨"PantryDoors$Text", "canBegin", "(LPantryDoors$House;I)Z"⟩, 8) := ⟨⟨by decide +kernel, by decide +kernel⟩, List.mem_of_getElem? (i := 25) (by decide +kernel), List.mem_of_getElem? (i := 357) (by decide +kernel), List.mem_of_getElem? (i := 358) (by decide +kernel)⟩
theorem lw_p5 : lw_okq (⟨"PantryDoors$Text", "put", "(LPantryDoors$House;I)V"⟩, 8) := ⟨⟨by decide +kernel, by decide +kernel⟩, List.mem_of_getElem? (i := 25) (by decide +kernel), List.mem_of_getElem? (i := 370) (by decide +kernel), List.mem_of_getElem? (i := 371) (by decide +kernel)⟩
theorem lw_p6 : lw_okq (⟨"PantryDoors$Text", "putGood", "(LPantryDoors$House;)V"⟩, 8) := ⟨⟨by decide +kernel, by decide +kernel⟩, List.mem_of_getElem? (i := 25) (by decide +kernel), List.mem_of_getElem? (i := 374) (by decide +kernel), List.mem_of_getElem? (i := 375) (by decide +kernel)⟩
theorem lw_p7 : lw_okq (⟨"PantryDoors$Text", "putDoor", "(LPantryDoors$House;)V"⟩, 8) := ⟨⟨by decide +kernel, by decide +kernel⟩, List.mem_of_getElem? (i := 25) (by decide +kernel), List.mem_of_getElem? (i := 378) (by decide +kernel), List.mem_of_getElem? (i := 379) (by decide +kernel)⟩
theorem lw_p8 : lw_okq (⟨"PantryDoors$Life", "loseOldest", "()V"⟩, 3) := ⟨⟨by decide +kernel, by decide +kernel⟩, List.mem_of_getElem? (i := 59) (by decide +kernel), List.mem_of_getElem? (i := 439) (by decide +kernel), List.mem_of_getElem? (i := 440) (by decide +kernel)⟩
theorem lw_p9 : lw_okq (⟨"PantryDoors", "firstLack", "()I"⟩, 15) := ⟨⟨by decide +kernel, by decide +kernel⟩, List.mem_of_getElem? (i := 17) (by decide +kernel), List.mem_of_getElem? (i := 492) (by decide +kernel), List.mem_of_getElem? (i := 493) (by decide +kernel)⟩
theorem lw_p10 : lw_okq (⟨"PantryDoors", "steps", "(I)I"⟩, 15) := ⟨⟨by decide +kernel, by decide +kernel⟩, List.mem_of_getElem? (i := 17) (by decide +kernel), List.mem_of_getElem? (i := 502) (by decide +kernel), List.mem_of_getElem? (i := 503) (by decide +kernel)⟩
theorem lw_p11 : lw_okq (⟨"PantryDoors", "meetings", "(I)I"⟩, 15) := ⟨⟨by decide +kernel, by decide +kernel⟩, List.mem_of_getElem? (i := 17) (by decide +kernel), List.mem_of_getElem? (i := 506) (by decide +kernel), List.mem_of_getElem? (i := 507) (by decide +kernel)⟩
theorem lw_p12 : lw_okq (⟨"PantryDoors$Plan", "growTree", "(LPantryDoors$House;LPantryDoors$State;I)V"⟩, 6) := ⟨⟨by decide +kernel, by decide +kernel⟩, List.mem_of_getElem? (i := 111) (by decide +kernel), List.mem_of_getElem? (i := 525) (by decide +kernel), List.mem_of_getElem? (i := 526) (by decide +kernel)⟩
theorem lw_p13 : lw_okq (⟨"PantryDoors$Plan", "reckonWanted", "(I)V"⟩, 6) := ⟨⟨by decide +kernel, by decide +kernel⟩, List.mem_of_getElem? (i := 111) (by decide +kernel), List.mem_of_getElem? (i := 531) (by decide +kernel), List.mem_of_getElem? (i := 532) (by decide +kernel)⟩
theorem lw_p14 : lw_okq (⟨"PantryDoors$Plan", "allWanted", "()I"⟩, 6) := ⟨⟨by decide +kernel, by decide +kernel⟩, List.mem_of_getElem? (i := 111) (by decide +kernel), List.mem_of_getElem? (i := 538) (by decide +kernel), List.mem_of_getElem? (i := 539) (by decide +kernel)⟩
theorem lw_p15 : lw_okq (⟨"PantryDoors$Plan", "descend", "(I)V"⟩, 6) := ⟨⟨by decide +kernel, by decide +kernel⟩, List.mem_of_getElem? (i := 111) (by decide +kernel), List.mem_of_getElem? (i := 542) (by decide +kernel), List.mem_of_getElem? (i := 543) (by decide +kernel)⟩
def lw_privs_1 : List (MethodName × Nat) := [(⟨"PantryDoors$Text", "next", "()V"⟩, 8), (⟨"PantryDoors$Text", "nextLetters", "()V"⟩, 8), (⟨"PantryDoors$Text", "nextNumber", "()V"⟩, 8), (⟨"PantryDoors$Text", "readItem", "(LPantryDoors$House;)Z"⟩, 8), (⟨"PantryDoors$Text", "canBegin", "(LPantryDoors$House;I)Z"⟩, 8), (⟨"PantryDoors$Text", "put", "(LPantryDoors$House;I)V"⟩, 8), (⟨"PantryDoors$Text", "putGood", "(LPantryDoors$House;)V"⟩, 8), (⟨"PantryDoors$Text", "putDoor", "(LPantryDoors$House;)V"⟩, 8), (⟨"PantryDoors$Life", "loseOldest", "()V"⟩, 3), (⟨"PantryDoors", "firstLack", "()I"⟩, 15), (⟨"PantryDoors", "steps", "(I)I"⟩, 15), (⟨"PantryDoors", "meetings", "(I)I"⟩, 15), (⟨"PantryDoors$Plan", "growTree", "(LPantryDoors$House;LPantryDoors$State;I)V"⟩, 6), (⟨"PantryDoors$Plan", "reckonWanted", "(I)V"⟩, 6), (⟨"PantryDoors$Plan", "allWanted", "()I"⟩, 6), (⟨"PantryDoors$Plan", "descend", "(I)V"⟩, 6)]
theorem lw_r1 : ∀ q ∈ lw_privs_1, lw_okq q := List.forall_mem_cons.mpr ⟨lw_p0, List.forall_mem_cons.mpr ⟨lw_p1, List.forall_mem_cons.mpr ⟨lw_p2, List.forall_mem_cons.mpr ⟨lw_p3, List.forall_mem_cons.mpr ⟨lw_p4, List.forall_mem_cons.mpr ⟨lw_p5, List.forall_mem_cons.mpr ⟨lw_p6, List.forall_mem_cons.mpr ⟨lw_p7, List.forall_mem_cons.mpr ⟨lw_p8, List.forall_mem_cons.mpr ⟨lw_p9, List.forall_mem_cons.mpr ⟨lw_p10, List.forall_mem_cons.mpr ⟨lw_p11, List.forall_mem_cons.mpr ⟨lw_p12, List.forall_mem_cons.mpr ⟨lw_p13, List.forall_mem_cons.mpr ⟨lw_p14, List.forall_mem_cons.mpr ⟨lw_p15, fun _ h => absurd h List.not_mem_nil⟩⟩⟩⟩⟩⟩⟩⟩⟩⟩⟩⟩⟩⟩⟩⟩
theorem lw_p16 : lw_okq (⟨"PantryDoors$Plan", "ascend", "()V"⟩, 6) := ⟨⟨by decide +kernel, by decide +kernel⟩, List.mem_of_getElem? (i := 111) (by decide +kernel), List.mem_of_getElem? (i := 546) (by decide +kernel), List.mem_of_getElem? (i := 547) (by decide +kernel)⟩
theorem lw_p17 : lw_okq (⟨"PantryDoors", "reckonLoads", "(I)V"⟩, 15) := ⟨⟨by decide +kernel, by decide +kernel⟩, List.mem_of_getElem? (i := 17) (by decide +kernel), List.mem_of_getElem? (i := 554) (by decide +kernel), List.mem_of_getElem? (i := 555) (by decide +kernel)⟩
theorem lw_p18 : lw_okq (⟨"PantryDoors", "worthWith", "(III)I"⟩, 15) := ⟨⟨by decide +kernel, by decide +kernel⟩, List.mem_of_getElem? (i := 17) (by decide +kernel), List.mem_of_getElem? (i := 558) (by decide +kernel), List.mem_of_getElem? (i := 559) (by decide +kernel)⟩
theorem lw_p19 : lw_okq (⟨"PantryDoors", "leastCarried", "(II)I"⟩, 15) := ⟨⟨by decide +kernel, by decide +kernel⟩, List.mem_of_getElem? (i := 17) (by decide +kernel), List.mem_of_getElem? (i := 563) (by decide +kernel), List.mem_of_getElem? (i := 564) (by decide +kernel)⟩
theorem lw_p20 : lw_okq (⟨"PantryDoors", "isAsSeen", "(I)Z"⟩, 15) := ⟨⟨by decide +kernel, by decide +kernel⟩, List.mem_of_getElem? (i := 17) (by decide +kernel), List.mem_of_getElem? (i := 586) (by decide +kernel), List.mem_of_getElem? (i := 587) (by decide +kernel)⟩
theorem lw_p21 : lw_okq (⟨"PantryDoors", "mostAlike", "(II)I"⟩, 15) := ⟨⟨by decide +kernel, by decide +kernel⟩, List.mem_of_getElem? (i := 17) (by decide +kernel), List.mem_of_getElem? (i := 595) (by decide +kernel), List.mem_of_getElem? (i := 596) (by decide +kernel)⟩
theorem lw_p22 : lw_okq (⟨"PantryDoors", "alike", "(III)I"⟩, 15) := ⟨⟨by decide +kernel, by decide +kernel⟩, List.mem_of_getElem? (i := 17) (by decide +kernel), List.mem_of_getElem? (i := 599) (by decide +kernel), List.mem_of_getElem? (i := 600) (by decide +kernel)⟩
theorem lw_p23 : lw_okq (⟨"PantryDoors", "isAsGave", "(II)Z"⟩, 15) := ⟨⟨by decide +kernel, by decide +kernel⟩, List.mem_of_getElem? (i := 17) (by decide +kernel), List.mem_of_getElem? (i := 611) (by decide +kernel), List.mem_of_getElem? (i := 612) (by decide +kernel)⟩
theorem lw_p24 : lw_okq (⟨"PantryDoorsModel", "read", "()V"⟩, 32) := ⟨⟨by decide +kernel, by decide +kernel⟩, List.mem_of_getElem? (i := 675) (by decide +kernel), List.mem_of_getElem? (i := 794) (by decide +kernel), List.mem_of_getElem? (i := 795) (by decide +kernel)⟩
theorem lw_p25 : lw_okq (⟨"PantryDoorsModel", "step", "()V"⟩, 32) := ⟨⟨by decide +kernel, by decide +kernel⟩, List.mem_of_getElem? (i := 675) (by decide +kernel), List.mem_of_getElem? (i := 798) (by decide +kernel), List.mem_of_getElem? (i := 799) (by decide +kernel)⟩
theorem lw_p26 : lw_okq (⟨"PantryDoorsModel", "here", "()I"⟩, 32) := ⟨⟨by decide +kernel, by decide +kernel⟩, List.mem_of_getElem? (i := 675) (by decide +kernel), List.mem_of_getElem? (i := 802) (by decide +kernel), List.mem_of_getElem? (i := 803) (by decide +kernel)⟩
theorem lw_p27 : lw_okq (⟨"PantryDoorsModel", "may", "(I)Z"⟩, 32) := ⟨⟨by decide +kernel, by decide +kernel⟩, List.mem_of_getElem? (i := 675) (by decide +kernel), List.mem_of_getElem? (i := 806) (by decide +kernel), List.mem_of_getElem? (i := 807) (by decide +kernel)⟩
theorem lw_p28 : lw_okq (⟨"PantryDoorsModel", "due", "(Z)V"⟩, 32) := ⟨⟨by decide +kernel, by decide +kernel⟩, List.mem_of_getElem? (i := 675) (by decide +kernel), List.mem_of_getElem? (i := 810) (by decide +kernel), List.mem_of_getElem? (i := 811) (by decide +kernel)⟩
theorem lw_p29 : lw_okq (⟨"PantryDoorsModel", "item", "(I)V"⟩, 32) := ⟨⟨by decide +kernel, by decide +kernel⟩, List.mem_of_getElem? (i := 675) (by decide +kernel), List.mem_of_getElem? (i := 814) (by decide +kernel), List.mem_of_getElem? (i := 815) (by decide +kernel)⟩
theorem lw_p30 : lw_okq (⟨"PantryDoorsModel", "readGood", "()V"⟩, 32) := ⟨⟨by decide +kernel, by decide +kernel⟩, List.mem_of_getElem? (i := 675) (by decide +kernel), List.mem_of_getElem? (i := 818) (by decide +kernel), List.mem_of_getElem? (i := 819) (by decide +kernel)⟩
theorem lw_p31 : lw_okq (⟨"PantryDoorsModel", "number", "(II)I"⟩, 32) := ⟨⟨by decide +kernel, by decide +kernel⟩, List.mem_of_getElem? (i := 675) (by decide +kernel), List.mem_of_getElem? (i := 822) (by decide +kernel), List.mem_of_getElem? (i := 823) (by decide +kernel)⟩
def lw_privs_2 : List (MethodName × Nat) := [(⟨"PantryDoors$Plan", "ascend", "()V"⟩, 6), (⟨"PantryDoors", "reckonLoads", "(I)V"⟩, 15), (⟨"PantryDoors", "worthWith", "(III)I"⟩, 15), (⟨"PantryDoors", "leastCarried", "(II)I"⟩, 15), (⟨"PantryDoors", "isAsSeen", "(I)Z"⟩, 15), (⟨"PantryDoors", "mostAlike", "(II)I"⟩, 15), (⟨"PantryDoors", "alike", "(III)I"⟩, 15), (⟨"PantryDoors", "isAsGave", "(II)Z"⟩, 15), (⟨"PantryDoorsModel", "read", "()V"⟩, 32), (⟨"PantryDoorsModel", "step", "()V"⟩, 32), (⟨"PantryDoorsModel", "here", "()I"⟩, 32), (⟨"PantryDoorsModel", "may", "(I)Z"⟩, 32), (⟨"PantryDoorsModel", "due", "(Z)V"⟩, 32), (⟨"PantryDoorsModel", "item", "(I)V"⟩, 32), (⟨"PantryDoorsModel", "readGood", "()V"⟩, 32), (⟨"PantryDoorsModel", "number", "(II)I"⟩, 32)]
theorem lw_r2 : ∀ q ∈ lw_privs_2, lw_okq q := List.forall_mem_cons.mpr ⟨lw_p16, List.forall_mem_cons.mpr ⟨lw_p17, List.forall_mem_cons.mpr ⟨lw_p18, List.forall_mem_cons.mpr ⟨lw_p19, List.forall_mem_cons.mpr ⟨lw_p20, List.forall_mem_cons.mpr ⟨lw_p21, List.forall_mem_cons.mpr ⟨lw_p22, List.forall_mem_cons.mpr ⟨lw_p23, List.forall_mem_cons.mpr ⟨lw_p24, List.forall_mem_cons.mpr ⟨lw_p25, List.forall_mem_cons.mpr ⟨lw_p26, List.forall_mem_cons.mpr ⟨lw_p27, List.forall_mem_cons.mpr ⟨lw_p28, List.forall_mem_cons.mpr ⟨lw_p29, List.forall_mem_cons.mpr ⟨lw_p30, List.forall_mem_cons.mpr ⟨lw_p31, fun _ h => absurd h List.not_mem_nil⟩⟩⟩⟩⟩⟩⟩⟩⟩⟩⟩⟩⟩⟩⟩⟩
theorem lw_p32 : lw_okq (⟨"PantryDoorsModel", "readOf", "([I)V"⟩, 32) := ⟨⟨by decide +kernel, by decide +kernel⟩, List.mem_of_getElem? (i := 675) (by decide +kernel), List.mem_of_getElem? (i := 826) (by decide +kernel), List.mem_of_getElem? (i := 827) (by decide +kernel)⟩
theorem lw_p33 : lw_okq (⟨"PantryDoorsModel", "isGood", "(I)Z"⟩, 32) := ⟨⟨by decide +kernel, by decide +kernel⟩, List.mem_of_getElem? (i := 675) (by decide +kernel), List.mem_of_getElem? (i := 834) (by decide +kernel), List.mem_of_getElem? (i := 835) (by decide +kernel)⟩
theorem lw_p34 : lw_okq (⟨"PantryDoorsModel", "canTake", "([II)I"⟩, 32) := ⟨⟨by decide +kernel, by decide +kernel⟩, List.mem_of_getElem? (i := 675) (by decide +kernel), List.mem_of_getElem? (i := 838) (by decide +kernel), List.mem_of_getElem? (i := 839) (by decide +kernel)⟩
theorem lw_p35 : lw_okq (⟨"PantryDoorsModel", "opens", "([I)I"⟩, 32) := ⟨⟨by decide +kernel, by decide +kernel⟩, List.mem_of_getElem? (i := 675) (by decide +kernel), List.mem_of_getElem? (i := 842) (by decide +kernel), List.mem_of_getElem? (i := 843) (by decide +kernel)⟩
theorem lw_p36 : lw_okq (⟨"PantryDoorsModel", "givesOn", "(I)I"⟩, 32) := ⟨⟨by decide +kernel, by decide +kernel⟩, List.mem_of_getElem? (i := 675) (by decide +kernel), List.mem_of_getElem? (i := 846) (by decide +kernel), List.mem_of_getElem? (i := 847) (by decide +kernel)⟩
theorem lw_p37 : lw_okq (⟨"PantryDoorsModel", "know", "()V"⟩, 32) := ⟨⟨by decide +kernel, by decide +kernel⟩, List.mem_of_getElem? (i := 675) (by decide +kernel), List.mem_of_getElem? (i := 864) (by decide +kernel), List.mem_of_getElem? (i := 865) (by decide +kernel)⟩
theorem lw_p38 : lw_okq (⟨"PantryDoorsModel", "passOn", "([I)I"⟩, 32) := ⟨⟨by decide +kernel, by decide +kernel⟩, List.mem_of_getElem? (i := 675) (by decide +kernel), List.mem_of_getElem? (i := 868) (by decide +kernel), List.mem_of_getElem? (i := 869) (by decide +kernel)⟩
theorem lw_p39 : lw_okq (⟨"PantryDoorsModel", "takeOf", "([III)V"⟩, 32) := ⟨⟨by decide +kernel, by decide +kernel⟩, List.mem_of_getElem? (i := 675) (by decide +kernel), List.mem_of_getElem? (i := 879) (by decide +kernel), List.mem_of_getElem? (i := 880) (by decide +kernel)⟩
theorem lw_p40 : lw_okq (⟨"PantryDoorsModel", "firstHungry", "()I"⟩, 32) := ⟨⟨by decide +kernel, by decide +kernel⟩, List.mem_of_getElem? (i := 675) (by decide +kernel), List.mem_of_getElem? (i := 899) (by decide +kernel), List.mem_of_getElem? (i := 900) (by decide +kernel)⟩
theorem lw_p41 : lw_okq (⟨"PantryDoorsModel", "take", "()V"⟩, 32) := ⟨⟨by decide +kernel, by decide +kernel⟩, List.mem_of_getElem? (i := 675) (by decide +kernel), List.mem_of_getElem? (i := 903) (by decide +kernel), List.mem_of_getElem? (i := 904) (by decide +kernel)⟩
theorem lw_p42 : lw_okq (⟨"PantryDoorsModel", "takenBy", "(II)I"⟩, 32) := ⟨⟨by decide +kernel, by decide +kernel⟩, List.mem_of_getElem? (i := 675) (by decide +kernel), List.mem_of_getElem? (i := 919) (by decide +kernel), List.mem_of_getElem? (i := 920) (by decide +kernel)⟩
theorem lw_p43 : lw_okq (⟨"PantryDoorsModel", "tellMost", "()V"⟩, 32) := ⟨⟨by decide +kernel, by decide +kernel⟩, List.mem_of_getElem? (i := 675) (by decide +kernel), List.mem_of_getElem? (i := 927) (by decide +kernel), List.mem_of_getElem? (i := 928) (by decide +kernel)⟩
theorem lw_p44 : lw_okq (⟨"PantryDoorsModel", "storeOf", "(II)I"⟩, 32) := ⟨⟨by decide +kernel, by decide +kernel⟩, List.mem_of_getElem? (i := 675) (by decide +kernel), List.mem_of_getElem? (i := 939) (by decide +kernel), List.mem_of_getElem? (i := 940) (by decide +kernel)⟩
def lw_privs_3 : List (MethodName × Nat) := [(⟨"PantryDoorsModel", "readOf", "([I)V"⟩, 32), (⟨"PantryDoorsModel", "isGood", "(I)Z"⟩, 32), (⟨"PantryDoorsModel", "canTake", "([II)I"⟩, 32), (⟨"PantryDoorsModel", "opens", "([I)I"⟩, 32), (⟨"PantryDoorsModel", "givesOn", "(I)I"⟩, 32), (⟨"PantryDoorsModel", "know", "()V"⟩, 32), (⟨"PantryDoorsModel", "passOn", "([I)I"⟩, 32), (⟨"PantryDoorsModel", "takeOf", "([III)V"⟩, 32), (⟨"PantryDoorsModel", "firstHungry", "()I"⟩, 32), (⟨"PantryDoorsModel", "take", "()V"⟩, 32), (⟨"PantryDoorsModel", "takenBy", "(II)I"⟩, 32), (⟨"PantryDoorsModel", "tellMost", "()V"⟩, 32), (⟨"PantryDoorsModel", "storeOf", "(II)I"⟩, 32)]
theorem lw_r3 : ∀ q ∈ lw_privs_3, lw_okq q := List.forall_mem_cons.mpr ⟨lw_p32, List.forall_mem_cons.mpr ⟨lw_p33, List.forall_mem_cons.mpr ⟨lw_p34, List.forall_mem_cons.mpr ⟨lw_p35, List.forall_mem_cons.mpr ⟨lw_p36, List.forall_mem_cons.mpr ⟨lw_p37, List.forall_mem_cons.mpr ⟨lw_p38, List.forall_mem_cons.mpr ⟨lw_p39, List.forall_mem_cons.mpr ⟨lw_p40, List.forall_mem_cons.mpr ⟨lw_p41, List.forall_mem_cons.mpr ⟨lw_p42, List.forall_mem_cons.mpr ⟨lw_p43, List.forall_mem_cons.mpr ⟨lw_p44, fun _ h => absurd h List.not_mem_nil⟩⟩⟩⟩⟩⟩⟩⟩⟩⟩⟩⟩⟩
def lw_privs : List (MethodName × Nat) := lw_privs_1 ++ (lw_privs_2 ++ (lw_privs_3))
def lw_tbl : List Cond := k2_sels lw_privs ++ tables_1
theorem lw_privs_ok : ∀ q ∈ lw_privs, lw_okq q := by
  show ∀ q ∈ lw_privs_1 ++ (lw_privs_2 ++ (lw_privs_3)), lw_okq q
  exact List.forall_mem_append.mpr ⟨lw_r1, List.forall_mem_append.mpr ⟨lw_r2, lw_r3⟩⟩
def RX0 : String := "PantryDoors$Candle"
def TX0 : u_T := fun k => match k with
  | _ => ("PantryDoors$Good", "traced", "J", false)
def tyX0 : Nat → FieldType := fun k => match k with
  | _ => .long
abbrev wsX00 : List Cond := u_ws RX0 TX0 1
theorem nmX0 : ∀ a, a < 1 → ∀ b, b < 1 → a ≠ b → (TX0 a).2.1 ≠ (TX0 b).2.1 := by decide +kernel
theorem tyX0_ok : ∀ k, k < 1 → parseFieldDescriptor (TX0 k).2.2.1 = some (tyX0 k) := by decide +kernel
def RX1 : String := "PantryDoors$Cone"
def TX1 : u_T := fun k => match k with
  | _ => ("PantryDoors$Good", "traced", "J", false)
def tyX1 : Nat → FieldType := fun k => match k with
  | _ => .long
abbrev wsX10 : List Cond := u_ws RX1 TX1 1
theorem nmX1 : ∀ a, a < 1 → ∀ b, b < 1 → a ≠ b → (TX1 a).2.1 ≠ (TX1 b).2.1 := by decide +kernel
theorem tyX1_ok : ∀ k, k < 1 → parseFieldDescriptor (TX1 k).2.2.1 = some (tyX1 k) := by decide +kernel
def RX2 : String := "PantryDoors$Good"
def TX2 : u_T := fun k => match k with
  | _ => ("PantryDoors$Good", "traced", "J", false)
def tyX2 : Nat → FieldType := fun k => match k with
  | _ => .long
abbrev wsX20 : List Cond := u_ws RX2 TX2 1
theorem nmX2 : ∀ a, a < 1 → ∀ b, b < 1 → a ≠ b → (TX2 a).2.1 ≠ (TX2 b).2.1 := by decide +kernel
theorem tyX2_ok : ∀ k, k < 1 → parseFieldDescriptor (TX2 k).2.2.1 = some (tyX2 k) := by decide +kernel
def RX3 : String := "PantryDoors$Ham"
def TX3 : u_T := fun k => match k with
  | _ => ("PantryDoors$Good", "traced", "J", false)
def tyX3 : Nat → FieldType := fun k => match k with
  | _ => .long
abbrev wsX30 : List Cond := u_ws RX3 TX3 1
theorem nmX3 : ∀ a, a < 1 → ∀ b, b < 1 → a ≠ b → (TX3 a).2.1 ≠ (TX3 b).2.1 := by decide +kernel
theorem tyX3_ok : ∀ k, k < 1 → parseFieldDescriptor (TX3 k).2.2.1 = some (tyX3 k) := by decide +kernel
def RX4 : String := "PantryDoors$House"
def TX4 : u_T := fun k => match k with
  | 0 => ("PantryDoors$House", "first", "[I", true)
  | 1 => ("PantryDoors$House", "use", "[I", true)
  | 2 => ("PantryDoors$House", "weight", "[I", true)
  | 3 => ("PantryDoors$House", "worth", "[I", true)
  | 4 => ("PantryDoors$House", "brought", "[I", true)
  | 5 => ("PantryDoors$House", "missed", "[I", true)
  | 6 => ("PantryDoors$House", "stores", "[I", true)
  | 7 => ("PantryDoors$House", "goods", "I", false)
  | 8 => ("PantryDoors$House", "every", "I", false)
  | _ => ("PantryDoors$House", "back", "I", false)
def tyX4 : Nat → FieldType := fun k => match k with
  | 0 => .array .int
  | 1 => .array .int
  | 2 => .array .int
  | 3 => .array .int
  | 4 => .array .int
  | 5 => .array .int
  | 6 => .array .int
  | 7 => .int
  | 8 => .int
  | _ => .int
abbrev wsX40 : List Cond := u_ws RX4 TX4 10
theorem nmX4 : ∀ a, a < 10 → ∀ b, b < 10 → a ≠ b → (TX4 a).2.1 ≠ (TX4 b).2.1 := by decide +kernel
theorem tyX4_ok : ∀ k, k < 10 → parseFieldDescriptor (TX4 k).2.2.1 = some (tyX4 k) := by decide +kernel
def RX5 : String := "PantryDoors$Jelly"
def TX5 : u_T := fun k => match k with
  | _ => ("PantryDoors$Good", "traced", "J", false)
def tyX5 : Nat → FieldType := fun k => match k with
  | _ => .long
abbrev wsX50 : List Cond := u_ws RX5 TX5 1
theorem nmX5 : ∀ a, a < 1 → ∀ b, b < 1 → a ≠ b → (TX5 a).2.1 ≠ (TX5 b).2.1 := by decide +kernel
theorem tyX5_ok : ∀ k, k < 1 → parseFieldDescriptor (TX5 k).2.2.1 = some (tyX5 k) := by decide +kernel
def RX6 : String := "PantryDoors$Life"
def TX6 : u_T := fun k => match k with
  | 0 => ("PantryDoors$Life", "now", "LPantryDoors$State;", true)
  | 1 => ("PantryDoors$Life", "past", "[LPantryDoors$State;", true)
  | _ => ("PantryDoors$Life", "known", "I", false)
def tyX6 : Nat → FieldType := fun k => match k with
  | 0 => .object "PantryDoors$State"
  | 1 => .array (.object "PantryDoors$State")
  | _ => .int
abbrev wsX60 : List Cond := u_ws RX6 TX6 3
theorem nmX6 : ∀ a, a < 3 → ∀ b, b < 3 → a ≠ b → (TX6 a).2.1 ≠ (TX6 b).2.1 := by decide +kernel
theorem tyX6_ok : ∀ k, k < 3 → parseFieldDescriptor (TX6 k).2.2.1 = some (tyX6 k) := by decide +kernel
def RX7 : String := "PantryDoors$Plan"
def TX7 : u_T := fun k => match k with
  | 0 => ("PantryDoors$Plan", "choice", "[I", true)
  | 1 => ("PantryDoors$Plan", "length", "I", false)
  | 2 => ("PantryDoors$Plan", "there", "[I", true)
  | 3 => ("PantryDoors$Plan", "wanted", "[I", true)
  | 4 => ("PantryDoors$Plan", "node", "[I", true)
  | _ => ("PantryDoors$Plan", "goods", "I", false)
def tyX7 : Nat → FieldType := fun k => match k with
  | 0 => .array .int
  | 1 => .int
  | 2 => .array .int
  | 3 => .array .int
  | 4 => .array .int
  | _ => .int
abbrev wsX70 : List Cond := u_ws RX7 TX7 6
theorem nmX7 : ∀ a, a < 6 → ∀ b, b < 6 → a ≠ b → (TX7 a).2.1 ≠ (TX7 b).2.1 := by decide +kernel
theorem tyX7_ok : ∀ k, k < 6 → parseFieldDescriptor (TX7 k).2.2.1 = some (tyX7 k) := by decide +kernel
def RX8 : String := "PantryDoors$State"
def TX8 : u_T := fun k => match k with
  | 0 => ("PantryDoors$State", "there", "[I", true)
  | 1 => ("PantryDoors$State", "lacked", "[I", true)
  | 2 => ("PantryDoors$State", "taken", "[I", true)
  | 3 => ("PantryDoors$State", "day", "I", false)
  | _ => ("PantryDoors$State", "held", "Z", false)
def tyX8 : Nat → FieldType := fun k => match k with
  | 0 => .array .int
  | 1 => .array .int
  | 2 => .array .int
  | 3 => .int
  | _ => .boolean
abbrev wsX80 : List Cond := u_ws RX8 TX8 5
theorem nmX8 : ∀ a, a < 5 → ∀ b, b < 5 → a ≠ b → (TX8 a).2.1 ≠ (TX8 b).2.1 := by decide +kernel
theorem tyX8_ok : ∀ k, k < 5 → parseFieldDescriptor (TX8 k).2.2.1 = some (tyX8 k) := by decide +kernel
def RX9 : String := "PantryDoors$Sugar"
def TX9 : u_T := fun k => match k with
  | _ => ("PantryDoors$Good", "traced", "J", false)
def tyX9 : Nat → FieldType := fun k => match k with
  | _ => .long
abbrev wsX90 : List Cond := u_ws RX9 TX9 1
theorem nmX9 : ∀ a, a < 1 → ∀ b, b < 1 → a ≠ b → (TX9 a).2.1 ≠ (TX9 b).2.1 := by decide +kernel
theorem tyX9_ok : ∀ k, k < 1 → parseFieldDescriptor (TX9 k).2.2.1 = some (tyX9 k) := by decide +kernel
def RX10 : String := "PantryDoors$Text"
def TX10 : u_T := fun k => match k with
  | 0 => ("PantryDoors$Text", "bytes", "[I", true)
  | 1 => ("PantryDoors$Text", "length", "I", false)
  | 2 => ("PantryDoors$Text", "numbers", "[I", true)
  | 3 => ("PantryDoors$Text", "at", "I", false)
  | 4 => ("PantryDoors$Text", "place", "I", false)
  | 5 => ("PantryDoors$Text", "token", "I", false)
  | 6 => ("PantryDoors$Text", "value", "I", false)
  | _ => ("PantryDoors$Text", "doorTold", "Z", false)
def tyX10 : Nat → FieldType := fun k => match k with
  | 0 => .array .int
  | 1 => .int
  | 2 => .array .int
  | 3 => .int
  | 4 => .int
  | 5 => .int
  | 6 => .int
  | _ => .boolean
abbrev wsX100 : List Cond := u_ws RX10 TX10 8
theorem nmX10 : ∀ a, a < 8 → ∀ b, b < 8 → a ≠ b → (TX10 a).2.1 ≠ (TX10 b).2.1 := by decide +kernel
theorem tyX10_ok : ∀ k, k < 8 → parseFieldDescriptor (TX10 k).2.2.1 = some (tyX10 k) := by decide +kernel
def RX11 : String := "PantryDoors"
def TX11 : u_T := fun k => match k with
  | 0 => ("PantryDoors", "text", "LPantryDoors$Text;", true)
  | 1 => ("PantryDoors", "life", "LPantryDoors$Life;", true)
  | 2 => ("PantryDoors", "images", "[LPantryDoors$Life;", true)
  | 3 => ("PantryDoors", "kept", "[Z", true)
  | 4 => ("PantryDoors", "seenGood", "[I", true)
  | 5 => ("PantryDoors", "seenThere", "[I", true)
  | 6 => ("PantryDoors", "gaveDay", "[I", true)
  | 7 => ("PantryDoors", "gaveTo", "[I", true)
  | 8 => ("PantryDoors", "best", "[I", true)
  | 9 => ("PantryDoors", "plan", "LPantryDoors$Plan;", true)
  | 10 => ("PantryDoors", "kinds", "[LPantryDoors$Good;", true)
  | 11 => ("PantryDoors", "told", "LPantryDoors$House;", false)
  | 12 => ("PantryDoors", "draft", "LPantryDoors$House;", false)
  | 13 => ("PantryDoors", "seen", "I", false)
  | _ => ("PantryDoors", "gaves", "I", false)
def tyX11 : Nat → FieldType := fun k => match k with
  | 0 => .object "PantryDoors$Text"
  | 1 => .object "PantryDoors$Life"
  | 2 => .array (.object "PantryDoors$Life")
  | 3 => .array .boolean
  | 4 => .array .int
  | 5 => .array .int
  | 6 => .array .int
  | 7 => .array .int
  | 8 => .array .int
  | 9 => .object "PantryDoors$Plan"
  | 10 => .array (.object "PantryDoors$Good")
  | 11 => .object "PantryDoors$House"
  | 12 => .object "PantryDoors$House"
  | 13 => .int
  | _ => .int
abbrev wsX110 : List Cond := u_ws RX11 TX11 15
theorem nmX11 : ∀ a, a < 15 → ∀ b, b < 15 → a ≠ b → (TX11 a).2.1 ≠ (TX11 b).2.1 := by decide +kernel
theorem tyX11_ok : ∀ k, k < 15 → parseFieldDescriptor (TX11 k).2.2.1 = some (tyX11 k) := by decide +kernel
def RX12 : String := "PantryDoorsModel"
def TX12 : u_T := fun k => match k with
  | 0 => ("PantryDoorsModel", "text", "[B", true)
  | 1 => ("PantryDoorsModel", "typed", "I", false)
  | 2 => ("PantryDoorsModel", "door", "[I", true)
  | 3 => ("PantryDoorsModel", "goods", "[I", true)
  | 4 => ("PantryDoorsModel", "first", "[I", true)
  | 5 => ("PantryDoorsModel", "use", "[I", true)
  | 6 => ("PantryDoorsModel", "weight", "[I", true)
  | 7 => ("PantryDoorsModel", "worth", "[I", true)
  | 8 => ("PantryDoorsModel", "brought", "[I", true)
  | 9 => ("PantryDoorsModel", "missed", "[I", true)
  | 10 => ("PantryDoorsModel", "at", "I", false)
  | 11 => ("PantryDoorsModel", "place", "I", false)
  | 12 => ("PantryDoorsModel", "sort", "I", false)
  | 13 => ("PantryDoorsModel", "value", "I", false)
  | 14 => ("PantryDoorsModel", "isWrong", "Z", false)
  | 15 => ("PantryDoorsModel", "items", "I", false)
  | 16 => ("PantryDoorsModel", "isHung", "Z", false)
  | 17 => ("PantryDoorsModel", "now", "[I", true)
  | 18 => ("PantryDoorsModel", "known", "[I", true)
  | 19 => ("PantryDoorsModel", "before", "[I", true)
  | 20 => ("PantryDoorsModel", "store", "[I", true)
  | 21 => ("PantryDoorsModel", "isKept", "[Z", true)
  | 22 => ("PantryDoorsModel", "tried", "[I", true)
  | 23 => ("PantryDoorsModel", "most", "[I", true)
  | 24 => ("PantryDoorsModel", "sightOf", "[I", true)
  | 25 => ("PantryDoorsModel", "sightIs", "[I", true)
  | 26 => ("PantryDoorsModel", "sights", "I", false)
  | 27 => ("PantryDoorsModel", "markOf", "[I", true)
  | 28 => ("PantryDoorsModel", "markTo", "[I", true)
  | 29 => ("PantryDoorsModel", "marks", "I", false)
  | 30 => ("PantryDoorsModel", "stores", "[I", true)
  | _ => ("PantryDoorsModel", "trace", "J", false)
def tyX12 : Nat → FieldType := fun k => match k with
  | 0 => .array .byte
  | 1 => .int
  | 2 => .array .int
  | 3 => .array .int
  | 4 => .array .int
  | 5 => .array .int
  | 6 => .array .int
  | 7 => .array .int
  | 8 => .array .int
  | 9 => .array .int
  | 10 => .int
  | 11 => .int
  | 12 => .int
  | 13 => .int
  | 14 => .boolean
  | 15 => .int
  | 16 => .boolean
  | 17 => .array .int
  | 18 => .array .int
  | 19 => .array .int
  | 20 => .array .int
  | 21 => .array .boolean
  | 22 => .array .int
  | 23 => .array .int
  | 24 => .array .int
  | 25 => .array .int
  | 26 => .int
  | 27 => .array .int
  | 28 => .array .int
  | 29 => .int
  | 30 => .array .int
  | _ => .long
abbrev wsX120 : List Cond := u_ws RX12 TX12 32
theorem nmX12 : ∀ a, a < 32 → ∀ b, b < 32 → a ≠ b → (TX12 a).2.1 ≠ (TX12 b).2.1 := by decide +kernel
theorem tyX12_ok : ∀ k, k < 32 → parseFieldDescriptor (TX12 k).2.2.1 = some (tyX12 k) := by decide +kernel
abbrev pd_cl : List vw_C := [(RX0, TX0, 1), (RX1, TX1, 1), (RX2, TX2, 1), (RX3, TX3, 1), (RX4, TX4, 10), (RX5, TX5, 1), (RX6, TX6, 3), (RX7, TX7, 6), (RX8, TX8, 5), (RX9, TX9, 1), (RX10, TX10, 8), (RX11, TX11, 15), (RX12, TX12, 32)]
def pd_tbl : List Cond := lw_tbl.filter goodWord
theorem pd_m {w : Cond} (i : Nat) (h : lw_tbl[i]? = some w) (hg : goodWord w = true) : w ∈ pd_tbl := List.mem_filter.mpr ⟨List.mem_of_getElem? h, hg⟩
theorem pd_all : ∀ {l : List Cond} {P : Cond → Prop}, (∀ w ∈ l, P w) → ∀ w ∈ l, P w := fun h => h
theorem iw0_0 : u_lay RX0 TX0 0 ∈ pd_tbl := pd_m 243 (by decide +kernel) (by decide +kernel)
theorem iw0 : ∀ w ∈ u_ws RX0 TX0 1, w ∈ pd_tbl := by
  show ∀ w ∈ [u_lay RX0 TX0 0], w ∈ pd_tbl
  exact List.forall_mem_cons.mpr ⟨iw0_0, fun _ h => absurd h List.not_mem_nil⟩
theorem iw1_0 : u_lay RX1 TX1 0 ∈ pd_tbl := pd_m 227 (by decide +kernel) (by decide +kernel)
theorem iw1 : ∀ w ∈ u_ws RX1 TX1 1, w ∈ pd_tbl := by
  show ∀ w ∈ [u_lay RX1 TX1 0], w ∈ pd_tbl
  exact List.forall_mem_cons.mpr ⟨iw1_0, fun _ h => absurd h List.not_mem_nil⟩
theorem iw2_0 : u_lay RX2 TX2 0 ∈ pd_tbl := pd_m 202 (by decide +kernel) (by decide +kernel)
theorem iw2 : ∀ w ∈ u_ws RX2 TX2 1, w ∈ pd_tbl := by
  show ∀ w ∈ [u_lay RX2 TX2 0], w ∈ pd_tbl
  exact List.forall_mem_cons.mpr ⟨iw2_0, fun _ h => absurd h List.not_mem_nil⟩
theorem iw3_0 : u_lay RX3 TX3 0 ∈ pd_tbl := pd_m 219 (by decide +kernel) (by decide +kernel)
theorem iw3 : ∀ w ∈ u_ws RX3 TX3 1, w ∈ pd_tbl := by
  show ∀ w ∈ [u_lay RX3 TX3 0], w ∈ pd_tbl
  exact List.forall_mem_cons.mpr ⟨iw3_0, fun _ h => absurd h List.not_mem_nil⟩
theorem iw4_0 : u_lay RX4 TX4 0 ∈ pd_tbl := pd_m 285 (by decide +kernel) (by decide +kernel)
theorem iw4_1 : u_lay RX4 TX4 1 ∈ pd_tbl := pd_m 287 (by decide +kernel) (by decide +kernel)
theorem iw4_2 : u_lay RX4 TX4 2 ∈ pd_tbl := pd_m 289 (by decide +kernel) (by decide +kernel)
theorem iw4_3 : u_lay RX4 TX4 3 ∈ pd_tbl := pd_m 291 (by decide +kernel) (by decide +kernel)
theorem iw4_4 : u_lay RX4 TX4 4 ∈ pd_tbl := pd_m 293 (by decide +kernel) (by decide +kernel)
theorem iw4_5 : u_lay RX4 TX4 5 ∈ pd_tbl := pd_m 295 (by decide +kernel) (by decide +kernel)
theorem iw4_6 : u_lay RX4 TX4 6 ∈ pd_tbl := pd_m 297 (by decide +kernel) (by decide +kernel)
theorem iw4_7 : u_lay RX4 TX4 7 ∈ pd_tbl := pd_m 299 (by decide +kernel) (by decide +kernel)
theorem iw4_8 : u_lay RX4 TX4 8 ∈ pd_tbl := pd_m 301 (by decide +kernel) (by decide +kernel)
theorem iw4_9 : u_lay RX4 TX4 9 ∈ pd_tbl := pd_m 303 (by decide +kernel) (by decide +kernel)
theorem iw4 : ∀ w ∈ u_ws RX4 TX4 10, w ∈ pd_tbl := by
  show ∀ w ∈ [u_lay RX4 TX4 0, u_lay RX4 TX4 1, u_lay RX4 TX4 2, u_lay RX4 TX4 3, u_lay RX4 TX4 4, u_lay RX4 TX4 5, u_lay RX4 TX4 6, u_lay RX4 TX4 7, u_lay RX4 TX4 8, u_lay RX4 TX4 9], w ∈ pd_tbl
  exact List.forall_mem_cons.mpr ⟨iw4_0, List.forall_mem_cons.mpr ⟨iw4_1, List.forall_mem_cons.mpr ⟨iw4_2, List.forall_mem_cons.mpr ⟨iw4_3, List.forall_mem_cons.mpr ⟨iw4_4, List.forall_mem_cons.mpr ⟨iw4_5, List.forall_mem_cons.mpr ⟨iw4_6, List.forall_mem_cons.mpr ⟨iw4_7, List.forall_mem_cons.mpr ⟨iw4_8, List.forall_mem_cons.mpr ⟨iw4_9, fun _ h => absurd h List.not_mem_nil⟩⟩⟩⟩⟩⟩⟩⟩⟩⟩
theorem iw5_0 : u_lay RX5 TX5 0 ∈ pd_tbl := pd_m 235 (by decide +kernel) (by decide +kernel)
theorem iw5 : ∀ w ∈ u_ws RX5 TX5 1, w ∈ pd_tbl := by
  show ∀ w ∈ [u_lay RX5 TX5 0], w ∈ pd_tbl
  exact List.forall_mem_cons.mpr ⟨iw5_0, fun _ h => absurd h List.not_mem_nil⟩
theorem iw6_0 : u_lay RX6 TX6 0 ∈ pd_tbl := pd_m 147 (by decide +kernel) (by decide +kernel)
theorem iw6_1 : u_lay RX6 TX6 1 ∈ pd_tbl := pd_m 149 (by decide +kernel) (by decide +kernel)
theorem iw6_2 : u_lay RX6 TX6 2 ∈ pd_tbl := pd_m 151 (by decide +kernel) (by decide +kernel)
theorem iw6 : ∀ w ∈ u_ws RX6 TX6 3, w ∈ pd_tbl := by
  show ∀ w ∈ [u_lay RX6 TX6 0, u_lay RX6 TX6 1, u_lay RX6 TX6 2], w ∈ pd_tbl
  exact List.forall_mem_cons.mpr ⟨iw6_0, List.forall_mem_cons.mpr ⟨iw6_1, List.forall_mem_cons.mpr ⟨iw6_2, fun _ h => absurd h List.not_mem_nil⟩⟩⟩
theorem iw7_0 : u_lay RX7 TX7 0 ∈ pd_tbl := pd_m 169 (by decide +kernel) (by decide +kernel)
theorem iw7_1 : u_lay RX7 TX7 1 ∈ pd_tbl := pd_m 171 (by decide +kernel) (by decide +kernel)
theorem iw7_2 : u_lay RX7 TX7 2 ∈ pd_tbl := pd_m 173 (by decide +kernel) (by decide +kernel)
theorem iw7_3 : u_lay RX7 TX7 3 ∈ pd_tbl := pd_m 175 (by decide +kernel) (by decide +kernel)
theorem iw7_4 : u_lay RX7 TX7 4 ∈ pd_tbl := pd_m 177 (by decide +kernel) (by decide +kernel)
theorem iw7_5 : u_lay RX7 TX7 5 ∈ pd_tbl := pd_m 179 (by decide +kernel) (by decide +kernel)
theorem iw7 : ∀ w ∈ u_ws RX7 TX7 6, w ∈ pd_tbl := by
  show ∀ w ∈ [u_lay RX7 TX7 0, u_lay RX7 TX7 1, u_lay RX7 TX7 2, u_lay RX7 TX7 3, u_lay RX7 TX7 4, u_lay RX7 TX7 5], w ∈ pd_tbl
  exact List.forall_mem_cons.mpr ⟨iw7_0, List.forall_mem_cons.mpr ⟨iw7_1, List.forall_mem_cons.mpr ⟨iw7_2, List.forall_mem_cons.mpr ⟨iw7_3, List.forall_mem_cons.mpr ⟨iw7_4, List.forall_mem_cons.mpr ⟨iw7_5, fun _ h => absurd h List.not_mem_nil⟩⟩⟩⟩⟩⟩
theorem iw8_0 : u_lay RX8 TX8 0 ∈ pd_tbl := pd_m 130 (by decide +kernel) (by decide +kernel)
theorem iw8_1 : u_lay RX8 TX8 1 ∈ pd_tbl := pd_m 132 (by decide +kernel) (by decide +kernel)
theorem iw8_2 : u_lay RX8 TX8 2 ∈ pd_tbl := pd_m 134 (by decide +kernel) (by decide +kernel)
theorem iw8_3 : u_lay RX8 TX8 3 ∈ pd_tbl := pd_m 136 (by decide +kernel) (by decide +kernel)
theorem iw8_4 : u_lay RX8 TX8 4 ∈ pd_tbl := pd_m 138 (by decide +kernel) (by decide +kernel)
theorem iw8 : ∀ w ∈ u_ws RX8 TX8 5, w ∈ pd_tbl := by
  show ∀ w ∈ [u_lay RX8 TX8 0, u_lay RX8 TX8 1, u_lay RX8 TX8 2, u_lay RX8 TX8 3, u_lay RX8 TX8 4], w ∈ pd_tbl
  exact List.forall_mem_cons.mpr ⟨iw8_0, List.forall_mem_cons.mpr ⟨iw8_1, List.forall_mem_cons.mpr ⟨iw8_2, List.forall_mem_cons.mpr ⟨iw8_3, List.forall_mem_cons.mpr ⟨iw8_4, fun _ h => absurd h List.not_mem_nil⟩⟩⟩⟩⟩
theorem iw9_0 : u_lay RX9 TX9 0 ∈ pd_tbl := pd_m 211 (by decide +kernel) (by decide +kernel)
theorem iw9 : ∀ w ∈ u_ws RX9 TX9 1, w ∈ pd_tbl := by
  show ∀ w ∈ [u_lay RX9 TX9 0], w ∈ pd_tbl
  exact List.forall_mem_cons.mpr ⟨iw9_0, fun _ h => absurd h List.not_mem_nil⟩
theorem iw10_0 : u_lay RX10 TX10 0 ∈ pd_tbl := pd_m 85 (by decide +kernel) (by decide +kernel)
theorem iw10_1 : u_lay RX10 TX10 1 ∈ pd_tbl := pd_m 87 (by decide +kernel) (by decide +kernel)
theorem iw10_2 : u_lay RX10 TX10 2 ∈ pd_tbl := pd_m 89 (by decide +kernel) (by decide +kernel)
theorem iw10_3 : u_lay RX10 TX10 3 ∈ pd_tbl := pd_m 91 (by decide +kernel) (by decide +kernel)
theorem iw10_4 : u_lay RX10 TX10 4 ∈ pd_tbl := pd_m 93 (by decide +kernel) (by decide +kernel)
theorem iw10_5 : u_lay RX10 TX10 5 ∈ pd_tbl := pd_m 95 (by decide +kernel) (by decide +kernel)
theorem iw10_6 : u_lay RX10 TX10 6 ∈ pd_tbl := pd_m 97 (by decide +kernel) (by decide +kernel)
theorem iw10_7 : u_lay RX10 TX10 7 ∈ pd_tbl := pd_m 99 (by decide +kernel) (by decide +kernel)
theorem iw10 : ∀ w ∈ u_ws RX10 TX10 8, w ∈ pd_tbl := by
  show ∀ w ∈ [u_lay RX10 TX10 0, u_lay RX10 TX10 1, u_lay RX10 TX10 2, u_lay RX10 TX10 3, u_lay RX10 TX10 4, u_lay RX10 TX10 5, u_lay RX10 TX10 6, u_lay RX10 TX10 7], w ∈ pd_tbl
  exact List.forall_mem_cons.mpr ⟨iw10_0, List.forall_mem_cons.mpr ⟨iw10_1, List.forall_mem_cons.mpr ⟨iw10_2, List.forall_mem_cons.mpr ⟨iw10_3, List.forall_mem_cons.mpr ⟨iw10_4, List.forall_mem_cons.mpr ⟨iw10_5, List.forall_mem_cons.mpr ⟨iw10_6, List.forall_mem_cons.mpr ⟨iw10_7, fun _ h => absurd h List.not_mem_nil⟩⟩⟩⟩⟩⟩⟩⟩
theorem iw11_0 : u_lay RX11 TX11 0 ∈ pd_tbl := pd_m 321 (by decide +kernel) (by decide +kernel)
theorem iw11_1 : u_lay RX11 TX11 1 ∈ pd_tbl := pd_m 323 (by decide +kernel) (by decide +kernel)
theorem iw11_2 : u_lay RX11 TX11 2 ∈ pd_tbl := pd_m 325 (by decide +kernel) (by decide +kernel)
theorem iw11_3 : u_lay RX11 TX11 3 ∈ pd_tbl := pd_m 327 (by decide +kernel) (by decide +kernel)
theorem iw11_4 : u_lay RX11 TX11 4 ∈ pd_tbl := pd_m 329 (by decide +kernel) (by decide +kernel)
theorem iw11_5 : u_lay RX11 TX11 5 ∈ pd_tbl := pd_m 331 (by decide +kernel) (by decide +kernel)
theorem iw11_6 : u_lay RX11 TX11 6 ∈ pd_tbl := pd_m 333 (by decide +kernel) (by decide +kernel)
theorem iw11_7 : u_lay RX11 TX11 7 ∈ pd_tbl := pd_m 335 (by decide +kernel) (by decide +kernel)
theorem iw11_8 : u_lay RX11 TX11 8 ∈ pd_tbl := pd_m 337 (by decide +kernel) (by decide +kernel)
theorem iw11_9 : u_lay RX11 TX11 9 ∈ pd_tbl := pd_m 339 (by decide +kernel) (by decide +kernel)
theorem iw11_10 : u_lay RX11 TX11 10 ∈ pd_tbl := pd_m 341 (by decide +kernel) (by decide +kernel)
theorem iw11_11 : u_lay RX11 TX11 11 ∈ pd_tbl := pd_m 343 (by decide +kernel) (by decide +kernel)
theorem iw11_12 : u_lay RX11 TX11 12 ∈ pd_tbl := pd_m 345 (by decide +kernel) (by decide +kernel)
theorem iw11_13 : u_lay RX11 TX11 13 ∈ pd_tbl := pd_m 347 (by decide +kernel) (by decide +kernel)
theorem iw11_14 : u_lay RX11 TX11 14 ∈ pd_tbl := pd_m 349 (by decide +kernel) (by decide +kernel)
theorem iw11 : ∀ w ∈ u_ws RX11 TX11 15, w ∈ pd_tbl := by
  show ∀ w ∈ [u_lay RX11 TX11 0, u_lay RX11 TX11 1, u_lay RX11 TX11 2, u_lay RX11 TX11 3, u_lay RX11 TX11 4, u_lay RX11 TX11 5, u_lay RX11 TX11 6, u_lay RX11 TX11 7, u_lay RX11 TX11 8, u_lay RX11 TX11 9, u_lay RX11 TX11 10, u_lay RX11 TX11 11, u_lay RX11 TX11 12, u_lay RX11 TX11 13, u_lay RX11 TX11 14], w ∈ pd_tbl
  exact List.forall_mem_cons.mpr ⟨iw11_0, List.forall_mem_cons.mpr ⟨iw11_1, List.forall_mem_cons.mpr ⟨iw11_2, List.forall_mem_cons.mpr ⟨iw11_3, List.forall_mem_cons.mpr ⟨iw11_4, List.forall_mem_cons.mpr ⟨iw11_5, List.forall_mem_cons.mpr ⟨iw11_6, List.forall_mem_cons.mpr ⟨iw11_7, List.forall_mem_cons.mpr ⟨iw11_8, List.forall_mem_cons.mpr ⟨iw11_9, List.forall_mem_cons.mpr ⟨iw11_10, List.forall_mem_cons.mpr ⟨iw11_11, List.forall_mem_cons.mpr ⟨iw11_12, List.forall_mem_cons.mpr ⟨iw11_13, List.forall_mem_cons.mpr ⟨iw11_14, fun _ h => absurd h List.not_mem_nil⟩⟩⟩⟩⟩⟩⟩⟩⟩⟩⟩⟩⟩⟩⟩
theorem iw12_0 : u_lay RX12 TX12 0 ∈ pd_tbl := pd_m 757 (by decide +kernel) (by decide +kernel)
theorem iw12_1 : u_lay RX12 TX12 1 ∈ pd_tbl := pd_m 759 (by decide +kernel) (by decide +kernel)
theorem iw12_2 : u_lay RX12 TX12 2 ∈ pd_tbl := pd_m 761 (by decide +kernel) (by decide +kernel)
theorem iw12_3 : u_lay RX12 TX12 3 ∈ pd_tbl := pd_m 763 (by decide +kernel) (by decide +kernel)
theorem iw12_4 : u_lay RX12 TX12 4 ∈ pd_tbl := pd_m 765 (by decide +kernel) (by decide +kernel)
theorem iw12_5 : u_lay RX12 TX12 5 ∈ pd_tbl := pd_m 767 (by decide +kernel) (by decide +kernel)
theorem iw12_6 : u_lay RX12 TX12 6 ∈ pd_tbl := pd_m 769 (by decide +kernel) (by decide +kernel)
theorem iw12_7 : u_lay RX12 TX12 7 ∈ pd_tbl := pd_m 771 (by decide +kernel) (by decide +kernel)
theorem iw12_8 : u_lay RX12 TX12 8 ∈ pd_tbl := pd_m 773 (by decide +kernel) (by decide +kernel)
theorem iw12_9 : u_lay RX12 TX12 9 ∈ pd_tbl := pd_m 775 (by decide +kernel) (by decide +kernel)
theorem iw12_10 : u_lay RX12 TX12 10 ∈ pd_tbl := pd_m 777 (by decide +kernel) (by decide +kernel)
theorem iw12_11 : u_lay RX12 TX12 11 ∈ pd_tbl := pd_m 779 (by decide +kernel) (by decide +kernel)
theorem iw12_12 : u_lay RX12 TX12 12 ∈ pd_tbl := pd_m 781 (by decide +kernel) (by decide +kernel)
theorem iw12_13 : u_lay RX12 TX12 13 ∈ pd_tbl := pd_m 783 (by decide +kernel) (by decide +kernel)
theorem iw12_14 : u_lay RX12 TX12 14 ∈ pd_tbl := pd_m 785 (by decide +kernel) (by decide +kernel)
theorem iw12_15 : u_lay RX12 TX12 15 ∈ pd_tbl := pd_m 787 (by decide +kernel) (by decide +kernel)
theorem iw12_16 : u_lay RX12 TX12 16 ∈ pd_tbl := pd_m 789 (by decide +kernel) (by decide +kernel)
theorem iw12_17 : u_lay RX12 TX12 17 ∈ pd_tbl := pd_m 791 (by decide +kernel) (by decide +kernel)
theorem iw12_18 : u_lay RX12 TX12 18 ∈ pd_tbl := pd_m 793 (by decide +kernel) (by decide +kernel)
theorem iw12_19 : u_lay RX12 TX12 19 ∈ pd_tbl := pd_m 795 (by decide +kernel) (by decide +kernel)
theorem iw12_20 : u_lay RX12 TX12 20 ∈ pd_tbl := pd_m 797 (by decide +kernel) (by decide +kernel)
theorem iw12_21 : u_lay RX12 TX12 21 ∈ pd_tbl := pd_m 799 (by decide +kernel) (by decide +kernel)
theorem iw12_22 : u_lay RX12 TX12 22 ∈ pd_tbl := pd_m 801 (by decide +kernel) (by decide +kernel)
theorem iw12_23 : u_lay RX12 TX12 23 ∈ pd_tbl := pd_m 803 (by decide +kernel) (by decide +kernel)
theorem iw12_24 : u_lay RX12 TX12 24 ∈ pd_tbl := pd_m 805 (by decide +kernel) (by decide +kernel)
theorem iw12_25 : u_lay RX12 TX12 25 ∈ pd_tbl := pd_m 807 (by decide +kernel) (by decide +kernel)
theorem iw12_26 : u_lay RX12 TX12 26 ∈ pd_tbl := pd_m 809 (by decide +kernel) (by decide +kernel)
theorem iw12_27 : u_lay RX12 TX12 27 ∈ pd_tbl := pd_m 811 (by decide +kernel) (by decide +kernel)
theorem iw12_28 : u_lay RX12 TX12 28 ∈ pd_tbl := pd_m 813 (by decide +kernel) (by decide +kernel)
theorem iw12_29 : u_lay RX12 TX12 29 ∈ pd_tbl := pd_m 815 (by decide +kernel) (by decide +kernel)
theorem iw12_30 : u_lay RX12 TX12 30 ∈ pd_tbl := pd_m 817 (by decide +kernel) (by decide +kernel)
theorem iw12_31 : u_lay RX12 TX12 31 ∈ pd_tbl := pd_m 819 (by decide +kernel) (by decide +kernel)
theorem iw12 : ∀ w ∈ u_ws RX12 TX12 32, w ∈ pd_tbl := by
  show ∀ w ∈ [u_lay RX12 TX12 0, u_lay RX12 TX12 1, u_lay RX12 TX12 2, u_lay RX12 TX12 3, u_lay RX12 TX12 4, u_lay RX12 TX12 5, u_lay RX12 TX12 6, u_lay RX12 TX12 7, u_lay RX12 TX12 8, u_lay RX12 TX12 9, u_lay RX12 TX12 10, u_lay RX12 TX12 11, u_lay RX12 TX12 12, u_lay RX12 TX12 13, u_lay RX12 TX12 14, u_lay RX12 TX12 15, u_lay RX12 TX12 16, u_lay RX12 TX12 17, u_lay RX12 TX12 18, u_lay RX12 TX12 19, u_lay RX12 TX12 20, u_lay RX12 TX12 21, u_lay RX12 TX12 22, u_lay RX12 TX12 23, u_lay RX12 TX12 24, u_lay RX12 TX12 25, u_lay RX12 TX12 26, u_lay RX12 TX12 27, u_lay RX12 TX12 28, u_lay RX12 TX12 29, u_lay RX12 TX12 30, u_lay RX12 TX12 31], w ∈ pd_tbl
  exact List.forall_mem_cons.mpr ⟨iw12_0, List.forall_mem_cons.mpr ⟨iw12_1, List.forall_mem_cons.mpr ⟨iw12_2, List.forall_mem_cons.mpr ⟨iw12_3, List.forall_mem_cons.mpr ⟨iw12_4, List.forall_mem_cons.mpr ⟨iw12_5, List.forall_mem_cons.mpr ⟨iw12_6, List.forall_mem_cons.mpr ⟨iw12_7, List.forall_mem_cons.mpr ⟨iw12_8, List.forall_mem_cons.mpr ⟨iw12_9, List.forall_mem_cons.mpr ⟨iw12_10, List.forall_mem_cons.mpr ⟨iw12_11, List.forall_mem_cons.mpr ⟨iw12_12, List.forall_mem_cons.mpr ⟨iw12_13, List.forall_mem_cons.mpr ⟨iw12_14, List.forall_mem_cons.mpr ⟨iw12_15, List.forall_mem_cons.mpr ⟨iw12_16, List.forall_mem_cons.mpr ⟨iw12_17, List.forall_mem_cons.mpr ⟨iw12_18, List.forall_mem_cons.mpr ⟨iw12_19, List.forall_mem_cons.mpr ⟨iw12_20, List.forall_mem_cons.mpr ⟨iw12_21, List.forall_mem_cons.mpr ⟨iw12_22, List.forall_mem_cons.mpr ⟨iw12_23, List.forall_mem_cons.mpr ⟨iw12_24, List.forall_mem_cons.mpr ⟨iw12_25, List.forall_mem_cons.mpr ⟨iw12_26, List.forall_mem_cons.mpr ⟨iw12_27, List.forall_mem_cons.mpr ⟨iw12_28, List.forall_mem_cons.mpr ⟨iw12_29, List.forall_mem_cons.mpr ⟨iw12_30, List.forall_mem_cons.mpr ⟨iw12_31, fun _ h => absurd h List.not_mem_nil⟩⟩⟩⟩⟩⟩⟩⟩⟩⟩⟩⟩⟩⟩⟩⟩⟩⟩⟩⟩⟩⟩⟩⟩⟩⟩⟩⟩⟩⟩⟩⟩
end
section
/-! numbers: a Java int is jI z, z an Int -/
def jI (z : Int) : Int32 := Int32.ofInt z
def jL (z : Int) : Int64 := Int64.ofInt z
def jR (z : Int) : Prop := -2147483648 ≤ z ∧ z < 2147483648
theorem jI_add (a b : Int) : jI a + jI b = jI (a + b) := (Int32.ofInt_add a b).symm
theorem jI_sub (a b : Int) : jI a - jI b = jI (a - b) := (Int32.ofInt_sub a b).symm
theorem jI_mul (a b : Int) : jI a * jI b = jI (a * b) := (Int32.ofInt_mul a b).symm
theorem jL_add (a b : Int) : jL a + jL b = jL (a + b) := (Int64.ofInt_add a b).symm
theorem jL_mul (a b : Int) : jL a * jL b = jL (a * b) := (Int64.ofInt_mul a b).symm
theorem jI_toInt {z : Int} (h : jR z) : (jI z).toInt = z := Int32.toInt_ofInt_of_le h.1 h.2
theorem jI_of (x : Int32) : ∃ z : Int, jR z ∧ x = jI z := ⟨x.toInt, ⟨Int32.le_toInt x, Int32.toInt_lt x⟩, (Int32.ofInt_toInt x).symm⟩
theorem jI_lt {a b : Int} (ha : jR a) (hb : jR b) : jI a < jI b ↔ a < b := by
  rw [Int32.lt_iff_toInt_lt, jI_toInt ha, jI_toInt hb]
theorem jI_le {a b : Int} (ha : jR a) (hb : jR b) : jI a ≤ jI b ↔ a ≤ b := by
  rw [Int32.le_iff_toInt_le, jI_toInt ha, jI_toInt hb]
theorem jI_eq {a b : Int} (ha : jR a) (hb : jR b) : jI a = jI b ↔ a = b :=
  ⟨fun h => by have := congrArg Int32.toInt h; rwa [jI_toInt ha, jI_toInt hb] at this, fun h => by rw [h]⟩
theorem jI_0 : (0 : Int32) = jI 0 := rfl
theorem jR_0 : jR 0 := ⟨by decide, by decide⟩
theorem jI_cl {z : Int} {n : Nat} (h0 : 0 ≤ z) (h : z < n) (hn : (n : Int) ≤ 2147483648) : (jI z).toNatClampNeg = z.toNat := by
  have h1 : (jI z).toInt = z := jI_toInt ⟨by omega, by omega⟩
  show (jI z).toInt.toNat = z.toNat
  rw [h1]
theorem jI_in {z : Int} {n : Nat} (h0 : 0 ≤ z) (h : z < n) (hn : (n : Int) ≤ 2147483648) : vp_in (jI z) n := by
  have hc := jI_cl h0 h hn
  intro hh
  rcases hh with hh | hh
  · have : (jI z) < jI 0 := hh
    rw [jI_lt ⟨by omega, by omega⟩ jR_0] at this
    omega
  · rw [hc] at hh
    omega
/-! values: an int, a long, a reference by its place in the world (0: the script) -/
abbrev pv : Type := Int ⊕ (Int ⊕ Option Nat)
abbrev vi (z : Int) : pv := Sum.inl z
abbrev vl (z : Int) : pv := Sum.inr (Sum.inl z)
abbrev vr (k : Nat) : pv := Sum.inr (Sum.inr (some k))
abbrev vn : pv := Sum.inr (Sum.inr none)
abbrev pd_G : Type := Launch × va_G × (Nat → ClassId) × Nat × Nat
def pd_ad (G : pd_G) : Nat → Nat
  | 0 => G.2.2.2.2
  | k + 1 => G.2.2.2.1 + k
def pd_up (G : pd_G) : pv → Value
  | .inl z => .int (jI z)
  | .inr (.inl z) => .long (jL z)
  | .inr (.inr r) => va_rf (r.map (pd_ad G))
abbrev pd_E : Type := (Nat × Nat × ((Int → Int) ⊕ (Int → Option Nat))) ⊕ (Nat × List pv)
abbrev ia (n : Nat) (f : Int → Int) : pd_E := .inl (0, n, .inl f)
abbrev ba (n : Nat) (f : Int → Int) : pd_E := .inl (1, n, .inl f)
abbrev za (n : Nat) (f : Int → Int) : pd_E := .inl (2, n, .inl f)
abbrev ra (k n : Nat) (f : Int → Option Nat) : pd_E := .inl (k, n, .inr f)
abbrev ob (c : Nat) (fs : List pv) : pd_E := .inr (c, fs)
def pd_e (G : pd_G) : pd_E → va_E
  | .inl (k, n, .inl f) => .inl (G.2.2.1 k, n, .inl (fun j : Nat => jI (f j)))
  | .inl (k, n, .inr f) => .inl (G.2.2.1 k, n, .inr (.inr (.inr (.inr (fun j : Nat => (f j).map (pd_ad G))))))
  | .inr (c, fs) => .inr (c, fs.map (pd_up G))
abbrev pd_P : Type := Nat → pd_E
def pd_w (G : pd_G) (sz : Nat) (hp : pd_P) : va_W := (List.range sz).map (fun k => (G.2.2.2.1 + k, pd_e G (hp (k + 1))))
def pd_A (G : pd_G) : Nat → Prop := fun q => G.2.2.2.1 ≤ q
theorem pd_w_get {G : pd_G} {sz : Nat} {hp : pd_P} {k : Nat} (h : k < sz) : (pd_w G sz hp)[k]? = some (G.2.2.2.1 + k, pd_e G (hp (k + 1))) := by
  simp [pd_w, h]
theorem pd_w_of {G : pd_G} {sz : Nat} {hp : pd_P} {k : Nat} {q : Nat × va_E} (h : (pd_w G sz hp)[k]? = some q) : k < sz ∧ q = (G.2.2.2.1 + k, pd_e G (hp (k + 1))) := by
  by_cases hk : k < sz
  · rw [pd_w_get hk] at h
    exact ⟨hk, (Option.some.inj h).symm⟩
  · simp [pd_w, hk] at h
theorem pd_w_D (G : pd_G) (sz : Nat) (hp : pd_P) : va_D (pd_A G) (pd_w G sz hp) := by
  refine ⟨fun i j p q hi hj hpq => ?_, fun k q hk => ?_⟩
  · obtain ⟨-, rfl⟩ := pd_w_of hi
    obtain ⟨-, rfl⟩ := pd_w_of hj
    have : G.2.2.2.1 + i = G.2.2.2.1 + j := hpq
    omega
  · obtain ⟨-, rfl⟩ := pd_w_of hk
    exact Nat.le_add_right _ _
theorem pd_w_set {G : pd_G} {sz : Nat} {hp : pd_P} {k : Nat} {e : pd_E} (h : k < sz) : (pd_w G sz hp).set k (G.2.2.2.1 + k, pd_e G e) = pd_w G sz (va_up hp (k + 1) e) := by
  have hl : k < (pd_w G sz hp).length := by simp [pd_w, h]
  apply List.ext_getElem?
  intro j
  by_cases hj : j = k
  · subst hj
    rw [List.getElem?_set_self hl, pd_w_get h, va_up_self]
  · rw [List.getElem?_set_ne (Ne.symm hj)]
    by_cases hs : j < sz
    · rw [pd_w_get hs, pd_w_get hs, va_up_ne _ _ (by omega)]
    · simp [pd_w, hs]
theorem pd_w_push {G : pd_G} {sz : Nat} {hp : pd_P} {e : pd_E} : pd_w G sz hp ++ [(G.2.2.2.1 + sz, pd_e G e)] = pd_w G (sz + 1) (va_up hp (sz + 1) e) := by
  have hl : (pd_w G sz hp).length = sz := by simp [pd_w]
  apply List.ext_getElem?
  intro j
  by_cases hs : j < sz
  · rw [List.getElem?_append_left (by rw [hl]; exact hs), pd_w_get hs, pd_w_get (by omega), va_up_ne _ _ (by omega)]
  · rw [List.getElem?_append_right (by rw [hl]; omega), hl]
    by_cases hj : j = sz
    · subst hj
      rw [pd_w_get (by omega), va_up_self, Nat.sub_self]
      rfl
    · have h1 : 0 < j - sz := by omega
      rw [List.getElem?_eq_none (by simp; omega), List.getElem?_eq_none (by simp [pd_w]; omega)]
def pd_H (G : pd_G) (sz : Nat) (hp : pd_P) (H : Heap) : Prop := H.size = G.2.2.2.1 + sz ∧ va_P G.2.1 pd_cl (pd_w G sz hp) H ∧ ∀ k, k = 0 ∨ sz < k → hp k = ob 99 []
/-! methods -/
abbrev pd_M : Type := MethodName × ByteArray × Nat × Option FieldType
def pd_ws (M : pd_M) : List Cond := Cond.code M.1 M.2.1 M.2.2.1 M.2.2.2 :: pd_tbl
def pd_ok (M : pd_M) (n : Nat) : Prop := Cond.code M.1 M.2.1 M.2.2.1 M.2.2.2 ∈ pd_tbl ∧ Cond.initialized M.1.cls ∈ pd_tbl ∧ plainName M.1.cls = true ∧ M.1.cls ≠ "java/lang/invoke/MethodHandle" ∧ M.1.cls ≠ "java/lang/invoke/VarHandle" ∧ (parseMethodDescriptor M.1.desc).map (fun d => d.parameters.length) = some n ∧ M.2.2.1 ≤ 45
def pd_ty (G : pd_G) : List (ClassId × FieldType) := [(G.2.2.1 0, .int), (G.2.2.1 1, .byte), (G.2.2.1 2, .boolean), (G.2.2.1 3, .object "PantryDoors$Life"), (G.2.2.1 4, .object "PantryDoors$State"), (G.2.2.1 5, .object "PantryDoors$Good")]
def pd_nest : List (String × Nat × MethodName × String) := [("PantryDoors", 11, ⟨"PantryDoors$Text", "<init>", "()V"⟩, "PantryDoors"), ("PantryDoors$Life", 9, ⟨"PantryDoors$State", "<init>", "()V"⟩, "PantryDoors"), ("PantryDoors", 49, ⟨"PantryDoors$Plan", "<init>", "()V"⟩, "PantryDoors"), ("PantryDoors", 56, ⟨"PantryDoors$Good", "<init>", "()V"⟩, "PantryDoors"), ("PantryDoors", 59, ⟨"PantryDoors$Sugar", "<init>", "()V"⟩, "PantryDoors"), ("PantryDoors$Sugar", 1, ⟨"PantryDoors$Good", "<init>", "()V"⟩, "PantryDoors"), ("PantryDoors", 62, ⟨"PantryDoors$Ham", "<init>", "()V"⟩, "PantryDoors"), ("PantryDoors$Ham", 1, ⟨"PantryDoors$Good", "<init>", "()V"⟩, "PantryDoors"), ("PantryDoors", 65, ⟨"PantryDoors$Cone", "<init>", "()V"⟩, "PantryDoors"), ("PantryDoors$Cone", 1, ⟨"PantryDoors$Sugar", "<init>", "()V"⟩, "PantryDoors"), ("PantryDoors", 68, ⟨"PantryDoors$Jelly", "<init>", "()V"⟩, "PantryDoors"), ("PantryDoors$Jelly", 1, ⟨"PantryDoors$Ham", "<init>", "()V"⟩, "PantryDoors"), ("PantryDoors", 71, ⟨"PantryDoors$Candle", "<init>", "()V"⟩, "PantryDoors"), ("PantryDoors$Candle", 1, ⟨"PantryDoors$Good", "<init>", "()V"⟩, "PantryDoors"), ("PantryDoors", 78, ⟨"PantryDoors$House", "<init>", "()V"⟩, "PantryDoors"), ("PantryDoors$Text", 63, ⟨"PantryDoors", "within", "(III)Z"⟩, "PantryDoors"), ("PantryDoors$House", 43, ⟨"PantryDoors", "within", "(III)Z"⟩, "PantryDoors"), ("PantryDoors$House", 47, ⟨"PantryDoors", "leadsBy", "(III)I"⟩, "PantryDoors")]
end
section
def pd_nw (q : String × Nat × MethodName × String) : Cond := .methodLinkNest q.1 q.2.1 q.2.2.1 q.2.2.2
def pd_K (G : pd_G) (U : State) : Prop := va_K G.2.1 pd_cl (pd_ty G) U ∧ (∀ q ∈ pd_nest, va_Nw (pd_nw q) U) ∧ va_AO "PantryDoors$Life" U ∧ va_AO "PantryDoors$State" U ∧ va_AO "PantryDoors$Good" U
theorem pd_K.warm {G : pd_G} {s U : State} (hW : s.WarmedH U.vm) (h : pd_K G s) : pd_K G U :=
  ⟨va_K.moved hW.alike h.1, fun q hq => va_Nw.warmM hW (h.2.1 q hq), va_AO.moved hW.alike h.2.2.1, va_AO.moved hW.alike h.2.2.2.1, va_AO.moved hW.alike h.2.2.2.2⟩
theorem pd_K.same {G : pd_G} {s U : State} (hv : s.vm = U.vm) (h : pd_K G s) : pd_K G U := by
  have ha : s.vm.Alike U.vm := by rw [hv]; exact Vm.Alike.refl _
  exact ⟨va_K.moved ha h.1, fun q hq => va_Nw.same rfl hv (h.2.1 q hq), va_AO.moved ha h.2.2.1, va_AO.moved ha h.2.2.2.1, va_AO.moved ha h.2.2.2.2⟩
def pd_X (G : pd_G) (X : Option (Nat × (Nat → Int))) (s : State) : Prop := match X with
  | none => True
  | some (L, xs) => va_X G.2.2.2.2 L (fun j => jI (xs j)) s s.heap ∧ G.2.2.2.2 < s.heap.size ∧ G.2.2.2.2 < G.2.2.2.1
/-- what a walk knows of its machine -/
def pd_cx (G : pd_G) (M : pd_M) (d mc ms : Nat) (X : Option (Nat × (Nat → Int))) (p : Program) (Rm : Room) (s : State) (m : MethodId) (args : Array Value) (meth : Method) (c : Code) : Prop :=
  p.tables.exec = Jvm.exec ∧ c.code = M.2.1 ∧ c.maxLocals = M.2.2.1 ∧ s.vm.findClass M.1.cls = some m.cls ∧ (∀ w ∈ pd_tbl, w.before args s = true) ∧ pd_K G s ∧ (d ≤ Rm.frames ∧ 64 * d ≤ Rm.locals ∧ mc ≤ Rm.cells ∧ ms ≤ Rm.slots) ∧ (M.1.name = "<init>" → meth.name = "<init>") ∧ G.2.2.2.1 ≤ s.heap.size ∧ pd_X G X s
/-! locals -/
def pd_nth : List (Option pv) → Nat → Option pv
  | [], _ => none
  | a :: _, 0 => a
  | _ :: l, n + 1 => pd_nth l n
def pd_put : List (Option pv) → Nat → Option pv → List (Option pv)
  | [], _, _ => []
  | _ :: l, 0, v => v :: l
  | a :: l, n + 1, v => a :: pd_put l n v
theorem pd_nth_put : ∀ (l : List (Option pv)) (i j : Nat) (v : Option pv) {w : pv}, pd_nth (pd_put l i v) j = some w → (j = i ∧ v = some w) ∨ (j ≠ i ∧ pd_nth l j = some w)
  | [], _, _, _, _, h => by simp [pd_put, pd_nth] at h
  | a :: l, 0, 0, v, w, h => Or.inl ⟨rfl, h⟩
  | a :: l, 0, j + 1, v, w, h => Or.inr ⟨by omega, h⟩
  | a :: l, i + 1, 0, v, w, h => Or.inr ⟨by omega, h⟩
  | a :: l, i + 1, j + 1, v, w, h => by
    rcases pd_nth_put l i j v h with ⟨h1, h2⟩ | ⟨h1, h2⟩
    · exact Or.inl ⟨by omega, h2⟩
    · exact Or.inr ⟨by omega, h2⟩
def pd_lv (G : pd_G) (ls : Array Slot) (nL : Nat) (lv : List (Option pv)) : Prop := ls.size = nL ∧ lv_wf ls ∧ ∀ (i : Nat) (v : pv), pd_nth lv i = some v → ls[i]? = some (.val (pd_up G v))
/-- the place before i holds no long -/
def pd_o1 (lv : List (Option pv)) : Nat → Bool
  | 0 => true
  | i + 1 => match pd_nth lv i with
    | some (.inr (.inl _)) => false
    | _ => true
def pd_ll (G : pd_G) (lv : List (Option pv)) : List (Nat × Value) := (List.range lv.length).filterMap (fun j => (pd_nth lv j).map (fun v => (j, pd_up G v)))
theorem pd_nth_lt : ∀ (l : List (Option pv)) (i : Nat) {w : pv}, pd_nth l i = some w → i < l.length
  | [], _, _, h => by simp [pd_nth] at h
  | _ :: _, 0, _, _ => by simp
  | _ :: l, i + 1, _, h => by
    have := pd_nth_lt l i h
    simp only [List.length_cons]
    omega
theorem pd_ll_mem {G : pd_G} {lv : List (Option pv)} {j : Nat} {w : pv} (h : pd_nth lv j = some w) : (j, pd_up G w) ∈ pd_ll G lv :=
  List.mem_filterMap.mpr ⟨j, List.mem_range.mpr (pd_nth_lt lv j h), by rw [h]; rfl⟩
theorem pd_lv.has {G : pd_G} {ls : Array Slot} {nL : Nat} {lv : List (Option pv)} (h : pd_lv G ls nL lv) : lv_has ls nL (pd_ll G lv) := by
  refine ⟨h.1, h.2.1, fun q hq => ?_⟩
  obtain ⟨j, -, hj⟩ := List.mem_filterMap.mp hq
  cases hn : pd_nth lv j with
  | none => rw [hn] at hj; cases hj
  | some w =>
    rw [hn] at hj
    cases hj
    exact h.2.2 j w hn
theorem pd_cat (G : pd_G) (v : pv) : (pd_up G v).category = 2 ↔ ∃ z, v = vl z := by
  rcases v with z | z | r
  · simp [pd_up, Value.category]
  · simp [pd_up, Value.category]
  · cases r <;> simp [pd_up, Value.category, va_rf]
theorem pd_lv.st1 {G : pd_G} {ls' : Array Slot} {nL : Nat} {lv : List (Option pv)} {i : Nat} {v : pv} (ho : pd_o1 lv i = true)
    (h : lv_has ls' nL ((i, pd_up G v) :: (pd_ll G lv).filter (fun q => !(q.1 == i) && !(q.1 + 1 == i && q.2.category == 2)))) : pd_lv G ls' nL (pd_put lv i (some v)) := by
  refine ⟨h.1, h.2.1, fun j w hj => ?_⟩
  rcases pd_nth_put lv i j (some v) hj with ⟨rfl, h2⟩ | ⟨h1, h2⟩
  · cases h2
    exact h.2.2 _ List.mem_cons_self
  · refine h.2.2 (j, pd_up G w) (List.mem_cons_of_mem _ (List.mem_filter.mpr ⟨pd_ll_mem h2, ?_⟩))
    simp only [Bool.and_eq_true, Bool.not_eq_true', beq_eq_false_iff_ne, ne_eq, Bool.and_eq_false_iff, h1, not_false_eq_true, true_and]
    by_cases hji : j + 1 = i
    · right
      intro hc
      obtain ⟨z, rfl⟩ := (pd_cat G w).mp hc
      subst hji
      rw [pd_o1, h2] at ho
      cases ho
    · exact Or.inl hji
theorem pd_lv.st2 {G : pd_G} {ls' : Array Slot} {nL : Nat} {lv : List (Option pv)} {i : Nat} {v : pv} (ho : pd_o1 lv i = true)
    (h : lv_has ls' nL ((i, pd_up G v) :: (pd_ll G lv).filter (fun q => !(q.1 == i) && (!(q.1 == i + 1) && !(q.1 + 1 == i && q.2.category == 2))))) : pd_lv G ls' nL (pd_put (pd_put lv (i + 1) none) i (some v)) := by
  refine ⟨h.1, h.2.1, fun j w hj => ?_⟩
  rcases pd_nth_put _ i j (some v) hj with ⟨rfl, h2⟩ | ⟨h1, h2⟩
  · cases h2
    exact h.2.2 _ List.mem_cons_self
  · rcases pd_nth_put lv (i + 1) j none h2 with ⟨-, h3⟩ | ⟨h3, h4⟩
    · cases h3
    · refine h.2.2 (j, pd_up G w) (List.mem_cons_of_mem _ (List.mem_filter.mpr ⟨pd_ll_mem h4, ?_⟩))
      simp only [Bool.and_eq_true, Bool.not_eq_true', beq_eq_false_iff_ne, ne_eq, Bool.and_eq_false_iff, h1, h3, not_false_eq_true, true_and]
      by_cases hji : j + 1 = i
      · right
        intro hc
        obtain ⟨z, rfl⟩ := (pd_cat G w).mp hc
        subst hji
        rw [pd_o1, h4] at ho
        cases ho
      · exact Or.inl hji
/-! the judgement -/
def pd_rd (M : pd_M) (pc : Nat) (v : Option pv) : Prop := match M.2.2.2, v with
  | none, none => decode M.2.1 pc = .ok (.return_, 1)
  | some .int, some (.inl _) => decode M.2.1 pc = .ok (.ireturn, 1)
  | some .boolean, some (.inl z) => decode M.2.1 pc = .ok (.ireturn, 1) ∧ (z = 0 ∨ z = 1)
  | some .long, some (.inr (.inl _)) => decode M.2.1 pc = .ok (.lreturn, 1)
  | _, _ => False
abbrev pd_R : Type := Option pv → Nat → pd_P → Prop
def pd_T (G : pd_G) (M : pd_M) (d mc ms : Nat) (X : Option (Nat × (Nat → Int))) (R : pd_R) (pc : Nat) (lv : List (Option pv)) (st : List pv) (sz ce sl : Nat) (hp : pd_P) : Prop :=
  ∀ (p : Program) (e : Env) (Rm : Room) (s : State) (m : MethodId) (args : Array Value) (below : List Frame) (meth : Method) (c : Code) (Q : State → Prop),
    pd_cx G M d mc ms X p Rm s m args meth c →
    (∀ (pc' : Nat) (H' : Heap) (locs' : List Loc) (ls' : Array Slot) (v : Option pv) (sz' : Nat) (hp' : pd_P), pd_rd M pc' v → R v sz' hp' → pd_H G sz' hp' H' → va_S (pd_A G) s.heap H' locs' →
      W p G.1 e Rm s m args below meth c H' locs' mc ms Q (F0 m pc' ls' (v.toList.map (pd_up G)))) →
    ∀ (H : Heap) (locs : List Loc) (ls : Array Slot), pd_H G sz hp H → va_S (pd_A G) s.heap H locs → pd_lv G ls M.2.2.1 lv →
      W p G.1 e Rm s m args below meth c H locs ce sl Q (F0 m pc ls (st.map (pd_up G)))
def pd_rm (d mc ms : Nat) : Room := { frames := d, cells := mc, slots := ms, locals := 64 * d }
def pd_Pc (G : pd_G) (sz : Nat) (hp : pd_P) (U : State) : Prop := pd_H G sz hp U.heap ∧ pd_K G U
def pd_Qc (G : pd_G) (R : pd_R) : Array Value → State → Outcome → State → Prop := fun _ st o t => (∃ (v : Option pv) (sz' : Nat) (hp' : pd_P), o = .returned (v.map (pd_up G)) ∧ R v sz' hp' ∧ pd_H G sz' hp' t.heap) ∧ va_F (pd_A G) st t
/-- a method's contract: with these arguments, over this world, it returns, and R holds of its answer and of the world then -/
def pd_C (G : pd_G) (M : pd_M) (d mc ms : Nat) (av : List pv) (sz : Nat) (hp : pd_P) (R : pd_R) : Prop :=
  Met G.1 M.1 (pd_ws M) (pd_rm d mc ms) (va_Pc (av.map (pd_up G)) (pd_Pc G sz hp)) (pd_Qc G R) mc ms (pd_A G)
theorem pd_one (G : pd_G) (v : pv) (h : ∀ z, v ≠ vl z) : (pd_up G v).category = 1 := by
  rcases lv_cat (pd_up G v) with h1 | h1
  · exact h1
  · obtain ⟨z, hz⟩ := (pd_cat G v).mp h1
    exact absurd hz (h z)
def pd_sm (av : List pv) : Bool := av.all (fun v => match v with | .inr (.inl _) => false | _ => true)
theorem pd_entry (G : pd_G) : ∀ (av : List pv), pd_sm av = true → lg_sl (av.map (pd_up G)) = (av.map (fun v => Slot.val (pd_up G v)))
  | [], _ => rfl
  | v :: av, h => by
    have h1 : pd_sm av = true := by
      simp only [pd_sm, List.all_cons, Bool.and_eq_true] at h
      exact h.2
    have h0 : ∀ z, v ≠ vl z := by
      intro z hz
      subst hz
      simp [pd_sm] at h
    have hc := pd_one G v h0
    have ih := pd_entry G av h1
    simp only [lg_sl, List.map_cons, List.flatMap_cons] at ih ⊢
    rw [hc, ih]
    rfl
theorem pd_nth_app : ∀ (av : List pv) (k i : Nat) {w : pv}, pd_nth (av.map some ++ List.replicate k none) i = some w → av[i]? = some w
  | [], 0, i, w, h => by simp [pd_nth] at h
  | [], k + 1, 0, w, h => by simp [pd_nth, List.replicate_succ] at h
  | [], k + 1, i + 1, w, h => by
    have h2 : pd_nth (([] : List pv).map some ++ List.replicate k none) i = some w := by simpa [pd_nth, List.replicate_succ] using h
    have := pd_nth_app [] k i h2
    simp at this
  | a :: av, k, 0, w, h => by simpa [pd_nth] using h
  | a :: av, k, i + 1, w, h => by
    have h2 : pd_nth (av.map some ++ List.replicate k none) i = some w := by simpa [pd_nth] using h
    simpa using pd_nth_app av k i h2
/-- a contract out of a walk -/
theorem pd_con {G : pd_G} {M : pd_M} {d mc ms n : Nat} {av : List pv} {sz : Nat} {hp : pd_P} {R : pd_R} (hM : pd_ok M n) (lv : List (Option pv)) (hlv : av.map some ++ List.replicate (M.2.2.1 - av.length) none = lv) (hs : pd_sm av = true) (hle : av.length ≤ M.2.2.1)
    (h : pd_T G M d mc ms none R 0 lv [] sz 0 0 hp) : pd_C G M d mc ms av sz hp R := by
  refine Met.ofW (cc := M.2.1) (maxL := M.2.2.1) (ret := M.2.2.2) hM.2.2.1 rfl ?_
  intro p e s m args below meth c s₁ B hml hv
  obtain ⟨rfl, hH, hK⟩ := hv
  have hts := atoms_spec (ws := pd_ws M) B.pre
  have hlocks := B.notSynchronized
  have hbs : G.2.2.2.1 ≤ s.heap.size := by rw [hH.1]; exact Nat.le_add_right _ _
  have hcx : pd_cx G M d mc ms none p (headSpec (pd_ws M) (pd_rm d mc ms)).room s m (av.map (pd_up G)).toArray meth c :=
    ⟨B.exec, B.bytes, hml, findClass_of_methodNamed B.named, fun w hw => hts w (List.mem_cons_of_mem _ hw), hK, ⟨Nat.le_refl _, Nat.le_refl _, Nat.le_refl _, Nat.le_refl _⟩, fun hn => by rw [← hn]; exact (name_of_methodNamed B.named B.method).1, hbs, trivial⟩
  rw [lg_entry_eq]
  have hlv2 : pd_lv G ((lg_sl (av.map (pd_up G)) ++ List.replicate (M.2.2.1 - (lg_sl (av.map (pd_up G))).length) Slot.unset).toArray) M.2.2.1 lv := by
    have e0 := pd_entry G av hs
    have he := lv_entry (av.map (pd_up G)) (n := M.2.2.1) (by rw [e0]; simpa using hle)
    refine ⟨he.1, he.2.1, fun i w hw => ?_⟩
    rw [← hlv] at hw
    have h1 := pd_nth_app av _ i hw
    have hi : i < av.length := (List.getElem?_eq_some_iff.mp h1).1
    rw [List.getElem?_toArray, e0, List.getElem?_append_left (by simpa using hi), List.getElem?_map, h1]
    rfl
  refine h p e _ s m _ below meth c _ hcx ?_ s.heap [] _ hH va_S.rf hlv2
  intro pc' H' locs' ls' v sz' hp' hrd hR hH' hS'
  have hr := B.returns
  revert hrd
  unfold pd_rd
  split
  · rename_i h1
    intro hd
    exact W.vret B.exec B.bytes (hr.trans h1) (fun t ht hW => ⟨⟨none, sz', hp', rfl, hR, by rw [ht]; exact hH'⟩, hS'.F ht⟩) hS'.2.2 hd
  · rename_i z h1
    intro hd
    exact W.iret (v := jI z) B.exec B.bytes (hr.trans h1) (fun t ht hW => ⟨⟨some (vi z), sz', hp', rfl, hR, by rw [ht]; exact hH'⟩, hS'.F ht⟩) hS'.2.2 hd
  · rename_i z h1
    intro hd
    exact W.zret (v := jI z) B.exec B.bytes (hr.trans h1) (by rcases hd.2 with rfl | rfl <;> rfl) (fun t ht hW => ⟨⟨some (vi z), sz', hp', rfl, hR, by rw [ht]; exact hH'⟩, hS'.F ht⟩) hS'.2.2 hd.1
  · rename_i z h1
    intro hd
    exact W.lret (v := jL z) B.exec B.bytes (hr.trans h1) (fun t ht hW => ⟨⟨some (vl z), sz', hp', rfl, hR, by rw [ht]; exact hH'⟩, hS'.F ht⟩) hS'.2.2 hd
  · intro hd
    exact hd.elim
end
section
/-! rows: an instruction each -/
def pd_i (M : pd_M) (pc : Nat) (i : Instr) (len n : Nat) : Prop := decode M.2.1 pc = .ok (i, len) ∧ n = pc + len
def pd_il (M : pd_M) (pc k n : Nat) : Prop := (∃ f : Fin 4, (f : Nat) = k ∧ pd_i M pc (.iload_n f) 1 n) ∨ pd_i M pc (.iload k) 2 n
def pd_al (M : pd_M) (pc k n : Nat) : Prop := (∃ f : Fin 4, (f : Nat) = k ∧ pd_i M pc (.aload_n f) 1 n) ∨ pd_i M pc (.aload k) 2 n
def pd_jl (M : pd_M) (pc k n : Nat) : Prop := (∃ f : Fin 4, (f : Nat) = k ∧ pd_i M pc (.lload_n f) 1 n) ∨ pd_i M pc (.lload k) 2 n
def pd_is (M : pd_M) (pc k n : Nat) : Prop := k < M.2.2.1 ∧ ((∃ f : Fin 4, (f : Nat) = k ∧ pd_i M pc (.istore_n f) 1 n) ∨ pd_i M pc (.istore k) 2 n)
def pd_as (M : pd_M) (pc k n : Nat) : Prop := k < M.2.2.1 ∧ ((∃ f : Fin 4, (f : Nat) = k ∧ pd_i M pc (.astore_n f) 1 n) ∨ pd_i M pc (.astore k) 2 n)
def pd_js (M : pd_M) (pc k n : Nat) : Prop := k + 1 < M.2.2.1 ∧ ((∃ f : Fin 4, (f : Nat) = k ∧ pd_i M pc (.lstore_n f) 1 n) ∨ pd_i M pc (.lstore k) 2 n)
def pd_ii (M : pd_M) (pc k : Nat) (z : Int) (n : Nat) : Prop := k < M.2.2.1 ∧ pd_i M pc (.iinc k z) 3 n
def pd_ic (M : pd_M) (pc : Nat) (z : Int) (n : Nat) : Prop := pd_i M pc (.iconst z) 1 n ∨ (pd_i M pc (.bipush z) 2 n ∧ (Int8.ofInt z).toInt32 = jI z) ∨ (pd_i M pc (.sipush z) 3 n ∧ (Int16.ofInt z).toInt32 = jI z) ∨ (∃ idx, pd_i M pc (.ldc idx) 2 n ∧ Cond.constant M.1.cls idx (jI z) ∈ pd_tbl) ∨ (∃ idx, pd_i M pc (.ldc_w idx) 3 n ∧ Cond.constant M.1.cls idx (jI z) ∈ pd_tbl)
def pd_jc (M : pd_M) (pc : Nat) (z : Int) (n : Nat) : Prop := (∃ f : Fin 2, pd_i M pc (.lconst f) 1 n ∧ Int64.ofNat (f : Nat) = jL z) ∨ (∃ idx, pd_i M pc (.ldc2_w idx) 3 n ∧ Cond.constantLong M.1.cls idx (jL z) ∈ pd_tbl)
def pd_b1 (M : pd_M) (pc : Nat) (cd : Jvm.ClassFile.Cond) (n t : Nat) : Prop := ∃ off : Int, pd_i M pc (.ifCond cd off) 3 n ∧ (pc : Int) + off = (t : Int)
def pd_b2 (M : pd_M) (pc : Nat) (cd : Jvm.ClassFile.Cond) (n t : Nat) : Prop := ∃ off : Int, pd_i M pc (.if_icmp cd off) 3 n ∧ (pc : Int) + off = (t : Int)
def pd_go (M : pd_M) (pc t : Nat) : Prop := ∃ off : Int, decode M.2.1 pc = .ok (.goto off, 3) ∧ (pc : Int) + off = (t : Int)
def uI {α : Type} (f : Int → α) (z : Int) (x : α) : Int → α := fun i => if i = z then x else f i
theorem uI_s {α : Type} (f : Int → α) (z : Int) (x : α) : uI f z x z = x := by simp [uI]
theorem uI_n {α : Type} (f : Int → α) {z i : Int} (x : α) (h : i ≠ z) : uI f z x i = f i := by simp [uI, h]
section PDROWS
variable {G : pd_G} {M : pd_M} {d mc ms : Nat} {X : Option (Nat × (Nat → Int))} {R : pd_R} {pc n t : Nat} {lv : List (Option pv)} {st : List pv} {sz ce sl : Nat} {hp : pd_P}
theorem pt_iadd {x y : Int} (h : pd_i M pc .iadd 1 n) (k : pd_T G M d mc ms X R n lv (vi (x + y) :: st) sz ce sl hp) : pd_T G M d mc ms X R pc lv (vi y :: vi x :: st) sz ce sl hp := by
  intro p e Rm s m args below meth c Q hx hq H locs ls hH hS hl
  obtain ⟨h1, rfl⟩ := h
  refine lv_iadd hx.1 hx.2.1 h1 ?_
  rw [jI_add]
  exact k p e Rm s m args below meth c Q hx hq H locs ls hH hS hl
theorem pt_isub {x y : Int} (h : pd_i M pc .isub 1 n) (k : pd_T G M d mc ms X R n lv (vi (x - y) :: st) sz ce sl hp) : pd_T G M d mc ms X R pc lv (vi y :: vi x :: st) sz ce sl hp := by
  intro p e Rm s m args below meth c Q hx hq H locs ls hH hS hl
  obtain ⟨h1, rfl⟩ := h
  refine lv_isub hx.1 hx.2.1 h1 ?_
  rw [jI_sub]
  exact k p e Rm s m args below meth c Q hx hq H locs ls hH hS hl
theorem pt_imul {x y : Int} (h : pd_i M pc .imul 1 n) (k : pd_T G M d mc ms X R n lv (vi (x * y) :: st) sz ce sl hp) : pd_T G M d mc ms X R pc lv (vi y :: vi x :: st) sz ce sl hp := by
  intro p e Rm s m args below meth c Q hx hq H locs ls hH hS hl
  obtain ⟨h1, rfl⟩ := h
  refine lv_imul hx.1 hx.2.1 h1 ?_
  rw [jI_mul]
  exact k p e Rm s m args below meth c Q hx hq H locs ls hH hS hl
theorem pt_ladd {x y : Int} (h : pd_i M pc .ladd 1 n) (k : pd_T G M d mc ms X R n lv (vl (x + y) :: st) sz ce sl hp) : pd_T G M d mc ms X R pc lv (vl y :: vl x :: st) sz ce sl hp := by
  intro p e Rm s m args below meth c Q hx hq H locs ls hH hS hl
  obtain ⟨h1, rfl⟩ := h
  refine lv_ladd hx.1 hx.2.1 h1 ?_
  rw [jL_add]
  exact k p e Rm s m args below meth c Q hx hq H locs ls hH hS hl
theorem pt_lmul {x y : Int} (h : pd_i M pc .lmul 1 n) (k : pd_T G M d mc ms X R n lv (vl (x * y) :: st) sz ce sl hp) : pd_T G M d mc ms X R pc lv (vl y :: vl x :: st) sz ce sl hp := by
  intro p e Rm s m args below meth c Q hx hq H locs ls hH hS hl
  obtain ⟨h1, rfl⟩ := h
  refine lv_lmul hx.1 hx.2.1 h1 ?_
  rw [jL_mul]
  exact k p e Rm s m args below meth c Q hx hq H locs ls hH hS hl
theorem pt_ic {z : Int} (h : pd_ic M pc z n) (k : pd_T G M d mc ms X R n lv (vi z :: st) sz ce sl hp) : pd_T G M d mc ms X R pc lv st sz ce sl hp := by
  intro p e Rm s m args below meth c Q hx hq H locs ls hH hS hl
  rcases h with ⟨h1, rfl⟩ | ⟨⟨h1, rfl⟩, h2⟩ | ⟨⟨h1, rfl⟩, h2⟩ | ⟨idx, ⟨h1, rfl⟩, h2⟩ | ⟨idx, ⟨h1, rfl⟩, h2⟩
  · exact lv_iconst (v := jI z) hx.1 hx.2.1 h1 rfl (k p e Rm s m args below meth c Q hx hq H locs ls hH hS hl)
  · exact lv_bipush (v := jI z) hx.1 hx.2.1 h1 h2 (k p e Rm s m args below meth c Q hx hq H locs ls hH hS hl)
  · exact lv_sipush (v := jI z) hx.1 hx.2.1 h1 h2 (k p e Rm s m args below meth c Q hx hq H locs ls hH hS hl)
  · exact lv_ldc (v := jI z) hx.1 hx.2.1 hx.2.2.2.1 (hx.2.2.2.2.1 _ h2) h1 (k p e Rm s m args below meth c Q hx hq H locs ls hH hS hl)
  · exact lv_ldcw (v := jI z) hx.1 hx.2.1 hx.2.2.2.1 (hx.2.2.2.2.1 _ h2) h1 (k p e Rm s m args below meth c Q hx hq H locs ls hH hS hl)
theorem pt_jc {z : Int} (h : pd_jc M pc z n) (k : pd_T G M d mc ms X R n lv (vl z :: st) sz ce sl hp) : pd_T G M d mc ms X R pc lv st sz ce sl hp := by
  intro p e Rm s m args below meth c Q hx hq H locs ls hH hS hl
  rcases h with ⟨f, ⟨h1, rfl⟩, h2⟩ | ⟨idx, ⟨h1, rfl⟩, h2⟩
  · exact lv_lconst (v := jL z) hx.1 hx.2.1 h1 h2 (k p e Rm s m args below meth c Q hx hq H locs ls hH hS hl)
  · exact lv_ldc2 (v := jL z) hx.1 hx.2.1 hx.2.2.2.1 (hx.2.2.2.2.1 _ h2) h1 (k p e Rm s m args below meth c Q hx hq H locs ls hH hS hl)
theorem pt_iload {i : Nat} {z : Int} (h : pd_il M pc i n) (hv : pd_nth lv i = some (vi z)) (k : pd_T G M d mc ms X R n lv (vi z :: st) sz ce sl hp) : pd_T G M d mc ms X R pc lv st sz ce sl hp := by
  intro p e Rm s m args below meth c Q hx hq H locs ls hH hS hl
  have hg := hl.2.2 i _ hv
  rcases h with ⟨f, hf, h1, rfl⟩ | ⟨h1, rfl⟩
  · exact lv_iload_n hx.1 hx.2.1 h1 hf hg (k p e Rm s m args below meth c Q hx hq H locs ls hH hS hl)
  · exact lv_iload hx.1 hx.2.1 h1 hg (k p e Rm s m args below meth c Q hx hq H locs ls hH hS hl)
theorem pt_lload {i : Nat} {z : Int} (h : pd_jl M pc i n) (hv : pd_nth lv i = some (vl z)) (k : pd_T G M d mc ms X R n lv (vl z :: st) sz ce sl hp) : pd_T G M d mc ms X R pc lv st sz ce sl hp := by
  intro p e Rm s m args below meth c Q hx hq H locs ls hH hS hl
  have hg := hl.2.2 i _ hv
  rcases h with ⟨f, hf, h1, rfl⟩ | ⟨h1, rfl⟩
  · exact lv_lload_n hx.1 hx.2.1 h1 hf hg (k p e Rm s m args below meth c Q hx hq H locs ls hH hS hl)
  · exact lv_lload hx.1 hx.2.1 h1 hg (k p e Rm s m args below meth c Q hx hq H locs ls hH hS hl)
theorem pt_aload {i a : Nat} (h : pd_al M pc i n) (hv : pd_nth lv i = some (vr a)) (k : pd_T G M d mc ms X R n lv (vr a :: st) sz ce sl hp) : pd_T G M d mc ms X R pc lv st sz ce sl hp := by
  intro p e Rm s m args below meth c Q hx hq H locs ls hH hS hl
  have hg := hl.2.2 i _ hv
  rcases h with ⟨f, hf, h1, rfl⟩ | ⟨h1, rfl⟩
  · exact lv_aload_n hx.1 hx.2.1 h1 hf hg (k p e Rm s m args below meth c Q hx hq H locs ls hH hS hl)
  · exact lv_aload hx.1 hx.2.1 h1 hg (k p e Rm s m args below meth c Q hx hq H locs ls hH hS hl)
theorem pt_istore {i : Nat} {z : Int} (h : pd_is M pc i n) (ho : pd_o1 lv i = true) (k : pd_T G M d mc ms X R n (pd_put lv i (some (vi z))) st sz ce sl hp) : pd_T G M d mc ms X R pc lv (vi z :: st) sz ce sl hp := by
  intro p e Rm s m args below meth c Q hx hq H locs ls hH hS hl
  obtain ⟨hn, h⟩ := h
  rcases h with ⟨f, hf, h1, rfl⟩ | ⟨h1, rfl⟩
  · exact lv_istore_n hx.1 hx.2.1 h1 hf hl.has hn rfl (fun ls' hl' => k p e Rm s m args below meth c Q hx hq H locs ls' hH hS (pd_lv.st1 ho hl'))
  · exact lv_istore hx.1 hx.2.1 h1 hl.has hn rfl (fun ls' hl' => k p e Rm s m args below meth c Q hx hq H locs ls' hH hS (pd_lv.st1 ho hl'))
theorem pt_astore {i : Nat} {z : Nat} (h : pd_as M pc i n) (ho : pd_o1 lv i = true) (k : pd_T G M d mc ms X R n (pd_put lv i (some (vr z))) st sz ce sl hp) : pd_T G M d mc ms X R pc lv (vr z :: st) sz ce sl hp := by
  intro p e Rm s m args below meth c Q hx hq H locs ls hH hS hl
  obtain ⟨hn, h⟩ := h
  rcases h with ⟨f, hf, h1, rfl⟩ | ⟨h1, rfl⟩
  · exact lv_astore_n hx.1 hx.2.1 h1 hf hl.has hn rfl (fun ls' hl' => k p e Rm s m args below meth c Q hx hq H locs ls' hH hS (pd_lv.st1 ho hl'))
  · exact lv_astore hx.1 hx.2.1 h1 hl.has hn rfl (fun ls' hl' => k p e Rm s m args below meth c Q hx hq H locs ls' hH hS (pd_lv.st1 ho hl'))
theorem pt_lstore {i : Nat} {z : Int} (h : pd_js M pc i n) (ho : pd_o1 lv i = true) (k : pd_T G M d mc ms X R n (pd_put (pd_put lv (i + 1) none) i (some (vl z))) st sz ce sl hp) : pd_T G M d mc ms X R pc lv (vl z :: st) sz ce sl hp := by
  intro p e Rm s m args below meth c Q hx hq H locs ls hH hS hl
  obtain ⟨hn, h⟩ := h
  rcases h with ⟨f, hf, h1, rfl⟩ | ⟨h1, rfl⟩
  · exact lv_lstore_n hx.1 hx.2.1 h1 hf hl.has hn rfl (fun ls' hl' => k p e Rm s m args below meth c Q hx hq H locs ls' hH hS (pd_lv.st2 ho hl'))
  · exact lv_lstore hx.1 hx.2.1 h1 hl.has hn rfl (fun ls' hl' => k p e Rm s m args below meth c Q hx hq H locs ls' hH hS (pd_lv.st2 ho hl'))
theorem pt_iinc {i : Nat} {z c0 : Int} (h : pd_ii M pc i c0 n) (ho : pd_o1 lv i = true) (hv : pd_nth lv i = some (vi z)) (k : pd_T G M d mc ms X R n (pd_put lv i (some (vi (z + c0)))) st sz ce sl hp) : pd_T G M d mc ms X R pc lv st sz ce sl hp := by
  intro p e Rm s m args below meth c Q hx hq H locs ls hH hS hl
  obtain ⟨hn, h1, rfl⟩ := h
  obtain ⟨kk, hk⟩ := List.getElem?_of_mem (pd_ll_mem (G := G) hv)
  refine lv_iinc (v := jI (z + c0)) hx.1 hx.2.1 h1 hl.has hk (jI_add z c0) hn rfl (fun ls' hl' => ?_)
  exact k p e Rm s m args below meth c Q hx hq H locs ls' hH hS (pd_lv.st1 ho hl')
theorem pt_dup {v : pv} (h : pd_i M pc .dup 1 n) (hv : ∀ z, v ≠ vl z) (k : pd_T G M d mc ms X R n lv (v :: v :: st) sz ce sl hp) : pd_T G M d mc ms X R pc lv (v :: st) sz ce sl hp := by
  intro p e Rm s m args below meth c Q hx hq H locs ls hH hS hl
  obtain ⟨h1, rfl⟩ := h
  exact lv_dup hx.1 hx.2.1 h1 (pd_one G v hv) (k p e Rm s m args below meth c Q hx hq H locs ls hH hS hl)
theorem pt_dupr {a : Nat} (h : pd_i M pc .dup 1 n) (k : pd_T G M d mc ms X R n lv (vr a :: vr a :: st) sz ce sl hp) : pd_T G M d mc ms X R pc lv (vr a :: st) sz ce sl hp := pt_dup h (fun z q => by cases q) k
theorem pt_dupi {z : Int} (h : pd_i M pc .dup 1 n) (k : pd_T G M d mc ms X R n lv (vi z :: vi z :: st) sz ce sl hp) : pd_T G M d mc ms X R pc lv (vi z :: st) sz ce sl hp := pt_dup h (fun z q => by cases q) k
theorem pt_popi {z : Int} (h : pd_i M pc .pop 1 n) (k : pd_T G M d mc ms X R n lv st sz ce sl hp) : pd_T G M d mc ms X R pc lv (vi z :: st) sz ce sl hp := by
  intro p e Rm s m args below meth c Q hx hq H locs ls hH hS hl
  obtain ⟨h1, rfl⟩ := h
  exact lv_pop hx.1 hx.2.1 h1 rfl (k p e Rm s m args below meth c Q hx hq H locs ls hH hS hl)
theorem pt_dup2 {z : Int} {a : Nat} (h : pd_i M pc .dup2 1 n) (k : pd_T G M d mc ms X R n lv (vi z :: vr a :: vi z :: vr a :: st) sz ce sl hp) : pd_T G M d mc ms X R pc lv (vi z :: vr a :: st) sz ce sl hp := by
  intro p e Rm s m args below meth c Q hx hq H locs ls hH hS hl
  obtain ⟨h1, rfl⟩ := h
  exact lv_dup2_11 hx.1 hx.2.1 h1 rfl rfl (k p e Rm s m args below meth c Q hx hq H locs ls hH hS hl)
theorem pt_ceq {x y : Int} (h : pd_b2 M pc .eq n t) (hx2 : jR x) (hy : jR y) (k1 : x = y → pd_T G M d mc ms X R t lv st sz ce sl hp) (k2 : ¬ x = y → pd_T G M d mc ms X R n lv st sz ce sl hp) : pd_T G M d mc ms X R pc lv (vi y :: vi x :: st) sz ce sl hp := by
  intro p e Rm s m args below meth c Q hx hq H locs ls hH hS hl
  obtain ⟨off, ⟨h1, rfl⟩, h2⟩ := h
  refine lv_icmp_eq hx.1 hx.2.1 h1 h2 (fun g => ?_) (fun g => ?_)
  · exact k1 ((jI_eq hx2 hy).mp g) p e Rm s m args below meth c Q hx hq H locs ls hH hS hl
  · exact k2 (fun q => g ((jI_eq hx2 hy).mpr q)) p e Rm s m args below meth c Q hx hq H locs ls hH hS hl
theorem pt_zeq {x : Int} (h : pd_b1 M pc .eq n t) (hx2 : jR x) (k1 : x = 0 → pd_T G M d mc ms X R t lv st sz ce sl hp) (k2 : ¬ x = 0 → pd_T G M d mc ms X R n lv st sz ce sl hp) : pd_T G M d mc ms X R pc lv (vi x :: st) sz ce sl hp := by
  intro p e Rm s m args below meth c Q hx hq H locs ls hH hS hl
  obtain ⟨off, ⟨h1, rfl⟩, h2⟩ := h
  refine lv_if_eq hx.1 hx.2.1 h1 h2 (fun g => ?_) (fun g => ?_)
  · exact k1 ((jI_eq hx2 jR_0).mp g) p e Rm s m args below meth c Q hx hq H locs ls hH hS hl
  · exact k2 (fun q => g ((jI_eq hx2 jR_0).mpr q)) p e Rm s m args below meth c Q hx hq H locs ls hH hS hl
theorem pt_cne {x y : Int} (h : pd_b2 M pc .ne n t) (hx2 : jR x) (hy : jR y) (k1 : ¬ x = y → pd_T G M d mc ms X R t lv st sz ce sl hp) (k2 : x = y → pd_T G M d mc ms X R n lv st sz ce sl hp) : pd_T G M d mc ms X R pc lv (vi y :: vi x :: st) sz ce sl hp := by
  intro p e Rm s m args below meth c Q hx hq H locs ls hH hS hl
  obtain ⟨off, ⟨h1, rfl⟩, h2⟩ := h
  refine lv_icmp_ne hx.1 hx.2.1 h1 h2 (fun g => ?_) (fun g => ?_)
  · exact k1 (fun q => g ((jI_eq hx2 hy).mpr q)) p e Rm s m args below meth c Q hx hq H locs ls hH hS hl
  · exact k2 ((jI_eq hx2 hy).mp g) p e Rm s m args below meth c Q hx hq H locs ls hH hS hl
theorem pt_zne {x : Int} (h : pd_b1 M pc .ne n t) (hx2 : jR x) (k1 : ¬ x = 0 → pd_T G M d mc ms X R t lv st sz ce sl hp) (k2 : x = 0 → pd_T G M d mc ms X R n lv st sz ce sl hp) : pd_T G M d mc ms X R pc lv (vi x :: st) sz ce sl hp := by
  intro p e Rm s m args below meth c Q hx hq H locs ls hH hS hl
  obtain ⟨off, ⟨h1, rfl⟩, h2⟩ := h
  refine lv_if_ne hx.1 hx.2.1 h1 h2 (fun g => ?_) (fun g => ?_)
  · exact k1 (fun q => g ((jI_eq hx2 jR_0).mpr q)) p e Rm s m args below meth c Q hx hq H locs ls hH hS hl
  · exact k2 ((jI_eq hx2 jR_0).mp g) p e Rm s m args below meth c Q hx hq H locs ls hH hS hl
theorem pt_clt {x y : Int} (h : pd_b2 M pc .lt n t) (hx2 : jR x) (hy : jR y) (k1 : x < y → pd_T G M d mc ms X R t lv st sz ce sl hp) (k2 : ¬ x < y → pd_T G M d mc ms X R n lv st sz ce sl hp) : pd_T G M d mc ms X R pc lv (vi y :: vi x :: st) sz ce sl hp := by
  intro p e Rm s m args below meth c Q hx hq H locs ls hH hS hl
  obtain ⟨off, ⟨h1, rfl⟩, h2⟩ := h
  refine lv_icmp_lt hx.1 hx.2.1 h1 h2 (fun g => ?_) (fun g => ?_)
  · exact k1 ((jI_lt hx2 hy).mp g) p e Rm s m args below meth c Q hx hq H locs ls hH hS hl
  · exact k2 (fun q => g ((jI_lt hx2 hy).mpr q)) p e Rm s m args below meth c Q hx hq H locs ls hH hS hl
theorem pt_zlt {x : Int} (h : pd_b1 M pc .lt n t) (hx2 : jR x) (k1 : x < 0 → pd_T G M d mc ms X R t lv st sz ce sl hp) (k2 : ¬ x < 0 → pd_T G M d mc ms X R n lv st sz ce sl hp) : pd_T G M d mc ms X R pc lv (vi x :: st) sz ce sl hp := by
  intro p e Rm s m args below meth c Q hx hq H locs ls hH hS hl
  obtain ⟨off, ⟨h1, rfl⟩, h2⟩ := h
  refine lv_if_lt hx.1 hx.2.1 h1 h2 (fun g => ?_) (fun g => ?_)
  · exact k1 ((jI_lt hx2 jR_0).mp g) p e Rm s m args below meth c Q hx hq H locs ls hH hS hl
  · exact k2 (fun q => g ((jI_lt hx2 jR_0).mpr q)) p e Rm s m args below meth c Q hx hq H locs ls hH hS hl
theorem pt_cge {x y : Int} (h : pd_b2 M pc .ge n t) (hx2 : jR x) (hy : jR y) (k1 : y ≤ x → pd_T G M d mc ms X R t lv st sz ce sl hp) (k2 : ¬ y ≤ x → pd_T G M d mc ms X R n lv st sz ce sl hp) : pd_T G M d mc ms X R pc lv (vi y :: vi x :: st) sz ce sl hp := by
  intro p e Rm s m args below meth c Q hx hq H locs ls hH hS hl
  obtain ⟨off, ⟨h1, rfl⟩, h2⟩ := h
  refine lv_icmp_ge hx.1 hx.2.1 h1 h2 (fun g => ?_) (fun g => ?_)
  · exact k1 ((jI_le hy hx2).mp g) p e Rm s m args below meth c Q hx hq H locs ls hH hS hl
  · exact k2 (fun q => g ((jI_le hy hx2).mpr q)) p e Rm s m args below meth c Q hx hq H locs ls hH hS hl
theorem pt_zge {x : Int} (h : pd_b1 M pc .ge n t) (hx2 : jR x) (k1 : 0 ≤ x → pd_T G M d mc ms X R t lv st sz ce sl hp) (k2 : ¬ 0 ≤ x → pd_T G M d mc ms X R n lv st sz ce sl hp) : pd_T G M d mc ms X R pc lv (vi x :: st) sz ce sl hp := by
  intro p e Rm s m args below meth c Q hx hq H locs ls hH hS hl
  obtain ⟨off, ⟨h1, rfl⟩, h2⟩ := h
  refine lv_if_ge hx.1 hx.2.1 h1 h2 (fun g => ?_) (fun g => ?_)
  · exact k1 ((jI_le jR_0 hx2).mp g) p e Rm s m args below meth c Q hx hq H locs ls hH hS hl
  · exact k2 (fun q => g ((jI_le jR_0 hx2).mpr q)) p e Rm s m args below meth c Q hx hq H locs ls hH hS hl
theorem pt_cgt {x y : Int} (h : pd_b2 M pc .gt n t) (hx2 : jR x) (hy : jR y) (k1 : y < x → pd_T G M d mc ms X R t lv st sz ce sl hp) (k2 : ¬ y < x → pd_T G M d mc ms X R n lv st sz ce sl hp) : pd_T G M d mc ms X R pc lv (vi y :: vi x :: st) sz ce sl hp := by
  intro p e Rm s m args below meth c Q hx hq H locs ls hH hS hl
  obtain ⟨off, ⟨h1, rfl⟩, h2⟩ := h
  refine lv_icmp_gt hx.1 hx.2.1 h1 h2 (fun g => ?_) (fun g => ?_)
  · exact k1 ((jI_lt hy hx2).mp g) p e Rm s m args below meth c Q hx hq H locs ls hH hS hl
  · exact k2 (fun q => g ((jI_lt hy hx2).mpr q)) p e Rm s m args below meth c Q hx hq H locs ls hH hS hl
theorem pt_zgt {x : Int} (h : pd_b1 M pc .gt n t) (hx2 : jR x) (k1 : 0 < x → pd_T G M d mc ms X R t lv st sz ce sl hp) (k2 : ¬ 0 < x → pd_T G M d mc ms X R n lv st sz ce sl hp) : pd_T G M d mc ms X R pc lv (vi x :: st) sz ce sl hp := by
  intro p e Rm s m args below meth c Q hx hq H locs ls hH hS hl
  obtain ⟨off, ⟨h1, rfl⟩, h2⟩ := h
  refine lv_if_gt hx.1 hx.2.1 h1 h2 (fun g => ?_) (fun g => ?_)
  · exact k1 ((jI_lt jR_0 hx2).mp g) p e Rm s m args below meth c Q hx hq H locs ls hH hS hl
  · exact k2 (fun q => g ((jI_lt jR_0 hx2).mpr q)) p e Rm s m args below meth c Q hx hq H locs ls hH hS hl
theorem pt_cle {x y : Int} (h : pd_b2 M pc .le n t) (hx2 : jR x) (hy : jR y) (k1 : x ≤ y → pd_T G M d mc ms X R t lv st sz ce sl hp) (k2 : ¬ x ≤ y → pd_T G M d mc ms X R n lv st sz ce sl hp) : pd_T G M d mc ms X R pc lv (vi y :: vi x :: st) sz ce sl hp := by
  intro p e Rm s m args below meth c Q hx hq H locs ls hH hS hl
  obtain ⟨off, ⟨h1, rfl⟩, h2⟩ := h
  refine lv_icmp_le hx.1 hx.2.1 h1 h2 (fun g => ?_) (fun g => ?_)
  · exact k1 ((jI_le hx2 hy).mp g) p e Rm s m args below meth c Q hx hq H locs ls hH hS hl
  · exact k2 (fun q => g ((jI_le hx2 hy).mpr q)) p e Rm s m args below meth c Q hx hq H locs ls hH hS hl
theorem pt_zle {x : Int} (h : pd_b1 M pc .le n t) (hx2 : jR x) (k1 : x ≤ 0 → pd_T G M d mc ms X R t lv st sz ce sl hp) (k2 : ¬ x ≤ 0 → pd_T G M d mc ms X R n lv st sz ce sl hp) : pd_T G M d mc ms X R pc lv (vi x :: st) sz ce sl hp := by
  intro p e Rm s m args below meth c Q hx hq H locs ls hH hS hl
  obtain ⟨off, ⟨h1, rfl⟩, h2⟩ := h
  refine lv_if_le hx.1 hx.2.1 h1 h2 (fun g => ?_) (fun g => ?_)
  · exact k1 ((jI_le hx2 jR_0).mp g) p e Rm s m args below meth c Q hx hq H locs ls hH hS hl
  · exact k2 (fun q => g ((jI_le hx2 jR_0).mpr q)) p e Rm s m args below meth c Q hx hq H locs ls hH hS hl
theorem pt_goto (h : pd_go M pc t) (k : pd_T G M d mc ms X R t lv st sz ce sl hp) : pd_T G M d mc ms X R pc lv st sz ce sl hp := by
  intro p e Rm s m args below meth c Q hx hq H locs ls hH hS hl
  obtain ⟨off, h1, h2⟩ := h
  exact lv_goto hx.1 hx.2.1 h1 h2 (k p e Rm s m args below meth c Q hx hq H locs ls hH hS hl)
theorem pt_tin {dflt lo hi : Int} {offs : Array Int} {len : Nat} {x off : Int} (h : pd_i M pc (.tableswitch dflt lo hi offs) len n) (hr : jR x) (h1 : lo ≤ x) (h2 : x ≤ hi) (ho : offs[(x - lo).toNat]? = some off) (ht : (pc : Int) + off = (t : Int)) (k : pd_T G M d mc ms X R t lv st sz ce sl hp) : pd_T G M d mc ms X R pc lv (vi x :: st) sz ce sl hp := by
  intro p e Rm s m args below meth c Q hx hq H locs ls hH hS hl
  have e0 := jI_toInt hr
  exact lv_tableIn (off := off) hx.1 hx.2.1 h.1 (by rw [e0]; omega) (by rw [e0]; omega) (by rw [e0]; exact ho) ht (k p e Rm s m args below meth c Q hx hq H locs ls hH hS hl)
theorem pt_tout {dflt lo hi : Int} {offs : Array Int} {len : Nat} {x : Int} (h : pd_i M pc (.tableswitch dflt lo hi offs) len n) (hr : jR x) (h1 : x < lo ∨ hi < x) (ht : (pc : Int) + dflt = (t : Int)) (k : pd_T G M d mc ms X R t lv st sz ce sl hp) : pd_T G M d mc ms X R pc lv (vi x :: st) sz ce sl hp := by
  intro p e Rm s m args below meth c Q hx hq H locs ls hH hS hl
  have e0 := jI_toInt hr
  exact lv_tableOut hx.1 hx.2.1 h.1 (by rw [e0]; exact h1) ht (k p e Rm s m args below meth c Q hx hq H locs ls hH hS hl)
theorem pt_lsw {dflt : Int} {ps : Array (Int × Int)} {len : Nat} {x off : Int} (h : pd_i M pc (.lookupswitch dflt ps) len n) (hr : jR x) (hs : (ps.toList.zip (ps.toList.drop 1)).all (fun (a, next) => a.1 < next.1) = true) (ho : Op.lookupswitch.offset ps.toList dflt x = off) (ht : (pc : Int) + off = (t : Int)) (k : pd_T G M d mc ms X R t lv st sz ce sl hp) : pd_T G M d mc ms X R pc lv (vi x :: st) sz ce sl hp := by
  intro p e Rm s m args below meth c Q hx hq H locs ls hH hS hl
  have e0 := jI_toInt hr
  exact lv_lookup (off := off) hx.1 hx.2.1 h.1 hs (by rw [e0]; exact ho) ht (k p e Rm s m args below meth c Q hx hq H locs ls hH hS hl)
theorem pt_ret {v : Option pv} (h : pd_rd M pc v) (hc : ce ≤ mc) (hs : sl ≤ ms) (k : R v sz hp) : pd_T G M d mc ms X R pc lv v.toList sz ce sl hp := by
  intro p e Rm s m args below meth c Q hx hq H locs ls hH hS hl
  exact W.widen hc hs (hq pc H locs ls v sz hp h k hH hS)
theorem pt_iret {z : Int} (h : pd_rd M pc (some (vi z))) (hc : ce ≤ mc) (hs : sl ≤ ms) (k : R (some (vi z)) sz hp) : pd_T G M d mc ms X R pc lv [vi z] sz ce sl hp := pt_ret (v := some (vi z)) h hc hs k
theorem pt_lret {z : Int} (h : pd_rd M pc (some (vl z))) (hc : ce ≤ mc) (hs : sl ≤ ms) (k : R (some (vl z)) sz hp) : pd_T G M d mc ms X R pc lv [vl z] sz ce sl hp := pt_ret (v := some (vl z)) h hc hs k
theorem pt_vret (h : pd_rd M pc none) (hc : ce ≤ mc) (hs : sl ≤ ms) (k : R none sz hp) : pd_T G M d mc ms X R pc lv [] sz ce sl hp := pt_ret (v := none) h hc hs k
end PDROWS
end
section
/-! rows of the heap -/
theorem pd_lt {G : pd_G} {sz : Nat} {hp : pd_P} {H : Heap} {a : Nat} (hH : pd_H G sz hp H) (h : hp a ≠ ob 99 []) : ∃ k, a = k + 1 ∧ k < sz := by
  cases a with
  | zero => exact absurd (hH.2.2 0 (Or.inl rfl)) h
  | succ k =>
    refine ⟨k, rfl, ?_⟩
    rcases Nat.lt_or_ge k sz with h1 | h1
    · exact h1
    · exact absurd (hH.2.2 (k + 1) (Or.inr (by omega))) h
theorem pd_H.set {G : pd_G} {sz : Nat} {hp : pd_P} {H H1 : Heap} {k : Nat} {e : pd_E} (hH : pd_H G sz hp H) (hk : k < sz) (hz : H1.size = H.size) (hP : va_P G.2.1 pd_cl ((pd_w G sz hp).set k (G.2.2.2.1 + k, pd_e G e)) H1) : pd_H G sz (va_up hp (k + 1) e) H1 := by
  refine ⟨hz.trans hH.1, by rw [← pd_w_set hk]; exact hP, fun j hj => ?_⟩
  rw [va_up_ne _ _ (by omega)]
  exact hH.2.2 j hj
/-- an old cell's change keeps the size: what is said of the cells that were there, and no more, bounds it from below; the rows of the kit say 'va_S' alone -/
def pd_fit (ty : FieldType) (v : pv) : Prop := match ty, v with
  | .int, .inl _ => True
  | .boolean, .inl z => z = 0 ∨ z = 1
  | .long, .inr (.inl _) => True
  | .object _, .inr (.inr (some _)) => True
  | .array _, .inr (.inr (some _)) => True
  | _, _ => False
theorem pd_fit.nar {G : pd_G} {ty : FieldType} {v : pv} (h : pd_fit ty v) : narrow ty (pd_up G v) = pd_up G v ∧ fits ty (pd_up G v) = true := by
  unfold pd_fit at h
  split at h
  · exact ⟨rfl, rfl⟩
  · rcases h with rfl | rfl <;> exact ⟨rfl, rfl⟩
  · exact ⟨rfl, rfl⟩
  · exact ⟨rfl, rfl⟩
  · exact ⟨rfl, rfl⟩
  · exact h.elim
/-- a field by its place in a class's pool: of objects of the ci-th class it is the k-th -/
def pd_fl (own : String) (idx ci k : Nat) (ty : FieldType) : Prop := ∃ (C : String) (T : u_T) (N : Nat) (ref : String) (ty0 : Nat → FieldType), pd_cl[ci]? = some (C, T, N) ∧ k < N ∧ (∀ w ∈ u_ws C T N, w ∈ pd_tbl) ∧ Cond.fieldLink own idx ref (T k).2.1 (T k).2.2.1 ∈ pd_tbl ∧ ((T k).1 = ref ∨ Cond.sameField ref (T k).1 (T k).2.1 (T k).2.2.1 ∈ pd_tbl) ∧ (∀ k, k < N → parseFieldDescriptor (T k).2.2.1 = some (ty0 k)) ∧ (∀ a, a < N → ∀ b, b < N → a ≠ b → (T a).2.1 ≠ (T b).2.1) ∧ ty0 k = ty
def pd_fin (ci k : Nat) : Option (Bool × String) := (pd_cl[ci]?).map (fun q => ((q.2.1 k).2.2.2, (q.2.1 k).1))
def pd_gf (M : pd_M) (pc ci k n : Nat) : Prop := ∃ (idx : Nat) (ty : FieldType), pd_i M pc (.getfield idx) 3 n ∧ pd_fl M.1.cls idx ci k ty
def pd_pf (M : pd_M) (pc ci k : Nat) (ty : FieldType) (n : Nat) : Prop := ∃ idx : Nat, pd_i M pc (.putfield idx) 3 n ∧ pd_fl M.1.cls idx ci k ty ∧ ((∃ o, pd_fin ci k = some (false, o)) ∨ (pd_fin ci k = some (true, M.1.cls) ∧ M.1.name = "<init>"))
theorem pd_same {s : State} {args : Array Value} {ref O nm ds : String} (hts : ∀ w ∈ pd_tbl, w.before args s = true) (h : O = ref ∨ Cond.sameField ref O nm ds ∈ pd_tbl) (x : ClassId × Class × Nat × Field) (hx : s.fieldFound? O nm ds = some x) : s.fieldFound? ref nm ds = some x := by
  rcases h with rfl | h
  · exact hx
  · exact u_same (hts _ h) x hx
section PDHEAP
variable {G : pd_G} {M : pd_M} {d mc ms : Nat} {X : Option (Nat × (Nat → Int))} {R : pd_R} {pc n t : Nat} {lv : List (Option pv)} {st : List pv} {sz ce sl : Nat} {hp : pd_P}
theorem pt_get {a ci kf : Nat} {fs : List pv} {v : pv} (h : pd_gf M pc ci kf n) (hc : hp a = ob ci fs) (hv : fs[kf]? = some v) (k : pd_T G M d mc ms X R n lv (v :: st) sz ce sl hp) : pd_T G M d mc ms X R pc lv (vr a :: st) sz ce sl hp := by
  intro p e Rm s m args below meth c Q hx hq H locs ls hH hS hl
  obtain ⟨idx, ty, ⟨h1, rfl⟩, C, T, N, ref, ty0, g1, g2, g3, g4, g5, g6, g7, g8⟩ := h
  have hne : ci ≠ 99 := by rintro rfl; simp at g1
  obtain ⟨k0, rfl, hk0⟩ := pd_lt hH (a := a) (by rw [hc]; intro q; exact hne (congrArg Prod.fst (Sum.inr.inj q)))
  have hw := pd_w_get (G := G) (hp := hp) hk0
  rw [hc] at hw
  refine va_get (ws := pd_w G sz hp) hx.1 hx.2.1 hx.2.2.2.2.1 g3 hx.2.2.2.1 hx.2.2.2.2.2.1.1 hH.2.1 k0 hw g1 kf g2 (hx.2.2.2.2.1 _ g4) (pd_same hx.2.2.2.2.1 g5) (v := pd_up G v) (by rw [List.getElem?_map, hv]; rfl) h1 ?_
  exact k p e Rm s m args below meth c Q hx hq H locs ls hH hS hl
theorem pd_sz {G : pd_G} {sz : Nat} {hp : pd_P} {H : Heap} (h : pd_H G sz hp H) : H.size = G.2.2.2.1 + sz := h.1
theorem pt_put {a ci kf : Nat} {ty : FieldType} {fs : List pv} {v : pv} (h : pd_pf M pc ci kf ty n) (hc : hp a = ob ci fs) (hlen : kf < fs.length) (hf : pd_fit ty v) (k : pd_T G M d mc ms X R n lv st sz ce sl (va_up hp a (ob ci (fs.set kf v)))) : pd_T G M d mc ms X R pc lv (v :: vr a :: st) sz ce sl hp := by
  intro p e Rm s m args below meth c Q hx hq H locs ls hH hS hl
  obtain ⟨idx, ⟨h1, rfl⟩, ⟨C, T, N, ref, ty0, g1, g2, g3, g4, g5, g6, g7, g8⟩, hfin⟩ := h
  have hne : ci ≠ 99 := by rintro rfl; simp at g1
  obtain ⟨k0, rfl, hk0⟩ := pd_lt hH (a := a) (by rw [hc]; intro q; exact hne (congrArg Prod.fst (Sum.inr.inj q)))
  have hw := pd_w_get (G := G) (hp := hp) hk0
  rw [hc] at hw
  have hts := hx.2.2.2.2.1
  have hK := hx.2.2.2.2.2.1.1
  have hP := hH.2.1
  have hap := va_apart (own := M.1.cls) hts g3 ty0 g6 g7 hK g1
  obtain ⟨r, q0, cell, q1, q2, q3, q4⟩ := hP k0 _ hw
  have hr : r = (C, T, N) := Option.some.inj (q0.symm.trans g1)
  subst hr
  obtain ⟨hSl, hfc, kC, hkC, hkind⟩ := hK.1 ci _ g1
  obtain ⟨cf, kf', fi, f, hi, hsl⟩ := hSl kf g2
  have hlay := hts _ (g3 _ (u_in_lay g2))
  have hd : parseFieldDescriptor (T kf).2.2.1 = some ty := by rw [← g8]; exact g6 kf g2
  obtain ⟨n1, n2⟩ := pd_fit.nar (G := G) hf
  have hst := (u_facts hfc hkC (u_lays hts g3 g2) hi).1
  have fine : ∀ H' : Heap, H'[G.2.2.2.1 + k0]? = some (cell.setSlot f.slot (pd_up G v)) → H'.size = H.size → (∀ q, q ≠ G.2.2.2.1 + k0 → H'[q]? = H[q]?) → pd_H G sz (va_up hp (k0 + 1) (ob ci (fs.set kf v))) H' := by
    intro H' e1 e2 e3
    rw [hsl] at e1
    refine pd_H.set hH hk0 e2 (hP.set (pd_w_D G sz hp) hw ?_ e3)
    refine ⟨_, g1, t_OB.to (V := updV (vp_V (fs.map (pd_up G))) kf (pd_up G v)) ⟨_, e1, q2, q3, t_set q4 hap g2 (pd_up G v)⟩ (fun j _ => ?_)⟩
    rw [vp_updV_set (by simpa using hlen) (pd_up G v) j, List.map_set]
  have fineS : ∀ H' : Heap, H'.size = H.size → (∀ q, q ≠ G.2.2.2.1 + k0 → H'[q]? = H[q]?) → va_S (pd_A G) s.heap H' (locs ++ [⟨G.2.2.2.1 + k0, f.slot⟩]) := fun H' e2 e3 => hS.put e2 e3 (Nat.le_add_right _ _)
  unfold u_lay at hlay
  rcases hfin with ⟨o, ho⟩ | ⟨ho, hin⟩
  · have hfn : (T kf).2.2.2 = false := by
      simp only [pd_fin, g1, Option.map_some, Option.some.injEq, Prod.mk.injEq] at ho
      exact ho.1
    rw [if_neg (by rw [hfn]; decide)] at hlay
    have h6 := u_store hfc hkC hkind hlay hi hd n1 n2
    refine W.putK hx.1 hx.2.1 (f := f) ⟨hx.2.2.2.1, hts _ g4, ⟨_, _, _, pd_same hts g5 _ hi⟩, hst⟩ (by rw [q2]; exact h6) q1 q3 (by rw [hsl]; exact k2_hasslot (q4 kf g2)) rfl rfl h1 fun H' e1 e2 e3 => ?_
    exact k p e Rm s m args below meth c Q hx hq H' _ ls (fine H' e1 e2 e3) (fineS H' e2 e3) hl
  · have hfn : (T kf).2.2.2 = true ∧ (T kf).1 = M.1.cls := by
      simp only [pd_fin, g1, Option.map_some, Option.some.injEq, Prod.mk.injEq] at ho
      exact ho
    rw [if_pos hfn.1] at hlay
    have hcf : m.cls = cf := by
      obtain ⟨_, _, c', _, _, _, -, -, hf', -, -, -, hown2, -⟩ := Cond.laysFinal_spec hlay
      have e1 : c' = cf := by have := hi.symm.trans hf'; simp at this; exact this.1.symm
      rw [hfn.2] at hown2
      rw [← e1]; exact Option.some.inj (hx.2.2.2.1.symm.trans hown2)
    have h6 := u_fits hfc hkC hkind (Or.inr hlay) hi hd n1 n2
    refine W.putFinK hx.1 hx.2.1 hx.2.2.2.1 (hts _ g4) (pd_same hts g5 _ hi) hst hcf (hx.2.2.2.2.2.2.2.1 hin) (by rw [q2]; exact h6) q1 q3 (by rw [hsl]; exact k2_hasslot (q4 kf g2)) rfl rfl h1 fun H' e1 e2 e3 => ?_
    exact k p e Rm s m args below meth c Q hx hq H' _ ls (fine H' e1 e2 e3) (fineS H' e2 e3) hl
theorem pt_put0 {a ci : Nat} {ty : FieldType} {a0 : pv} {r : List pv} {v : pv} (h : pd_pf M pc ci 0 ty n) (hc : hp a = ob ci (a0 :: r)) (hf : pd_fit ty v) (k : pd_T G M d mc ms X R n lv st sz ce sl (va_up hp a (ob ci (v :: r)))) : pd_T G M d mc ms X R pc lv (v :: vr a :: st) sz ce sl hp := pt_put h hc (by simp) hf k
theorem pt_put1 {a ci : Nat} {ty : FieldType} {a0 a1 : pv} {r : List pv} {v : pv} (h : pd_pf M pc ci 1 ty n) (hc : hp a = ob ci (a0 :: a1 :: r)) (hf : pd_fit ty v) (k : pd_T G M d mc ms X R n lv st sz ce sl (va_up hp a (ob ci (a0 :: v :: r)))) : pd_T G M d mc ms X R pc lv (v :: vr a :: st) sz ce sl hp := pt_put h hc (by simp) hf k
theorem pt_put2 {a ci : Nat} {ty : FieldType} {a0 a1 a2 : pv} {r : List pv} {v : pv} (h : pd_pf M pc ci 2 ty n) (hc : hp a = ob ci (a0 :: a1 :: a2 :: r)) (hf : pd_fit ty v) (k : pd_T G M d mc ms X R n lv st sz ce sl (va_up hp a (ob ci (a0 :: a1 :: v :: r)))) : pd_T G M d mc ms X R pc lv (v :: vr a :: st) sz ce sl hp := pt_put h hc (by simp) hf k
theorem pt_put3 {a ci : Nat} {ty : FieldType} {a0 a1 a2 a3 : pv} {r : List pv} {v : pv} (h : pd_pf M pc ci 3 ty n) (hc : hp a = ob ci (a0 :: a1 :: a2 :: a3 :: r)) (hf : pd_fit ty v) (k : pd_T G M d mc ms X R n lv st sz ce sl (va_up hp a (ob ci (a0 :: a1 :: a2 :: v :: r)))) : pd_T G M d mc ms X R pc lv (v :: vr a :: st) sz ce sl hp := pt_put h hc (by simp) hf k
theorem pt_put4 {a ci : Nat} {ty : FieldType} {a0 a1 a2 a3 a4 : pv} {r : List pv} {v : pv} (h : pd_pf M pc ci 4 ty n) (hc : hp a = ob ci (a0 :: a1 :: a2 :: a3 :: a4 :: r)) (hf : pd_fit ty v) (k : pd_T G M d mc ms X R n lv st sz ce sl (va_up hp a (ob ci (a0 :: a1 :: a2 :: a3 :: v :: r)))) : pd_T G M d mc ms X R pc lv (v :: vr a :: st) sz ce sl hp := pt_put h hc (by simp) hf k
theorem pt_put5 {a ci : Nat} {ty : FieldType} {a0 a1 a2 a3 a4 a5 : pv} {r : List pv} {v : pv} (h : pd_pf M pc ci 5 ty n) (hc : hp a = ob ci (a0 :: a1 :: a2 :: a3 :: a4 :: a5 :: r)) (hf : pd_fit ty v) (k : pd_T G M d mc ms X R n lv st sz ce sl (va_up hp a (ob ci (a0 :: a1 :: a2 :: a3 :: a4 :: v :: r)))) : pd_T G M d mc ms X R pc lv (v :: vr a :: st) sz ce sl hp := pt_put h hc (by simp) hf k
theorem pt_put6 {a ci : Nat} {ty : FieldType} {a0 a1 a2 a3 a4 a5 a6 : pv} {r : List pv} {v : pv} (h : pd_pf M pc ci 6 ty n) (hc : hp a = ob ci (a0 :: a1 :: a2 :: a3 :: a4 :: a5 :: a6 :: r)) (hf : pd_fit ty v) (k : pd_T G M d mc ms X R n lv st sz ce sl (va_up hp a (ob ci (a0 :: a1 :: a2 :: a3 :: a4 :: a5 :: v :: r)))) : pd_T G M d mc ms X R pc lv (v :: vr a :: st) sz ce sl hp := pt_put h hc (by simp) hf k
theorem pt_put7 {a ci : Nat} {ty : FieldType} {a0 a1 a2 a3 a4 a5 a6 a7 : pv} {r : List pv} {v : pv} (h : pd_pf M pc ci 7 ty n) (hc : hp a = ob ci (a0 :: a1 :: a2 :: a3 :: a4 :: a5 :: a6 :: a7 :: r)) (hf : pd_fit ty v) (k : pd_T G M d mc ms X R n lv st sz ce sl (va_up hp a (ob ci (a0 :: a1 :: a2 :: a3 :: a4 :: a5 :: a6 :: v :: r)))) : pd_T G M d mc ms X R pc lv (v :: vr a :: st) sz ce sl hp := pt_put h hc (by simp) hf k
theorem pt_put8 {a ci : Nat} {ty : FieldType} {a0 a1 a2 a3 a4 a5 a6 a7 a8 : pv} {r : List pv} {v : pv} (h : pd_pf M pc ci 8 ty n) (hc : hp a = ob ci (a0 :: a1 :: a2 :: a3 :: a4 :: a5 :: a6 :: a7 :: a8 :: r)) (hf : pd_fit ty v) (k : pd_T G M d mc ms X R n lv st sz ce sl (va_up hp a (ob ci (a0 :: a1 :: a2 :: a3 :: a4 :: a5 :: a6 :: a7 :: v :: r)))) : pd_T G M d mc ms X R pc lv (v :: vr a :: st) sz ce sl hp := pt_put h hc (by simp) hf k
theorem pt_put9 {a ci : Nat} {ty : FieldType} {a0 a1 a2 a3 a4 a5 a6 a7 a8 a9 : pv} {r : List pv} {v : pv} (h : pd_pf M pc ci 9 ty n) (hc : hp a = ob ci (a0 :: a1 :: a2 :: a3 :: a4 :: a5 :: a6 :: a7 :: a8 :: a9 :: r)) (hf : pd_fit ty v) (k : pd_T G M d mc ms X R n lv st sz ce sl (va_up hp a (ob ci (a0 :: a1 :: a2 :: a3 :: a4 :: a5 :: a6 :: a7 :: a8 :: v :: r)))) : pd_T G M d mc ms X R pc lv (v :: vr a :: st) sz ce sl hp := pt_put h hc (by simp) hf k
theorem pt_put10 {a ci : Nat} {ty : FieldType} {a0 a1 a2 a3 a4 a5 a6 a7 a8 a9 a10 : pv} {r : List pv} {v : pv} (h : pd_pf M pc ci 10 ty n) (hc : hp a = ob ci (a0 :: a1 :: a2 :: a3 :: a4 :: a5 :: a6 :: a7 :: a8 :: a9 :: a10 :: r)) (hf : pd_fit ty v) (k : pd_T G M d mc ms X R n lv st sz ce sl (va_up hp a (ob ci (a0 :: a1 :: a2 :: a3 :: a4 :: a5 :: a6 :: a7 :: a8 :: a9 :: v :: r)))) : pd_T G M d mc ms X R pc lv (v :: vr a :: st) sz ce sl hp := pt_put h hc (by simp) hf k
theorem pt_put11 {a ci : Nat} {ty : FieldType} {a0 a1 a2 a3 a4 a5 a6 a7 a8 a9 a10 a11 : pv} {r : List pv} {v : pv} (h : pd_pf M pc ci 11 ty n) (hc : hp a = ob ci (a0 :: a1 :: a2 :: a3 :: a4 :: a5 :: a6 :: a7 :: a8 :: a9 :: a10 :: a11 :: r)) (hf : pd_fit ty v) (k : pd_T G M d mc ms X R n lv st sz ce sl (va_up hp a (ob ci (a0 :: a1 :: a2 :: a3 :: a4 :: a5 :: a6 :: a7 :: a8 :: a9 :: a10 :: v :: r)))) : pd_T G M d mc ms X R pc lv (v :: vr a :: st) sz ce sl hp := pt_put h hc (by simp) hf k
theorem pt_put12 {a ci : Nat} {ty : FieldType} {a0 a1 a2 a3 a4 a5 a6 a7 a8 a9 a10 a11 a12 : pv} {r : List pv} {v : pv} (h : pd_pf M pc ci 12 ty n) (hc : hp a = ob ci (a0 :: a1 :: a2 :: a3 :: a4 :: a5 :: a6 :: a7 :: a8 :: a9 :: a10 :: a11 :: a12 :: r)) (hf : pd_fit ty v) (k : pd_T G M d mc ms X R n lv st sz ce sl (va_up hp a (ob ci (a0 :: a1 :: a2 :: a3 :: a4 :: a5 :: a6 :: a7 :: a8 :: a9 :: a10 :: a11 :: v :: r)))) : pd_T G M d mc ms X R pc lv (v :: vr a :: st) sz ce sl hp := pt_put h hc (by simp) hf k
theorem pt_put13 {a ci : Nat} {ty : FieldType} {a0 a1 a2 a3 a4 a5 a6 a7 a8 a9 a10 a11 a12 a13 : pv} {r : List pv} {v : pv} (h : pd_pf M pc ci 13 ty n) (hc : hp a = ob ci (a0 :: a1 :: a2 :: a3 :: a4 :: a5 :: a6 :: a7 :: a8 :: a9 :: a10 :: a11 :: a12 :: a13 :: r)) (hf : pd_fit ty v) (k : pd_T G M d mc ms X R n lv st sz ce sl (va_up hp a (ob ci (a0 :: a1 :: a2 :: a3 :: a4 :: a5 :: a6 :: a7 :: a8 :: a9 :: a10 :: a11 :: a12 :: v :: r)))) : pd_T G M d mc ms X R pc lv (v :: vr a :: st) sz ce sl hp := pt_put h hc (by simp) hf k
theorem pt_put14 {a ci : Nat} {ty : FieldType} {a0 a1 a2 a3 a4 a5 a6 a7 a8 a9 a10 a11 a12 a13 a14 : pv} {r : List pv} {v : pv} (h : pd_pf M pc ci 14 ty n) (hc : hp a = ob ci (a0 :: a1 :: a2 :: a3 :: a4 :: a5 :: a6 :: a7 :: a8 :: a9 :: a10 :: a11 :: a12 :: a13 :: a14 :: r)) (hf : pd_fit ty v) (k : pd_T G M d mc ms X R n lv st sz ce sl (va_up hp a (ob ci (a0 :: a1 :: a2 :: a3 :: a4 :: a5 :: a6 :: a7 :: a8 :: a9 :: a10 :: a11 :: a12 :: a13 :: v :: r)))) : pd_T G M d mc ms X R pc lv (v :: vr a :: st) sz ce sl hp := pt_put h hc (by simp) hf k
theorem pt_put15 {a ci : Nat} {ty : FieldType} {a0 a1 a2 a3 a4 a5 a6 a7 a8 a9 a10 a11 a12 a13 a14 a15 : pv} {r : List pv} {v : pv} (h : pd_pf M pc ci 15 ty n) (hc : hp a = ob ci (a0 :: a1 :: a2 :: a3 :: a4 :: a5 :: a6 :: a7 :: a8 :: a9 :: a10 :: a11 :: a12 :: a13 :: a14 :: a15 :: r)) (hf : pd_fit ty v) (k : pd_T G M d mc ms X R n lv st sz ce sl (va_up hp a (ob ci (a0 :: a1 :: a2 :: a3 :: a4 :: a5 :: a6 :: a7 :: a8 :: a9 :: a10 :: a11 :: a12 :: a13 :: a14 :: v :: r)))) : pd_T G M d mc ms X R pc lv (v :: vr a :: st) sz ce sl hp := pt_put h hc (by simp) hf k
theorem pt_put16 {a ci : Nat} {ty : FieldType} {a0 a1 a2 a3 a4 a5 a6 a7 a8 a9 a10 a11 a12 a13 a14 a15 a16 : pv} {r : List pv} {v : pv} (h : pd_pf M pc ci 16 ty n) (hc : hp a = ob ci (a0 :: a1 :: a2 :: a3 :: a4 :: a5 :: a6 :: a7 :: a8 :: a9 :: a10 :: a11 :: a12 :: a13 :: a14 :: a15 :: a16 :: r)) (hf : pd_fit ty v) (k : pd_T G M d mc ms X R n lv st sz ce sl (va_up hp a (ob ci (a0 :: a1 :: a2 :: a3 :: a4 :: a5 :: a6 :: a7 :: a8 :: a9 :: a10 :: a11 :: a12 :: a13 :: a14 :: a15 :: v :: r)))) : pd_T G M d mc ms X R pc lv (v :: vr a :: st) sz ce sl hp := pt_put h hc (by simp) hf k
theorem pt_put17 {a ci : Nat} {ty : FieldType} {a0 a1 a2 a3 a4 a5 a6 a7 a8 a9 a10 a11 a12 a13 a14 a15 a16 a17 : pv} {r : List pv} {v : pv} (h : pd_pf M pc ci 17 ty n) (hc : hp a = ob ci (a0 :: a1 :: a2 :: a3 :: a4 :: a5 :: a6 :: a7 :: a8 :: a9 :: a10 :: a11 :: a12 :: a13 :: a14 :: a15 :: a16 :: a17 :: r)) (hf : pd_fit ty v) (k : pd_T G M d mc ms X R n lv st sz ce sl (va_up hp a (ob ci (a0 :: a1 :: a2 :: a3 :: a4 :: a5 :: a6 :: a7 :: a8 :: a9 :: a10 :: a11 :: a12 :: a13 :: a14 :: a15 :: a16 :: v :: r)))) : pd_T G M d mc ms X R pc lv (v :: vr a :: st) sz ce sl hp := pt_put h hc (by simp) hf k
theorem pt_put18 {a ci : Nat} {ty : FieldType} {a0 a1 a2 a3 a4 a5 a6 a7 a8 a9 a10 a11 a12 a13 a14 a15 a16 a17 a18 : pv} {r : List pv} {v : pv} (h : pd_pf M pc ci 18 ty n) (hc : hp a = ob ci (a0 :: a1 :: a2 :: a3 :: a4 :: a5 :: a6 :: a7 :: a8 :: a9 :: a10 :: a11 :: a12 :: a13 :: a14 :: a15 :: a16 :: a17 :: a18 :: r)) (hf : pd_fit ty v) (k : pd_T G M d mc ms X R n lv st sz ce sl (va_up hp a (ob ci (a0 :: a1 :: a2 :: a3 :: a4 :: a5 :: a6 :: a7 :: a8 :: a9 :: a10 :: a11 :: a12 :: a13 :: a14 :: a15 :: a16 :: a17 :: v :: r)))) : pd_T G M d mc ms X R pc lv (v :: vr a :: st) sz ce sl hp := pt_put h hc (by simp) hf k
theorem pt_put19 {a ci : Nat} {ty : FieldType} {a0 a1 a2 a3 a4 a5 a6 a7 a8 a9 a10 a11 a12 a13 a14 a15 a16 a17 a18 a19 : pv} {r : List pv} {v : pv} (h : pd_pf M pc ci 19 ty n) (hc : hp a = ob ci (a0 :: a1 :: a2 :: a3 :: a4 :: a5 :: a6 :: a7 :: a8 :: a9 :: a10 :: a11 :: a12 :: a13 :: a14 :: a15 :: a16 :: a17 :: a18 :: a19 :: r)) (hf : pd_fit ty v) (k : pd_T G M d mc ms X R n lv st sz ce sl (va_up hp a (ob ci (a0 :: a1 :: a2 :: a3 :: a4 :: a5 :: a6 :: a7 :: a8 :: a9 :: a10 :: a11 :: a12 :: a13 :: a14 :: a15 :: a16 :: a17 :: a18 :: v :: r)))) : pd_T G M d mc ms X R pc lv (v :: vr a :: st) sz ce sl hp := pt_put h hc (by simp) hf k
theorem pt_put20 {a ci : Nat} {ty : FieldType} {a0 a1 a2 a3 a4 a5 a6 a7 a8 a9 a10 a11 a12 a13 a14 a15 a16 a17 a18 a19 a20 : pv} {r : List pv} {v : pv} (h : pd_pf M pc ci 20 ty n) (hc : hp a = ob ci (a0 :: a1 :: a2 :: a3 :: a4 :: a5 :: a6 :: a7 :: a8 :: a9 :: a10 :: a11 :: a12 :: a13 :: a14 :: a15 :: a16 :: a17 :: a18 :: a19 :: a20 :: r)) (hf : pd_fit ty v) (k : pd_T G M d mc ms X R n lv st sz ce sl (va_up hp a (ob ci (a0 :: a1 :: a2 :: a3 :: a4 :: a5 :: a6 :: a7 :: a8 :: a9 :: a10 :: a11 :: a12 :: a13 :: a14 :: a15 :: a16 :: a17 :: a18 :: a19 :: v :: r)))) : pd_T G M d mc ms X R pc lv (v :: vr a :: st) sz ce sl hp := pt_put h hc (by simp) hf k
theorem pt_put21 {a ci : Nat} {ty : FieldType} {a0 a1 a2 a3 a4 a5 a6 a7 a8 a9 a10 a11 a12 a13 a14 a15 a16 a17 a18 a19 a20 a21 : pv} {r : List pv} {v : pv} (h : pd_pf M pc ci 21 ty n) (hc : hp a = ob ci (a0 :: a1 :: a2 :: a3 :: a4 :: a5 :: a6 :: a7 :: a8 :: a9 :: a10 :: a11 :: a12 :: a13 :: a14 :: a15 :: a16 :: a17 :: a18 :: a19 :: a20 :: a21 :: r)) (hf : pd_fit ty v) (k : pd_T G M d mc ms X R n lv st sz ce sl (va_up hp a (ob ci (a0 :: a1 :: a2 :: a3 :: a4 :: a5 :: a6 :: a7 :: a8 :: a9 :: a10 :: a11 :: a12 :: a13 :: a14 :: a15 :: a16 :: a17 :: a18 :: a19 :: a20 :: v :: r)))) : pd_T G M d mc ms X R pc lv (v :: vr a :: st) sz ce sl hp := pt_put h hc (by simp) hf k
theorem pt_put22 {a ci : Nat} {ty : FieldType} {a0 a1 a2 a3 a4 a5 a6 a7 a8 a9 a10 a11 a12 a13 a14 a15 a16 a17 a18 a19 a20 a21 a22 : pv} {r : List pv} {v : pv} (h : pd_pf M pc ci 22 ty n) (hc : hp a = ob ci (a0 :: a1 :: a2 :: a3 :: a4 :: a5 :: a6 :: a7 :: a8 :: a9 :: a10 :: a11 :: a12 :: a13 :: a14 :: a15 :: a16 :: a17 :: a18 :: a19 :: a20 :: a21 :: a22 :: r)) (hf : pd_fit ty v) (k : pd_T G M d mc ms X R n lv st sz ce sl (va_up hp a (ob ci (a0 :: a1 :: a2 :: a3 :: a4 :: a5 :: a6 :: a7 :: a8 :: a9 :: a10 :: a11 :: a12 :: a13 :: a14 :: a15 :: a16 :: a17 :: a18 :: a19 :: a20 :: a21 :: v :: r)))) : pd_T G M d mc ms X R pc lv (v :: vr a :: st) sz ce sl hp := pt_put h hc (by simp) hf k
theorem pt_put23 {a ci : Nat} {ty : FieldType} {a0 a1 a2 a3 a4 a5 a6 a7 a8 a9 a10 a11 a12 a13 a14 a15 a16 a17 a18 a19 a20 a21 a22 a23 : pv} {r : List pv} {v : pv} (h : pd_pf M pc ci 23 ty n) (hc : hp a = ob ci (a0 :: a1 :: a2 :: a3 :: a4 :: a5 :: a6 :: a7 :: a8 :: a9 :: a10 :: a11 :: a12 :: a13 :: a14 :: a15 :: a16 :: a17 :: a18 :: a19 :: a20 :: a21 :: a22 :: a23 :: r)) (hf : pd_fit ty v) (k : pd_T G M d mc ms X R n lv st sz ce sl (va_up hp a (ob ci (a0 :: a1 :: a2 :: a3 :: a4 :: a5 :: a6 :: a7 :: a8 :: a9 :: a10 :: a11 :: a12 :: a13 :: a14 :: a15 :: a16 :: a17 :: a18 :: a19 :: a20 :: a21 :: a22 :: v :: r)))) : pd_T G M d mc ms X R pc lv (v :: vr a :: st) sz ce sl hp := pt_put h hc (by simp) hf k
theorem pt_put24 {a ci : Nat} {ty : FieldType} {a0 a1 a2 a3 a4 a5 a6 a7 a8 a9 a10 a11 a12 a13 a14 a15 a16 a17 a18 a19 a20 a21 a22 a23 a24 : pv} {r : List pv} {v : pv} (h : pd_pf M pc ci 24 ty n) (hc : hp a = ob ci (a0 :: a1 :: a2 :: a3 :: a4 :: a5 :: a6 :: a7 :: a8 :: a9 :: a10 :: a11 :: a12 :: a13 :: a14 :: a15 :: a16 :: a17 :: a18 :: a19 :: a20 :: a21 :: a22 :: a23 :: a24 :: r)) (hf : pd_fit ty v) (k : pd_T G M d mc ms X R n lv st sz ce sl (va_up hp a (ob ci (a0 :: a1 :: a2 :: a3 :: a4 :: a5 :: a6 :: a7 :: a8 :: a9 :: a10 :: a11 :: a12 :: a13 :: a14 :: a15 :: a16 :: a17 :: a18 :: a19 :: a20 :: a21 :: a22 :: a23 :: v :: r)))) : pd_T G M d mc ms X R pc lv (v :: vr a :: st) sz ce sl hp := pt_put h hc (by simp) hf k
theorem pt_put25 {a ci : Nat} {ty : FieldType} {a0 a1 a2 a3 a4 a5 a6 a7 a8 a9 a10 a11 a12 a13 a14 a15 a16 a17 a18 a19 a20 a21 a22 a23 a24 a25 : pv} {r : List pv} {v : pv} (h : pd_pf M pc ci 25 ty n) (hc : hp a = ob ci (a0 :: a1 :: a2 :: a3 :: a4 :: a5 :: a6 :: a7 :: a8 :: a9 :: a10 :: a11 :: a12 :: a13 :: a14 :: a15 :: a16 :: a17 :: a18 :: a19 :: a20 :: a21 :: a22 :: a23 :: a24 :: a25 :: r)) (hf : pd_fit ty v) (k : pd_T G M d mc ms X R n lv st sz ce sl (va_up hp a (ob ci (a0 :: a1 :: a2 :: a3 :: a4 :: a5 :: a6 :: a7 :: a8 :: a9 :: a10 :: a11 :: a12 :: a13 :: a14 :: a15 :: a16 :: a17 :: a18 :: a19 :: a20 :: a21 :: a22 :: a23 :: a24 :: v :: r)))) : pd_T G M d mc ms X R pc lv (v :: vr a :: st) sz ce sl hp := pt_put h hc (by simp) hf k
theorem pt_put26 {a ci : Nat} {ty : FieldType} {a0 a1 a2 a3 a4 a5 a6 a7 a8 a9 a10 a11 a12 a13 a14 a15 a16 a17 a18 a19 a20 a21 a22 a23 a24 a25 a26 : pv} {r : List pv} {v : pv} (h : pd_pf M pc ci 26 ty n) (hc : hp a = ob ci (a0 :: a1 :: a2 :: a3 :: a4 :: a5 :: a6 :: a7 :: a8 :: a9 :: a10 :: a11 :: a12 :: a13 :: a14 :: a15 :: a16 :: a17 :: a18 :: a19 :: a20 :: a21 :: a22 :: a23 :: a24 :: a25 :: a26 :: r)) (hf : pd_fit ty v) (k : pd_T G M d mc ms X R n lv st sz ce sl (va_up hp a (ob ci (a0 :: a1 :: a2 :: a3 :: a4 :: a5 :: a6 :: a7 :: a8 :: a9 :: a10 :: a11 :: a12 :: a13 :: a14 :: a15 :: a16 :: a17 :: a18 :: a19 :: a20 :: a21 :: a22 :: a23 :: a24 :: a25 :: v :: r)))) : pd_T G M d mc ms X R pc lv (v :: vr a :: st) sz ce sl hp := pt_put h hc (by simp) hf k
theorem pt_put27 {a ci : Nat} {ty : FieldType} {a0 a1 a2 a3 a4 a5 a6 a7 a8 a9 a10 a11 a12 a13 a14 a15 a16 a17 a18 a19 a20 a21 a22 a23 a24 a25 a26 a27 : pv} {r : List pv} {v : pv} (h : pd_pf M pc ci 27 ty n) (hc : hp a = ob ci (a0 :: a1 :: a2 :: a3 :: a4 :: a5 :: a6 :: a7 :: a8 :: a9 :: a10 :: a11 :: a12 :: a13 :: a14 :: a15 :: a16 :: a17 :: a18 :: a19 :: a20 :: a21 :: a22 :: a23 :: a24 :: a25 :: a26 :: a27 :: r)) (hf : pd_fit ty v) (k : pd_T G M d mc ms X R n lv st sz ce sl (va_up hp a (ob ci (a0 :: a1 :: a2 :: a3 :: a4 :: a5 :: a6 :: a7 :: a8 :: a9 :: a10 :: a11 :: a12 :: a13 :: a14 :: a15 :: a16 :: a17 :: a18 :: a19 :: a20 :: a21 :: a22 :: a23 :: a24 :: a25 :: a26 :: v :: r)))) : pd_T G M d mc ms X R pc lv (v :: vr a :: st) sz ce sl hp := pt_put h hc (by simp) hf k
theorem pt_put28 {a ci : Nat} {ty : FieldType} {a0 a1 a2 a3 a4 a5 a6 a7 a8 a9 a10 a11 a12 a13 a14 a15 a16 a17 a18 a19 a20 a21 a22 a23 a24 a25 a26 a27 a28 : pv} {r : List pv} {v : pv} (h : pd_pf M pc ci 28 ty n) (hc : hp a = ob ci (a0 :: a1 :: a2 :: a3 :: a4 :: a5 :: a6 :: a7 :: a8 :: a9 :: a10 :: a11 :: a12 :: a13 :: a14 :: a15 :: a16 :: a17 :: a18 :: a19 :: a20 :: a21 :: a22 :: a23 :: a24 :: a25 :: a26 :: a27 :: a28 :: r)) (hf : pd_fit ty v) (k : pd_T G M d mc ms X R n lv st sz ce sl (va_up hp a (ob ci (a0 :: a1 :: a2 :: a3 :: a4 :: a5 :: a6 :: a7 :: a8 :: a9 :: a10 :: a11 :: a12 :: a13 :: a14 :: a15 :: a16 :: a17 :: a18 :: a19 :: a20 :: a21 :: a22 :: a23 :: a24 :: a25 :: a26 :: a27 :: v :: r)))) : pd_T G M d mc ms X R pc lv (v :: vr a :: st) sz ce sl hp := pt_put h hc (by simp) hf k
theorem pt_put29 {a ci : Nat} {ty : FieldType} {a0 a1 a2 a3 a4 a5 a6 a7 a8 a9 a10 a11 a12 a13 a14 a15 a16 a17 a18 a19 a20 a21 a22 a23 a24 a25 a26 a27 a28 a29 : pv} {r : List pv} {v : pv} (h : pd_pf M pc ci 29 ty n) (hc : hp a = ob ci (a0 :: a1 :: a2 :: a3 :: a4 :: a5 :: a6 :: a7 :: a8 :: a9 :: a10 :: a11 :: a12 :: a13 :: a14 :: a15 :: a16 :: a17 :: a18 :: a19 :: a20 :: a21 :: a22 :: a23 :: a24 :: a25 :: a26 :: a27 :: a28 :: a29 :: r)) (hf : pd_fit ty v) (k : pd_T G M d mc ms X R n lv st sz ce sl (va_up hp a (ob ci (a0 :: a1 :: a2 :: a3 :: a4 :: a5 :: a6 :: a7 :: a8 :: a9 :: a10 :: a11 :: a12 :: a13 :: a14 :: a15 :: a16 :: a17 :: a18 :: a19 :: a20 :: a21 :: a22 :: a23 :: a24 :: a25 :: a26 :: a27 :: a28 :: v :: r)))) : pd_T G M d mc ms X R pc lv (v :: vr a :: st) sz ce sl hp := pt_put h hc (by simp) hf k
theorem pt_put30 {a ci : Nat} {ty : FieldType} {a0 a1 a2 a3 a4 a5 a6 a7 a8 a9 a10 a11 a12 a13 a14 a15 a16 a17 a18 a19 a20 a21 a22 a23 a24 a25 a26 a27 a28 a29 a30 : pv} {r : List pv} {v : pv} (h : pd_pf M pc ci 30 ty n) (hc : hp a = ob ci (a0 :: a1 :: a2 :: a3 :: a4 :: a5 :: a6 :: a7 :: a8 :: a9 :: a10 :: a11 :: a12 :: a13 :: a14 :: a15 :: a16 :: a17 :: a18 :: a19 :: a20 :: a21 :: a22 :: a23 :: a24 :: a25 :: a26 :: a27 :: a28 :: a29 :: a30 :: r)) (hf : pd_fit ty v) (k : pd_T G M d mc ms X R n lv st sz ce sl (va_up hp a (ob ci (a0 :: a1 :: a2 :: a3 :: a4 :: a5 :: a6 :: a7 :: a8 :: a9 :: a10 :: a11 :: a12 :: a13 :: a14 :: a15 :: a16 :: a17 :: a18 :: a19 :: a20 :: a21 :: a22 :: a23 :: a24 :: a25 :: a26 :: a27 :: a28 :: a29 :: v :: r)))) : pd_T G M d mc ms X R pc lv (v :: vr a :: st) sz ce sl hp := pt_put h hc (by simp) hf k
theorem pt_put31 {a ci : Nat} {ty : FieldType} {a0 a1 a2 a3 a4 a5 a6 a7 a8 a9 a10 a11 a12 a13 a14 a15 a16 a17 a18 a19 a20 a21 a22 a23 a24 a25 a26 a27 a28 a29 a30 a31 : pv} {r : List pv} {v : pv} (h : pd_pf M pc ci 31 ty n) (hc : hp a = ob ci (a0 :: a1 :: a2 :: a3 :: a4 :: a5 :: a6 :: a7 :: a8 :: a9 :: a10 :: a11 :: a12 :: a13 :: a14 :: a15 :: a16 :: a17 :: a18 :: a19 :: a20 :: a21 :: a22 :: a23 :: a24 :: a25 :: a26 :: a27 :: a28 :: a29 :: a30 :: a31 :: r)) (hf : pd_fit ty v) (k : pd_T G M d mc ms X R n lv st sz ce sl (va_up hp a (ob ci (a0 :: a1 :: a2 :: a3 :: a4 :: a5 :: a6 :: a7 :: a8 :: a9 :: a10 :: a11 :: a12 :: a13 :: a14 :: a15 :: a16 :: a17 :: a18 :: a19 :: a20 :: a21 :: a22 :: a23 :: a24 :: a25 :: a26 :: a27 :: a28 :: a29 :: a30 :: v :: r)))) : pd_T G M d mc ms X R pc lv (v :: vr a :: st) sz ce sl hp := pt_put h hc (by simp) hf k
theorem pt_iald {a N : Nat} {f : Int → Int} {z : Int} (h : pd_i M pc .iaload 1 n) (hc : hp a = ia N f) (h0 : 0 ≤ z) (hz : z < N) (hN : (N : Int) ≤ 2147483648) (k : pd_T G M d mc ms X R n lv (vi (f z) :: st) sz ce sl hp) : pd_T G M d mc ms X R pc lv (vi z :: vr a :: st) sz ce sl hp := by
  intro p e Rm s m args below meth c Q hx hq H locs ls hH hS hl
  obtain ⟨h1, rfl⟩ := h
  obtain ⟨k0, rfl, hk0⟩ := pd_lt hH (a := a) (by rw [hc]; intro q; cases q)
  have hw := pd_w_get (G := G) (hp := hp) hk0
  rw [hc] at hw
  have hcl := jI_cl h0 hz hN
  refine va_iald (ws := pd_w G sz hp) hx.1 hx.2.1 hx.2.2.2.2.2.1.1 hH.2.1 k0 0 hw rfl (jI_in h0 hz hN) h1 ?_
  have e0 : jI (f ((jI z).toNatClampNeg : Int)) = jI (f z) := by rw [hcl, Int.toNat_of_nonneg h0]
  rw [e0]
  exact k p e Rm s m args below meth c Q hx hq H locs ls hH hS hl
theorem pt_bald {a N : Nat} {f : Int → Int} {z : Int} (h : pd_i M pc .baload 1 n) (hc : hp a = ba N f) (h0 : 0 ≤ z) (hz : z < N) (hN : (N : Int) ≤ 2147483648) (k : pd_T G M d mc ms X R n lv (vi (f z) :: st) sz ce sl hp) : pd_T G M d mc ms X R pc lv (vi z :: vr a :: st) sz ce sl hp := by
  intro p e Rm s m args below meth c Q hx hq H locs ls hH hS hl
  obtain ⟨h1, rfl⟩ := h
  obtain ⟨k0, rfl, hk0⟩ := pd_lt hH (a := a) (by rw [hc]; intro q; cases q)
  have hw := pd_w_get (G := G) (hp := hp) hk0
  rw [hc] at hw
  have hcl := jI_cl h0 hz hN
  refine va_bald (ws := pd_w G sz hp) hx.1 hx.2.1 hx.2.2.2.2.2.1.1 hH.2.1 k0 1 hw rfl (jI_in h0 hz hN) h1 ?_
  have e0 : jI (f ((jI z).toNatClampNeg : Int)) = jI (f z) := by rw [hcl, Int.toNat_of_nonneg h0]
  rw [e0]
  exact k p e Rm s m args below meth c Q hx hq H locs ls hH hS hl
theorem pt_zald {a N : Nat} {f : Int → Int} {z : Int} (h : pd_i M pc .baload 1 n) (hc : hp a = za N f) (h0 : 0 ≤ z) (hz : z < N) (hN : (N : Int) ≤ 2147483648) (k : pd_T G M d mc ms X R n lv (vi (f z) :: st) sz ce sl hp) : pd_T G M d mc ms X R pc lv (vi z :: vr a :: st) sz ce sl hp := by
  intro p e Rm s m args below meth c Q hx hq H locs ls hH hS hl
  obtain ⟨h1, rfl⟩ := h
  obtain ⟨k0, rfl, hk0⟩ := pd_lt hH (a := a) (by rw [hc]; intro q; cases q)
  have hw := pd_w_get (G := G) (hp := hp) hk0
  rw [hc] at hw
  have hcl := jI_cl h0 hz hN
  refine va_zald (ws := pd_w G sz hp) hx.1 hx.2.1 hx.2.2.2.2.2.1.1 hH.2.1 k0 2 hw rfl (jI_in h0 hz hN) h1 ?_
  have e0 : jI (f ((jI z).toNatClampNeg : Int)) = jI (f z) := by rw [hcl, Int.toNat_of_nonneg h0]
  rw [e0]
  exact k p e Rm s m args below meth c Q hx hq H locs ls hH hS hl
theorem pt_iast {a N : Nat} {f : Int → Int} {z x : Int} (h : pd_i M pc .iastore 1 n) (hc : hp a = ia N f) (h0 : 0 ≤ z) (hz : z < N) (hN : (N : Int) ≤ 2147483648)  (k : pd_T G M d mc ms X R n lv st sz ce sl (va_up hp a (ia N (uI f z x)))) : pd_T G M d mc ms X R pc lv (vi x :: vi z :: vr a :: st) sz ce sl hp := by
  intro p e Rm s m args below meth c Q hx hq H locs ls hH hS hl
  obtain ⟨h1, rfl⟩ := h
  obtain ⟨k0, rfl, hk0⟩ := pd_lt hH (a := a) (by rw [hc]; intro q; cases q)
  have hw := pd_w_get (G := G) (hp := hp) hk0
  rw [hc] at hw
  have hcl := jI_cl h0 hz hN
  have hin := jI_in h0 hz hN
  refine W.iast hx.1 hx.2.1 (hH.2.1 k0 _ hw) ((hx.2.2.2.2.2.1.1.2 0 _ rfl).1 N (fun j => .int (jI (f j)))) (fun q => by cases q) (by show ¬ (jI z < 0 ∨ (arrV _ _ _).slots.size ≤ _); rw [arrV_size]; exact hin) rfl rfl h1 fun H1 e1 z1 oq => ?_
  refine k p e Rm s m args below meth c Q hx hq H1 _ ls (pd_H.set hH hk0 z1 (hH.2.1.set (pd_w_D G sz hp) hw ?_ oq)) (hS.put z1 oq (Nat.le_add_right _ _)) hl
  show H1[_]? = some (vp_cell _ _)
  rw [e1]
  rw [vp_cell_i, vp_cell_i, arrV_store]
  congr 2
  funext q
  by_cases hqz : q = (jI z).toNatClampNeg
  · subst hqz
    · simp [updV, uI, hcl, Int.toNat_of_nonneg h0]
  · have hq2 : ¬ (q : Int) = z := fun w => hqz (by rw [hcl]; omega)
    simp [updV, uI, hqz, hq2]
theorem pd_byte {x : Int} (h1 : -128 ≤ x) (h2 : x < 128) : (jI x).toInt8.toInt32 = jI x := by
  apply Int32.toInt_inj.mp
  rw [jI_toInt ⟨by omega, by omega⟩, Int8.toInt_toInt32, Int32.toInt_toInt8, jI_toInt ⟨by omega, by omega⟩]
  exact Int.bmod_eq_of_le (by omega) (by omega)
theorem pt_bast {a N : Nat} {f : Int → Int} {z x : Int} (h : pd_i M pc .bastore 1 n) (hc : hp a = ba N f) (h0 : 0 ≤ z) (hz : z < N) (hN : (N : Int) ≤ 2147483648) (hb : -128 ≤ x ∧ x < 128)  (k : pd_T G M d mc ms X R n lv st sz ce sl (va_up hp a (ba N (uI f z x)))) : pd_T G M d mc ms X R pc lv (vi x :: vi z :: vr a :: st) sz ce sl hp := by
  intro p e Rm s m args below meth c Q hx hq H locs ls hH hS hl
  obtain ⟨h1, rfl⟩ := h
  obtain ⟨k0, rfl, hk0⟩ := pd_lt hH (a := a) (by rw [hc]; intro q; cases q)
  have hw := pd_w_get (G := G) (hp := hp) hk0
  rw [hc] at hw
  have hcl := jI_cl h0 hz hN
  have hin := jI_in h0 hz hN
  refine W.bast hx.1 hx.2.1 (hH.2.1 k0 _ hw) ((hx.2.2.2.2.2.1.1.2 1 _ rfl).1 N (fun j => .int (jI (f j)))) (fun q => by cases q) (by show ¬ (jI z < 0 ∨ (arrV _ _ _).slots.size ≤ _); rw [arrV_size]; exact hin) rfl rfl h1 fun H1 e1 z1 oq => ?_
  refine k p e Rm s m args below meth c Q hx hq H1 _ ls (pd_H.set hH hk0 z1 (hH.2.1.set (pd_w_D G sz hp) hw ?_ oq)) (hS.put z1 oq (Nat.le_add_right _ _)) hl
  show H1[_]? = some (vp_cell _ _)
  rw [e1]
  rw [vp_cell_i, vp_cell_i, arrV_store]
  congr 2
  funext q
  by_cases hqz : q = (jI z).toNatClampNeg
  · subst hqz
    · have e9 : (jI x).toInt8.toInt32 = jI x := pd_byte hb.1 hb.2
      simp [updV, uI, hcl, Int.toNat_of_nonneg h0]
      exact congrArg Value.int e9
  · have hq2 : ¬ (q : Int) = z := fun w => hqz (by rw [hcl]; omega)
    simp [updV, uI, hqz, hq2]
theorem pt_zast {a N : Nat} {f : Int → Int} {z x : Int} (h : pd_i M pc .bastore 1 n) (hc : hp a = za N f) (h0 : 0 ≤ z) (hz : z < N) (hN : (N : Int) ≤ 2147483648) (hb : x = 0 ∨ x = 1)  (k : pd_T G M d mc ms X R n lv st sz ce sl (va_up hp a (za N (uI f z x)))) : pd_T G M d mc ms X R pc lv (vi x :: vi z :: vr a :: st) sz ce sl hp := by
  intro p e Rm s m args below meth c Q hx hq H locs ls hH hS hl
  obtain ⟨h1, rfl⟩ := h
  obtain ⟨k0, rfl, hk0⟩ := pd_lt hH (a := a) (by rw [hc]; intro q; cases q)
  have hw := pd_w_get (G := G) (hp := hp) hk0
  rw [hc] at hw
  have hcl := jI_cl h0 hz hN
  have hin := jI_in h0 hz hN
  refine W.zast hx.1 hx.2.1 (hH.2.1 k0 _ hw) ((hx.2.2.2.2.2.1.1.2 2 _ rfl).1 N (fun j => .int (jI (f j)))) (fun q => by cases q) (by show ¬ (jI z < 0 ∨ (arrV _ _ _).slots.size ≤ _); rw [arrV_size]; exact hin) rfl rfl h1 fun H1 e1 z1 oq => ?_
  refine k p e Rm s m args below meth c Q hx hq H1 _ ls (pd_H.set hH hk0 z1 (hH.2.1.set (pd_w_D G sz hp) hw ?_ oq)) (hS.put z1 oq (Nat.le_add_right _ _)) hl
  show H1[_]? = some (vp_cell _ _)
  rw [e1]
  rw [vp_cell_i, vp_cell_i, arrV_store]
  congr 2
  funext q
  by_cases hqz : q = (jI z).toNatClampNeg
  · subst hqz
    · simp [updV, uI, hcl, Int.toNat_of_nonneg h0]
      rcases hb with rfl | rfl <;> rfl
  · have hq2 : ¬ (q : Int) = z := fun w => hqz (by rw [hcl]; omega)
    simp [updV, uI, hqz, hq2]
theorem pt_alen {a kd N : Nat} {x : (Int → Int) ⊕ (Int → Option Nat)} {ty : FieldType} (h : pd_i M pc .arraylength 1 n) (hc : hp a = .inl (kd, N, x)) (hty : (pd_ty G)[kd]? = some (G.2.2.1 kd, ty)) (k : pd_T G M d mc ms X R n lv (vi N :: st) sz ce sl hp) : pd_T G M d mc ms X R pc lv (vr a :: st) sz ce sl hp := by
  intro p e Rm s m args below meth c Q hx hq H locs ls hH hS hl
  obtain ⟨h1, rfl⟩ := h
  obtain ⟨k0, rfl, hk0⟩ := pd_lt hH (a := a) (by rw [hc]; intro q; cases q)
  have hw := pd_w_get (G := G) (hp := hp) hk0
  rw [hc] at hw
  rcases x with f | f
  · exact va_alen (ws := pd_w G sz hp) hx.1 hx.2.1 hx.2.2.2.2.2.1.1 hH.2.1 k0 kd hw hty (v := jI N) Int32.ofInt_eq_ofNat.symm h1 (k p e Rm s m args below meth c Q hx hq H locs ls hH hS hl)
  · exact va_alen (ws := pd_w G sz hp) hx.1 hx.2.1 hx.2.2.2.2.2.1.1 hH.2.1 k0 kd hw hty (v := jI N) Int32.ofInt_eq_ofNat.symm h1 (k p e Rm s m args below meth c Q hx hq H locs ls hH hS hl)
theorem pt_aald {a kd N q : Nat} {C : String} {f : Int → Option Nat} {z : Int} (h : pd_i M pc .aaload 1 n) (hc : hp a = ra kd N f) (hty : (pd_ty G)[kd]? = some (G.2.2.1 kd, .object C)) (h0 : 0 ≤ z) (hz : z < N) (hN : (N : Int) ≤ 2147483648) (hv : f z = some q) (k : pd_T G M d mc ms X R n lv (vr q :: st) sz ce sl hp) : pd_T G M d mc ms X R pc lv (vi z :: vr a :: st) sz ce sl hp := by
  intro p e Rm s m args below meth c Q hx hq H locs ls hH hS hl
  obtain ⟨h1, rfl⟩ := h
  obtain ⟨k0, rfl, hk0⟩ := pd_lt hH (a := a) (by rw [hc]; intro q; cases q)
  have hw := pd_w_get (G := G) (hp := hp) hk0
  rw [hc] at hw
  have hcl := jI_cl h0 hz hN
  refine va_aldq (ws := pd_w G sz hp) hx.1 hx.2.1 hx.2.2.2.2.2.1.1 hH.2.1 k0 kd hw hty (jI_in h0 hz hN) h1 ?_
  have e0 : f ((jI z).toNatClampNeg : Int) = some q := by rw [hcl, Int.toNat_of_nonneg h0]; exact hv
  rw [e0]
  exact k p e Rm s m args below meth c Q hx hq H locs ls hH hS hl
theorem pt_sld {L : Nat} {xs : Nat → Int} {z : Int} (hX : X = some (L, xs)) (h : pd_i M pc .iaload 1 n) (h0 : 0 ≤ z) (hz : z < L) (hN : (L : Int) ≤ 2147483648) (k : pd_T G M d mc ms X R n lv (vi (xs z.toNat) :: st) sz ce sl hp) : pd_T G M d mc ms X R pc lv (vi z :: vr 0 :: st) sz ce sl hp := by
  intro p e Rm s m args below meth c Q hx hq H locs ls hH hS hl
  obtain ⟨h1, rfl⟩ := h
  have hX2 := hx.2.2.2.2.2.2.2.2.2
  rw [hX] at hX2
  have hcl := jI_cl h0 hz hN
  refine va_sld hx.1 hx.2.1 hX2.1 hX2.2.1 (Nat.not_le.mpr hX2.2.2) hS (jI_in h0 hz hN) h1 ?_
  rw [hcl]
  exact k p e Rm s m args below meth c Q hx hq H locs ls hH hS hl
theorem pt_slen {L : Nat} {xs : Nat → Int} (hX : X = some (L, xs)) (h : pd_i M pc .arraylength 1 n) (k : pd_T G M d mc ms X R n lv (vi L :: st) sz ce sl hp) : pd_T G M d mc ms X R pc lv (vr 0 :: st) sz ce sl hp := by
  intro p e Rm s m args below meth c Q hx hq H locs ls hH hS hl
  obtain ⟨h1, rfl⟩ := h
  have hX2 := hx.2.2.2.2.2.2.2.2.2
  rw [hX] at hX2
  refine va_slen hx.1 hx.2.1 hX2.1 hX2.2.1 (Nat.not_le.mpr hX2.2.2) hS h1 ?_
  rw [← Int32.ofInt_eq_ofNat]
  exact k p e Rm s m args below meth c Q hx hq H locs ls hH hS hl
end PDHEAP
end
section
/-! more rows: numbers, Math, arraycopy, references into rows -/
theorem jI_div {x y : Int} (hx : 0 ≤ x) (hx2 : x < 2147483648) (hy : 0 < y) (hy2 : y < 2147483648) : jI x / jI y = jI (x / y) := by
  apply Int32.toInt_inj.mp
  have h1 : 0 ≤ x / y := Int.ediv_nonneg hx (by omega)
  have h2 : x / y ≤ x := Int.ediv_le_self y hx
  have hne : jI y ≠ -1 := by
    intro h
    have h3 : jI y = jI (-1) := h
    rw [jI_eq ⟨by omega, by omega⟩ ⟨by omega, by omega⟩] at h3
    omega
  rw [Int32.toInt_div_of_ne_right _ _ hne, jI_toInt ⟨by omega, by omega⟩, jI_toInt ⟨by omega, by omega⟩, jI_toInt ⟨by omega, by omega⟩, Int.tdiv_eq_ediv_of_nonneg hx]
theorem jI_ne0 {y : Int} (hy : 0 < y) (hy2 : y < 2147483648) : ¬ jI y = 0 := by
  intro h
  have h3 : jI y = jI 0 := h
  rw [jI_eq ⟨by omega, by omega⟩ jR_0] at h3
  omega
theorem jI_rem {x y : Int} (hx : 0 ≤ x) (hx2 : x < 2147483648) (hy : 0 < y) (hy2 : y < 2147483648) : jI x - jI x / jI y * jI y = jI (x % y) := by
  rw [jI_div hx hx2 hy hy2, jI_mul, jI_sub]
  congr 1
  have h1 := Int.emod_add_mul_ediv x y
  have h2 : x / y * y = y * (x / y) := Int.mul_comm _ _
  omega
theorem jI_and_mask (x : Int) (k : Nat) (hk : k ≤ 30) {m : Int} (hm : m = 2 ^ k - 1) : jI x &&& jI m = jI (x % 2 ^ k) := by
  have hp : (0 : Int) < 2 ^ k := Int.pow_pos (by decide)
  have hle : (2 : Int) ^ k ≤ 2 ^ 30 := by
    have := Nat.pow_le_pow_right (show 0 < 2 by decide) hk
    exact_mod_cast this
  have e1 : jI x &&& jI m = nI ((jI x).toBitVec.toNat % 2 ^ k) := by
    refine pk_and (jI x) k ?_
    subst hm
    have h1 : ((2 : Int) ^ k - 1) = (((2 ^ k - 1 : Nat)) : Int) := by
      have h9 : 1 ≤ 2 ^ k := Nat.one_le_two_pow
      rw [Int.natCast_sub h9]
      simp
    show (Int32.ofInt _).toBitVec.toNat = _
    rw [h1, Int32.ofInt_eq_ofNat]
    refine pk_tn ?_
    have : 2 ^ k ≤ 2 ^ 30 := Nat.pow_le_pow_right (by decide) hk
    omega
  rw [e1]
  show Int32.ofNat _ = Int32.ofInt _
  rw [← Int32.ofInt_eq_ofNat]
  congr 1
  have h2 : (((jI x).toBitVec.toNat : Nat) : Int) = x % 2 ^ 32 := by
    show (((BitVec.ofInt 32 x).toNat : Nat) : Int) = _
    rw [BitVec.toNat_ofInt]
    have : (0 : Int) ≤ x % (2 ^ 32 : Nat) := Int.emod_nonneg _ (by decide)
    omega
  rw [Int.natCast_emod, h2]
  have h3 : ((2 ^ k : Nat) : Int) = 2 ^ k := by simp
  rw [h3, Int.emod_emod_of_dvd]
  have hd : (2 ^ k : Nat) ∣ 2 ^ 32 := Nat.pow_dvd_pow 2 (by omega)
  have := Int.natCast_dvd_natCast.mpr hd
  simpa using this
theorem jI_min (x y : Int) (hx : jR x) (hy : jR y) : (if jI y < jI x then jI y else jI x) = jI (min x y) := by
  by_cases h : y < x
  · rw [if_pos ((jI_lt hy hx).mpr h), Int.min_eq_right (by omega)]
  · rw [if_neg (fun q => h ((jI_lt hy hx).mp q)), Int.min_eq_left (by omega)]
theorem jI_max (x y : Int) (hx : jR x) (hy : jR y) : (if jI x < jI y then jI y else jI x) = jI (max x y) := by
  by_cases h : x < y
  · rw [if_pos ((jI_lt hx hy).mpr h), Int.max_eq_right (by omega)]
  · rw [if_neg (fun q => h ((jI_lt hx hy).mp q)), Int.max_eq_left (by omega)]
theorem jI_i2b {x : Int} (hx : 0 ≤ x) (hx2 : x < 256) : (jI x).toInt8.toInt32 = jI (if x < 128 then x else x - 256) := by
  apply Int32.toInt_inj.mp
  rw [Int8.toInt_toInt32, Int32.toInt_toInt8, jI_toInt ⟨by omega, by omega⟩]
  by_cases h : x < 128
  · rw [if_pos h, jI_toInt ⟨by omega, by omega⟩]
    exact Int.bmod_eq_of_le (by omega) (by omega)
  · rw [if_neg h, jI_toInt ⟨by omega, by omega⟩]
    simp only [Int.bmod]
    omega
theorem pd_words (G : pd_G) : ∀ st : List pv, ((st.map (pd_up G)).map fun v => v.category).sum ≤ 2 * st.length
  | [] => by simp
  | v :: st => by
    have ih := pd_words G st
    have hc := lv_cat (pd_up G v)
    simp only [List.map_cons, List.sum_cons, List.length_cons]
    omega
section PDMORE
variable {G : pd_G} {M : pd_M} {d mc ms : Nat} {X : Option (Nat × (Nat → Int))} {R : pd_R} {pc n t : Nat} {lv : List (Option pv)} {st : List pv} {sz ce sl : Nat} {hp : pd_P}
theorem pt_idiv {x y : Int} (h : pd_i M pc .idiv 1 n) (h1 : 0 ≤ x) (h2 : x < 2147483648) (h3 : 0 < y) (h4 : y < 2147483648) (k : pd_T G M d mc ms X R n lv (vi (x / y) :: st) sz ce sl hp) : pd_T G M d mc ms X R pc lv (vi y :: vi x :: st) sz ce sl hp := by
  intro p e Rm s m args below meth c Q hx hq H locs ls hH hS hl
  obtain ⟨g1, rfl⟩ := h
  refine lv_idiv hx.1 hx.2.1 g1 (jI_ne0 h3 h4) ?_
  rw [jI_div h1 h2 h3 h4]
  exact k p e Rm s m args below meth c Q hx hq H locs ls hH hS hl
theorem pt_irem {x y : Int} (h : pd_i M pc .irem 1 n) (h1 : 0 ≤ x) (h2 : x < 2147483648) (h3 : 0 < y) (h4 : y < 2147483648) (k : pd_T G M d mc ms X R n lv (vi (x % y) :: st) sz ce sl hp) : pd_T G M d mc ms X R pc lv (vi y :: vi x :: st) sz ce sl hp := by
  intro p e Rm s m args below meth c Q hx hq H locs ls hH hS hl
  obtain ⟨g1, rfl⟩ := h
  refine lv_irem hx.1 hx.2.1 g1 (jI_ne0 h3 h4) ?_
  rw [jI_rem h1 h2 h3 h4]
  exact k p e Rm s m args below meth c Q hx hq H locs ls hH hS hl
theorem pt_iand {x m0 : Int} (kb : Nat) (h : pd_i M pc .iand 1 n) (hk : kb ≤ 30) (hm : m0 = 2 ^ kb - 1) (k : pd_T G M d mc ms X R n lv (vi (x % 2 ^ kb) :: st) sz ce sl hp) : pd_T G M d mc ms X R pc lv (vi m0 :: vi x :: st) sz ce sl hp := by
  intro p e Rm s m args below meth c Q hx hq H locs ls hH hS hl
  obtain ⟨g1, rfl⟩ := h
  refine lv_iand hx.1 hx.2.1 g1 ?_
  rw [jI_and_mask x kb hk hm]
  exact k p e Rm s m args below meth c Q hx hq H locs ls hH hS hl
theorem pt_i2b {x : Int} (h : pd_i M pc .i2b 1 n) (h1 : 0 ≤ x) (h2 : x < 256) (k : pd_T G M d mc ms X R n lv (vi (if x < 128 then x else x - 256) :: st) sz ce sl hp) : pd_T G M d mc ms X R pc lv (vi x :: st) sz ce sl hp := by
  intro p e Rm s m args below meth c Q hx hq H locs ls hH hS hl
  obtain ⟨g1, rfl⟩ := h
  exact lv_i2b hx.1 hx.2.1 g1 (jI_i2b h1 h2) (k p e Rm s m args below meth c Q hx hq H locs ls hH hS hl)
theorem pt_ior {x y z : Int} (h : pd_i M pc .ior 1 n) (he : jI x ||| jI y = jI z) (k : pd_T G M d mc ms X R n lv (vi z :: st) sz ce sl hp) : pd_T G M d mc ms X R pc lv (vi y :: vi x :: st) sz ce sl hp := by
  intro p e Rm s m args below meth c Q hx hq H locs ls hH hS hl
  obtain ⟨g1, rfl⟩ := h
  refine lv_ior hx.1 hx.2.1 g1 ?_
  rw [he]
  exact k p e Rm s m args below meth c Q hx hq H locs ls hH hS hl
theorem pt_ishl {x y z : Int} (h : pd_i M pc .ishl 1 n) (he : jI x <<< (jI y &&& 31) = jI z) (k : pd_T G M d mc ms X R n lv (vi z :: st) sz ce sl hp) : pd_T G M d mc ms X R pc lv (vi y :: vi x :: st) sz ce sl hp := by
  intro p e Rm s m args below meth c Q hx hq H locs ls hH hS hl
  obtain ⟨g1, rfl⟩ := h
  refine lv_ishl hx.1 hx.2.1 g1 ?_
  rw [he]
  exact k p e Rm s m args below meth c Q hx hq H locs ls hH hS hl
theorem pt_ishr {x y z : Int} (h : pd_i M pc .ishr 1 n) (he : jI x >>> (jI y &&& 31) = jI z) (k : pd_T G M d mc ms X R n lv (vi z :: st) sz ce sl hp) : pd_T G M d mc ms X R pc lv (vi y :: vi x :: st) sz ce sl hp := by
  intro p e Rm s m args below meth c Q hx hq H locs ls hH hS hl
  obtain ⟨g1, rfl⟩ := h
  refine lv_ishr hx.1 hx.2.1 g1 ?_
  rw [he]
  exact k p e Rm s m args below meth c Q hx hq H locs ls hH hS hl
theorem pt_lcmp {x y : Int} (h : pd_i M pc .lcmp 1 n) (he : x = y) (k : pd_T G M d mc ms X R n lv (vi 0 :: st) sz ce sl hp) : pd_T G M d mc ms X R pc lv (vl y :: vl x :: st) sz ce sl hp := by
  intro p e Rm s m args below meth c Q hx hq H locs ls hH hS hl
  obtain ⟨g1, rfl⟩ := h
  refine W.lcmp hx.1 hx.2.1 g1 ?_
  have e0 : lg_cmp (jL x) (jL y) = jI 0 := by
    subst he
    unfold lg_cmp
    rw [if_neg (by simp [Int64.lt_irrefl]), if_pos rfl]
    rfl
  rw [e0]
  exact k p e Rm s m args below meth c Q hx hq H locs ls hH hS hl
theorem mth_min : Cond.static Lib.Math.min.name ∈ pd_tbl ∧ Cond.code Lib.Math.min.name Lib.Math.min.code 2 (some .int) ∈ pd_tbl ∧ Cond.initialized "java/lang/Math" ∈ pd_tbl := ⟨pd_m 395 (by decide +kernel) (by decide +kernel), pd_m 396 (by decide +kernel) (by decide +kernel), pd_m 59 (by decide +kernel) (by decide +kernel)⟩
def pd_min (M : pd_M) (pc n : Nat) : Prop := ∃ idx, pd_i M pc (.invokestatic idx) 3 n ∧ Cond.methodLink M.1.cls idx Lib.Math.min.name ∈ pd_tbl
theorem pt_min {x y : Int} (h : pd_min M pc n) (h1 : jR x) (h2 : jR y) (hd : 1 ≤ d) (hr : st.length ≤ 8) (hce : ce ≤ mc) (hsl : sl ≤ ms) (k : pd_T G M d mc ms X R n lv (vi (min x y) :: st) sz ce sl hp) : pd_T G M d mc ms X R pc lv (vi y :: vi x :: st) sz ce sl hp := by
  intro p e Rm s m args below meth c Q hx hq H locs ls hH hS hl
  obtain ⟨idx, ⟨g1, rfl⟩, g2⟩ := h
  have hts := hx.2.2.2.2.1
  obtain ⟨r1, r2, r3, r4⟩ := hx.2.2.2.2.2.2.1
  have hcat := pd_words G st
  refine va_mmin hx.1 hx.2.1 (hx.2.2.1.trans hl.1.symm) hx.2.2.2.1 (hts _ g2) (hts _ mth_min.1) (hts _ mth_min.2.2) (hts _ mth_min.2.1) (by omega) (by omega) (by omega) (by omega) g1 ?_
  rw [jI_min x y h1 h2]
  exact k p e Rm s m args below meth c Q hx hq H locs ls hH hS hl
theorem mth_max : Cond.static Lib.Math.max.name ∈ pd_tbl ∧ Cond.code Lib.Math.max.name Lib.Math.max.code 2 (some .int) ∈ pd_tbl ∧ Cond.initialized "java/lang/Math" ∈ pd_tbl := ⟨pd_m 436 (by decide +kernel) (by decide +kernel), pd_m 437 (by decide +kernel) (by decide +kernel), pd_m 59 (by decide +kernel) (by decide +kernel)⟩
def pd_max (M : pd_M) (pc n : Nat) : Prop := ∃ idx, pd_i M pc (.invokestatic idx) 3 n ∧ Cond.methodLink M.1.cls idx Lib.Math.max.name ∈ pd_tbl
theorem pt_max {x y : Int} (h : pd_max M pc n) (h1 : jR x) (h2 : jR y) (hd : 1 ≤ d) (hr : st.length ≤ 8) (hce : ce ≤ mc) (hsl : sl ≤ ms) (k : pd_T G M d mc ms X R n lv (vi (max x y) :: st) sz ce sl hp) : pd_T G M d mc ms X R pc lv (vi y :: vi x :: st) sz ce sl hp := by
  intro p e Rm s m args below meth c Q hx hq H locs ls hH hS hl
  obtain ⟨idx, ⟨g1, rfl⟩, g2⟩ := h
  have hts := hx.2.2.2.2.1
  obtain ⟨r1, r2, r3, r4⟩ := hx.2.2.2.2.2.2.1
  have hcat := pd_words G st
  refine va_mmax hx.1 hx.2.1 (hx.2.2.1.trans hl.1.symm) hx.2.2.2.1 (hts _ g2) (hts _ mth_max.1) (hts _ mth_max.2.2) (hts _ mth_max.2.1) (by omega) (by omega) (by omega) (by omega) g1 ?_
  rw [jI_max x y h1 h2]
  exact k p e Rm s m args below meth c Q hx hq H locs ls hH hS hl
end PDMORE
end
section
/-! calls -/
theorem pd_goodin {N : pd_M} {ar : Nat} (h : pd_ok N ar) : GoodIn pd_tbl (pd_ws N) := by
  intro w hw
  have key : ∀ w ∈ pd_tbl, w ∈ pd_tbl ∧ ((w.onTables && w.keeps) = true ∨ ∃ ty, w = .arrayClass ty) := fun w hw => ⟨hw, good_of_word (List.mem_filter.mp hw).2⟩
  rcases List.mem_cons.mp hw with rfl | hw
  · exact key _ h.1
  · exact key w hw
theorem pd_blind (G : pd_G) (sz : Nat) (hp : pd_P) (av : List Value) : FrameBlind (va_Pc av (pd_Pc G sz hp)) := fun a U g mk h => ⟨h.1, h.2.1, h.2.2.same rfl⟩
theorem pd_len {N : pd_M} {ar : Nat} (h : pd_ok N ar) (sig : MethodDescriptor) (hs : parseMethodDescriptor N.1.desc = some sig) : ar = sig.parameters.length := by
  have h2 := h.2.2.2.2.2.1
  rw [hs] at h2
  exact (Option.some.inj h2).symm
section PDCALL
variable {p : Program} {l : Launch} {e : Env} {Rm : Room} {s : State} {m : MethodId} {args : Array Value} {below : List Frame} {meth : Method} {c : Code} {H : Heap} {locs : List Loc} {cells slots mc1 ms1 : Nat} {Q : State → Prop} {G : pd_G} {pc : Nat} {ls : Array Slot} {rest st0 : List Value} {a : Array Value} {Rc : pd_R}
theorem pd_call (hr : va_Run p l e Rm s m args below meth c H locs cells slots mc1 ms1 (F0 m pc ls st0) rest (pd_Qc G Rc a) (pd_A G)) (hS : va_S (pd_A G) s.heap H locs)
    (kk : ∀ (v : Option pv) (sz' : Nat) (hp' : pd_P) (H1 : Heap) (locs1 : List Loc), Rc v sz' hp' → pd_H G sz' hp' H1 → va_S (pd_A G) s.heap H1 locs1 → W p l e Rm s m args below meth c H1 locs1 (cells + mc1) (slots + ms1) Q (F0 m (pc + 3) ls ((v.map (pd_up G)).toList ++ rest))) : W p l e Rm s m args below meth c H locs cells slots Q (F0 m pc ls st0) := by
  intro T hT X
  obtain ⟨v, st₀, t, T', L, h0, X', hL, e1, e2, ⟨⟨v', sz', hp', hv, hR, hH'⟩, hz, hk⟩, st⟩ := hr T hT X
  cases hv
  rw [h0] at hz hk
  obtain ⟨t2, a1, b1⟩ := kk v' sz' hp' T'.heap (locs ++ L) hR (by rw [e1]; exact hH')
    ⟨Nat.le_trans hS.1 (by rw [e1]; exact hz), fun q h1 h2 => by rw [e1, hk q (Nat.lt_of_lt_of_le h1 hS.1) h2]; exact hS.2.1 q h1 h2, fun q hq => by
      rcases List.mem_append.mp hq with h | h
      · exact hS.2.2 q h
      · exact hL q h⟩ T' rfl X'
  exact ⟨t2, st t2 a1, b1⟩
end PDCALL
def pd_kv (M : pd_M) (pc : Nat) (N : pd_M) (ar n : Nat) : Prop := ∃ idx, pd_i M pc (.invokevirtual idx) 3 n ∧ Cond.methodLink M.1.cls idx N.1 ∈ pd_tbl ∧ Cond.instanceMethod N.1 ∈ pd_tbl ∧ Cond.selects N.1.cls N.1 N.1 ∈ pd_tbl ∧ pd_ok N ar
/-- a virtual call of N0 on an object of N's class, which has N in its place -/
def pd_ku (M : pd_M) (pc : Nat) (N0 N : pd_M) (ar n : Nat) : Prop := ∃ idx, pd_i M pc (.invokevirtual idx) 3 n ∧ Cond.methodLink M.1.cls idx N0.1 ∈ pd_tbl ∧ Cond.sameMethod N0.1.cls N0.1.cls N0.1.name N0.1.desc ∈ pd_tbl ∧ Cond.instanceMethod N0.1 ∈ pd_tbl ∧ Cond.selects N.1.cls N0.1 N.1 ∈ pd_tbl ∧ Cond.instanceMethod N.1 ∈ pd_tbl ∧ pd_ok N0 ar ∧ pd_ok N ar ∧ N0.1.desc = N.1.desc
def pd_ks (M : pd_M) (pc : Nat) (N : pd_M) (ar n : Nat) : Prop := ∃ idx, pd_i M pc (.invokestatic idx) 3 n ∧ (Cond.methodLink M.1.cls idx N.1 ∈ pd_tbl ∨ ∃ host, (M.1.cls, idx, N.1, host) ∈ pd_nest) ∧ Cond.static N.1 ∈ pd_tbl ∧ pd_ok N ar
def pd_kI (M : pd_M) (pc : Nat) (N : pd_M) (ar n : Nat) : Prop := ∃ idx, pd_i M pc (.invokespecial idx) 3 n ∧ (Cond.methodLink M.1.cls idx N.1 ∈ pd_tbl ∨ ∃ host, (M.1.cls, idx, N.1, host) ∈ pd_nest) ∧ Cond.instanceMethod N.1 ∈ pd_tbl ∧ N.1.name = "<init>" ∧ N.2.2.2 = none ∧ pd_ok N ar
/-- a call of the method of the class above -/
def pd_kU (M : pd_M) (pc : Nat) (N : pd_M) (ar n : Nat) : Prop := ∃ idx, pd_i M pc (.invokespecial idx) 3 n ∧ Cond.methodLink M.1.cls idx N.1 ∈ pd_tbl ∧ Cond.sameMethod N.1.cls N.1.cls N.1.name N.1.desc ∈ pd_tbl ∧ Cond.superclass M.1.cls N.1.cls ∈ pd_tbl ∧ Cond.instanceMethod N.1 ∈ pd_tbl ∧ N.1.name ≠ "<init>" ∧ pd_ok N ar
def pd_cn (ci : Nat) : Option String := (pd_cl[ci]?).map (fun q => q.1)
section PDK
variable {G : pd_G} {M : pd_M} {d mc ms : Nat} {X : Option (Nat × (Nat → Int))} {R : pd_R} {pc n t : Nat} {lv : List (Option pv)} {st : List pv} {sz ce sl : Nat} {hp : pd_P} {N : pd_M} {d1 mc1 ms1 : Nat} {Rc : pd_R} {As rest : List pv}
theorem pd_back (G : pd_G) {p : Program} {Rm : Room} {s : State} {m : MethodId} {args : Array Value} {meth : Method} {c : Code} (hx : pd_cx G M d mc ms X p Rm s m args meth c) {ar : Nat} (hok : pd_ok N ar) (hd : d1 + 1 ≤ d) :
    (pd_rm d1 mc1 ms1).cells = mc1 ∧ (pd_rm d1 mc1 ms1).slots = ms1 ∧ (pd_rm d1 mc1 ms1).frames + 1 ≤ Rm.frames ∧ 8 + (N.2.2.1 + 11) + (pd_rm d1 mc1 ms1).locals ≤ Rm.locals ∧ (∀ w ∈ pd_ws N, ∀ (a' : Array Value) (U : State), s.WarmedH U.vm → w.before a' U = true) ∧ Cond.code N.1 N.2.1 N.2.2.1 N.2.2.2 ∈ pd_ws N := by
  obtain ⟨r1, r2, r3, r4⟩ := hx.2.2.2.2.2.2.1
  have h45 := hok.2.2.2.2.2.2
  refine ⟨rfl, rfl, by show d1 + 1 ≤ _; omega, by show 8 + (N.2.2.1 + 11) + 64 * d1 ≤ _; omega, pay_in hx.2.2.2.2.1 (pd_goodin hok), List.mem_cons_self⟩
theorem pd_pre (G : pd_G) {s : State} {H : Heap} (hK : pd_K G s) (hH : pd_H G sz hp H) (av : List pv) (U : State) (hU : U.heap = H) (hW : s.WarmedH U.vm) : va_Pc (av.map (pd_up G)) (pd_Pc G sz hp) (av.map (pd_up G)).toArray U := ⟨rfl, by rw [hU]; exact hH, hK.warm hW⟩
theorem pt_kv {a ci : Nat} {fs : List pv} (h : pd_kv M pc N As.length n) (hcon : pd_C G N d1 mc1 ms1 (vr a :: As) sz hp Rc) (hob : hp a = ob ci fs) (hcl : pd_cn ci = some N.1.cls) (hst : st = As.reverse ++ vr a :: rest) (hr : rest.length ≤ 4) (hd : d1 + 1 ≤ d) (hce : ce + mc1 ≤ mc) (hsl : sl + ms1 ≤ ms) (k : ∀ (v : Option pv) (sz' : Nat) (hp' : pd_P), Rc v sz' hp' → pd_T G M d mc ms X R n lv (v.toList ++ rest) sz' (ce + mc1) (sl + ms1) hp') : pd_T G M d mc ms X R pc lv st sz ce sl hp := by
  intro p e Rm s m args below meth c Q hx hq H locs ls hH hS hl
  have hts := hx.2.2.2.2.1
  have hcat := pd_words G rest
  obtain ⟨r1, r2, r3, r4⟩ := hx.2.2.2.2.2.2.1
  obtain ⟨idx, ⟨g1, rfl⟩, g2, g3, g4, g5⟩ := h
  have hne : ci ≠ 99 := by rintro rfl; simp [pd_cn] at hcl
  obtain ⟨k0, rfl, hk0⟩ := pd_lt hH (a := a) (by rw [hob]; intro q; exact hne (congrArg Prod.fst (Sum.inr.inj q)))
  have hw := pd_w_get (G := G) (hp := hp) hk0
  rw [hob] at hw
  obtain ⟨q, hq1, hq2⟩ : ∃ q : vw_C, pd_cl[ci]? = some q ∧ q.1 = N.1.cls := by
    unfold pd_cn at hcl
    cases hz : pd_cl[ci]? with
    | none => rw [hz] at hcl; cases hcl
    | some q => rw [hz] at hcl; exact ⟨q, rfl, Option.some.inj hcl⟩
  have hrec := va_recv (q0 := k0) hx.2.2.2.2.2.1.1 hH.2.1 hq1 hw
  rw [hq2] at hrec
  have hb := pd_back (d1 := d1) (mc1 := mc1) (ms1 := ms1) G hx g5 hd
  have hrun : va_Run p G.1 e Rm s m args below meth c H locs ce sl mc1 ms1 (F0 m pc ls (st.map (pd_up G))) (rest.map (pd_up G)) (pd_Qc G Rc ((vr (k0 + 1) :: As).map (pd_up G)).toArray) (pd_A G) := va_runV (g := F0 m pc ls (st.map (pd_up G))) (b := pd_ad G (k0 + 1)) (As := As.map (pd_up G)) (rest := rest.map (pd_up G)) ⟨hx.1, hx.2.1, hx.2.2.1, hx.2.2.2.1, hts⟩ hcon
    (show CallW Rm s args M.1.cls N.1.cls idx N.1 N.2.1 N.2.2.1 N.2.2.2 (pd_ws N) (pd_rm d1 mc1 ms1) mc1 ms1 As.length from ⟨⟨hb.1, hb.2.1, hb.2.2.1, hb.2.2.2.1, hb.2.2.2.2.1, hb.2.2.2.2.2, hts _ g5.1, hts _ g5.2.1, ⟨g5.2.2.2.1, g5.2.2.2.2.1⟩, pd_len g5, hts _ g2⟩, hts _ g3, hts _ g4⟩)
    ⟨pd_blind G sz hp _, hrec, fun U hU hW => pd_pre G hx.2.2.2.2.2.1 hH (vr (k0 + 1) :: As) U hU hW⟩ rfl (by simp) hl.1 (by
    rw [show (F0 m pc ls (st.map (pd_up G))).stack = st.map (pd_up G) from rfl, hst]; simp [pd_up, va_rf, pd_ad]) (lv_room (by omega)) g1 ⟨by omega, by omega⟩
  refine pd_call hrun hS ?_
  intro v sz' hp' H1 locs1 hR hH1 hS1
  have := k v sz' hp' hR p e Rm s m args below meth c Q hx hq H1 locs1 ls hH1 hS1 hl
  rw [List.map_append] at this
  cases v <;> exact this
theorem pt_ku {N0 : pd_M} {a ci : Nat} {fs : List pv} (h : pd_ku M pc N0 N As.length n) (hcon : pd_C G N d1 mc1 ms1 (vr a :: As) sz hp Rc) (hob : hp a = ob ci fs) (hcl : pd_cn ci = some N.1.cls) (hst : st = As.reverse ++ vr a :: rest) (hr : rest.length ≤ 4) (hd : d1 + 1 ≤ d) (hce : ce + mc1 ≤ mc) (hsl : sl + ms1 ≤ ms) (k : ∀ (v : Option pv) (sz' : Nat) (hp' : pd_P), Rc v sz' hp' → pd_T G M d mc ms X R n lv (v.toList ++ rest) sz' (ce + mc1) (sl + ms1) hp') : pd_T G M d mc ms X R pc lv st sz ce sl hp := by
  intro p e Rm s m args below meth c Q hx hq H locs ls hH hS hl
  have hts := hx.2.2.2.2.1
  have hcat := pd_words G rest
  obtain ⟨r1, r2, r3, r4⟩ := hx.2.2.2.2.2.2.1
  obtain ⟨idx, ⟨g1, rfl⟩, g2, g3, g4, g6, g7, g0, g5, g8⟩ := h
  have hne : ci ≠ 99 := by rintro rfl; simp [pd_cn] at hcl
  obtain ⟨k0, rfl, hk0⟩ := pd_lt hH (a := a) (by rw [hob]; intro q; exact hne (congrArg Prod.fst (Sum.inr.inj q)))
  have hw := pd_w_get (G := G) (hp := hp) hk0
  rw [hob] at hw
  obtain ⟨q, hq1, hq2⟩ : ∃ q : vw_C, pd_cl[ci]? = some q ∧ q.1 = N.1.cls := by
    unfold pd_cn at hcl
    cases hz : pd_cl[ci]? with
    | none => rw [hz] at hcl; cases hcl
    | some q => rw [hz] at hcl; exact ⟨q, rfl, Option.some.inj hcl⟩
  have hrec := va_recv (q0 := k0) hx.2.2.2.2.2.1.1 hH.2.1 hq1 hw
  rw [hq2] at hrec
  have hb := pd_back (d1 := d1) (mc1 := mc1) (ms1 := ms1) G hx g5 hd
  have hrun : va_Run p G.1 e Rm s m args below meth c H locs ce sl mc1 ms1 (F0 m pc ls (st.map (pd_up G))) (rest.map (pd_up G)) (pd_Qc G Rc ((vr (k0 + 1) :: As).map (pd_up G)).toArray) (pd_A G) := va_runU (g := F0 m pc ls (st.map (pd_up G))) (b := pd_ad G (k0 + 1)) (As := As.map (pd_up G)) (rest := rest.map (pd_up G)) ⟨hx.1, hx.2.1, hx.2.2.1, hx.2.2.2.1, hts⟩ hcon
    (show va_CU Rm s args M.1.cls N.1.cls N0.1.cls idx N0.1 N.1 N.2.1 N.2.2.1 N.2.2.2 (pd_ws N) (pd_rm d1 mc1 ms1) mc1 ms1 As.length from ⟨hb, hts _ g5.1, hts _ g5.2.1, ⟨g0.2.2.2.1, g0.2.2.2.2.1⟩, pd_len g0, hts _ g2, hts _ g3, va_Decl.of (hts _ g4) (hts _ g0.1), hts _ g6, hts _ g7⟩)
    ⟨pd_blind G sz hp _, hrec, fun U hU hW => pd_pre G hx.2.2.2.2.2.1 hH (vr (k0 + 1) :: As) U hU hW⟩ rfl (by simp) hl.1 (by
    rw [show (F0 m pc ls (st.map (pd_up G))).stack = st.map (pd_up G) from rfl, hst]; simp [pd_up, va_rf, pd_ad]) (lv_room (by omega)) g1 ⟨by omega, by omega⟩
  refine pd_call hrun hS ?_
  intro v sz' hp' H1 locs1 hR hH1 hS1
  have := k v sz' hp' hR p e Rm s m args below meth c Q hx hq H1 locs1 ls hH1 hS1 hl
  rw [List.map_append] at this
  cases v <;> exact this
theorem pt_ks (h : pd_ks M pc N As.length n) (hcon : pd_C G N d1 mc1 ms1 As sz hp Rc) (hst : st = As.reverse ++ rest) (hr : rest.length ≤ 4) (hd : d1 + 1 ≤ d) (hce : ce + mc1 ≤ mc) (hsl : sl + ms1 ≤ ms) (k : ∀ (v : Option pv) (sz' : Nat) (hp' : pd_P), Rc v sz' hp' → pd_T G M d mc ms X R n lv (v.toList ++ rest) sz' (ce + mc1) (sl + ms1) hp') : pd_T G M d mc ms X R pc lv st sz ce sl hp := by
  intro p e Rm s m args below meth c Q hx hq H locs ls hH hS hl
  have hts := hx.2.2.2.2.1
  have hcat := pd_words G rest
  obtain ⟨r1, r2, r3, r4⟩ := hx.2.2.2.2.2.2.1
  obtain ⟨idx, ⟨g1, rfl⟩, g2, g3, g5⟩ := h
  have hb := pd_back (d1 := d1) (mc1 := mc1) (ms1 := ms1) G hx g5 hd
  have hrun : va_Run p G.1 e Rm s m args below meth c H locs ce sl mc1 ms1 (F0 m pc ls (st.map (pd_up G))) (rest.map (pd_up G)) (pd_Qc G Rc (As.map (pd_up G)).toArray) (pd_A G) := by
    rcases g2 with g2 | ⟨host, g2⟩
    · exact va_runS (g := F0 m pc ls (st.map (pd_up G))) (As := As.map (pd_up G)) (rest := rest.map (pd_up G)) ⟨hx.1, hx.2.1, hx.2.2.1, hx.2.2.2.1, hts⟩ hcon
        (show CallB Rm s args M.1.cls idx N.1 N.2.1 N.2.2.1 N.2.2.2 (pd_ws N) (pd_rm d1 mc1 ms1) mc1 ms1 As.length ∧ (Cond.static N.1).before args s = true from ⟨⟨hb.1, hb.2.1, hb.2.2.1, hb.2.2.2.1, hb.2.2.2.2.1, hb.2.2.2.2.2, hts _ g5.1, hts _ g5.2.1, ⟨g5.2.2.2.1, g5.2.2.2.2.1⟩, pd_len g5, hts _ g2⟩, hts _ g3⟩)
        ⟨pd_blind G sz hp _, fun U hU hW => pd_pre G hx.2.2.2.2.2.1 hH As U hU hW⟩ rfl (by simp) hl.1 (by
        rw [show (F0 m pc ls (st.map (pd_up G))).stack = st.map (pd_up G) from rfl, hst]; simp) (lv_room (by omega)) g1 ⟨by omega, by omega⟩
    · exact va_runSN (g := F0 m pc ls (st.map (pd_up G))) (As := As.map (pd_up G)) (rest := rest.map (pd_up G)) ⟨hx.1, hx.2.1, hx.2.2.1, hx.2.2.2.1, hts⟩ hcon
        (show va_CN Rm s args M.1.cls idx N.1 host N.2.1 N.2.2.1 N.2.2.2 (pd_ws N) (pd_rm d1 mc1 ms1) mc1 ms1 As.length ∧ (Cond.static N.1).before args s = true ∧ True from ⟨⟨hb, hts _ g5.1, hts _ g5.2.1, ⟨g5.2.2.2.1, g5.2.2.2.2.1⟩, pd_len g5, va_Nw.use rfl (hx.2.2.2.2.2.1.2.1 _ g2)⟩, hts _ g3, trivial⟩)
        ⟨pd_blind G sz hp _, fun U hU hW => pd_pre G hx.2.2.2.2.2.1 hH As U hU hW⟩ rfl (by simp) hl.1 (by
        rw [show (F0 m pc ls (st.map (pd_up G))).stack = st.map (pd_up G) from rfl, hst]; simp) (lv_room (by omega)) g1 ⟨by omega, by omega⟩
  refine pd_call hrun hS ?_
  intro v sz' hp' H1 locs1 hR hH1 hS1
  have := k v sz' hp' hR p e Rm s m args below meth c Q hx hq H1 locs1 ls hH1 hS1 hl
  rw [List.map_append] at this
  cases v <;> exact this
theorem pt_kI {a : Nat} (h : pd_kI M pc N As.length n) (hcon : pd_C G N d1 mc1 ms1 (vr (a + 1) :: As) sz hp Rc) (hst : st = As.reverse ++ vr (a + 1) :: rest) (hr : rest.length ≤ 4) (hd : d1 + 1 ≤ d) (hce : ce + mc1 ≤ mc) (hsl : sl + ms1 ≤ ms) (k : ∀ (v : Option pv) (sz' : Nat) (hp' : pd_P), Rc v sz' hp' → pd_T G M d mc ms X R n lv (v.toList ++ rest) sz' (ce + mc1) (sl + ms1) hp') : pd_T G M d mc ms X R pc lv st sz ce sl hp := by
  intro p e Rm s m args below meth c Q hx hq H locs ls hH hS hl
  have hts := hx.2.2.2.2.1
  have hcat := pd_words G rest
  obtain ⟨r1, r2, r3, r4⟩ := hx.2.2.2.2.2.2.1
  obtain ⟨idx, ⟨g1, rfl⟩, g2, g3, g4, g6, g5⟩ := h
  have hb := pd_back (d1 := d1) (mc1 := mc1) (ms1 := ms1) G hx g5 hd
  have hrun : va_Run p G.1 e Rm s m args below meth c H locs ce sl mc1 ms1 (F0 m pc ls (st.map (pd_up G))) (rest.map (pd_up G)) (pd_Qc G Rc ((vr (a + 1) :: As).map (pd_up G)).toArray) (pd_A G) := by
    have hcd : Cond.code N.1 N.2.1 N.2.2.1 none = Cond.code N.1 N.2.1 N.2.2.1 N.2.2.2 := by rw [g6]
    rcases g2 with g2 | ⟨host, g2⟩
    · exact va_runI (g := F0 m pc ls (st.map (pd_up G))) (b := pd_ad G (a + 1)) (As := As.map (pd_up G)) (rest := rest.map (pd_up G)) ⟨hx.1, hx.2.1, hx.2.2.1, hx.2.2.2.1, hts⟩ hcon
        (show CallB Rm s args M.1.cls idx N.1 N.2.1 N.2.2.1 none (pd_ws N) (pd_rm d1 mc1 ms1) mc1 ms1 As.length ∧ N.1.name = "<init>" ∧ (Cond.instanceMethod N.1).before args s = true from ⟨⟨hb.1, hb.2.1, hb.2.2.1, hb.2.2.2.1, hb.2.2.2.2.1, by rw [hcd]; exact hb.2.2.2.2.2, by rw [hcd]; exact hts _ g5.1, hts _ g5.2.1, ⟨g5.2.2.2.1, g5.2.2.2.2.1⟩, pd_len g5, hts _ g2⟩, g4, hts _ g3⟩)
        ⟨pd_blind G sz hp _, fun U hU hW => pd_pre G hx.2.2.2.2.2.1 hH (vr (a + 1) :: As) U hU hW⟩ rfl (by simp) hl.1 (by
        rw [show (F0 m pc ls (st.map (pd_up G))).stack = st.map (pd_up G) from rfl, hst]; simp [pd_up, va_rf, pd_ad]) (lv_room (by omega)) g1 ⟨by omega, by omega⟩
    · exact va_runIN (g := F0 m pc ls (st.map (pd_up G))) (b := pd_ad G (a + 1)) (As := As.map (pd_up G)) (rest := rest.map (pd_up G)) ⟨hx.1, hx.2.1, hx.2.2.1, hx.2.2.2.1, hts⟩ hcon
        (show va_CN Rm s args M.1.cls idx N.1 host N.2.1 N.2.2.1 none (pd_ws N) (pd_rm d1 mc1 ms1) mc1 ms1 As.length ∧ N.1.name = "<init>" ∧ (Cond.instanceMethod N.1).before args s = true from ⟨⟨⟨hb.1, hb.2.1, hb.2.2.1, hb.2.2.2.1, hb.2.2.2.2.1, by rw [hcd]; exact hb.2.2.2.2.2⟩, by rw [hcd]; exact hts _ g5.1, hts _ g5.2.1, ⟨g5.2.2.2.1, g5.2.2.2.2.1⟩, pd_len g5, va_Nw.use rfl (hx.2.2.2.2.2.1.2.1 _ g2)⟩, g4, hts _ g3⟩)
        ⟨pd_blind G sz hp _, fun U hU hW => pd_pre G hx.2.2.2.2.2.1 hH (vr (a + 1) :: As) U hU hW⟩ rfl (by simp) hl.1 (by
        rw [show (F0 m pc ls (st.map (pd_up G))).stack = st.map (pd_up G) from rfl, hst]; simp [pd_up, va_rf, pd_ad]) (lv_room (by omega)) g1 ⟨by omega, by omega⟩
  refine pd_call hrun hS ?_
  intro v sz' hp' H1 locs1 hR hH1 hS1
  have := k v sz' hp' hR p e Rm s m args below meth c Q hx hq H1 locs1 ls hH1 hS1 hl
  rw [List.map_append] at this
  cases v <;> exact this
theorem pt_kU {a ci : Nat} {fs : List pv} {C : String} (h : pd_kU M pc N As.length n) (hcon : pd_C G N d1 mc1 ms1 (vr a :: As) sz hp Rc) (hob : hp a = ob ci fs) (hcl : pd_cn ci = some C) (hst : st = As.reverse ++ vr a :: rest) (hr : rest.length ≤ 4) (hd : d1 + 1 ≤ d) (hce : ce + mc1 ≤ mc) (hsl : sl + ms1 ≤ ms) (k : ∀ (v : Option pv) (sz' : Nat) (hp' : pd_P), Rc v sz' hp' → pd_T G M d mc ms X R n lv (v.toList ++ rest) sz' (ce + mc1) (sl + ms1) hp') : pd_T G M d mc ms X R pc lv st sz ce sl hp := by
  intro p e Rm s m args below meth c Q hx hq H locs ls hH hS hl
  have hts := hx.2.2.2.2.1
  have hcat := pd_words G rest
  obtain ⟨r1, r2, r3, r4⟩ := hx.2.2.2.2.2.2.1
  obtain ⟨idx, ⟨g1, rfl⟩, g2, g3, g4, g6, g7, g5⟩ := h
  have hne : ci ≠ 99 := by rintro rfl; simp [pd_cn] at hcl
  obtain ⟨k0, rfl, hk0⟩ := pd_lt hH (a := a) (by rw [hob]; intro q; exact hne (congrArg Prod.fst (Sum.inr.inj q)))
  have hw := pd_w_get (G := G) (hp := hp) hk0
  rw [hob] at hw
  obtain ⟨q, hq1, hq2⟩ : ∃ q : vw_C, pd_cl[ci]? = some q ∧ q.1 = C := by
    unfold pd_cn at hcl
    cases hz : pd_cl[ci]? with
    | none => rw [hz] at hcl; cases hcl
    | some q => rw [hz] at hcl; exact ⟨q, rfl, Option.some.inj hcl⟩
  have hrec := va_recv (q0 := k0) hx.2.2.2.2.2.1.1 hH.2.1 hq1 hw
  rw [hq2] at hrec
  have hb := pd_back (d1 := d1) (mc1 := mc1) (ms1 := ms1) G hx g5 hd
  have hat := (hx.2.2.2.2.2.1.1.1 ci q hq1).2
  rw [hq2] at hat
  have hrun : va_Run p G.1 e Rm s m args below meth c H locs ce sl mc1 ms1 (F0 m pc ls (st.map (pd_up G))) (rest.map (pd_up G)) (pd_Qc G Rc ((vr (k0 + 1) :: As).map (pd_up G)).toArray) (pd_A G) := va_runSU (g := F0 m pc ls (st.map (pd_up G))) (b := pd_ad G (k0 + 1)) (As := As.map (pd_up G)) (rest := rest.map (pd_up G)) hat ⟨hx.1, hx.2.1, hx.2.2.1, hx.2.2.2.1, hts⟩ hcon
    (show va_CS Rm s args M.1.cls idx N.1 N.2.1 N.2.2.1 N.2.2.2 (pd_ws N) (pd_rm d1 mc1 ms1) mc1 ms1 As.length from ⟨hb, hts _ g2, hts _ g3, hts _ g4, hts _ g6, hts _ g5.2.1, hts _ g5.1, g7, pd_len g5⟩)
    ⟨pd_blind G sz hp _, hrec, fun U hU hW => pd_pre G hx.2.2.2.2.2.1 hH (vr (k0 + 1) :: As) U hU hW⟩ rfl (by simp) hl.1 (by
    rw [show (F0 m pc ls (st.map (pd_up G))).stack = st.map (pd_up G) from rfl, hst]; simp [pd_up, va_rf, pd_ad]) (lv_room (by omega)) g1 ⟨by omega, by omega⟩
  refine pd_call hrun hS ?_
  intro v sz' hp' H1 locs1 hR hH1 hS1
  have := k v sz' hp' hR p e Rm s m args below meth c Q hx hq H1 locs1 ls hH1 hS1 hl
  rw [List.map_append] at this
  cases v <;> exact this
end PDK
end
