section
-- ===== PART A: goes FIRST, ahead of the names: the tables' words, and 'selects' of the private methods out of them =====
/-- a private method of a class that the tables say can be made, by its rows of tables_1 -/
def lw_okq (q : MethodName × Nat) : Prop := (q.1.cls ≠ "java/lang/invoke/MethodHandle" ∧ q.1.cls ≠ "java/lang/invoke/VarHandle") ∧ Cond.instantiable q.1.cls q.2 ∈ tables_1 ∧ Cond.privateMethod q.1 ∈ tables_1 ∧ Cond.instanceMethod q.1 ∈ tables_1
theorem lw_p0 : lw_okq (⟨"EmbargoDesk$History", "dropOldest", "()V"⟩, 2) := ⟨⟨by decide +kernel, by decide +kernel⟩, List.mem_of_getElem? (i := 254) (by decide +kernel), List.mem_of_getElem? (i := 343) (by decide +kernel), List.mem_of_getElem? (i := 344) (by decide +kernel)⟩
theorem lw_p1 : lw_okq (⟨"EmbargoDesk$State", "copyStories", "(LEmbargoDesk$State;)V"⟩, 11) := ⟨⟨by decide +kernel, by decide +kernel⟩, List.mem_of_getElem? (i := 22) (by decide +kernel), List.mem_of_getElem? (i := 367) (by decide +kernel), List.mem_of_getElem? (i := 368) (by decide +kernel)⟩
theorem lw_p2 : lw_okq (⟨"EmbargoDesk$State", "copyClients", "(LEmbargoDesk$State;)V"⟩, 11) := ⟨⟨by decide +kernel, by decide +kernel⟩, List.mem_of_getElem? (i := 22) (by decide +kernel), List.mem_of_getElem? (i := 382) (by decide +kernel), List.mem_of_getElem? (i := 383) (by decide +kernel)⟩
theorem lw_p3 : lw_okq (⟨"EmbargoDesk$State", "copyCopies", "(LEmbargoDesk$State;)V"⟩, 11) := ⟨⟨by decide +kernel, by decide +kernel⟩, List.mem_of_getElem? (i := 22) (by decide +kernel), List.mem_of_getElem? (i := 394) (by decide +kernel), List.mem_of_getElem? (i := 395) (by decide +kernel)⟩
theorem lw_p4 : lw_okq (⟨"EmbargoDesk$State", "copyPersons", "(LEmbargoDesk$State;)V"⟩, 11) := ⟨⟨by decide +kernel, by decide +kernel⟩, List.mem_of_getElem? (i := 22) (by decide +kernel), List.mem_of_getElem? (i := 406) (by decide +kernel), List.mem_of_getElem? (i := 407) (by decide +kernel)⟩
theorem lw_p5 : lw_okq (⟨"EmbargoDesk$StoryText", "readTopic", "()Z"⟩, 9) := ⟨⟨by decide +kernel, by decide +kernel⟩, List.mem_of_getElem? (i := 271) (by decide +kernel), List.mem_of_getElem? (i := 450) (by decide +kernel), List.mem_of_getElem? (i := 451) (by decide +kernel)⟩
theorem lw_p6 : lw_okq (⟨"EmbargoDesk$StoryText", "digit", "()I"⟩, 9) := ⟨⟨by decide +kernel, by decide +kernel⟩, List.mem_of_getElem? (i := 271) (by decide +kernel), List.mem_of_getElem? (i := 454) (by decide +kernel), List.mem_of_getElem? (i := 455) (by decide +kernel)⟩
theorem lw_p7 : lw_okq (⟨"EmbargoDesk$StoryText", "sign", "()I"⟩, 9) := ⟨⟨by decide +kernel, by decide +kernel⟩, List.mem_of_getElem? (i := 271) (by decide +kernel), List.mem_of_getElem? (i := 458) (by decide +kernel), List.mem_of_getElem? (i := 459) (by decide +kernel)⟩
theorem lw_p8 : lw_okq (⟨"EmbargoDesk$StoryText", "readSign", "(C)Z"⟩, 9) := ⟨⟨by decide +kernel, by decide +kernel⟩, List.mem_of_getElem? (i := 271) (by decide +kernel), List.mem_of_getElem? (i := 465) (by decide +kernel), List.mem_of_getElem? (i := 466) (by decide +kernel)⟩
theorem lw_p9 : lw_okq (⟨"EmbargoDesk$StoryText", "readByline", "()Z"⟩, 9) := ⟨⟨by decide +kernel, by decide +kernel⟩, List.mem_of_getElem? (i := 271) (by decide +kernel), List.mem_of_getElem? (i := 469) (by decide +kernel), List.mem_of_getElem? (i := 470) (by decide +kernel)⟩
theorem lw_p10 : lw_okq (⟨"EmbargoDesk$StoryText", "readPerson", "()Z"⟩, 9) := ⟨⟨by decide +kernel, by decide +kernel⟩, List.mem_of_getElem? (i := 271) (by decide +kernel), List.mem_of_getElem? (i := 473) (by decide +kernel), List.mem_of_getElem? (i := 474) (by decide +kernel)⟩
theorem lw_p11 : lw_okq (⟨"EmbargoDesk$StoryText", "isInByline", "(I)Z"⟩, 9) := ⟨⟨by decide +kernel, by decide +kernel⟩, List.mem_of_getElem? (i := 271) (by decide +kernel), List.mem_of_getElem? (i := 477) (by decide +kernel), List.mem_of_getElem? (i := 478) (by decide +kernel)⟩
theorem lw_p12 : lw_okq (⟨"EmbargoDesk$StoryText", "readEmbargo", "()Z"⟩, 9) := ⟨⟨by decide +kernel, by decide +kernel⟩, List.mem_of_getElem? (i := 271) (by decide +kernel), List.mem_of_getElem? (i := 481) (by decide +kernel), List.mem_of_getElem? (i := 482) (by decide +kernel)⟩
theorem lw_p13 : lw_okq (⟨"EmbargoDesk$StoryText", "readSlug", "()Z"⟩, 9) := ⟨⟨by decide +kernel, by decide +kernel⟩, List.mem_of_getElem? (i := 271) (by decide +kernel), List.mem_of_getElem? (i := 485) (by decide +kernel), List.mem_of_getElem? (i := 486) (by decide +kernel)⟩
theorem lw_p14 : lw_okq (⟨"EmbargoDesk$State", "startDay", "()V"⟩, 11) := ⟨⟨by decide +kernel, by decide +kernel⟩, List.mem_of_getElem? (i := 22) (by decide +kernel), List.mem_of_getElem? (i := 548) (by decide +kernel), List.mem_of_getElem? (i := 549) (by decide +kernel)⟩
theorem lw_p15 : lw_okq (⟨"EmbargoDesk$State", "publish", "(ILEmbargoDesk$Story;)V"⟩, 11) := ⟨⟨by decide +kernel, by decide +kernel⟩, List.mem_of_getElem? (i := 22) (by decide +kernel), List.mem_of_getElem? (i := 552) (by decide +kernel), List.mem_of_getElem? (i := 553) (by decide +kernel)⟩
def lw_privs_1 : List (MethodName × Nat) := [(⟨"EmbargoDesk$History", "dropOldest", "()V"⟩, 2), (⟨"EmbargoDesk$State", "copyStories", "(LEmbargoDesk$State;)V"⟩, 11), (⟨"EmbargoDesk$State", "copyClients", "(LEmbargoDesk$State;)V"⟩, 11), (⟨"EmbargoDesk$State", "copyCopies", "(LEmbargoDesk$State;)V"⟩, 11), (⟨"EmbargoDesk$State", "copyPersons", "(LEmbargoDesk$State;)V"⟩, 11), (⟨"EmbargoDesk$StoryText", "readTopic", "()Z"⟩, 9), (⟨"EmbargoDesk$StoryText", "digit", "()I"⟩, 9), (⟨"EmbargoDesk$StoryText", "sign", "()I"⟩, 9), (⟨"EmbargoDesk$StoryText", "readSign", "(C)Z"⟩, 9), (⟨"EmbargoDesk$StoryText", "readByline", "()Z"⟩, 9), (⟨"EmbargoDesk$StoryText", "readPerson", "()Z"⟩, 9), (⟨"EmbargoDesk$StoryText", "isInByline", "(I)Z"⟩, 9), (⟨"EmbargoDesk$StoryText", "readEmbargo", "()Z"⟩, 9), (⟨"EmbargoDesk$StoryText", "readSlug", "()Z"⟩, 9), (⟨"EmbargoDesk$State", "startDay", "()V"⟩, 11), (⟨"EmbargoDesk$State", "publish", "(ILEmbargoDesk$Story;)V"⟩, 11)]
theorem lw_r1 : ∀ q ∈ lw_privs_1, lw_okq q := List.forall_mem_cons.mpr ⟨lw_p0, List.forall_mem_cons.mpr ⟨lw_p1, List.forall_mem_cons.mpr ⟨lw_p2, List.forall_mem_cons.mpr ⟨lw_p3, List.forall_mem_cons.mpr ⟨lw_p4, List.forall_mem_cons.mpr ⟨lw_p5, List.forall_mem_cons.mpr ⟨lw_p6, List.forall_mem_cons.mpr ⟨lw_p7, List.forall_mem_cons.mpr ⟨lw_p8, List.forall_mem_cons.mpr ⟨lw_p9, List.forall_mem_cons.mpr ⟨lw_p10, List.forall_mem_cons.mpr ⟨lw_p11, List.forall_mem_cons.mpr ⟨lw_p12, List.forall_mem_cons.mpr ⟨lw_p13, List.forall_mem_cons.mpr ⟨lw_p14, List.forall_mem_cons.mpr ⟨lw_p15, fun _ h => absurd h List.not_mem_nil⟩⟩⟩⟩⟩⟩⟩⟩⟩⟩⟩⟩⟩⟩⟩⟩
theorem lw_p16 : lw_okq (⟨"EmbargoDesk$State", "planCopy", "(III)V"⟩, 11) := ⟨⟨by decide +kernel, by decide +kernel⟩, List.mem_of_getElem? (i := 22) (by decide +kernel), List.mem_of_getElem? (i := 557) (by decide +kernel), List.mem_of_getElem? (i := 558) (by decide +kernel)⟩
theorem lw_p17 : lw_okq (⟨"EmbargoDesk$State", "moveOn", "(LEmbargoDesk$Copy;)V"⟩, 11) := ⟨⟨by decide +kernel, by decide +kernel⟩, List.mem_of_getElem? (i := 22) (by decide +kernel), List.mem_of_getElem? (i := 569) (by decide +kernel), List.mem_of_getElem? (i := 570) (by decide +kernel)⟩
theorem lw_p18 : lw_okq (⟨"EmbargoDesk$State", "startUse", "(LEmbargoDesk$Copy;LEmbargoDesk$Story;LEmbargoDesk$Client;)V"⟩, 11) := ⟨⟨by decide +kernel, by decide +kernel⟩, List.mem_of_getElem? (i := 22) (by decide +kernel), List.mem_of_getElem? (i := 577) (by decide +kernel), List.mem_of_getElem? (i := 578) (by decide +kernel)⟩
theorem lw_p19 : lw_okq (⟨"EmbargoDesk$State", "bill", "(LEmbargoDesk$Story;LEmbargoDesk$Client;)V"⟩, 11) := ⟨⟨by decide +kernel, by decide +kernel⟩, List.mem_of_getElem? (i := 22) (by decide +kernel), List.mem_of_getElem? (i := 581) (by decide +kernel), List.mem_of_getElem? (i := 582) (by decide +kernel)⟩
theorem lw_p20 : lw_okq (⟨"EmbargoDesk$State", "reach", "(LEmbargoDesk$Copy;LEmbargoDesk$Story;)V"⟩, 11) := ⟨⟨by decide +kernel, by decide +kernel⟩, List.mem_of_getElem? (i := 22) (by decide +kernel), List.mem_of_getElem? (i := 600) (by decide +kernel), List.mem_of_getElem? (i := 601) (by decide +kernel)⟩
theorem lw_p21 : lw_okq (⟨"EmbargoDeskModel", "record", "()V"⟩, 11) := ⟨⟨by decide +kernel, by decide +kernel⟩, List.mem_of_getElem? (i := 748) (by decide +kernel), List.mem_of_getElem? (i := 796) (by decide +kernel), List.mem_of_getElem? (i := 797) (by decide +kernel)⟩
theorem lw_p22 : lw_okq (⟨"EmbargoDeskModel", "isClient", "(I)Z"⟩, 11) := ⟨⟨by decide +kernel, by decide +kernel⟩, List.mem_of_getElem? (i := 748) (by decide +kernel), List.mem_of_getElem? (i := 807) (by decide +kernel), List.mem_of_getElem? (i := 808) (by decide +kernel)⟩
theorem lw_p23 : lw_okq (⟨"EmbargoDeskModel", "becomes", "(II)I"⟩, 11) := ⟨⟨by decide +kernel, by decide +kernel⟩, List.mem_of_getElem? (i := 748) (by decide +kernel), List.mem_of_getElem? (i := 811) (by decide +kernel), List.mem_of_getElem? (i := 812) (by decide +kernel)⟩
theorem lw_p24 : lw_okq (⟨"EmbargoDeskModel", "ofCopy", "(II)I"⟩, 11) := ⟨⟨by decide +kernel, by decide +kernel⟩, List.mem_of_getElem? (i := 748) (by decide +kernel), List.mem_of_getElem? (i := 819) (by decide +kernel), List.mem_of_getElem? (i := 820) (by decide +kernel)⟩
theorem lw_p25 : lw_okq (⟨"EmbargoDeskModel", "ofClient", "(II)I"⟩, 11) := ⟨⟨by decide +kernel, by decide +kernel⟩, List.mem_of_getElem? (i := 748) (by decide +kernel), List.mem_of_getElem? (i := 834) (by decide +kernel), List.mem_of_getElem? (i := 835) (by decide +kernel)⟩
theorem lw_p26 : lw_okq (⟨"EmbargoDeskModel", "readText", "()Z"⟩, 11) := ⟨⟨by decide +kernel, by decide +kernel⟩, List.mem_of_getElem? (i := 748) (by decide +kernel), List.mem_of_getElem? (i := 850) (by decide +kernel), List.mem_of_getElem? (i := 851) (by decide +kernel)⟩
theorem lw_p27 : lw_okq (⟨"EmbargoDeskModel", "digitTo", "(I)Z"⟩, 11) := ⟨⟨by decide +kernel, by decide +kernel⟩, List.mem_of_getElem? (i := 748) (by decide +kernel), List.mem_of_getElem? (i := 854) (by decide +kernel), List.mem_of_getElem? (i := 855) (by decide +kernel)⟩
theorem lw_p28 : lw_okq (⟨"EmbargoDeskModel", "sign", "(I)Z"⟩, 11) := ⟨⟨by decide +kernel, by decide +kernel⟩, List.mem_of_getElem? (i := 748) (by decide +kernel), List.mem_of_getElem? (i := 858) (by decide +kernel), List.mem_of_getElem? (i := 859) (by decide +kernel)⟩
theorem lw_p29 : lw_okq (⟨"EmbargoDeskModel", "readPersons", "()Z"⟩, 11) := ⟨⟨by decide +kernel, by decide +kernel⟩, List.mem_of_getElem? (i := 748) (by decide +kernel), List.mem_of_getElem? (i := 862) (by decide +kernel), List.mem_of_getElem? (i := 863) (by decide +kernel)⟩
theorem lw_p30 : lw_okq (⟨"EmbargoDeskModel", "readHour", "()Z"⟩, 11) := ⟨⟨by decide +kernel, by decide +kernel⟩, List.mem_of_getElem? (i := 748) (by decide +kernel), List.mem_of_getElem? (i := 866) (by decide +kernel), List.mem_of_getElem? (i := 867) (by decide +kernel)⟩
theorem lw_p31 : lw_okq (⟨"EmbargoDeskModel", "readSlug", "()Z"⟩, 11) := ⟨⟨by decide +kernel, by decide +kernel⟩, List.mem_of_getElem? (i := 748) (by decide +kernel), List.mem_of_getElem? (i := 870) (by decide +kernel), List.mem_of_getElem? (i := 871) (by decide +kernel)⟩
def lw_privs_2 : List (MethodName × Nat) := [(⟨"EmbargoDesk$State", "planCopy", "(III)V"⟩, 11), (⟨"EmbargoDesk$State", "moveOn", "(LEmbargoDesk$Copy;)V"⟩, 11), (⟨"EmbargoDesk$State", "startUse", "(LEmbargoDesk$Copy;LEmbargoDesk$Story;LEmbargoDesk$Client;)V"⟩, 11), (⟨"EmbargoDesk$State", "bill", "(LEmbargoDesk$Story;LEmbargoDesk$Client;)V"⟩, 11), (⟨"EmbargoDesk$State", "reach", "(LEmbargoDesk$Copy;LEmbargoDesk$Story;)V"⟩, 11), (⟨"EmbargoDeskModel", "record", "()V"⟩, 11), (⟨"EmbargoDeskModel", "isClient", "(I)Z"⟩, 11), (⟨"EmbargoDeskModel", "becomes", "(II)I"⟩, 11), (⟨"EmbargoDeskModel", "ofCopy", "(II)I"⟩, 11), (⟨"EmbargoDeskModel", "ofClient", "(II)I"⟩, 11), (⟨"EmbargoDeskModel", "readText", "()Z"⟩, 11), (⟨"EmbargoDeskModel", "digitTo", "(I)Z"⟩, 11), (⟨"EmbargoDeskModel", "sign", "(I)Z"⟩, 11), (⟨"EmbargoDeskModel", "readPersons", "()Z"⟩, 11), (⟨"EmbargoDeskModel", "readHour", "()Z"⟩, 11), (⟨"EmbargoDeskModel", "readSlug", "()Z"⟩, 11)]
theorem lw_r2 : ∀ q ∈ lw_privs_2, lw_okq q := List.forall_mem_cons.mpr ⟨lw_p16, List.forall_mem_cons.mpr ⟨lw_p17, List.forall_mem_cons.mpr ⟨lw_p18, List.forall_mem_cons.mpr ⟨lw_p19, List.forall_mem_cons.mpr ⟨lw_p20, List.forall_mem_cons.mpr ⟨lw_p21, List.forall_mem_cons.mpr ⟨lw_p22, List.forall_mem_cons.mpr ⟨lw_p23, List.forall_mem_cons.mpr ⟨lw_p24, List.forall_mem_cons.mpr ⟨lw_p25, List.forall_mem_cons.mpr ⟨lw_p26, List.forall_mem_cons.mpr ⟨lw_p27, List.forall_mem_cons.mpr ⟨lw_p28, List.forall_mem_cons.mpr ⟨lw_p29, List.forall_mem_cons.mpr ⟨lw_p30, List.forall_mem_cons.mpr ⟨lw_p31, fun _ h => absurd h List.not_mem_nil⟩⟩⟩⟩⟩⟩⟩⟩⟩⟩⟩⟩⟩⟩⟩⟩
theorem lw_p32 : lw_okq (⟨"EmbargoDeskModel", "isStory", "(I)Z"⟩, 11) := ⟨⟨by decide +kernel, by decide +kernel⟩, List.mem_of_getElem? (i := 748) (by decide +kernel), List.mem_of_getElem? (i := 881) (by decide +kernel), List.mem_of_getElem? (i := 882) (by decide +kernel)⟩
theorem lw_p33 : lw_okq (⟨"EmbargoDeskModel", "ofStory", "(II)I"⟩, 11) := ⟨⟨by decide +kernel, by decide +kernel⟩, List.mem_of_getElem? (i := 748) (by decide +kernel), List.mem_of_getElem? (i := 885) (by decide +kernel), List.mem_of_getElem? (i := 886) (by decide +kernel)⟩
theorem lw_p34 : lw_okq (⟨"EmbargoDeskModel", "wants", "(II)Z"⟩, 11) := ⟨⟨by decide +kernel, by decide +kernel⟩, List.mem_of_getElem? (i := 748) (by decide +kernel), List.mem_of_getElem? (i := 889) (by decide +kernel), List.mem_of_getElem? (i := 890) (by decide +kernel)⟩
theorem lw_p35 : lw_okq (⟨"EmbargoDeskModel", "log", "(III)V"⟩, 11) := ⟨⟨by decide +kernel, by decide +kernel⟩, List.mem_of_getElem? (i := 748) (by decide +kernel), List.mem_of_getElem? (i := 905) (by decide +kernel), List.mem_of_getElem? (i := 906) (by decide +kernel)⟩
theorem lw_p36 : lw_okq (⟨"EmbargoDeskModel", "inUse", "(IZ)I"⟩, 11) := ⟨⟨by decide +kernel, by decide +kernel⟩, List.mem_of_getElem? (i := 748) (by decide +kernel), List.mem_of_getElem? (i := 913) (by decide +kernel), List.mem_of_getElem? (i := 914) (by decide +kernel)⟩
theorem lw_p37 : lw_okq (⟨"EmbargoDeskModel", "oneHour", "()I"⟩, 11) := ⟨⟨by decide +kernel, by decide +kernel⟩, List.mem_of_getElem? (i := 748) (by decide +kernel), List.mem_of_getElem? (i := 921) (by decide +kernel), List.mem_of_getElem? (i := 922) (by decide +kernel)⟩
theorem lw_p38 : lw_okq (⟨"EmbargoDeskModel", "publish", "(I)V"⟩, 11) := ⟨⟨by decide +kernel, by decide +kernel⟩, List.mem_of_getElem? (i := 748) (by decide +kernel), List.mem_of_getElem? (i := 925) (by decide +kernel), List.mem_of_getElem? (i := 926) (by decide +kernel)⟩
theorem lw_p39 : lw_okq (⟨"EmbargoDeskModel", "goOn", "(I)I"⟩, 11) := ⟨⟨by decide +kernel, by decide +kernel⟩, List.mem_of_getElem? (i := 748) (by decide +kernel), List.mem_of_getElem? (i := 929) (by decide +kernel), List.mem_of_getElem? (i := 930) (by decide +kernel)⟩
theorem lw_p40 : lw_okq (⟨"EmbargoDeskModel", "bill", "(II)V"⟩, 11) := ⟨⟨by decide +kernel, by decide +kernel⟩, List.mem_of_getElem? (i := 748) (by decide +kernel), List.mem_of_getElem? (i := 933) (by decide +kernel), List.mem_of_getElem? (i := 934) (by decide +kernel)⟩
theorem lw_p41 : lw_okq (⟨"EmbargoDeskModel", "share", "(II)V"⟩, 11) := ⟨⟨by decide +kernel, by decide +kernel⟩, List.mem_of_getElem? (i := 748) (by decide +kernel), List.mem_of_getElem? (i := 938) (by decide +kernel), List.mem_of_getElem? (i := 939) (by decide +kernel)⟩
theorem lw_p42 : lw_okq (⟨"EmbargoDeskModel", "useEnds", "(I)I"⟩, 11) := ⟨⟨by decide +kernel, by decide +kernel⟩, List.mem_of_getElem? (i := 748) (by decide +kernel), List.mem_of_getElem? (i := 942) (by decide +kernel), List.mem_of_getElem? (i := 943) (by decide +kernel)⟩
theorem lw_p43 : lw_okq (⟨"EmbargoDeskModel", "killDue", "(I)I"⟩, 11) := ⟨⟨by decide +kernel, by decide +kernel⟩, List.mem_of_getElem? (i := 748) (by decide +kernel), List.mem_of_getElem? (i := 946) (by decide +kernel), List.mem_of_getElem? (i := 947) (by decide +kernel)⟩
theorem lw_p44 : lw_okq (⟨"EmbargoDeskModel", "correctionDue", "(II)I"⟩, 11) := ⟨⟨by decide +kernel, by decide +kernel⟩, List.mem_of_getElem? (i := 748) (by decide +kernel), List.mem_of_getElem? (i := 950) (by decide +kernel), List.mem_of_getElem? (i := 951) (by decide +kernel)⟩
theorem lw_p45 : lw_okq (⟨"EmbargoDeskModel", "rowOf", "(IIII)I"⟩, 11) := ⟨⟨by decide +kernel, by decide +kernel⟩, List.mem_of_getElem? (i := 748) (by decide +kernel), List.mem_of_getElem? (i := 974) (by decide +kernel), List.mem_of_getElem? (i := 975) (by decide +kernel)⟩
theorem lw_p46 : lw_okq (⟨"EmbargoDeskModel", "inUseFor", "(I)I"⟩, 11) := ⟨⟨by decide +kernel, by decide +kernel⟩, List.mem_of_getElem? (i := 748) (by decide +kernel), List.mem_of_getElem? (i := 990) (by decide +kernel), List.mem_of_getElem? (i := 991) (by decide +kernel)⟩
theorem lw_p47 : lw_okq (⟨"EmbargoDeskModel", "wrote", "(II)Z"⟩, 11) := ⟨⟨by decide +kernel, by decide +kernel⟩, List.mem_of_getElem? (i := 748) (by decide +kernel), List.mem_of_getElem? (i := 998) (by decide +kernel), List.mem_of_getElem? (i := 999) (by decide +kernel)⟩
def lw_privs_3 : List (MethodName × Nat) := [(⟨"EmbargoDeskModel", "isStory", "(I)Z"⟩, 11), (⟨"EmbargoDeskModel", "ofStory", "(II)I"⟩, 11), (⟨"EmbargoDeskModel", "wants", "(II)Z"⟩, 11), (⟨"EmbargoDeskModel", "log", "(III)V"⟩, 11), (⟨"EmbargoDeskModel", "inUse", "(IZ)I"⟩, 11), (⟨"EmbargoDeskModel", "oneHour", "()I"⟩, 11), (⟨"EmbargoDeskModel", "publish", "(I)V"⟩, 11), (⟨"EmbargoDeskModel", "goOn", "(I)I"⟩, 11), (⟨"EmbargoDeskModel", "bill", "(II)V"⟩, 11), (⟨"EmbargoDeskModel", "share", "(II)V"⟩, 11), (⟨"EmbargoDeskModel", "useEnds", "(I)I"⟩, 11), (⟨"EmbargoDeskModel", "killDue", "(I)I"⟩, 11), (⟨"EmbargoDeskModel", "correctionDue", "(II)I"⟩, 11), (⟨"EmbargoDeskModel", "rowOf", "(IIII)I"⟩, 11), (⟨"EmbargoDeskModel", "inUseFor", "(I)I"⟩, 11), (⟨"EmbargoDeskModel", "wrote", "(II)Z"⟩, 11)]
theorem lw_r3 : ∀ q ∈ lw_privs_3, lw_okq q := List.forall_mem_cons.mpr ⟨lw_p32, List.forall_mem_cons.mpr ⟨lw_p33, List.forall_mem_cons.mpr ⟨lw_p34, List.forall_mem_cons.mpr ⟨lw_p35, List.forall_mem_cons.mpr ⟨lw_p36, List.forall_mem_cons.mpr ⟨lw_p37, List.forall_mem_cons.mpr ⟨lw_p38, List.forall_mem_cons.mpr ⟨lw_p39, List.forall_mem_cons.mpr ⟨lw_p40, List.forall_mem_cons.mpr ⟨lw_p41, List.forall_mem_cons.mpr ⟨lw_p42, List.forall_mem_cons.mpr ⟨lw_p43, List.forall_mem_cons.mpr ⟨lw_p44, List.forall_mem_cons.mpr ⟨lw_p45, List.forall_mem_cons.mpr ⟨lw_p46, List.forall_mem_cons.mpr ⟨lw_p47, fun _ h => absurd h List.not_mem_nil⟩⟩⟩⟩⟩⟩⟩⟩⟩⟩⟩⟩⟩⟩⟩⟩
theorem lw_p48 : lw_okq (⟨"EmbargoDeskModel", "copyOf", "(II)I"⟩, 11) := ⟨⟨by decide +kernel, by decide +kernel⟩, List.mem_of_getElem? (i := 748) (by decide +kernel), List.mem_of_getElem? (i := 1006) (by decide +kernel), List.mem_of_getElem? (i := 1007) (by decide +kernel)⟩
theorem lw_p49 : lw_okq (⟨"EmbargoDeskModel", "dueNow", "(I)I"⟩, 11) := ⟨⟨by decide +kernel, by decide +kernel⟩, List.mem_of_getElem? (i := 748) (by decide +kernel), List.mem_of_getElem? (i := 1010) (by decide +kernel), List.mem_of_getElem? (i := 1011) (by decide +kernel)⟩
theorem lw_p50 : lw_okq (⟨"EmbargoDeskModel", "setAside", "()V"⟩, 11) := ⟨⟨by decide +kernel, by decide +kernel⟩, List.mem_of_getElem? (i := 748) (by decide +kernel), List.mem_of_getElem? (i := 1022) (by decide +kernel), List.mem_of_getElem? (i := 1023) (by decide +kernel)⟩
theorem lw_p51 : lw_okq (⟨"EmbargoDeskModel", "bringBack", "()V"⟩, 11) := ⟨⟨by decide +kernel, by decide +kernel⟩, List.mem_of_getElem? (i := 748) (by decide +kernel), List.mem_of_getElem? (i := 1026) (by decide +kernel), List.mem_of_getElem? (i := 1027) (by decide +kernel)⟩
theorem lw_p52 : lw_okq (⟨"EmbargoDeskModel", "personsOfAll", "()I"⟩, 11) := ⟨⟨by decide +kernel, by decide +kernel⟩, List.mem_of_getElem? (i := 748) (by decide +kernel), List.mem_of_getElem? (i := 1042) (by decide +kernel), List.mem_of_getElem? (i := 1043) (by decide +kernel)⟩
def lw_privs_4 : List (MethodName × Nat) := [(⟨"EmbargoDeskModel", "copyOf", "(II)I"⟩, 11), (⟨"EmbargoDeskModel", "dueNow", "(I)I"⟩, 11), (⟨"EmbargoDeskModel", "setAside", "()V"⟩, 11), (⟨"EmbargoDeskModel", "bringBack", "()V"⟩, 11), (⟨"EmbargoDeskModel", "personsOfAll", "()I"⟩, 11)]
theorem lw_r4 : ∀ q ∈ lw_privs_4, lw_okq q := List.forall_mem_cons.mpr ⟨lw_p48, List.forall_mem_cons.mpr ⟨lw_p49, List.forall_mem_cons.mpr ⟨lw_p50, List.forall_mem_cons.mpr ⟨lw_p51, List.forall_mem_cons.mpr ⟨lw_p52, fun _ h => absurd h List.not_mem_nil⟩⟩⟩⟩⟩
def lw_privs : List (MethodName × Nat) := lw_privs_1 ++ (lw_privs_2 ++ (lw_privs_3 ++ (lw_privs_4)))
def lw_tbl : List Cond := k2_sels lw_privs ++ tables_1
theorem lw_privs_ok : ∀ q ∈ lw_privs, lw_okq q := by
  show ∀ q ∈ lw_privs_1 ++ (lw_privs_2 ++ (lw_privs_3 ++ (lw_privs_4))), lw_okq q
  exact List.forall_mem_append.mpr ⟨lw_r1, List.forall_mem_append.mpr ⟨lw_r2, List.forall_mem_append.mpr ⟨lw_r3, lw_r4⟩⟩⟩
end
section
/-! ===== BEGIN words of one list among another's, by their places ===== -/
/-! ===== END ===== -/

/-! ===== BEGIN printed: names, fields, word lists, decode rows ===== -/
def RX0 : String := "EmbargoDesk$Client"
def TX0 : u_T := fun k => match k with
  | 0 => ("EmbargoDesk$Client", "topics", "I", false)
  | 1 => ("EmbargoDesk$Client", "delay", "I", false)
  | 2 => ("EmbargoDesk$Client", "lag", "I", false)
  | 3 => ("EmbargoDesk$Client", "limit", "I", false)
  | 4 => ("EmbargoDesk$Client", "fee", "I", false)
  | 5 => ("EmbargoDesk$Client", "up", "Z", false)
  | 6 => ("EmbargoDesk$Client", "owed", "I", false)
  | 7 => ("EmbargoDesk$Client", "today", "I", false)
  | 8 => ("EmbargoDesk$Client", "total", "I", false)
  | _ => ("EmbargoDesk$Client", "unbilled", "I", false)
def tyX0 : Nat → FieldType := fun k => match k with
  | 0 => .int
  | 1 => .int
  | 2 => .int
  | 3 => .int
  | 4 => .int
  | 5 => .boolean
  | 6 => .int
  | 7 => .int
  | 8 => .int
  | _ => .int
abbrev wsX00 : List Cond := u_ws RX0 TX0 10
theorem nmX0 : ∀ a, a < 10 → ∀ b, b < 10 → a ≠ b → (TX0 a).2.1 ≠ (TX0 b).2.1 := by decide +kernel
theorem tyX0_ok : ∀ k, k < 10 → parseFieldDescriptor (TX0 k).2.2.1 = some (tyX0 k) := by decide +kernel
abbrev cX0_init : ByteArray := prog_2_method_1_code
def yX0_init : MethodName := ⟨RX0, "<init>", "()V"⟩
abbrev cX0_begin : ByteArray := prog_2_method_2_code
def yX0_begin : MethodName := ⟨RX0, "begin", "(IIIII)V"⟩
abbrev cX0_copyFrom : ByteArray := prog_2_method_3_code
def yX0_copyFrom : MethodName := ⟨RX0, "copyFrom", "(LEmbargoDesk$Client;)V"⟩
abbrev cX0_hasTopic : ByteArray := prog_2_method_4_code
def yX0_hasTopic : MethodName := ⟨RX0, "hasTopic", "(I)Z"⟩
abbrev cX0_canGetCopy : ByteArray := prog_2_method_5_code
def yX0_canGetCopy : MethodName := ⟨RX0, "canGetCopy", "()Z"⟩
def RX1 : String := "EmbargoDesk$Copy"
def TX1 : u_T := fun k => match k with
  | 0 => ("EmbargoDesk$Copy", "story", "I", false)
  | 1 => ("EmbargoDesk$Copy", "client", "I", false)
  | 2 => ("EmbargoDesk$Copy", "state", "I", false)
  | 3 => ("EmbargoDesk$Copy", "due", "I", false)
  | 4 => ("EmbargoDesk$Copy", "startedAt", "I", false)
  | _ => ("EmbargoDesk$Copy", "version", "I", false)
def tyX1 : Nat → FieldType := fun k => match k with
  | 0 => .int
  | 1 => .int
  | 2 => .int
  | 3 => .int
  | 4 => .int
  | _ => .int
abbrev wsX10 : List Cond := u_ws RX1 TX1 6
theorem nmX1 : ∀ a, a < 6 → ∀ b, b < 6 → a ≠ b → (TX1 a).2.1 ≠ (TX1 b).2.1 := by decide +kernel
theorem tyX1_ok : ∀ k, k < 6 → parseFieldDescriptor (TX1 k).2.2.1 = some (tyX1 k) := by decide +kernel
abbrev cX1_init : ByteArray := prog_3_method_1_code
def yX1_init : MethodName := ⟨RX1, "<init>", "()V"⟩
abbrev cX1_begin : ByteArray := prog_3_method_2_code
def yX1_begin : MethodName := ⟨RX1, "begin", "(III)V"⟩
abbrev cX1_isOver : ByteArray := prog_3_method_3_code
def yX1_isOver : MethodName := ⟨RX1, "isOver", "()Z"⟩
abbrev cX1_copyFrom : ByteArray := prog_3_method_4_code
def yX1_copyFrom : MethodName := ⟨RX1, "copyFrom", "(LEmbargoDesk$Copy;)V"⟩
def RX2 : String := "EmbargoDesk$History"
def TX2 : u_T := fun k => match k with
  | 0 => ("EmbargoDesk$History", "rows", "[LEmbargoDesk$State;", true)
  | _ => ("EmbargoDesk$History", "size", "I", false)
def tyX2 : Nat → FieldType := fun k => match k with
  | 0 => .array (.object "EmbargoDesk$State")
  | _ => .int
abbrev wsX20 : List Cond := u_ws RX2 TX2 2
theorem nmX2 : ∀ a, a < 2 → ∀ b, b < 2 → a ≠ b → (TX2 a).2.1 ≠ (TX2 b).2.1 := by decide +kernel
theorem tyX2_ok : ∀ k, k < 2 → parseFieldDescriptor (TX2 k).2.2.1 = some (tyX2 k) := by decide +kernel
abbrev cX2_init : ByteArray := prog_4_method_1_code
def yX2_init : MethodName := ⟨RX2, "<init>", "()V"⟩
abbrev cX2_remember : ByteArray := prog_4_method_2_code
def yX2_remember : MethodName := ⟨RX2, "remember", "(LEmbargoDesk$State;)V"⟩
abbrev cX2_dropOldest : ByteArray := prog_4_method_3_code
def yX2_dropOldest : MethodName := ⟨RX2, "dropOldest", "()V"⟩
abbrev cX2_takeLatest : ByteArray := prog_4_method_4_code
def yX2_takeLatest : MethodName := ⟨RX2, "takeLatest", "(LEmbargoDesk$State;)V"⟩
def RX3 : String := "EmbargoDesk$Log"
def TX3 : u_T := fun k => match k with
  | 0 => ("EmbargoDesk$Log", "cells", "[I", true)
  | 1 => ("EmbargoDesk$Log", "newest", "I", false)
  | _ => ("EmbargoDesk$Log", "size", "I", false)
def tyX3 : Nat → FieldType := fun k => match k with
  | 0 => .array .int
  | 1 => .int
  | _ => .int
abbrev wsX30 : List Cond := u_ws RX3 TX3 3
theorem nmX3 : ∀ a, a < 3 → ∀ b, b < 3 → a ≠ b → (TX3 a).2.1 ≠ (TX3 b).2.1 := by decide +kernel
theorem tyX3_ok : ∀ k, k < 3 → parseFieldDescriptor (TX3 k).2.2.1 = some (tyX3 k) := by decide +kernel
abbrev cX3_init : ByteArray := prog_5_method_1_code
def yX3_init : MethodName := ⟨RX3, "<init>", "()V"⟩
abbrev cX3_add : ByteArray := prog_5_method_2_code
def yX3_add : MethodName := ⟨RX3, "add", "(IIII)V"⟩
abbrev cX3_part : ByteArray := prog_5_method_3_code
def yX3_part : MethodName := ⟨RX3, "part", "(II)I"⟩
abbrev cX3_copyFrom : ByteArray := prog_5_method_4_code
def yX3_copyFrom : MethodName := ⟨RX3, "copyFrom", "(LEmbargoDesk$Log;)V"⟩
def RX4 : String := "EmbargoDesk$Person"
def TX4 : u_T := fun k => match k with
  | 0 => ("EmbargoDesk$Person", "got", "I", false)
  | _ => ("EmbargoDesk$Person", "lost", "I", false)
def tyX4 : Nat → FieldType := fun k => match k with
  | 0 => .int
  | _ => .int
abbrev wsX40 : List Cond := u_ws RX4 TX4 2
theorem nmX4 : ∀ a, a < 2 → ∀ b, b < 2 → a ≠ b → (TX4 a).2.1 ≠ (TX4 b).2.1 := by decide +kernel
theorem tyX4_ok : ∀ k, k < 2 → parseFieldDescriptor (TX4 k).2.2.1 = some (tyX4 k) := by decide +kernel
abbrev cX4_init : ByteArray := prog_6_method_1_code
def yX4_init : MethodName := ⟨RX4, "<init>", "()V"⟩
abbrev cX4_addShare : ByteArray := prog_6_method_2_code
def yX4_addShare : MethodName := ⟨RX4, "addShare", "(I)V"⟩
def RX5 : String := "EmbargoDesk$State"
def TX5 : u_T := fun k => match k with
  | 0 => ("EmbargoDesk$State", "hour", "I", false)
  | 1 => ("EmbargoDesk$State", "useDays", "I", false)
  | 2 => ("EmbargoDesk$State", "corrected", "I", false)
  | 3 => ("EmbargoDesk$State", "storyCount", "I", false)
  | 4 => ("EmbargoDesk$State", "clientCount", "I", false)
  | 5 => ("EmbargoDesk$State", "copyCount", "I", false)
  | 6 => ("EmbargoDesk$State", "log", "LEmbargoDesk$Log;", true)
  | 7 => ("EmbargoDesk$State", "stories", "[LEmbargoDesk$Story;", true)
  | 8 => ("EmbargoDesk$State", "clients", "[LEmbargoDesk$Client;", true)
  | 9 => ("EmbargoDesk$State", "copies", "[LEmbargoDesk$Copy;", true)
  | _ => ("EmbargoDesk$State", "persons", "[LEmbargoDesk$Person;", true)
def tyX5 : Nat → FieldType := fun k => match k with
  | 0 => .int
  | 1 => .int
  | 2 => .int
  | 3 => .int
  | 4 => .int
  | 5 => .int
  | 6 => .object "EmbargoDesk$Log"
  | 7 => .array (.object "EmbargoDesk$Story")
  | 8 => .array (.object "EmbargoDesk$Client")
  | 9 => .array (.object "EmbargoDesk$Copy")
  | _ => .array (.object "EmbargoDesk$Person")
abbrev wsX50 : List Cond := u_ws RX5 TX5 11
theorem nmX5 : ∀ a, a < 11 → ∀ b, b < 11 → a ≠ b → (TX5 a).2.1 ≠ (TX5 b).2.1 := by decide +kernel
theorem tyX5_ok : ∀ k, k < 11 → parseFieldDescriptor (TX5 k).2.2.1 = some (tyX5 k) := by decide +kernel
abbrev cX5_init : ByteArray := prog_7_method_1_code
def yX5_init : MethodName := ⟨RX5, "<init>", "()V"⟩
abbrev cX5_copyFrom : ByteArray := prog_7_method_2_code
def yX5_copyFrom : MethodName := ⟨RX5, "copyFrom", "(LEmbargoDesk$State;)V"⟩
abbrev cX5_copyStories : ByteArray := prog_7_method_3_code
def yX5_copyStories : MethodName := ⟨RX5, "copyStories", "(LEmbargoDesk$State;)V"⟩
abbrev cX5_copyClients : ByteArray := prog_7_method_4_code
def yX5_copyClients : MethodName := ⟨RX5, "copyClients", "(LEmbargoDesk$State;)V"⟩
abbrev cX5_copyCopies : ByteArray := prog_7_method_5_code
def yX5_copyCopies : MethodName := ⟨RX5, "copyCopies", "(LEmbargoDesk$State;)V"⟩
abbrev cX5_copyPersons : ByteArray := prog_7_method_6_code
def yX5_copyPersons : MethodName := ⟨RX5, "copyPersons", "(LEmbargoDesk$State;)V"⟩
abbrev cX5_storyAt : ByteArray := prog_7_method_7_code
def yX5_storyAt : MethodName := ⟨RX5, "storyAt", "(I)LEmbargoDesk$Story;"⟩
abbrev cX5_clientAt : ByteArray := prog_7_method_8_code
def yX5_clientAt : MethodName := ⟨RX5, "clientAt", "(I)LEmbargoDesk$Client;"⟩
abbrev cX5_copyMade : ByteArray := prog_7_method_9_code
def yX5_copyMade : MethodName := ⟨RX5, "copyMade", "(I)LEmbargoDesk$Copy;"⟩
abbrev cX5_personAt : ByteArray := prog_7_method_10_code
def yX5_personAt : MethodName := ⟨RX5, "personAt", "(I)LEmbargoDesk$Person;"⟩
abbrev cX5_copyFor : ByteArray := prog_7_method_11_code
def yX5_copyFor : MethodName := ⟨RX5, "copyFor", "(II)LEmbargoDesk$Copy;"⟩
abbrev cX5_passHour : ByteArray := prog_7_method_12_code
def yX5_passHour : MethodName := ⟨RX5, "passHour", "()V"⟩
abbrev cX5_startDay : ByteArray := prog_7_method_13_code
def yX5_startDay : MethodName := ⟨RX5, "startDay", "()V"⟩
abbrev cX5_publish : ByteArray := prog_7_method_14_code
def yX5_publish : MethodName := ⟨RX5, "publish", "(ILEmbargoDesk$Story;)V"⟩
abbrev cX5_planCopy : ByteArray := prog_7_method_15_code
def yX5_planCopy : MethodName := ⟨RX5, "planCopy", "(III)V"⟩
abbrev cX5_moveOn : ByteArray := prog_7_method_16_code
def yX5_moveOn : MethodName := ⟨RX5, "moveOn", "(LEmbargoDesk$Copy;)V"⟩
abbrev cX5_startUse : ByteArray := prog_7_method_17_code
def yX5_startUse : MethodName := ⟨RX5, "startUse", "(LEmbargoDesk$Copy;LEmbargoDesk$Story;LEmbargoDesk$Client;)V"⟩
abbrev cX5_bill : ByteArray := prog_7_method_18_code
def yX5_bill : MethodName := ⟨RX5, "bill", "(LEmbargoDesk$Story;LEmbargoDesk$Client;)V"⟩
abbrev cX5_reach : ByteArray := prog_7_method_19_code
def yX5_reach : MethodName := ⟨RX5, "reach", "(LEmbargoDesk$Copy;LEmbargoDesk$Story;)V"⟩
abbrev cX5_correctionsMissing : ByteArray := prog_7_method_20_code
def yX5_correctionsMissing : MethodName := ⟨RX5, "correctionsMissing", "(LEmbargoDesk$Copy;)I"⟩
abbrev cX5_correctionsDue : ByteArray := prog_7_method_21_code
def yX5_correctionsDue : MethodName := ⟨RX5, "correctionsDue", "(LEmbargoDesk$Copy;)I"⟩
abbrev cX5_nextCorrectionAt : ByteArray := prog_7_method_22_code
def yX5_nextCorrectionAt : MethodName := ⟨RX5, "nextCorrectionAt", "(LEmbargoDesk$Copy;)I"⟩
abbrev cX5_killNoticeAt : ByteArray := prog_7_method_23_code
def yX5_killNoticeAt : MethodName := ⟨RX5, "killNoticeAt", "(LEmbargoDesk$Copy;)I"⟩
abbrev cX5_useEndsAt : ByteArray := prog_7_method_24_code
def yX5_useEndsAt : MethodName := ⟨RX5, "useEndsAt", "(LEmbargoDesk$Copy;)I"⟩
abbrev cX5_clientsFor : ByteArray := prog_7_method_25_code
def yX5_clientsFor : MethodName := ⟨RX5, "clientsFor", "(I)I"⟩
abbrev cX5_copiesThatCame : ByteArray := prog_7_method_26_code
def yX5_copiesThatCame : MethodName := ⟨RX5, "copiesThatCame", "()I"⟩
abbrev cX5_copiesOf : ByteArray := prog_7_method_27_code
def yX5_copiesOf : MethodName := ⟨RX5, "copiesOf", "(III)I"⟩
abbrev cX5_fits : ByteArray := prog_7_method_28_code
def yX5_fits : MethodName := ⟨RX5, "fits", "(II)Z"⟩
abbrev cX5_upToDateCopies : ByteArray := prog_7_method_29_code
def yX5_upToDateCopies : MethodName := ⟨RX5, "upToDateCopies", "(I)I"⟩
abbrev cX5_copiesWithCorrectionsDue : ByteArray := prog_7_method_30_code
def yX5_copiesWithCorrectionsDue : MethodName := ⟨RX5, "copiesWithCorrectionsDue", "()I"⟩
abbrev cX5_storiesBy : ByteArray := prog_7_method_31_code
def yX5_storiesBy : MethodName := ⟨RX5, "storiesBy", "(I)I"⟩
abbrev cX5_copiesInUseBy : ByteArray := prog_7_method_32_code
def yX5_copiesInUseBy : MethodName := ⟨RX5, "copiesInUseBy", "(I)I"⟩
abbrev cX5_authors : ByteArray := prog_7_method_33_code
def yX5_authors : MethodName := ⟨RX5, "authors", "()I"⟩
def RX6 : String := "EmbargoDesk$Story"
def TX6 : u_T := fun k => match k with
  | 0 => ("EmbargoDesk$Story", "topic", "I", false)
  | 1 => ("EmbargoDesk$Story", "bylineSize", "I", false)
  | 2 => ("EmbargoDesk$Story", "byline", "[I", true)
  | 3 => ("EmbargoDesk$Story", "embargo", "I", false)
  | 4 => ("EmbargoDesk$Story", "slugSize", "I", false)
  | 5 => ("EmbargoDesk$Story", "slug", "[I", true)
  | 6 => ("EmbargoDesk$Story", "state", "I", false)
  | 7 => ("EmbargoDesk$Story", "version", "I", false)
  | 8 => ("EmbargoDesk$Story", "corrections", "[I", true)
  | 9 => ("EmbargoDesk$Story", "publishedAt", "I", false)
  | _ => ("EmbargoDesk$Story", "killedAt", "I", false)
def tyX6 : Nat → FieldType := fun k => match k with
  | 0 => .int
  | 1 => .int
  | 2 => .array .int
  | 3 => .int
  | 4 => .int
  | 5 => .array .int
  | 6 => .int
  | 7 => .int
  | 8 => .array .int
  | 9 => .int
  | _ => .int
abbrev wsX60 : List Cond := u_ws RX6 TX6 11
theorem nmX6 : ∀ a, a < 11 → ∀ b, b < 11 → a ≠ b → (TX6 a).2.1 ≠ (TX6 b).2.1 := by decide +kernel
theorem tyX6_ok : ∀ k, k < 11 → parseFieldDescriptor (TX6 k).2.2.1 = some (tyX6 k) := by decide +kernel
abbrev cX6_init : ByteArray := prog_8_method_1_code
def yX6_init : MethodName := ⟨RX6, "<init>", "()V"⟩
abbrev cX6_begin : ByteArray := prog_8_method_2_code
def yX6_begin : MethodName := ⟨RX6, "begin", "(LEmbargoDesk$StoryText;)V"⟩
abbrev cX6_copyFrom : ByteArray := prog_8_method_3_code
def yX6_copyFrom : MethodName := ⟨RX6, "copyFrom", "(LEmbargoDesk$Story;)V"⟩
abbrev cX6_addCorrection : ByteArray := prog_8_method_4_code
def yX6_addCorrection : MethodName := ⟨RX6, "addCorrection", "(I)V"⟩
abbrev cX6_authorAt : ByteArray := prog_8_method_5_code
def yX6_authorAt : MethodName := ⟨RX6, "authorAt", "(I)I"⟩
abbrev cX6_letterAt : ByteArray := prog_8_method_6_code
def yX6_letterAt : MethodName := ⟨RX6, "letterAt", "(I)I"⟩
abbrev cX6_correctedAt : ByteArray := prog_8_method_7_code
def yX6_correctedAt : MethodName := ⟨RX6, "correctedAt", "(I)I"⟩
abbrev cX6_isBy : ByteArray := prog_8_method_8_code
def yX6_isBy : MethodName := ⟨RX6, "isBy", "(I)Z"⟩
def RX7 : String := "EmbargoDesk$StoryText"
def TX7 : u_T := fun k => match k with
  | 0 => ("EmbargoDesk$StoryText", "signs", "[I", true)
  | 1 => ("EmbargoDesk$StoryText", "length", "I", false)
  | 2 => ("EmbargoDesk$StoryText", "at", "I", false)
  | 3 => ("EmbargoDesk$StoryText", "topic", "I", false)
  | 4 => ("EmbargoDesk$StoryText", "bylineSize", "I", false)
  | 5 => ("EmbargoDesk$StoryText", "byline", "[I", true)
  | 6 => ("EmbargoDesk$StoryText", "embargo", "I", false)
  | 7 => ("EmbargoDesk$StoryText", "slugSize", "I", false)
  | _ => ("EmbargoDesk$StoryText", "slug", "[I", true)
def tyX7 : Nat → FieldType := fun k => match k with
  | 0 => .array .int
  | 1 => .int
  | 2 => .int
  | 3 => .int
  | 4 => .int
  | 5 => .array .int
  | 6 => .int
  | 7 => .int
  | _ => .array .int
abbrev wsX70 : List Cond := u_ws RX7 TX7 9
theorem nmX7 : ∀ a, a < 9 → ∀ b, b < 9 → a ≠ b → (TX7 a).2.1 ≠ (TX7 b).2.1 := by decide +kernel
theorem tyX7_ok : ∀ k, k < 9 → parseFieldDescriptor (TX7 k).2.2.1 = some (tyX7 k) := by decide +kernel
abbrev cX7_init : ByteArray := prog_9_method_1_code
def yX7_init : MethodName := ⟨RX7, "<init>", "()V"⟩
abbrev cX7_add : ByteArray := prog_9_method_2_code
def yX7_add : MethodName := ⟨RX7, "add", "(C)V"⟩
abbrev cX7_parse : ByteArray := prog_9_method_3_code
def yX7_parse : MethodName := ⟨RX7, "parse", "()I"⟩
abbrev cX7_sign : ByteArray := prog_9_method_4_code
def yX7_sign : MethodName := ⟨RX7, "sign", "()I"⟩
abbrev cX7_digit : ByteArray := prog_9_method_5_code
def yX7_digit : MethodName := ⟨RX7, "digit", "()I"⟩
abbrev cX7_readSign : ByteArray := prog_9_method_6_code
def yX7_readSign : MethodName := ⟨RX7, "readSign", "(C)Z"⟩
abbrev cX7_readTopic : ByteArray := prog_9_method_7_code
def yX7_readTopic : MethodName := ⟨RX7, "readTopic", "()Z"⟩
abbrev cX7_readByline : ByteArray := prog_9_method_8_code
def yX7_readByline : MethodName := ⟨RX7, "readByline", "()Z"⟩
abbrev cX7_readPerson : ByteArray := prog_9_method_9_code
def yX7_readPerson : MethodName := ⟨RX7, "readPerson", "()Z"⟩
abbrev cX7_isInByline : ByteArray := prog_9_method_10_code
def yX7_isInByline : MethodName := ⟨RX7, "isInByline", "(I)Z"⟩
abbrev cX7_readEmbargo : ByteArray := prog_9_method_11_code
def yX7_readEmbargo : MethodName := ⟨RX7, "readEmbargo", "()Z"⟩
abbrev cX7_readSlug : ByteArray := prog_9_method_12_code
def yX7_readSlug : MethodName := ⟨RX7, "readSlug", "()Z"⟩
def RX8 : String := "EmbargoDesk"
def TX8 : u_T := fun k => match k with
  | 0 => ("EmbargoDesk", "state", "LEmbargoDesk$State;", true)
  | 1 => ("EmbargoDesk", "imagined", "LEmbargoDesk$State;", true)
  | 2 => ("EmbargoDesk", "snapshot", "LEmbargoDesk$State;", true)
  | 3 => ("EmbargoDesk", "hasSnapshot", "Z", false)
  | 4 => ("EmbargoDesk", "history", "LEmbargoDesk$History;", true)
  | _ => ("EmbargoDesk", "text", "LEmbargoDesk$StoryText;", true)
def tyX8 : Nat → FieldType := fun k => match k with
  | 0 => .object "EmbargoDesk$State"
  | 1 => .object "EmbargoDesk$State"
  | 2 => .object "EmbargoDesk$State"
  | 3 => .boolean
  | 4 => .object "EmbargoDesk$History"
  | _ => .object "EmbargoDesk$StoryText"
abbrev wsX80 : List Cond := u_ws RX8 TX8 6
theorem nmX8 : ∀ a, a < 6 → ∀ b, b < 6 → a ≠ b → (TX8 a).2.1 ≠ (TX8 b).2.1 := by decide +kernel
theorem tyX8_ok : ∀ k, k < 6 → parseFieldDescriptor (TX8 k).2.2.1 = some (tyX8 k) := by decide +kernel
abbrev cX8_init : ByteArray := prog_1_method_1_code
def yX8_init : MethodName := ⟨RX8, "<init>", "()V"⟩
abbrev cX8_addClient : ByteArray := prog_1_method_2_code
def yX8_addClient : MethodName := ⟨RX8, "addClient", "(IIIII)I"⟩
abbrev cX8_setTopics : ByteArray := prog_1_method_3_code
def yX8_setTopics : MethodName := ⟨RX8, "setTopics", "(II)I"⟩
abbrev cX8_setUp : ByteArray := prog_1_method_4_code
def yX8_setUp : MethodName := ⟨RX8, "setUp", "(IZ)I"⟩
abbrev cX8_setUse : ByteArray := prog_1_method_5_code
def yX8_setUse : MethodName := ⟨RX8, "setUse", "(I)I"⟩
abbrev cX8_pay : ByteArray := prog_1_method_6_code
def yX8_pay : MethodName := ⟨RX8, "pay", "(II)I"⟩
abbrev cX8_readStory : ByteArray := prog_1_method_7_code
def yX8_readStory : MethodName := ⟨RX8, "readStory", "()I"⟩
abbrev cX8_release : ByteArray := prog_1_method_8_code
def yX8_release : MethodName := ⟨RX8, "release", "(I)I"⟩
abbrev cX8_hold : ByteArray := prog_1_method_9_code
def yX8_hold : MethodName := ⟨RX8, "hold", "(I)I"⟩
abbrev cX8_setEmbargo : ByteArray := prog_1_method_10_code
def yX8_setEmbargo : MethodName := ⟨RX8, "setEmbargo", "(II)I"⟩
abbrev cX8_correct : ByteArray := prog_1_method_11_code
def yX8_correct : MethodName := ⟨RX8, "correct", "(I)I"⟩
abbrev cX8_kill : ByteArray := prog_1_method_12_code
def yX8_kill : MethodName := ⟨RX8, "kill", "(I)I"⟩
abbrev cX8_pass : ByteArray := prog_1_method_13_code
def yX8_pass : MethodName := ⟨RX8, "pass", "(I)I"⟩
abbrev cX8_type : ByteArray := prog_1_method_14_code
def yX8_type : MethodName := ⟨RX8, "type", "(C)I"⟩
abbrev cX8_clearText : ByteArray := prog_1_method_15_code
def yX8_clearText : MethodName := ⟨RX8, "clearText", "()I"⟩
abbrev cX8_undo : ByteArray := prog_1_method_16_code
def yX8_undo : MethodName := ⟨RX8, "undo", "()I"⟩
abbrev cX8_keep : ByteArray := prog_1_method_17_code
def yX8_keep : MethodName := ⟨RX8, "keep", "()I"⟩
abbrev cX8_restore : ByteArray := prog_1_method_18_code
def yX8_restore : MethodName := ⟨RX8, "restore", "()I"⟩
abbrev cX8_story : ByteArray := prog_1_method_19_code
def yX8_story : MethodName := ⟨RX8, "story", "(II)I"⟩
abbrev cX8_byline : ByteArray := prog_1_method_20_code
def yX8_byline : MethodName := ⟨RX8, "byline", "(II)I"⟩
abbrev cX8_slugChar : ByteArray := prog_1_method_21_code
def yX8_slugChar : MethodName := ⟨RX8, "slugChar", "(II)I"⟩
abbrev cX8_correction : ByteArray := prog_1_method_22_code
def yX8_correction : MethodName := ⟨RX8, "correction", "(II)I"⟩
abbrev cX8_client : ByteArray := prog_1_method_23_code
def yX8_client : MethodName := ⟨RX8, "client", "(II)I"⟩
abbrev cX8_person : ByteArray := prog_1_method_24_code
def yX8_person : MethodName := ⟨RX8, "person", "(II)I"⟩
abbrev cX8_copy : ByteArray := prog_1_method_25_code
def yX8_copy : MethodName := ⟨RX8, "copy", "(III)I"⟩
abbrev cX8_copyAt : ByteArray := prog_1_method_26_code
def yX8_copyAt : MethodName := ⟨RX8, "copyAt", "(I)I"⟩
abbrev cX8_carriedIn : ByteArray := prog_1_method_27_code
def yX8_carriedIn : MethodName := ⟨RX8, "carriedIn", "(II)I"⟩
abbrev cX8_wouldCome : ByteArray := prog_1_method_28_code
def yX8_wouldCome : MethodName := ⟨RX8, "wouldCome", "(II)I"⟩
abbrev cX8_event : ByteArray := prog_1_method_29_code
def yX8_event : MethodName := ⟨RX8, "event", "(II)I"⟩
abbrev cX8_count : ByteArray := prog_1_method_30_code
def yX8_count : MethodName := ⟨RX8, "count", "(I)I"⟩
abbrev cX8_isBetween : ByteArray := prog_1_method_31_code
def yX8_isBetween : MethodName := ⟨RX8, "isBetween", "(III)Z"⟩
abbrev cX8_isPlace : ByteArray := prog_1_method_32_code
def yX8_isPlace : MethodName := ⟨RX8, "isPlace", "(II)Z"⟩
abbrev cX8_copyRow : ByteArray := prog_1_method_33_code
def yX8_copyRow : MethodName := ⟨RX8, "copyRow", "([I[I)V"⟩
def RX9 : String := "EmbargoDeskModel"
def TX9 : u_T := fun k => match k with
  | 0 => ("EmbargoDeskModel", "v", "[I", true)
  | 1 => ("EmbargoDeskModel", "spare", "[I", true)
  | 2 => ("EmbargoDeskModel", "history", "[I", true)
  | 3 => ("EmbargoDeskModel", "states", "I", false)
  | 4 => ("EmbargoDeskModel", "kept", "[I", true)
  | 5 => ("EmbargoDeskModel", "isKept", "Z", false)
  | 6 => ("EmbargoDeskModel", "text", "[I", true)
  | 7 => ("EmbargoDeskModel", "length", "I", false)
  | 8 => ("EmbargoDeskModel", "place", "I", false)
  | 9 => ("EmbargoDeskModel", "read", "[I", true)
  | _ => ("EmbargoDeskModel", "digit", "I", false)
def tyX9 : Nat → FieldType := fun k => match k with
  | 0 => .array .int
  | 1 => .array .int
  | 2 => .array .int
  | 3 => .int
  | 4 => .array .int
  | 5 => .boolean
  | 6 => .array .int
  | 7 => .int
  | 8 => .int
  | 9 => .array .int
  | _ => .int
abbrev wsX90 : List Cond := u_ws RX9 TX9 11
theorem nmX9 : ∀ a, a < 11 → ∀ b, b < 11 → a ≠ b → (TX9 a).2.1 ≠ (TX9 b).2.1 := by decide +kernel
theorem tyX9_ok : ∀ k, k < 11 → parseFieldDescriptor (TX9 k).2.2.1 = some (tyX9 k) := by decide +kernel
abbrev cX9_init : ByteArray := prog_11_method_1_code
def yX9_init : MethodName := ⟨RX9, "<init>", "()V"⟩
abbrev cX9_in : ByteArray := prog_11_method_3_code
def yX9_in : MethodName := ⟨RX9, "in", "(III)Z"⟩
abbrev cX9_record : ByteArray := prog_11_method_4_code
def yX9_record : MethodName := ⟨RX9, "record", "()V"⟩
abbrev cX9_isClient : ByteArray := prog_11_method_5_code
def yX9_isClient : MethodName := ⟨RX9, "isClient", "(I)Z"⟩
abbrev cX9_isStory : ByteArray := prog_11_method_6_code
def yX9_isStory : MethodName := ⟨RX9, "isStory", "(I)Z"⟩
abbrev cX9_clientAt : ByteArray := prog_11_method_7_code
def yX9_clientAt : MethodName := ⟨RX9, "clientAt", "(II)I"⟩
abbrev cX9_storyAt : ByteArray := prog_11_method_8_code
def yX9_storyAt : MethodName := ⟨RX9, "storyAt", "(II)I"⟩
abbrev cX9_atCopy : ByteArray := prog_11_method_9_code
def yX9_atCopy : MethodName := ⟨RX9, "atCopy", "(II)I"⟩
abbrev cX9_ofClient : ByteArray := prog_11_method_10_code
def yX9_ofClient : MethodName := ⟨RX9, "ofClient", "(II)I"⟩
abbrev cX9_ofStory : ByteArray := prog_11_method_11_code
def yX9_ofStory : MethodName := ⟨RX9, "ofStory", "(II)I"⟩
abbrev cX9_ofCopy : ByteArray := prog_11_method_12_code
def yX9_ofCopy : MethodName := ⟨RX9, "ofCopy", "(II)I"⟩
abbrev cX9_log : ByteArray := prog_11_method_13_code
def yX9_log : MethodName := ⟨RX9, "log", "(III)V"⟩
abbrev cX9_wants : ByteArray := prog_11_method_14_code
def yX9_wants : MethodName := ⟨RX9, "wants", "(II)Z"⟩
abbrev cX9_publish : ByteArray := prog_11_method_15_code
def yX9_publish : MethodName := ⟨RX9, "publish", "(I)V"⟩
abbrev cX9_share : ByteArray := prog_11_method_16_code
def yX9_share : MethodName := ⟨RX9, "share", "(II)V"⟩
abbrev cX9_bill : ByteArray := prog_11_method_17_code
def yX9_bill : MethodName := ⟨RX9, "bill", "(II)V"⟩
abbrev cX9_useEnds : ByteArray := prog_11_method_18_code
def yX9_useEnds : MethodName := ⟨RX9, "useEnds", "(I)I"⟩
abbrev cX9_killDue : ByteArray := prog_11_method_19_code
def yX9_killDue : MethodName := ⟨RX9, "killDue", "(I)I"⟩
abbrev cX9_correctionDue : ByteArray := prog_11_method_20_code
def yX9_correctionDue : MethodName := ⟨RX9, "correctionDue", "(II)I"⟩
abbrev cX9_goOn : ByteArray := prog_11_method_21_code
def yX9_goOn : MethodName := ⟨RX9, "goOn", "(I)I"⟩
abbrev cX9_oneHour : ByteArray := prog_11_method_22_code
def yX9_oneHour : MethodName := ⟨RX9, "oneHour", "()I"⟩
abbrev cX9_addClient : ByteArray := prog_11_method_23_code
def yX9_addClient : MethodName := ⟨RX9, "addClient", "(IIIII)I"⟩
abbrev cX9_becomes : ByteArray := prog_11_method_24_code
def yX9_becomes : MethodName := ⟨RX9, "becomes", "(II)I"⟩
abbrev cX9_setTopics : ByteArray := prog_11_method_25_code
def yX9_setTopics : MethodName := ⟨RX9, "setTopics", "(II)I"⟩
abbrev cX9_setUp : ByteArray := prog_11_method_26_code
def yX9_setUp : MethodName := ⟨RX9, "setUp", "(IZ)I"⟩
abbrev cX9_setUse : ByteArray := prog_11_method_27_code
def yX9_setUse : MethodName := ⟨RX9, "setUse", "(I)I"⟩
abbrev cX9_pay : ByteArray := prog_11_method_28_code
def yX9_pay : MethodName := ⟨RX9, "pay", "(II)I"⟩
abbrev cX9_type : ByteArray := prog_11_method_29_code
def yX9_type : MethodName := ⟨RX9, "type", "(C)I"⟩
abbrev cX9_clearText : ByteArray := prog_11_method_30_code
def yX9_clearText : MethodName := ⟨RX9, "clearText", "()I"⟩
abbrev cX9_sign : ByteArray := prog_11_method_31_code
def yX9_sign : MethodName := ⟨RX9, "sign", "(I)Z"⟩
abbrev cX9_digitTo : ByteArray := prog_11_method_32_code
def yX9_digitTo : MethodName := ⟨RX9, "digitTo", "(I)Z"⟩
abbrev cX9_readPersons : ByteArray := prog_11_method_33_code
def yX9_readPersons : MethodName := ⟨RX9, "readPersons", "()Z"⟩
abbrev cX9_readHour : ByteArray := prog_11_method_34_code
def yX9_readHour : MethodName := ⟨RX9, "readHour", "()Z"⟩
abbrev cX9_readSlug : ByteArray := prog_11_method_35_code
def yX9_readSlug : MethodName := ⟨RX9, "readSlug", "()Z"⟩
abbrev cX9_readText : ByteArray := prog_11_method_36_code
def yX9_readText : MethodName := ⟨RX9, "readText", "()Z"⟩
abbrev cX9_readStory : ByteArray := prog_11_method_37_code
def yX9_readStory : MethodName := ⟨RX9, "readStory", "()I"⟩
abbrev cX9_release : ByteArray := prog_11_method_38_code
def yX9_release : MethodName := ⟨RX9, "release", "(I)I"⟩
abbrev cX9_hold : ByteArray := prog_11_method_39_code
def yX9_hold : MethodName := ⟨RX9, "hold", "(I)I"⟩
abbrev cX9_setEmbargo : ByteArray := prog_11_method_40_code
def yX9_setEmbargo : MethodName := ⟨RX9, "setEmbargo", "(II)I"⟩
abbrev cX9_correct : ByteArray := prog_11_method_41_code
def yX9_correct : MethodName := ⟨RX9, "correct", "(I)I"⟩
abbrev cX9_inUse : ByteArray := prog_11_method_42_code
def yX9_inUse : MethodName := ⟨RX9, "inUse", "(IZ)I"⟩
abbrev cX9_kill : ByteArray := prog_11_method_43_code
def yX9_kill : MethodName := ⟨RX9, "kill", "(I)I"⟩
abbrev cX9_pass : ByteArray := prog_11_method_44_code
def yX9_pass : MethodName := ⟨RX9, "pass", "(I)I"⟩
abbrev cX9_undo : ByteArray := prog_11_method_45_code
def yX9_undo : MethodName := ⟨RX9, "undo", "()I"⟩
abbrev cX9_keep : ByteArray := prog_11_method_46_code
def yX9_keep : MethodName := ⟨RX9, "keep", "()I"⟩
abbrev cX9_restore : ByteArray := prog_11_method_47_code
def yX9_restore : MethodName := ⟨RX9, "restore", "()I"⟩
abbrev cX9_story : ByteArray := prog_11_method_48_code
def yX9_story : MethodName := ⟨RX9, "story", "(II)I"⟩
abbrev cX9_rowOf : ByteArray := prog_11_method_49_code
def yX9_rowOf : MethodName := ⟨RX9, "rowOf", "(IIII)I"⟩
abbrev cX9_byline : ByteArray := prog_11_method_50_code
def yX9_byline : MethodName := ⟨RX9, "byline", "(II)I"⟩
abbrev cX9_slugChar : ByteArray := prog_11_method_51_code
def yX9_slugChar : MethodName := ⟨RX9, "slugChar", "(II)I"⟩
abbrev cX9_correction : ByteArray := prog_11_method_52_code
def yX9_correction : MethodName := ⟨RX9, "correction", "(II)I"⟩
abbrev cX9_inUseFor : ByteArray := prog_11_method_53_code
def yX9_inUseFor : MethodName := ⟨RX9, "inUseFor", "(I)I"⟩
abbrev cX9_client : ByteArray := prog_11_method_54_code
def yX9_client : MethodName := ⟨RX9, "client", "(II)I"⟩
abbrev cX9_wrote : ByteArray := prog_11_method_55_code
def yX9_wrote : MethodName := ⟨RX9, "wrote", "(II)Z"⟩
abbrev cX9_person : ByteArray := prog_11_method_56_code
def yX9_person : MethodName := ⟨RX9, "person", "(II)I"⟩
abbrev cX9_copyOf : ByteArray := prog_11_method_57_code
def yX9_copyOf : MethodName := ⟨RX9, "copyOf", "(II)I"⟩
abbrev cX9_dueNow : ByteArray := prog_11_method_58_code
def yX9_dueNow : MethodName := ⟨RX9, "dueNow", "(I)I"⟩
abbrev cX9_copy : ByteArray := prog_11_method_59_code
def yX9_copy : MethodName := ⟨RX9, "copy", "(III)I"⟩
abbrev cX9_copyAt : ByteArray := prog_11_method_60_code
def yX9_copyAt : MethodName := ⟨RX9, "copyAt", "(I)I"⟩
abbrev cX9_bringBack : ByteArray := prog_11_method_61_code
def yX9_bringBack : MethodName := ⟨RX9, "bringBack", "()V"⟩
abbrev cX9_setAside : ByteArray := prog_11_method_62_code
def yX9_setAside : MethodName := ⟨RX9, "setAside", "()V"⟩
abbrev cX9_carriedIn : ByteArray := prog_11_method_63_code
def yX9_carriedIn : MethodName := ⟨RX9, "carriedIn", "(II)I"⟩
abbrev cX9_wouldCome : ByteArray := prog_11_method_64_code
def yX9_wouldCome : MethodName := ⟨RX9, "wouldCome", "(II)I"⟩
abbrev cX9_event : ByteArray := prog_11_method_65_code
def yX9_event : MethodName := ⟨RX9, "event", "(II)I"⟩
abbrev cX9_personsOfAll : ByteArray := prog_11_method_66_code
def yX9_personsOfAll : MethodName := ⟨RX9, "personsOfAll", "()I"⟩
abbrev cX9_count : ByteArray := prog_11_method_67_code
def yX9_count : MethodName := ⟨RX9, "count", "(I)I"⟩
def RJ9 : String := "java/lang/Math"
def TJ9 : u_T := fun k => match k with
  | _ => ("", "", "", false)
def tyJ9 : Nat → FieldType := fun k => match k with
  | _ => .int
abbrev wsJ90 : List Cond := u_ws RJ9 TJ9 0
theorem nmJ9 : ∀ a, a < 0 → ∀ b, b < 0 → a ≠ b → (TJ9 a).2.1 ≠ (TJ9 b).2.1 := by decide +kernel
theorem tyJ9_ok : ∀ k, k < 0 → parseFieldDescriptor (TJ9 k).2.2.1 = some (tyJ9 k) := by decide +kernel
abbrev cJ9_max_7cf53 : ByteArray := prog_12_method_65_code
def yJ9_max_7cf53 : MethodName := ⟨RJ9, "max", "(II)I"⟩
abbrev cJ9_min_7cf53 : ByteArray := prog_12_method_69_code
def yJ9_min_7cf53 : MethodName := ⟨RJ9, "min", "(II)I"⟩
def RJ10 : String := "java/lang/System"
def TJ10 : u_T := fun k => match k with
  | _ => ("", "", "", false)
def tyJ10 : Nat → FieldType := fun k => match k with
  | _ => .int
abbrev wsJ100 : List Cond := u_ws RJ10 TJ10 0
theorem nmJ10 : ∀ a, a < 0 → ∀ b, b < 0 → a ≠ b → (TJ10 a).2.1 ≠ (TJ10 b).2.1 := by decide +kernel
theorem tyJ10_ok : ∀ k, k < 0 → parseFieldDescriptor (TJ10 k).2.2.1 = some (tyJ10 k) := by decide +kernel
def RL : String := "EmbargoDeskLaw"
abbrev cL_law : ByteArray := code
def yL_law : MethodName := ⟨RL, "law", "([I)Z"⟩
abbrev vwCl : List vw_C := [(RX0, TX0, 10), (RX1, TX1, 6), (RX2, TX2, 2), (RX3, TX3, 3), (RX4, TX4, 2), (RX5, TX5, 11), (RX6, TX6, 11), (RX7, TX7, 9), (RX8, TX8, 6), (RX9, TX9, 11)]
/-- the words that stay good behind a call, of all the tables -/
def ed_ws : List Cond := lw_tbl.filter goodWord
theorem ed_ws_tbl {w : Cond} (h : w ∈ ed_ws) : w ∈ lw_tbl := (List.mem_filter.mp h).1
theorem ed_ws_good {w : Cond} (h : w ∈ ed_ws) : (w.onTables && w.keeps) = true ∨ ∃ ty, w = .arrayClass ty := good_of_word (List.mem_filter.mp h).2
theorem ed_tt {w : Cond} (h : w ∈ tables_1) (hg : goodWord w = true) : w ∈ ed_ws := List.mem_filter.mpr ⟨List.mem_append_right _ h, hg⟩
theorem ed_wm1 {w : Cond} {i : Nat} (h : tables_1_1[i]? = some w) (hg : goodWord w = true) : w ∈ ed_ws := ed_tt (List.mem_append_left _ (List.mem_of_getElem? h)) hg
theorem ed_wm2 {w : Cond} {i : Nat} (h : tables_1_2[i]? = some w) (hg : goodWord w = true) : w ∈ ed_ws := ed_tt (List.mem_append_right _ (List.mem_append_left _ (List.mem_of_getElem? h))) hg
theorem ed_wm3 {w : Cond} {i : Nat} (h : tables_1_3[i]? = some w) (hg : goodWord w = true) : w ∈ ed_ws := ed_tt (List.mem_append_right _ (List.mem_append_right _ (List.mem_append_left _ (List.mem_of_getElem? h)))) hg
theorem ed_wm4 {w : Cond} {i : Nat} (h : tables_1_4[i]? = some w) (hg : goodWord w = true) : w ∈ ed_ws := ed_tt (List.mem_append_right _ (List.mem_append_right _ (List.mem_append_right _ (List.mem_append_left _ (List.mem_of_getElem? h))))) hg
theorem ed_wm5 {w : Cond} {i : Nat} (h : tables_1_5[i]? = some w) (hg : goodWord w = true) : w ∈ ed_ws := ed_tt (List.mem_append_right _ (List.mem_append_right _ (List.mem_append_right _ (List.mem_append_right _ (List.mem_of_getElem? h))))) hg
theorem ed_pp {q : MethodName × Nat} {w : Cond} (h : q ∈ lw_privs) (hw : Cond.selects q.1.cls q.1 q.1 = w) (hg : goodWord w = true) : w ∈ ed_ws := List.mem_filter.mpr ⟨List.mem_append_left _ (List.mem_map.mpr ⟨q, h, hw⟩), hg⟩
theorem ed_wp1 {q : MethodName × Nat} {w : Cond} {i : Nat} (h : lw_privs_1[i]? = some q) (hw : Cond.selects q.1.cls q.1 q.1 = w) (hg : goodWord w = true) : w ∈ ed_ws := ed_pp (List.mem_append_left _ (List.mem_of_getElem? h)) hw hg
theorem ed_wp2 {q : MethodName × Nat} {w : Cond} {i : Nat} (h : lw_privs_2[i]? = some q) (hw : Cond.selects q.1.cls q.1 q.1 = w) (hg : goodWord w = true) : w ∈ ed_ws := ed_pp (List.mem_append_right _ (List.mem_append_left _ (List.mem_of_getElem? h))) hw hg
theorem ed_wp3 {q : MethodName × Nat} {w : Cond} {i : Nat} (h : lw_privs_3[i]? = some q) (hw : Cond.selects q.1.cls q.1 q.1 = w) (hg : goodWord w = true) : w ∈ ed_ws := ed_pp (List.mem_append_right _ (List.mem_append_right _ (List.mem_append_left _ (List.mem_of_getElem? h)))) hw hg
theorem ed_wp4 {q : MethodName × Nat} {w : Cond} {i : Nat} (h : lw_privs_4[i]? = some q) (hw : Cond.selects q.1.cls q.1 q.1 = w) (hg : goodWord w = true) : w ∈ ed_ws := ed_pp (List.mem_append_right _ (List.mem_append_right _ (List.mem_append_right _ (List.mem_of_getElem? h)))) hw hg
/-- a call's words among them -/
theorem ed_gA {c0 : Cond} (h : c0 ∈ ed_ws) : GoodIn ed_ws (c0 :: ed_ws) := fun w hw => (List.mem_cons.mp hw).elim (fun q => by rw [q]; exact ⟨h, ed_ws_good h⟩) (fun q => ⟨q, ed_ws_good q⟩)
theorem ed_gV {own C : String} {idx : Nat} {y : MethodName} {c0 : Cond} (h1 : Cond.methodLink own idx y ∈ ed_ws) (h2 : Cond.instanceMethod y ∈ ed_ws) (h3 : Cond.selects C y y ∈ ed_ws) (h4 : Cond.initialized C ∈ ed_ws) (h5 : c0 ∈ ed_ws) : GoodIn ed_ws (wsV own idx C y (c0 :: ed_ws)) := by
  intro w hw
  unfold wsV at hw
  rcases List.mem_append.mp hw with hw | hw
  · simp only [List.mem_cons, List.not_mem_nil, or_false] at hw
    rcases hw with rfl | rfl | rfl | rfl
    · exact ⟨h1, ed_ws_good h1⟩
    · exact ⟨h2, ed_ws_good h2⟩
    · exact ⟨h3, ed_ws_good h3⟩
    · exact ⟨h4, ed_ws_good h4⟩
  · exact ed_gA h5 w hw
theorem ed_gS {own : String} {idx : Nat} {y : MethodName} {c0 : Cond} (h1 : Cond.methodLink own idx y ∈ ed_ws) (h2 : Cond.static y ∈ ed_ws) (h4 : Cond.initialized y.cls ∈ ed_ws) (h5 : c0 ∈ ed_ws) : GoodIn ed_ws (va_wsS own idx y (c0 :: ed_ws)) := by
  intro w hw
  unfold va_wsS at hw
  rcases List.mem_append.mp hw with hw | hw
  · simp only [List.mem_cons, List.not_mem_nil, or_false] at hw
    rcases hw with rfl | rfl | rfl
    · exact ⟨h1, ed_ws_good h1⟩
    · exact ⟨h2, ed_ws_good h2⟩
    · exact ⟨h4, ed_ws_good h4⟩
  · exact ed_gA h5 w hw
end
section
theorem ed_w1_0 : Cond.initialized RL ∈ ed_ws := ed_wm1 (i := 0) rfl rfl
theorem ed_w1_1 : Cond.initialized RX8 ∈ ed_ws := ed_wm1 (i := 1) rfl rfl
theorem ed_w1_2 : Cond.initialized RX5 ∈ ed_ws := ed_wm1 (i := 2) rfl rfl
theorem ed_w1_3 : Cond.initialized RX3 ∈ ed_ws := ed_wm1 (i := 3) rfl rfl
theorem ed_w1_4 : Cond.initialized RX6 ∈ ed_ws := ed_wm1 (i := 4) rfl rfl
theorem ed_w1_5 : Cond.initialized RX0 ∈ ed_ws := ed_wm1 (i := 5) rfl rfl
theorem ed_w1_6 : Cond.initialized RX1 ∈ ed_ws := ed_wm1 (i := 6) rfl rfl
theorem ed_w1_7 : Cond.initialized RX4 ∈ ed_ws := ed_wm1 (i := 7) rfl rfl
theorem ed_w1_8 : Cond.initialized RX2 ∈ ed_ws := ed_wm1 (i := 8) rfl rfl
theorem ed_w1_9 : Cond.initialized RX7 ∈ ed_ws := ed_wm1 (i := 9) rfl rfl
theorem ed_w1_10 : Cond.initialized RX9 ∈ ed_ws := ed_wm1 (i := 10) rfl rfl
theorem ed_w1_11 : Cond.initialized "java/lang/Math" ∈ ed_ws := ed_wm1 (i := 11) rfl rfl
theorem ed_w1_12 : Cond.initialized "java/lang/System" ∈ ed_ws := ed_wm1 (i := 12) rfl rfl
theorem ed_w1_13 : Cond.classLink RL 7 RX8 ∈ ed_ws := ed_wm1 (i := 13) rfl rfl
theorem ed_w1_14 : Cond.instantiable RX8 6 ∈ ed_ws := ed_wm1 (i := 14) rfl rfl
theorem ed_w1_15 : Cond.methodLink RL 9 yX8_init ∈ ed_ws := ed_wm1 (i := 15) rfl rfl
theorem ed_w1_16 : Cond.instanceMethod yX8_init ∈ ed_ws := ed_wm1 (i := 16) rfl rfl
theorem ed_w1_17 : Cond.code yX8_init cX8_init 1 none ∈ ed_ws := ed_wm1 (i := 17) rfl rfl
theorem ed_w1_18 : Cond.methodLink RX8 3 objectInit ∈ ed_ws := ed_wm1 (i := 18) rfl rfl
theorem ed_w1_19 : Cond.instanceMethod objectInit ∈ ed_ws := ed_wm1 (i := 19) rfl rfl
theorem ed_w1_20 : Cond.code objectInit ⟨#[0xb1]⟩ 1 none ∈ ed_ws := ed_wm1 (i := 20) rfl rfl
theorem ed_w1_21 : Cond.classLink RX8 9 RX5 ∈ ed_ws := ed_wm1 (i := 21) rfl rfl
theorem ed_w1_22 : Cond.instantiable RX5 11 ∈ ed_ws := ed_wm1 (i := 22) rfl rfl
theorem ed_w1_23 : Cond.methodLink RX8 11 yX5_init ∈ ed_ws := ed_wm1 (i := 23) rfl rfl
theorem ed_w1_24 : Cond.instanceMethod yX5_init ∈ ed_ws := ed_wm1 (i := 24) rfl rfl
theorem ed_w1_25 : Cond.code yX5_init cX5_init 2 none ∈ ed_ws := ed_wm1 (i := 25) rfl rfl
theorem ed_w1_26 : Cond.methodLink RX5 3 objectInit ∈ ed_ws := ed_wm1 (i := 26) rfl rfl
theorem ed_w1_27 : Cond.classLink RX5 15 RX3 ∈ ed_ws := ed_wm1 (i := 27) rfl rfl
theorem ed_w1_28 : Cond.instantiable RX3 3 ∈ ed_ws := ed_wm1 (i := 28) rfl rfl
theorem ed_w1_30 : Cond.instanceMethod yX3_init ∈ ed_ws := ed_wm1 (i := 30) rfl rfl
theorem ed_w1_31 : Cond.code yX3_init cX3_init 1 none ∈ ed_ws := ed_wm1 (i := 31) rfl rfl
theorem ed_w1_32 : Cond.methodLink RX3 3 objectInit ∈ ed_ws := ed_wm1 (i := 32) rfl rfl
theorem ed_w1_33 : Cond.fieldLink RX3 11 "EmbargoDesk$Log" "cells" "[I" ∈ ed_ws := ed_wm1 (i := 33) rfl rfl
theorem ed_w1_34 : Cond.fieldLink RX3 15 "EmbargoDesk$Log" "newest" "I" ∈ ed_ws := ed_wm1 (i := 34) rfl rfl
theorem ed_w1_35 : Cond.fieldLink RX3 19 "EmbargoDesk$Log" "size" "I" ∈ ed_ws := ed_wm1 (i := 35) rfl rfl
theorem ed_w1_36 : Cond.laysFinal "EmbargoDesk$Log" "EmbargoDesk$Log" "cells" "[I" ∈ ed_ws := ed_wm1 (i := 36) rfl rfl
theorem ed_w1_38 : Cond.lays "EmbargoDesk$Log" "EmbargoDesk$Log" "newest" "I" ∈ ed_ws := ed_wm1 (i := 38) rfl rfl
theorem ed_w1_40 : Cond.lays "EmbargoDesk$Log" "EmbargoDesk$Log" "size" "I" ∈ ed_ws := ed_wm1 (i := 40) rfl rfl
theorem ed_w1_43 : Cond.arrayClass .int ∈ ed_ws := ed_wm1 (i := 43) rfl rfl
theorem ed_w1_44 : Cond.classLink RX5 22 RX6 ∈ ed_ws := ed_wm1 (i := 44) rfl rfl
theorem ed_w1_46 : Cond.classLink RX5 28 RX0 ∈ ed_ws := ed_wm1 (i := 46) rfl rfl
theorem ed_w1_48 : Cond.classLink RX5 34 RX1 ∈ ed_ws := ed_wm1 (i := 48) rfl rfl
theorem ed_w1_50 : Cond.classLink RX5 40 RX4 ∈ ed_ws := ed_wm1 (i := 50) rfl rfl
theorem ed_w1_52 : Cond.instantiable RX6 11 ∈ ed_ws := ed_wm1 (i := 52) rfl rfl
theorem ed_w1_54 : Cond.instanceMethod yX6_init ∈ ed_ws := ed_wm1 (i := 54) rfl rfl
theorem ed_w1_55 : Cond.code yX6_init cX6_init 1 none ∈ ed_ws := ed_wm1 (i := 55) rfl rfl
theorem ed_w1_56 : Cond.methodLink RX6 3 objectInit ∈ ed_ws := ed_wm1 (i := 56) rfl rfl
theorem ed_w1_57 : Cond.fieldLink RX6 27 "EmbargoDesk$Story" "topic" "I" ∈ ed_ws := ed_wm1 (i := 57) rfl rfl
theorem ed_w1_58 : Cond.fieldLink RX8 94 "EmbargoDesk$Story" "topic" "I" ∈ ed_ws := ed_wm1 (i := 58) rfl rfl
theorem ed_w1_59 : Cond.fieldLink RX5 159 "EmbargoDesk$Story" "topic" "I" ∈ ed_ws := ed_wm1 (i := 59) rfl rfl
theorem ed_w1_60 : Cond.fieldLink RX6 31 "EmbargoDesk$Story" "bylineSize" "I" ∈ ed_ws := ed_wm1 (i := 60) rfl rfl
theorem ed_w1_61 : Cond.fieldLink RX5 224 "EmbargoDesk$Story" "bylineSize" "I" ∈ ed_ws := ed_wm1 (i := 61) rfl rfl
theorem ed_w1_62 : Cond.fieldLink RX8 157 "EmbargoDesk$Story" "bylineSize" "I" ∈ ed_ws := ed_wm1 (i := 62) rfl rfl
theorem ed_w1_63 : Cond.fieldLink RX6 9 "EmbargoDesk$Story" "byline" "[I" ∈ ed_ws := ed_wm1 (i := 63) rfl rfl
theorem ed_w1_64 : Cond.fieldLink RX6 40 "EmbargoDesk$Story" "embargo" "I" ∈ ed_ws := ed_wm1 (i := 64) rfl rfl
theorem ed_w1_65 : Cond.fieldLink RX8 101 "EmbargoDesk$Story" "embargo" "I" ∈ ed_ws := ed_wm1 (i := 65) rfl rfl
theorem ed_w1_66 : Cond.fieldLink RX5 135 "EmbargoDesk$Story" "embargo" "I" ∈ ed_ws := ed_wm1 (i := 66) rfl rfl
theorem ed_w1_67 : Cond.fieldLink RX6 44 "EmbargoDesk$Story" "slugSize" "I" ∈ ed_ws := ed_wm1 (i := 67) rfl rfl
theorem ed_w1_68 : Cond.fieldLink RX8 163 "EmbargoDesk$Story" "slugSize" "I" ∈ ed_ws := ed_wm1 (i := 68) rfl rfl
theorem ed_w1_69 : Cond.fieldLink RX6 15 "EmbargoDesk$Story" "slug" "[I" ∈ ed_ws := ed_wm1 (i := 69) rfl rfl
theorem ed_w1_70 : Cond.fieldLink RX6 46 "EmbargoDesk$Story" "state" "I" ∈ ed_ws := ed_wm1 (i := 70) rfl rfl
theorem ed_w1_71 : Cond.fieldLink RX8 92 "EmbargoDesk$Story" "state" "I" ∈ ed_ws := ed_wm1 (i := 71) rfl rfl
theorem ed_w1_72 : Cond.fieldLink RX5 132 "EmbargoDesk$Story" "state" "I" ∈ ed_ws := ed_wm1 (i := 72) rfl rfl
theorem ed_w1_73 : Cond.fieldLink RX6 49 "EmbargoDesk$Story" "version" "I" ∈ ed_ws := ed_wm1 (i := 73) rfl rfl
theorem ed_w1_74 : Cond.fieldLink RX8 113 "EmbargoDesk$Story" "version" "I" ∈ ed_ws := ed_wm1 (i := 74) rfl rfl
theorem ed_w1_75 : Cond.fieldLink RX5 202 "EmbargoDesk$Story" "version" "I" ∈ ed_ws := ed_wm1 (i := 75) rfl rfl
theorem ed_w1_76 : Cond.fieldLink RX6 18 "EmbargoDesk$Story" "corrections" "[I" ∈ ed_ws := ed_wm1 (i := 76) rfl rfl
theorem ed_w1_77 : Cond.fieldLink RX6 52 "EmbargoDesk$Story" "publishedAt" "I" ∈ ed_ws := ed_wm1 (i := 77) rfl rfl
theorem ed_w1_78 : Cond.fieldLink RX5 152 "EmbargoDesk$Story" "publishedAt" "I" ∈ ed_ws := ed_wm1 (i := 78) rfl rfl
theorem ed_w1_79 : Cond.fieldLink RX8 160 "EmbargoDesk$Story" "publishedAt" "I" ∈ ed_ws := ed_wm1 (i := 79) rfl rfl
theorem ed_w1_80 : Cond.fieldLink RX6 55 "EmbargoDesk$Story" "killedAt" "I" ∈ ed_ws := ed_wm1 (i := 80) rfl rfl
theorem ed_w1_81 : Cond.fieldLink RX8 130 "EmbargoDesk$Story" "killedAt" "I" ∈ ed_ws := ed_wm1 (i := 81) rfl rfl
theorem ed_w1_82 : Cond.fieldLink RX5 250 "EmbargoDesk$Story" "killedAt" "I" ∈ ed_ws := ed_wm1 (i := 82) rfl rfl
theorem ed_w1_83 : Cond.lays "EmbargoDesk$Story" "EmbargoDesk$Story" "topic" "I" ∈ ed_ws := ed_wm1 (i := 83) rfl rfl
theorem ed_w1_85 : Cond.lays "EmbargoDesk$Story" "EmbargoDesk$Story" "bylineSize" "I" ∈ ed_ws := ed_wm1 (i := 85) rfl rfl
theorem ed_w1_87 : Cond.laysFinal "EmbargoDesk$Story" "EmbargoDesk$Story" "byline" "[I" ∈ ed_ws := ed_wm1 (i := 87) rfl rfl
theorem ed_w1_89 : Cond.lays "EmbargoDesk$Story" "EmbargoDesk$Story" "embargo" "I" ∈ ed_ws := ed_wm1 (i := 89) rfl rfl
theorem ed_w1_91 : Cond.lays "EmbargoDesk$Story" "EmbargoDesk$Story" "slugSize" "I" ∈ ed_ws := ed_wm1 (i := 91) rfl rfl
theorem ed_w1_93 : Cond.laysFinal "EmbargoDesk$Story" "EmbargoDesk$Story" "slug" "[I" ∈ ed_ws := ed_wm1 (i := 93) rfl rfl
theorem ed_w1_95 : Cond.lays "EmbargoDesk$Story" "EmbargoDesk$Story" "state" "I" ∈ ed_ws := ed_wm1 (i := 95) rfl rfl
theorem ed_w1_97 : Cond.lays "EmbargoDesk$Story" "EmbargoDesk$Story" "version" "I" ∈ ed_ws := ed_wm1 (i := 97) rfl rfl
theorem ed_w1_99 : Cond.laysFinal "EmbargoDesk$Story" "EmbargoDesk$Story" "corrections" "[I" ∈ ed_ws := ed_wm1 (i := 99) rfl rfl
theorem ed_w1_101 : Cond.lays "EmbargoDesk$Story" "EmbargoDesk$Story" "publishedAt" "I" ∈ ed_ws := ed_wm1 (i := 101) rfl rfl
theorem ed_w1_103 : Cond.lays "EmbargoDesk$Story" "EmbargoDesk$Story" "killedAt" "I" ∈ ed_ws := ed_wm1 (i := 103) rfl rfl
theorem ed_w1_106 : Cond.instantiable RX0 10 ∈ ed_ws := ed_wm1 (i := 106) rfl rfl
theorem ed_w1_108 : Cond.instanceMethod yX0_init ∈ ed_ws := ed_wm1 (i := 108) rfl rfl
theorem ed_w1_109 : Cond.code yX0_init cX0_init 1 none ∈ ed_ws := ed_wm1 (i := 109) rfl rfl
theorem ed_w1_110 : Cond.methodLink RX0 1 objectInit ∈ ed_ws := ed_wm1 (i := 110) rfl rfl
theorem ed_w1_111 : Cond.fieldLink RX0 7 "EmbargoDesk$Client" "topics" "I" ∈ ed_ws := ed_wm1 (i := 111) rfl rfl
theorem ed_w1_112 : Cond.fieldLink RX8 59 "EmbargoDesk$Client" "topics" "I" ∈ ed_ws := ed_wm1 (i := 112) rfl rfl
theorem ed_w1_113 : Cond.fieldLink RX0 13 "EmbargoDesk$Client" "delay" "I" ∈ ed_ws := ed_wm1 (i := 113) rfl rfl
theorem ed_w1_114 : Cond.fieldLink RX5 166 "EmbargoDesk$Client" "delay" "I" ∈ ed_ws := ed_wm1 (i := 114) rfl rfl
theorem ed_w1_115 : Cond.fieldLink RX8 178 "EmbargoDesk$Client" "delay" "I" ∈ ed_ws := ed_wm1 (i := 115) rfl rfl
theorem ed_w1_116 : Cond.fieldLink RX0 16 "EmbargoDesk$Client" "lag" "I" ∈ ed_ws := ed_wm1 (i := 116) rfl rfl
theorem ed_w1_117 : Cond.fieldLink RX5 244 "EmbargoDesk$Client" "lag" "I" ∈ ed_ws := ed_wm1 (i := 117) rfl rfl
theorem ed_w1_118 : Cond.fieldLink RX8 181 "EmbargoDesk$Client" "lag" "I" ∈ ed_ws := ed_wm1 (i := 118) rfl rfl
theorem ed_w1_119 : Cond.fieldLink RX0 19 "EmbargoDesk$Client" "limit" "I" ∈ ed_ws := ed_wm1 (i := 119) rfl rfl
theorem ed_w1_120 : Cond.fieldLink RX8 184 "EmbargoDesk$Client" "limit" "I" ∈ ed_ws := ed_wm1 (i := 120) rfl rfl
theorem ed_w1_121 : Cond.fieldLink RX0 22 "EmbargoDesk$Client" "fee" "I" ∈ ed_ws := ed_wm1 (i := 121) rfl rfl
theorem ed_w1_122 : Cond.fieldLink RX5 216 "EmbargoDesk$Client" "fee" "I" ∈ ed_ws := ed_wm1 (i := 122) rfl rfl
theorem ed_w1_123 : Cond.fieldLink RX8 187 "EmbargoDesk$Client" "fee" "I" ∈ ed_ws := ed_wm1 (i := 123) rfl rfl
theorem ed_w1_124 : Cond.fieldLink RX0 25 "EmbargoDesk$Client" "up" "Z" ∈ ed_ws := ed_wm1 (i := 124) rfl rfl
theorem ed_w1_125 : Cond.fieldLink RX8 62 "EmbargoDesk$Client" "up" "Z" ∈ ed_ws := ed_wm1 (i := 125) rfl rfl
theorem ed_w1_126 : Cond.fieldLink RX5 191 "EmbargoDesk$Client" "up" "Z" ∈ ed_ws := ed_wm1 (i := 126) rfl rfl
theorem ed_w1_127 : Cond.fieldLink RX0 29 "EmbargoDesk$Client" "owed" "I" ∈ ed_ws := ed_wm1 (i := 127) rfl rfl
theorem ed_w1_128 : Cond.fieldLink RX8 73 "EmbargoDesk$Client" "owed" "I" ∈ ed_ws := ed_wm1 (i := 128) rfl rfl
theorem ed_w1_129 : Cond.fieldLink RX5 213 "EmbargoDesk$Client" "owed" "I" ∈ ed_ws := ed_wm1 (i := 129) rfl rfl
theorem ed_w1_130 : Cond.fieldLink RX0 32 "EmbargoDesk$Client" "today" "I" ∈ ed_ws := ed_wm1 (i := 130) rfl rfl
theorem ed_w1_131 : Cond.fieldLink RX5 149 "EmbargoDesk$Client" "today" "I" ∈ ed_ws := ed_wm1 (i := 131) rfl rfl
theorem ed_w1_132 : Cond.fieldLink RX8 190 "EmbargoDesk$Client" "today" "I" ∈ ed_ws := ed_wm1 (i := 132) rfl rfl
theorem ed_w1_133 : Cond.fieldLink RX0 35 "EmbargoDesk$Client" "total" "I" ∈ ed_ws := ed_wm1 (i := 133) rfl rfl
theorem ed_w1_134 : Cond.fieldLink RX5 206 "EmbargoDesk$Client" "total" "I" ∈ ed_ws := ed_wm1 (i := 134) rfl rfl
theorem ed_w1_135 : Cond.fieldLink RX8 193 "EmbargoDesk$Client" "total" "I" ∈ ed_ws := ed_wm1 (i := 135) rfl rfl
theorem ed_w1_136 : Cond.fieldLink RX0 38 "EmbargoDesk$Client" "unbilled" "I" ∈ ed_ws := ed_wm1 (i := 136) rfl rfl
theorem ed_w1_137 : Cond.fieldLink RX5 221 "EmbargoDesk$Client" "unbilled" "I" ∈ ed_ws := ed_wm1 (i := 137) rfl rfl
theorem ed_w1_138 : Cond.fieldLink RX8 196 "EmbargoDesk$Client" "unbilled" "I" ∈ ed_ws := ed_wm1 (i := 138) rfl rfl
theorem ed_w1_139 : Cond.lays "EmbargoDesk$Client" "EmbargoDesk$Client" "topics" "I" ∈ ed_ws := ed_wm1 (i := 139) rfl rfl
theorem ed_w1_141 : Cond.lays "EmbargoDesk$Client" "EmbargoDesk$Client" "delay" "I" ∈ ed_ws := ed_wm1 (i := 141) rfl rfl
theorem ed_w1_143 : Cond.lays "EmbargoDesk$Client" "EmbargoDesk$Client" "lag" "I" ∈ ed_ws := ed_wm1 (i := 143) rfl rfl
theorem ed_w1_145 : Cond.lays "EmbargoDesk$Client" "EmbargoDesk$Client" "limit" "I" ∈ ed_ws := ed_wm1 (i := 145) rfl rfl
theorem ed_w1_147 : Cond.lays "EmbargoDesk$Client" "EmbargoDesk$Client" "fee" "I" ∈ ed_ws := ed_wm1 (i := 147) rfl rfl
theorem ed_w1_149 : Cond.lays "EmbargoDesk$Client" "EmbargoDesk$Client" "up" "Z" ∈ ed_ws := ed_wm1 (i := 149) rfl rfl
theorem ed_w1_151 : Cond.lays "EmbargoDesk$Client" "EmbargoDesk$Client" "owed" "I" ∈ ed_ws := ed_wm1 (i := 151) rfl rfl
theorem ed_w1_153 : Cond.lays "EmbargoDesk$Client" "EmbargoDesk$Client" "today" "I" ∈ ed_ws := ed_wm1 (i := 153) rfl rfl
theorem ed_w1_155 : Cond.lays "EmbargoDesk$Client" "EmbargoDesk$Client" "total" "I" ∈ ed_ws := ed_wm1 (i := 155) rfl rfl
theorem ed_w1_157 : Cond.lays "EmbargoDesk$Client" "EmbargoDesk$Client" "unbilled" "I" ∈ ed_ws := ed_wm1 (i := 157) rfl rfl
theorem ed_w1_160 : Cond.instantiable RX1 6 ∈ ed_ws := ed_wm1 (i := 160) rfl rfl
theorem ed_w1_162 : Cond.instanceMethod yX1_init ∈ ed_ws := ed_wm1 (i := 162) rfl rfl
theorem ed_w1_163 : Cond.code yX1_init cX1_init 1 none ∈ ed_ws := ed_wm1 (i := 163) rfl rfl
theorem ed_w1_164 : Cond.methodLink RX1 3 objectInit ∈ ed_ws := ed_wm1 (i := 164) rfl rfl
theorem ed_w1_165 : Cond.fieldLink RX1 9 "EmbargoDesk$Copy" "story" "I" ∈ ed_ws := ed_wm1 (i := 165) rfl rfl
theorem ed_w1_166 : Cond.fieldLink RX5 123 "EmbargoDesk$Copy" "story" "I" ∈ ed_ws := ed_wm1 (i := 166) rfl rfl
theorem ed_w1_167 : Cond.fieldLink RX8 251 "EmbargoDesk$Copy" "story" "I" ∈ ed_ws := ed_wm1 (i := 167) rfl rfl
theorem ed_w1_168 : Cond.fieldLink RX1 15 "EmbargoDesk$Copy" "client" "I" ∈ ed_ws := ed_wm1 (i := 168) rfl rfl
theorem ed_w1_169 : Cond.fieldLink RX5 126 "EmbargoDesk$Copy" "client" "I" ∈ ed_ws := ed_wm1 (i := 169) rfl rfl
theorem ed_w1_170 : Cond.fieldLink RX8 254 "EmbargoDesk$Copy" "client" "I" ∈ ed_ws := ed_wm1 (i := 170) rfl rfl
theorem ed_w1_171 : Cond.fieldLink RX1 18 "EmbargoDesk$Copy" "state" "I" ∈ ed_ws := ed_wm1 (i := 171) rfl rfl
theorem ed_w1_172 : Cond.fieldLink RX5 176 "EmbargoDesk$Copy" "state" "I" ∈ ed_ws := ed_wm1 (i := 172) rfl rfl
theorem ed_w1_173 : Cond.fieldLink RX8 221 "EmbargoDesk$Copy" "state" "I" ∈ ed_ws := ed_wm1 (i := 173) rfl rfl
theorem ed_w1_174 : Cond.fieldLink RX1 21 "EmbargoDesk$Copy" "due" "I" ∈ ed_ws := ed_wm1 (i := 174) rfl rfl
theorem ed_w1_175 : Cond.fieldLink RX5 177 "EmbargoDesk$Copy" "due" "I" ∈ ed_ws := ed_wm1 (i := 175) rfl rfl
theorem ed_w1_176 : Cond.fieldLink RX8 224 "EmbargoDesk$Copy" "due" "I" ∈ ed_ws := ed_wm1 (i := 176) rfl rfl
theorem ed_w1_177 : Cond.fieldLink RX1 24 "EmbargoDesk$Copy" "startedAt" "I" ∈ ed_ws := ed_wm1 (i := 177) rfl rfl
theorem ed_w1_178 : Cond.fieldLink RX5 199 "EmbargoDesk$Copy" "startedAt" "I" ∈ ed_ws := ed_wm1 (i := 178) rfl rfl
theorem ed_w1_179 : Cond.fieldLink RX8 227 "EmbargoDesk$Copy" "startedAt" "I" ∈ ed_ws := ed_wm1 (i := 179) rfl rfl
theorem ed_w1_180 : Cond.fieldLink RX1 27 "EmbargoDesk$Copy" "version" "I" ∈ ed_ws := ed_wm1 (i := 180) rfl rfl
theorem ed_w1_181 : Cond.fieldLink RX5 205 "EmbargoDesk$Copy" "version" "I" ∈ ed_ws := ed_wm1 (i := 181) rfl rfl
theorem ed_w1_182 : Cond.fieldLink RX8 230 "EmbargoDesk$Copy" "version" "I" ∈ ed_ws := ed_wm1 (i := 182) rfl rfl
theorem ed_w1_183 : Cond.lays "EmbargoDesk$Copy" "EmbargoDesk$Copy" "story" "I" ∈ ed_ws := ed_wm1 (i := 183) rfl rfl
theorem ed_w1_185 : Cond.lays "EmbargoDesk$Copy" "EmbargoDesk$Copy" "client" "I" ∈ ed_ws := ed_wm1 (i := 185) rfl rfl
theorem ed_w1_187 : Cond.lays "EmbargoDesk$Copy" "EmbargoDesk$Copy" "state" "I" ∈ ed_ws := ed_wm1 (i := 187) rfl rfl
theorem ed_w1_189 : Cond.lays "EmbargoDesk$Copy" "EmbargoDesk$Copy" "due" "I" ∈ ed_ws := ed_wm1 (i := 189) rfl rfl
theorem ed_w1_191 : Cond.lays "EmbargoDesk$Copy" "EmbargoDesk$Copy" "startedAt" "I" ∈ ed_ws := ed_wm1 (i := 191) rfl rfl
theorem ed_w1_193 : Cond.lays "EmbargoDesk$Copy" "EmbargoDesk$Copy" "version" "I" ∈ ed_ws := ed_wm1 (i := 193) rfl rfl
theorem ed_w1_196 : Cond.instantiable RX4 2 ∈ ed_ws := ed_wm1 (i := 196) rfl rfl
theorem ed_w1_198 : Cond.instanceMethod yX4_init ∈ ed_ws := ed_wm1 (i := 198) rfl rfl
theorem ed_w1_199 : Cond.code yX4_init cX4_init 1 none ∈ ed_ws := ed_wm1 (i := 199) rfl rfl
theorem ed_w1_200 : Cond.methodLink RX4 3 objectInit ∈ ed_ws := ed_wm1 (i := 200) rfl rfl
theorem ed_w1_201 : Cond.fieldLink RX4 9 "EmbargoDesk$Person" "got" "I" ∈ ed_ws := ed_wm1 (i := 201) rfl rfl
theorem ed_w1_202 : Cond.fieldLink RX5 107 "EmbargoDesk$Person" "got" "I" ∈ ed_ws := ed_wm1 (i := 202) rfl rfl
theorem ed_w1_203 : Cond.fieldLink RX8 203 "EmbargoDesk$Person" "got" "I" ∈ ed_ws := ed_wm1 (i := 203) rfl rfl
theorem ed_w1_204 : Cond.fieldLink RX4 17 "EmbargoDesk$Person" "lost" "I" ∈ ed_ws := ed_wm1 (i := 204) rfl rfl
theorem ed_w1_205 : Cond.fieldLink RX5 110 "EmbargoDesk$Person" "lost" "I" ∈ ed_ws := ed_wm1 (i := 205) rfl rfl
theorem ed_w1_206 : Cond.fieldLink RX8 208 "EmbargoDesk$Person" "lost" "I" ∈ ed_ws := ed_wm1 (i := 206) rfl rfl
theorem ed_w1_207 : Cond.lays "EmbargoDesk$Person" "EmbargoDesk$Person" "got" "I" ∈ ed_ws := ed_wm1 (i := 207) rfl rfl
theorem ed_w1_209 : Cond.lays "EmbargoDesk$Person" "EmbargoDesk$Person" "lost" "I" ∈ ed_ws := ed_wm1 (i := 209) rfl rfl
theorem ed_w1_212 : Cond.fieldLink RX5 50 "EmbargoDesk$State" "hour" "I" ∈ ed_ws := ed_wm1 (i := 212) rfl rfl
theorem ed_w1_213 : Cond.fieldLink RX8 104 "EmbargoDesk$State" "hour" "I" ∈ ed_ws := ed_wm1 (i := 213) rfl rfl
theorem ed_w1_214 : Cond.fieldLink RX5 9 "EmbargoDesk$State" "useDays" "I" ∈ ed_ws := ed_wm1 (i := 214) rfl rfl
theorem ed_w1_215 : Cond.fieldLink RX8 70 "EmbargoDesk$State" "useDays" "I" ∈ ed_ws := ed_wm1 (i := 215) rfl rfl
theorem ed_w1_216 : Cond.fieldLink RX5 53 "EmbargoDesk$State" "corrected" "I" ∈ ed_ws := ed_wm1 (i := 216) rfl rfl
theorem ed_w1_217 : Cond.fieldLink RX8 266 "EmbargoDesk$State" "corrected" "I" ∈ ed_ws := ed_wm1 (i := 217) rfl rfl
theorem ed_w1_218 : Cond.fieldLink RX5 73 "EmbargoDesk$State" "storyCount" "I" ∈ ed_ws := ed_wm1 (i := 218) rfl rfl
theorem ed_w1_219 : Cond.fieldLink RX8 80 "EmbargoDesk$State" "storyCount" "I" ∈ ed_ws := ed_wm1 (i := 219) rfl rfl
theorem ed_w1_220 : Cond.fieldLink RX8 41 "EmbargoDesk$State" "clientCount" "I" ∈ ed_ws := ed_wm1 (i := 220) rfl rfl
theorem ed_w1_221 : Cond.fieldLink RX5 83 "EmbargoDesk$State" "clientCount" "I" ∈ ed_ws := ed_wm1 (i := 221) rfl rfl
theorem ed_w1_222 : Cond.fieldLink RX5 93 "EmbargoDesk$State" "copyCount" "I" ∈ ed_ws := ed_wm1 (i := 222) rfl rfl
theorem ed_w1_223 : Cond.fieldLink RX8 260 "EmbargoDesk$State" "copyCount" "I" ∈ ed_ws := ed_wm1 (i := 223) rfl rfl
theorem ed_w1_224 : Cond.fieldLink RX5 18 "EmbargoDesk$State" "log" "LEmbargoDesk$Log;" ∈ ed_ws := ed_wm1 (i := 224) rfl rfl
theorem ed_w1_225 : Cond.fieldLink RX8 120 "EmbargoDesk$State" "log" "LEmbargoDesk$Log;" ∈ ed_ws := ed_wm1 (i := 225) rfl rfl
theorem ed_w1_226 : Cond.fieldLink RX5 24 "EmbargoDesk$State" "stories" "[LEmbargoDesk$Story;" ∈ ed_ws := ed_wm1 (i := 226) rfl rfl
theorem ed_w1_227 : Cond.fieldLink RX5 30 "EmbargoDesk$State" "clients" "[LEmbargoDesk$Client;" ∈ ed_ws := ed_wm1 (i := 227) rfl rfl
theorem ed_w1_228 : Cond.fieldLink RX5 36 "EmbargoDesk$State" "copies" "[LEmbargoDesk$Copy;" ∈ ed_ws := ed_wm1 (i := 228) rfl rfl
theorem ed_w1_229 : Cond.fieldLink RX5 42 "EmbargoDesk$State" "persons" "[LEmbargoDesk$Person;" ∈ ed_ws := ed_wm1 (i := 229) rfl rfl
theorem ed_w1_230 : Cond.lays "EmbargoDesk$State" "EmbargoDesk$State" "hour" "I" ∈ ed_ws := ed_wm1 (i := 230) rfl rfl
theorem ed_w1_232 : Cond.lays "EmbargoDesk$State" "EmbargoDesk$State" "useDays" "I" ∈ ed_ws := ed_wm1 (i := 232) rfl rfl
theorem ed_w1_234 : Cond.lays "EmbargoDesk$State" "EmbargoDesk$State" "corrected" "I" ∈ ed_ws := ed_wm1 (i := 234) rfl rfl
theorem ed_w1_236 : Cond.lays "EmbargoDesk$State" "EmbargoDesk$State" "storyCount" "I" ∈ ed_ws := ed_wm1 (i := 236) rfl rfl
theorem ed_w1_238 : Cond.lays "EmbargoDesk$State" "EmbargoDesk$State" "clientCount" "I" ∈ ed_ws := ed_wm1 (i := 238) rfl rfl
theorem ed_w2_0 : Cond.lays "EmbargoDesk$State" "EmbargoDesk$State" "copyCount" "I" ∈ ed_ws := ed_wm2 (i := 0) rfl rfl
theorem ed_w2_2 : Cond.laysFinal "EmbargoDesk$State" "EmbargoDesk$State" "log" "LEmbargoDesk$Log;" ∈ ed_ws := ed_wm2 (i := 2) rfl rfl
theorem ed_w2_4 : Cond.laysFinal "EmbargoDesk$State" "EmbargoDesk$State" "stories" "[LEmbargoDesk$Story;" ∈ ed_ws := ed_wm2 (i := 4) rfl rfl
theorem ed_w2_6 : Cond.laysFinal "EmbargoDesk$State" "EmbargoDesk$State" "clients" "[LEmbargoDesk$Client;" ∈ ed_ws := ed_wm2 (i := 6) rfl rfl
theorem ed_w2_8 : Cond.laysFinal "EmbargoDesk$State" "EmbargoDesk$State" "copies" "[LEmbargoDesk$Copy;" ∈ ed_ws := ed_wm2 (i := 8) rfl rfl
theorem ed_w2_10 : Cond.laysFinal "EmbargoDesk$State" "EmbargoDesk$State" "persons" "[LEmbargoDesk$Person;" ∈ ed_ws := ed_wm2 (i := 10) rfl rfl
theorem ed_w2_13 : Cond.classLink RX8 22 RX2 ∈ ed_ws := ed_wm2 (i := 13) rfl rfl
theorem ed_w2_14 : Cond.instantiable RX2 2 ∈ ed_ws := ed_wm2 (i := 14) rfl rfl
theorem ed_w2_15 : Cond.methodLink RX8 24 yX2_init ∈ ed_ws := ed_wm2 (i := 15) rfl rfl
theorem ed_w2_16 : Cond.instanceMethod yX2_init ∈ ed_ws := ed_wm2 (i := 16) rfl rfl
theorem ed_w2_17 : Cond.code yX2_init cX2_init 2 none ∈ ed_ws := ed_wm2 (i := 17) rfl rfl
theorem ed_w2_18 : Cond.methodLink RX2 3 objectInit ∈ ed_ws := ed_wm2 (i := 18) rfl rfl
theorem ed_w2_19 : Cond.classLink RX2 9 RX5 ∈ ed_ws := ed_wm2 (i := 19) rfl rfl
theorem ed_w2_21 : Cond.methodLink RX2 17 yX5_init ∈ ed_ws := ed_wm2 (i := 21) rfl rfl
theorem ed_w2_22 : Cond.fieldLink RX2 11 "EmbargoDesk$History" "rows" "[LEmbargoDesk$State;" ∈ ed_ws := ed_wm2 (i := 22) rfl rfl
theorem ed_w2_23 : Cond.fieldLink RX2 18 "EmbargoDesk$History" "size" "I" ∈ ed_ws := ed_wm2 (i := 23) rfl rfl
theorem ed_w2_24 : Cond.fieldLink RX8 145 "EmbargoDesk$History" "size" "I" ∈ ed_ws := ed_wm2 (i := 24) rfl rfl
theorem ed_w2_25 : Cond.laysFinal "EmbargoDesk$History" "EmbargoDesk$History" "rows" "[LEmbargoDesk$State;" ∈ ed_ws := ed_wm2 (i := 25) rfl rfl
theorem ed_w2_27 : Cond.lays "EmbargoDesk$History" "EmbargoDesk$History" "size" "I" ∈ ed_ws := ed_wm2 (i := 27) rfl rfl
theorem ed_w2_30 : Cond.classLink RX8 29 RX7 ∈ ed_ws := ed_wm2 (i := 30) rfl rfl
theorem ed_w2_31 : Cond.instantiable RX7 9 ∈ ed_ws := ed_wm2 (i := 31) rfl rfl
theorem ed_w2_33 : Cond.instanceMethod yX7_init ∈ ed_ws := ed_wm2 (i := 33) rfl rfl
theorem ed_w2_34 : Cond.code yX7_init cX7_init 1 none ∈ ed_ws := ed_wm2 (i := 34) rfl rfl
theorem ed_w2_35 : Cond.methodLink RX7 3 objectInit ∈ ed_ws := ed_wm2 (i := 35) rfl rfl
theorem ed_w2_36 : Cond.fieldLink RX7 9 "EmbargoDesk$StoryText" "signs" "[I" ∈ ed_ws := ed_wm2 (i := 36) rfl rfl
theorem ed_w2_37 : Cond.fieldLink RX7 21 "EmbargoDesk$StoryText" "length" "I" ∈ ed_ws := ed_wm2 (i := 37) rfl rfl
theorem ed_w2_38 : Cond.fieldLink RX8 139 "EmbargoDesk$StoryText" "length" "I" ∈ ed_ws := ed_wm2 (i := 38) rfl rfl
theorem ed_w2_39 : Cond.fieldLink RX7 29 "EmbargoDesk$StoryText" "at" "I" ∈ ed_ws := ed_wm2 (i := 39) rfl rfl
theorem ed_w2_40 : Cond.fieldLink RX6 21 "EmbargoDesk$StoryText" "topic" "I" ∈ ed_ws := ed_wm2 (i := 40) rfl rfl
theorem ed_w2_41 : Cond.fieldLink RX7 66 "EmbargoDesk$StoryText" "topic" "I" ∈ ed_ws := ed_wm2 (i := 41) rfl rfl
theorem ed_w2_42 : Cond.fieldLink RX6 28 "EmbargoDesk$StoryText" "bylineSize" "I" ∈ ed_ws := ed_wm2 (i := 42) rfl rfl
theorem ed_w2_43 : Cond.fieldLink RX7 69 "EmbargoDesk$StoryText" "bylineSize" "I" ∈ ed_ws := ed_wm2 (i := 43) rfl rfl
theorem ed_w2_44 : Cond.fieldLink RX7 15 "EmbargoDesk$StoryText" "byline" "[I" ∈ ed_ws := ed_wm2 (i := 44) rfl rfl
theorem ed_w2_45 : Cond.fieldLink RX6 32 "EmbargoDesk$StoryText" "byline" "[I" ∈ ed_ws := ed_wm2 (i := 45) rfl rfl
theorem ed_w2_46 : Cond.fieldLink RX6 37 "EmbargoDesk$StoryText" "embargo" "I" ∈ ed_ws := ed_wm2 (i := 46) rfl rfl
theorem ed_w2_47 : Cond.fieldLink RX7 79 "EmbargoDesk$StoryText" "embargo" "I" ∈ ed_ws := ed_wm2 (i := 47) rfl rfl
theorem ed_w2_48 : Cond.fieldLink RX6 41 "EmbargoDesk$StoryText" "slugSize" "I" ∈ ed_ws := ed_wm2 (i := 48) rfl rfl
theorem ed_w2_49 : Cond.fieldLink RX7 82 "EmbargoDesk$StoryText" "slugSize" "I" ∈ ed_ws := ed_wm2 (i := 49) rfl rfl
theorem ed_w2_50 : Cond.fieldLink RX7 18 "EmbargoDesk$StoryText" "slug" "[I" ∈ ed_ws := ed_wm2 (i := 50) rfl rfl
theorem ed_w2_51 : Cond.fieldLink RX6 45 "EmbargoDesk$StoryText" "slug" "[I" ∈ ed_ws := ed_wm2 (i := 51) rfl rfl
theorem ed_w2_52 : Cond.laysFinal "EmbargoDesk$StoryText" "EmbargoDesk$StoryText" "signs" "[I" ∈ ed_ws := ed_wm2 (i := 52) rfl rfl
theorem ed_w2_54 : Cond.lays "EmbargoDesk$StoryText" "EmbargoDesk$StoryText" "length" "I" ∈ ed_ws := ed_wm2 (i := 54) rfl rfl
theorem ed_w2_56 : Cond.lays "EmbargoDesk$StoryText" "EmbargoDesk$StoryText" "at" "I" ∈ ed_ws := ed_wm2 (i := 56) rfl rfl
theorem ed_w2_58 : Cond.lays "EmbargoDesk$StoryText" "EmbargoDesk$StoryText" "topic" "I" ∈ ed_ws := ed_wm2 (i := 58) rfl rfl
theorem ed_w2_60 : Cond.lays "EmbargoDesk$StoryText" "EmbargoDesk$StoryText" "bylineSize" "I" ∈ ed_ws := ed_wm2 (i := 60) rfl rfl
theorem ed_w2_62 : Cond.laysFinal "EmbargoDesk$StoryText" "EmbargoDesk$StoryText" "byline" "[I" ∈ ed_ws := ed_wm2 (i := 62) rfl rfl
theorem ed_w2_64 : Cond.lays "EmbargoDesk$StoryText" "EmbargoDesk$StoryText" "embargo" "I" ∈ ed_ws := ed_wm2 (i := 64) rfl rfl
theorem ed_w2_66 : Cond.lays "EmbargoDesk$StoryText" "EmbargoDesk$StoryText" "slugSize" "I" ∈ ed_ws := ed_wm2 (i := 66) rfl rfl
theorem ed_w2_68 : Cond.laysFinal "EmbargoDesk$StoryText" "EmbargoDesk$StoryText" "slug" "[I" ∈ ed_ws := ed_wm2 (i := 68) rfl rfl
theorem ed_w2_71 : Cond.fieldLink RX8 12 "EmbargoDesk" "state" "LEmbargoDesk$State;" ∈ ed_ws := ed_wm2 (i := 71) rfl rfl
theorem ed_w2_72 : Cond.fieldLink RX8 16 "EmbargoDesk" "imagined" "LEmbargoDesk$State;" ∈ ed_ws := ed_wm2 (i := 72) rfl rfl
theorem ed_w2_73 : Cond.fieldLink RX8 19 "EmbargoDesk" "snapshot" "LEmbargoDesk$State;" ∈ ed_ws := ed_wm2 (i := 73) rfl rfl
theorem ed_w2_74 : Cond.fieldLink RX8 154 "EmbargoDesk" "hasSnapshot" "Z" ∈ ed_ws := ed_wm2 (i := 74) rfl rfl
theorem ed_w2_75 : Cond.fieldLink RX8 25 "EmbargoDesk" "history" "LEmbargoDesk$History;" ∈ ed_ws := ed_wm2 (i := 75) rfl rfl
theorem ed_w2_76 : Cond.fieldLink RX8 32 "EmbargoDesk" "text" "LEmbargoDesk$StoryText;" ∈ ed_ws := ed_wm2 (i := 76) rfl rfl
theorem ed_w2_77 : Cond.laysFinal "EmbargoDesk" "EmbargoDesk" "state" "LEmbargoDesk$State;" ∈ ed_ws := ed_wm2 (i := 77) rfl rfl
theorem ed_w2_79 : Cond.laysFinal "EmbargoDesk" "EmbargoDesk" "imagined" "LEmbargoDesk$State;" ∈ ed_ws := ed_wm2 (i := 79) rfl rfl
theorem ed_w2_81 : Cond.laysFinal "EmbargoDesk" "EmbargoDesk" "snapshot" "LEmbargoDesk$State;" ∈ ed_ws := ed_wm2 (i := 81) rfl rfl
theorem ed_w2_83 : Cond.lays "EmbargoDesk" "EmbargoDesk" "hasSnapshot" "Z" ∈ ed_ws := ed_wm2 (i := 83) rfl rfl
theorem ed_w2_85 : Cond.laysFinal "EmbargoDesk" "EmbargoDesk" "history" "LEmbargoDesk$History;" ∈ ed_ws := ed_wm2 (i := 85) rfl rfl
theorem ed_w2_87 : Cond.laysFinal "EmbargoDesk" "EmbargoDesk" "text" "LEmbargoDesk$StoryText;" ∈ ed_ws := ed_wm2 (i := 87) rfl rfl
theorem ed_w2_90 : Cond.methodLink RL 13 yX8_addClient ∈ ed_ws := ed_wm2 (i := 90) rfl rfl
theorem ed_w2_91 : Cond.instanceMethod yX8_addClient ∈ ed_ws := ed_wm2 (i := 91) rfl rfl
theorem ed_w2_92 : Cond.selects RX8 yX8_addClient yX8_addClient ∈ ed_ws := ed_wm2 (i := 92) rfl rfl
theorem ed_w2_93 : Cond.code yX8_addClient cX8_addClient 8 (some .int) ∈ ed_ws := ed_wm2 (i := 93) rfl rfl
theorem ed_w2_94 : Cond.methodLink RX8 36 yX8_isBetween ∈ ed_ws := ed_wm2 (i := 94) rfl rfl
theorem ed_w2_95 : Cond.static yX8_isBetween ∈ ed_ws := ed_wm2 (i := 95) rfl rfl
theorem ed_w2_96 : Cond.code yX8_isBetween cX8_isBetween 3 (some .boolean) ∈ ed_ws := ed_wm2 (i := 96) rfl rfl
theorem ed_w2_97 : Cond.constant RX8 40 (2000000000) ∈ ed_ws := ed_wm2 (i := 97) rfl rfl
theorem ed_w2_98 : Cond.methodLink RX8 45 yX2_remember ∈ ed_ws := ed_wm2 (i := 98) rfl rfl
theorem ed_w2_99 : Cond.instanceMethod yX2_remember ∈ ed_ws := ed_wm2 (i := 99) rfl rfl
theorem ed_w2_100 : Cond.selects RX2 yX2_remember yX2_remember ∈ ed_ws := ed_wm2 (i := 100) rfl rfl
theorem ed_w2_101 : Cond.code yX2_remember cX2_remember 3 none ∈ ed_ws := ed_wm2 (i := 101) rfl rfl
theorem ed_w2_102 : Cond.methodLink RX2 22 yX2_dropOldest ∈ ed_ws := ed_wm2 (i := 102) rfl rfl
theorem ed_w2_104 : Cond.instanceMethod yX2_dropOldest ∈ ed_ws := ed_wm2 (i := 104) rfl rfl
theorem ed_w2_105 : Cond.code yX2_dropOldest cX2_dropOldest 3 none ∈ ed_ws := ed_wm2 (i := 105) rfl rfl
theorem ed_w2_107 : Cond.static yX8_isPlace ∈ ed_ws := ed_wm2 (i := 107) rfl rfl
theorem ed_w2_108 : Cond.code yX8_isPlace cX8_isPlace 2 (some .boolean) ∈ ed_ws := ed_wm2 (i := 108) rfl rfl
theorem ed_w2_109 : Cond.methodLink RX2 29 yX5_copyFrom ∈ ed_ws := ed_wm2 (i := 109) rfl rfl
theorem ed_w2_110 : Cond.instanceMethod yX5_copyFrom ∈ ed_ws := ed_wm2 (i := 110) rfl rfl
theorem ed_w2_111 : Cond.selects RX5 yX5_copyFrom yX5_copyFrom ∈ ed_ws := ed_wm2 (i := 111) rfl rfl
theorem ed_w2_112 : Cond.code yX5_copyFrom cX5_copyFrom 2 none ∈ ed_ws := ed_wm2 (i := 112) rfl rfl
theorem ed_w2_113 : Cond.methodLink RX5 56 yX3_copyFrom ∈ ed_ws := ed_wm2 (i := 113) rfl rfl
theorem ed_w2_114 : Cond.instanceMethod yX3_copyFrom ∈ ed_ws := ed_wm2 (i := 114) rfl rfl
theorem ed_w2_115 : Cond.selects RX3 yX3_copyFrom yX3_copyFrom ∈ ed_ws := ed_wm2 (i := 115) rfl rfl
theorem ed_w2_116 : Cond.code yX3_copyFrom cX3_copyFrom 2 none ∈ ed_ws := ed_wm2 (i := 116) rfl rfl
theorem ed_w2_118 : Cond.static yX8_copyRow ∈ ed_ws := ed_wm2 (i := 118) rfl rfl
theorem ed_w2_119 : Cond.code yX8_copyRow cX8_copyRow 2 none ∈ ed_ws := ed_wm2 (i := 119) rfl rfl
theorem ed_w2_120 : Cond.methodLink RX8 272 Lib.Math.min.name ∈ ed_ws := ed_wm2 (i := 120) rfl rfl
theorem ed_w2_121 : Cond.static Lib.Math.min.name ∈ ed_ws := ed_wm2 (i := 121) rfl rfl
theorem ed_w2_122 : Cond.code Lib.Math.min.name Lib.Math.min.code 2 (some .int) ∈ ed_ws := ed_wm2 (i := 122) rfl rfl
theorem ed_w2_123 : Cond.methodLink RX8 275 arraycopyName ∈ ed_ws := ed_wm2 (i := 123) rfl rfl
theorem ed_w2_124 : Cond.static arraycopyName ∈ ed_ws := ed_wm2 (i := 124) rfl rfl
theorem ed_w2_125 : Cond.native arraycopyName ∈ ed_ws := ed_wm2 (i := 125) rfl rfl
theorem ed_w2_126 : Cond.methodLink RX5 60 yX5_copyStories ∈ ed_ws := ed_wm2 (i := 126) rfl rfl
theorem ed_w2_128 : Cond.instanceMethod yX5_copyStories ∈ ed_ws := ed_wm2 (i := 128) rfl rfl
theorem ed_w2_129 : Cond.code yX5_copyStories cX5_copyStories 5 none ∈ ed_ws := ed_wm2 (i := 129) rfl rfl
theorem ed_w2_130 : Cond.methodLink RX5 76 yX5_storyAt ∈ ed_ws := ed_wm2 (i := 130) rfl rfl
theorem ed_w2_131 : Cond.instanceMethod yX5_storyAt ∈ ed_ws := ed_wm2 (i := 131) rfl rfl
theorem ed_w2_132 : Cond.selects RX5 yX5_storyAt yX5_storyAt ∈ ed_ws := ed_wm2 (i := 132) rfl rfl
theorem ed_w2_133 : Cond.code yX5_storyAt cX5_storyAt 2 (some (.object "EmbargoDesk$Story")) ∈ ed_ws := ed_wm2 (i := 133) rfl rfl
theorem ed_w2_134 : Cond.methodLink RX5 113 Lib.Math.min.name ∈ ed_ws := ed_wm2 (i := 134) rfl rfl
theorem ed_w2_136 : Cond.methodLink RX5 80 yX6_copyFrom ∈ ed_ws := ed_wm2 (i := 136) rfl rfl
theorem ed_w2_137 : Cond.instanceMethod yX6_copyFrom ∈ ed_ws := ed_wm2 (i := 137) rfl rfl
theorem ed_w2_138 : Cond.selects RX6 yX6_copyFrom yX6_copyFrom ∈ ed_ws := ed_wm2 (i := 138) rfl rfl
theorem ed_w2_139 : Cond.code yX6_copyFrom cX6_copyFrom 2 none ∈ ed_ws := ed_wm2 (i := 139) rfl rfl
theorem ed_w2_141 : Cond.methodLink RX5 64 yX5_copyClients ∈ ed_ws := ed_wm2 (i := 141) rfl rfl
theorem ed_w2_143 : Cond.instanceMethod yX5_copyClients ∈ ed_ws := ed_wm2 (i := 143) rfl rfl
theorem ed_w2_144 : Cond.code yX5_copyClients cX5_copyClients 5 none ∈ ed_ws := ed_wm2 (i := 144) rfl rfl
theorem ed_w2_145 : Cond.methodLink RX5 86 yX5_clientAt ∈ ed_ws := ed_wm2 (i := 145) rfl rfl
theorem ed_w2_146 : Cond.instanceMethod yX5_clientAt ∈ ed_ws := ed_wm2 (i := 146) rfl rfl
theorem ed_w2_147 : Cond.selects RX5 yX5_clientAt yX5_clientAt ∈ ed_ws := ed_wm2 (i := 147) rfl rfl
theorem ed_w2_148 : Cond.code yX5_clientAt cX5_clientAt 2 (some (.object "EmbargoDesk$Client")) ∈ ed_ws := ed_wm2 (i := 148) rfl rfl
theorem ed_w2_149 : Cond.methodLink RX5 90 yX0_copyFrom ∈ ed_ws := ed_wm2 (i := 149) rfl rfl
theorem ed_w2_150 : Cond.instanceMethod yX0_copyFrom ∈ ed_ws := ed_wm2 (i := 150) rfl rfl
theorem ed_w2_151 : Cond.selects RX0 yX0_copyFrom yX0_copyFrom ∈ ed_ws := ed_wm2 (i := 151) rfl rfl
theorem ed_w2_152 : Cond.code yX0_copyFrom cX0_copyFrom 2 none ∈ ed_ws := ed_wm2 (i := 152) rfl rfl
theorem ed_w2_153 : Cond.methodLink RX5 67 yX5_copyCopies ∈ ed_ws := ed_wm2 (i := 153) rfl rfl
theorem ed_w2_155 : Cond.instanceMethod yX5_copyCopies ∈ ed_ws := ed_wm2 (i := 155) rfl rfl
theorem ed_w2_156 : Cond.code yX5_copyCopies cX5_copyCopies 5 none ∈ ed_ws := ed_wm2 (i := 156) rfl rfl
theorem ed_w2_157 : Cond.methodLink RX5 96 yX5_copyMade ∈ ed_ws := ed_wm2 (i := 157) rfl rfl
theorem ed_w2_158 : Cond.instanceMethod yX5_copyMade ∈ ed_ws := ed_wm2 (i := 158) rfl rfl
theorem ed_w2_159 : Cond.selects RX5 yX5_copyMade yX5_copyMade ∈ ed_ws := ed_wm2 (i := 159) rfl rfl
theorem ed_w2_160 : Cond.code yX5_copyMade cX5_copyMade 2 (some (.object "EmbargoDesk$Copy")) ∈ ed_ws := ed_wm2 (i := 160) rfl rfl
theorem ed_w2_161 : Cond.methodLink RX5 100 yX1_copyFrom ∈ ed_ws := ed_wm2 (i := 161) rfl rfl
theorem ed_w2_162 : Cond.instanceMethod yX1_copyFrom ∈ ed_ws := ed_wm2 (i := 162) rfl rfl
theorem ed_w2_163 : Cond.selects RX1 yX1_copyFrom yX1_copyFrom ∈ ed_ws := ed_wm2 (i := 163) rfl rfl
theorem ed_w2_164 : Cond.code yX1_copyFrom cX1_copyFrom 2 none ∈ ed_ws := ed_wm2 (i := 164) rfl rfl
theorem ed_w2_165 : Cond.methodLink RX5 70 yX5_copyPersons ∈ ed_ws := ed_wm2 (i := 165) rfl rfl
theorem ed_w2_167 : Cond.instanceMethod yX5_copyPersons ∈ ed_ws := ed_wm2 (i := 167) rfl rfl
theorem ed_w2_168 : Cond.code yX5_copyPersons cX5_copyPersons 5 none ∈ ed_ws := ed_wm2 (i := 168) rfl rfl
theorem ed_w2_169 : Cond.methodLink RX5 103 yX5_personAt ∈ ed_ws := ed_wm2 (i := 169) rfl rfl
theorem ed_w2_170 : Cond.instanceMethod yX5_personAt ∈ ed_ws := ed_wm2 (i := 170) rfl rfl
theorem ed_w2_171 : Cond.selects RX5 yX5_personAt yX5_personAt ∈ ed_ws := ed_wm2 (i := 171) rfl rfl
theorem ed_w2_172 : Cond.code yX5_personAt cX5_personAt 2 (some (.object "EmbargoDesk$Person")) ∈ ed_ws := ed_wm2 (i := 172) rfl rfl
theorem ed_w2_173 : Cond.methodLink RX8 49 yX5_clientAt ∈ ed_ws := ed_wm2 (i := 173) rfl rfl
theorem ed_w2_174 : Cond.methodLink RX8 53 yX0_begin ∈ ed_ws := ed_wm2 (i := 174) rfl rfl
theorem ed_w2_175 : Cond.instanceMethod yX0_begin ∈ ed_ws := ed_wm2 (i := 175) rfl rfl
theorem ed_w2_176 : Cond.selects RX0 yX0_begin yX0_begin ∈ ed_ws := ed_wm2 (i := 176) rfl rfl
theorem ed_w2_177 : Cond.code yX0_begin cX0_begin 6 none ∈ ed_ws := ed_wm2 (i := 177) rfl rfl
theorem ed_w2_178 : Cond.methodLink RL 18 yX8_setTopics ∈ ed_ws := ed_wm2 (i := 178) rfl rfl
theorem ed_w2_179 : Cond.instanceMethod yX8_setTopics ∈ ed_ws := ed_wm2 (i := 179) rfl rfl
theorem ed_w2_180 : Cond.selects RX8 yX8_setTopics yX8_setTopics ∈ ed_ws := ed_wm2 (i := 180) rfl rfl
theorem ed_w2_181 : Cond.code yX8_setTopics cX8_setTopics 5 (some .int) ∈ ed_ws := ed_wm2 (i := 181) rfl rfl
theorem ed_w2_182 : Cond.methodLink RL 23 yX8_setUp ∈ ed_ws := ed_wm2 (i := 182) rfl rfl
theorem ed_w2_183 : Cond.instanceMethod yX8_setUp ∈ ed_ws := ed_wm2 (i := 183) rfl rfl
theorem ed_w2_184 : Cond.selects RX8 yX8_setUp yX8_setUp ∈ ed_ws := ed_wm2 (i := 184) rfl rfl
theorem ed_w2_185 : Cond.code yX8_setUp cX8_setUp 4 (some .int) ∈ ed_ws := ed_wm2 (i := 185) rfl rfl
theorem ed_w2_186 : Cond.methodLink RX8 66 yX5_copiesOf ∈ ed_ws := ed_wm2 (i := 186) rfl rfl
theorem ed_w2_187 : Cond.instanceMethod yX5_copiesOf ∈ ed_ws := ed_wm2 (i := 187) rfl rfl
theorem ed_w2_188 : Cond.selects RX5 yX5_copiesOf yX5_copiesOf ∈ ed_ws := ed_wm2 (i := 188) rfl rfl
theorem ed_w2_189 : Cond.code yX5_copiesOf cX5_copiesOf 7 (some .int) ∈ ed_ws := ed_wm2 (i := 189) rfl rfl
theorem ed_w2_190 : Cond.methodLink RX5 253 yX5_fits ∈ ed_ws := ed_wm2 (i := 190) rfl rfl
theorem ed_w2_191 : Cond.static yX5_fits ∈ ed_ws := ed_wm2 (i := 191) rfl rfl
theorem ed_w2_192 : Cond.code yX5_fits cX5_fits 2 (some .boolean) ∈ ed_ws := ed_wm2 (i := 192) rfl rfl
theorem ed_w2_193 : Cond.methodLink RL 28 yX8_setUse ∈ ed_ws := ed_wm2 (i := 193) rfl rfl
theorem ed_w2_194 : Cond.instanceMethod yX8_setUse ∈ ed_ws := ed_wm2 (i := 194) rfl rfl
theorem ed_w2_195 : Cond.selects RX8 yX8_setUse yX8_setUse ∈ ed_ws := ed_wm2 (i := 195) rfl rfl
theorem ed_w2_196 : Cond.code yX8_setUse cX8_setUse 3 (some .int) ∈ ed_ws := ed_wm2 (i := 196) rfl rfl
theorem ed_w2_197 : Cond.methodLink RL 33 yX8_pay ∈ ed_ws := ed_wm2 (i := 197) rfl rfl
theorem ed_w2_198 : Cond.instanceMethod yX8_pay ∈ ed_ws := ed_wm2 (i := 198) rfl rfl
theorem ed_w2_199 : Cond.selects RX8 yX8_pay yX8_pay ∈ ed_ws := ed_wm2 (i := 199) rfl rfl
theorem ed_w2_200 : Cond.code yX8_pay cX8_pay 4 (some .int) ∈ ed_ws := ed_wm2 (i := 200) rfl rfl
theorem ed_w2_201 : Cond.methodLink RL 37 yX8_readStory ∈ ed_ws := ed_wm2 (i := 201) rfl rfl
theorem ed_w2_202 : Cond.instanceMethod yX8_readStory ∈ ed_ws := ed_wm2 (i := 202) rfl rfl
theorem ed_w2_203 : Cond.selects RX8 yX8_readStory yX8_readStory ∈ ed_ws := ed_wm2 (i := 203) rfl rfl
theorem ed_w2_204 : Cond.code yX8_readStory cX8_readStory 4 (some .int) ∈ ed_ws := ed_wm2 (i := 204) rfl rfl
theorem ed_w2_205 : Cond.methodLink RX8 76 yX7_parse ∈ ed_ws := ed_wm2 (i := 205) rfl rfl
theorem ed_w2_206 : Cond.instanceMethod yX7_parse ∈ ed_ws := ed_wm2 (i := 206) rfl rfl
theorem ed_w2_207 : Cond.selects RX7 yX7_parse yX7_parse ∈ ed_ws := ed_wm2 (i := 207) rfl rfl
theorem ed_w2_208 : Cond.code yX7_parse cX7_parse 2 (some .int) ∈ ed_ws := ed_wm2 (i := 208) rfl rfl
theorem ed_w2_209 : Cond.methodLink RX7 32 yX7_readTopic ∈ ed_ws := ed_wm2 (i := 209) rfl rfl
theorem ed_w2_211 : Cond.instanceMethod yX7_readTopic ∈ ed_ws := ed_wm2 (i := 211) rfl rfl
theorem ed_w2_212 : Cond.code yX7_readTopic cX7_readTopic 1 (some .boolean) ∈ ed_ws := ed_wm2 (i := 212) rfl rfl
theorem ed_w2_213 : Cond.methodLink RX7 63 yX7_digit ∈ ed_ws := ed_wm2 (i := 213) rfl rfl
theorem ed_w2_215 : Cond.instanceMethod yX7_digit ∈ ed_ws := ed_wm2 (i := 215) rfl rfl
theorem ed_w2_216 : Cond.code yX7_digit cX7_digit 1 (some .int) ∈ ed_ws := ed_wm2 (i := 216) rfl rfl
theorem ed_w2_217 : Cond.methodLink RX7 55 yX7_sign ∈ ed_ws := ed_wm2 (i := 217) rfl rfl
theorem ed_w2_219 : Cond.instanceMethod yX7_sign ∈ ed_ws := ed_wm2 (i := 219) rfl rfl
theorem ed_w2_220 : Cond.code yX7_sign cX7_sign 1 (some .int) ∈ ed_ws := ed_wm2 (i := 220) rfl rfl
theorem ed_w2_221 : Cond.methodLink RX7 49 Lib.Math.min.name ∈ ed_ws := ed_wm2 (i := 221) rfl rfl
theorem ed_w2_224 : Cond.methodLink RX7 36 yX7_readSign ∈ ed_ws := ed_wm2 (i := 224) rfl rfl
theorem ed_w2_226 : Cond.instanceMethod yX7_readSign ∈ ed_ws := ed_wm2 (i := 226) rfl rfl
theorem ed_w2_227 : Cond.code yX7_readSign cX7_readSign 2 (some .boolean) ∈ ed_ws := ed_wm2 (i := 227) rfl rfl
theorem ed_w2_228 : Cond.methodLink RX7 40 yX7_readByline ∈ ed_ws := ed_wm2 (i := 228) rfl rfl
theorem ed_w2_230 : Cond.instanceMethod yX7_readByline ∈ ed_ws := ed_wm2 (i := 230) rfl rfl
theorem ed_w2_231 : Cond.code yX7_readByline cX7_readByline 2 (some .boolean) ∈ ed_ws := ed_wm2 (i := 231) rfl rfl
theorem ed_w2_232 : Cond.methodLink RX7 72 yX7_readPerson ∈ ed_ws := ed_wm2 (i := 232) rfl rfl
theorem ed_w2_234 : Cond.instanceMethod yX7_readPerson ∈ ed_ws := ed_wm2 (i := 234) rfl rfl
theorem ed_w2_235 : Cond.code yX7_readPerson cX7_readPerson 2 (some .boolean) ∈ ed_ws := ed_wm2 (i := 235) rfl rfl
theorem ed_w2_236 : Cond.methodLink RX7 75 yX7_isInByline ∈ ed_ws := ed_wm2 (i := 236) rfl rfl
theorem ed_w2_238 : Cond.instanceMethod yX7_isInByline ∈ ed_ws := ed_wm2 (i := 238) rfl rfl
theorem ed_w2_239 : Cond.code yX7_isInByline cX7_isInByline 3 (some .boolean) ∈ ed_ws := ed_wm2 (i := 239) rfl rfl
theorem ed_w3_0 : Cond.methodLink RX7 43 yX7_readEmbargo ∈ ed_ws := ed_wm3 (i := 0) rfl rfl
theorem ed_w3_2 : Cond.instanceMethod yX7_readEmbargo ∈ ed_ws := ed_wm3 (i := 2) rfl rfl
theorem ed_w3_3 : Cond.code yX7_readEmbargo cX7_readEmbargo 2 (some .boolean) ∈ ed_ws := ed_wm3 (i := 3) rfl rfl
theorem ed_w3_4 : Cond.methodLink RX7 46 yX7_readSlug ∈ ed_ws := ed_wm3 (i := 4) rfl rfl
theorem ed_w3_6 : Cond.instanceMethod yX7_readSlug ∈ ed_ws := ed_wm3 (i := 6) rfl rfl
theorem ed_w3_7 : Cond.code yX7_readSlug cX7_readSlug 2 (some .boolean) ∈ ed_ws := ed_wm3 (i := 7) rfl rfl
theorem ed_w3_8 : Cond.methodLink RX8 83 yX5_storyAt ∈ ed_ws := ed_wm3 (i := 8) rfl rfl
theorem ed_w3_9 : Cond.methodLink RX8 87 yX6_begin ∈ ed_ws := ed_wm3 (i := 9) rfl rfl
theorem ed_w3_10 : Cond.instanceMethod yX6_begin ∈ ed_ws := ed_wm3 (i := 10) rfl rfl
theorem ed_w3_11 : Cond.selects RX6 yX6_begin yX6_begin ∈ ed_ws := ed_wm3 (i := 11) rfl rfl
theorem ed_w3_12 : Cond.code yX6_begin cX6_begin 2 none ∈ ed_ws := ed_wm3 (i := 12) rfl rfl
theorem ed_w3_13 : Cond.methodLink RL 42 yX8_release ∈ ed_ws := ed_wm3 (i := 13) rfl rfl
theorem ed_w3_14 : Cond.instanceMethod yX8_release ∈ ed_ws := ed_wm3 (i := 14) rfl rfl
theorem ed_w3_15 : Cond.selects RX8 yX8_release yX8_release ∈ ed_ws := ed_wm3 (i := 15) rfl rfl
theorem ed_w3_16 : Cond.code yX8_release cX8_release 3 (some .int) ∈ ed_ws := ed_wm3 (i := 16) rfl rfl
theorem ed_w3_17 : Cond.methodLink RX8 97 yX5_clientsFor ∈ ed_ws := ed_wm3 (i := 17) rfl rfl
theorem ed_w3_18 : Cond.instanceMethod yX5_clientsFor ∈ ed_ws := ed_wm3 (i := 18) rfl rfl
theorem ed_w3_19 : Cond.selects RX5 yX5_clientsFor yX5_clientsFor ∈ ed_ws := ed_wm3 (i := 19) rfl rfl
theorem ed_w3_20 : Cond.code yX5_clientsFor cX5_clientsFor 5 (some .int) ∈ ed_ws := ed_wm3 (i := 20) rfl rfl
theorem ed_w3_21 : Cond.methodLink RX5 162 yX0_hasTopic ∈ ed_ws := ed_wm3 (i := 21) rfl rfl
theorem ed_w3_22 : Cond.instanceMethod yX0_hasTopic ∈ ed_ws := ed_wm3 (i := 22) rfl rfl
theorem ed_w3_23 : Cond.selects RX0 yX0_hasTopic yX0_hasTopic ∈ ed_ws := ed_wm3 (i := 23) rfl rfl
theorem ed_w3_24 : Cond.code yX0_hasTopic cX0_hasTopic 2 (some .boolean) ∈ ed_ws := ed_wm3 (i := 24) rfl rfl
theorem ed_w3_25 : Cond.methodLink RL 46 yX8_hold ∈ ed_ws := ed_wm3 (i := 25) rfl rfl
theorem ed_w3_26 : Cond.instanceMethod yX8_hold ∈ ed_ws := ed_wm3 (i := 26) rfl rfl
theorem ed_w3_27 : Cond.selects RX8 yX8_hold yX8_hold ∈ ed_ws := ed_wm3 (i := 27) rfl rfl
theorem ed_w3_28 : Cond.code yX8_hold cX8_hold 3 (some .int) ∈ ed_ws := ed_wm3 (i := 28) rfl rfl
theorem ed_w3_29 : Cond.methodLink RX8 107 Lib.Math.max.name ∈ ed_ws := ed_wm3 (i := 29) rfl rfl
theorem ed_w3_30 : Cond.static Lib.Math.max.name ∈ ed_ws := ed_wm3 (i := 30) rfl rfl
theorem ed_w3_31 : Cond.code Lib.Math.max.name Lib.Math.max.code 2 (some .int) ∈ ed_ws := ed_wm3 (i := 31) rfl rfl
theorem ed_w3_32 : Cond.methodLink RL 50 yX8_setEmbargo ∈ ed_ws := ed_wm3 (i := 32) rfl rfl
theorem ed_w3_33 : Cond.instanceMethod yX8_setEmbargo ∈ ed_ws := ed_wm3 (i := 33) rfl rfl
theorem ed_w3_34 : Cond.selects RX8 yX8_setEmbargo yX8_setEmbargo ∈ ed_ws := ed_wm3 (i := 34) rfl rfl
theorem ed_w3_35 : Cond.code yX8_setEmbargo cX8_setEmbargo 5 (some .int) ∈ ed_ws := ed_wm3 (i := 35) rfl rfl
theorem ed_w3_36 : Cond.methodLink RL 54 yX8_correct ∈ ed_ws := ed_wm3 (i := 36) rfl rfl
theorem ed_w3_37 : Cond.instanceMethod yX8_correct ∈ ed_ws := ed_wm3 (i := 37) rfl rfl
theorem ed_w3_38 : Cond.selects RX8 yX8_correct yX8_correct ∈ ed_ws := ed_wm3 (i := 38) rfl rfl
theorem ed_w3_39 : Cond.code yX8_correct cX8_correct 3 (some .int) ∈ ed_ws := ed_wm3 (i := 39) rfl rfl
theorem ed_w3_40 : Cond.methodLink RX8 116 yX6_addCorrection ∈ ed_ws := ed_wm3 (i := 40) rfl rfl
theorem ed_w3_41 : Cond.instanceMethod yX6_addCorrection ∈ ed_ws := ed_wm3 (i := 41) rfl rfl
theorem ed_w3_42 : Cond.selects RX6 yX6_addCorrection yX6_addCorrection ∈ ed_ws := ed_wm3 (i := 42) rfl rfl
theorem ed_w3_43 : Cond.code yX6_addCorrection cX6_addCorrection 2 none ∈ ed_ws := ed_wm3 (i := 43) rfl rfl
theorem ed_w3_45 : Cond.methodLink RX8 124 yX3_add ∈ ed_ws := ed_wm3 (i := 45) rfl rfl
theorem ed_w3_46 : Cond.instanceMethod yX3_add ∈ ed_ws := ed_wm3 (i := 46) rfl rfl
theorem ed_w3_47 : Cond.selects RX3 yX3_add yX3_add ∈ ed_ws := ed_wm3 (i := 47) rfl rfl
theorem ed_w3_48 : Cond.code yX3_add cX3_add 6 none ∈ ed_ws := ed_wm3 (i := 48) rfl rfl
theorem ed_w3_49 : Cond.methodLink RX3 22 Lib.Math.min.name ∈ ed_ws := ed_wm3 (i := 49) rfl rfl
theorem ed_w3_51 : Cond.methodLink RL 58 yX8_kill ∈ ed_ws := ed_wm3 (i := 51) rfl rfl
theorem ed_w3_52 : Cond.instanceMethod yX8_kill ∈ ed_ws := ed_wm3 (i := 52) rfl rfl
theorem ed_w3_53 : Cond.selects RX8 yX8_kill yX8_kill ∈ ed_ws := ed_wm3 (i := 53) rfl rfl
theorem ed_w3_54 : Cond.code yX8_kill cX8_kill 3 (some .int) ∈ ed_ws := ed_wm3 (i := 54) rfl rfl
theorem ed_w3_55 : Cond.methodLink RL 62 yX8_pass ∈ ed_ws := ed_wm3 (i := 55) rfl rfl
theorem ed_w3_56 : Cond.instanceMethod yX8_pass ∈ ed_ws := ed_wm3 (i := 56) rfl rfl
theorem ed_w3_57 : Cond.selects RX8 yX8_pass yX8_pass ∈ ed_ws := ed_wm3 (i := 57) rfl rfl
theorem ed_w3_58 : Cond.code yX8_pass cX8_pass 4 (some .int) ∈ ed_ws := ed_wm3 (i := 58) rfl rfl
theorem ed_w3_59 : Cond.methodLink RX8 133 yX5_copiesThatCame ∈ ed_ws := ed_wm3 (i := 59) rfl rfl
theorem ed_w3_60 : Cond.instanceMethod yX5_copiesThatCame ∈ ed_ws := ed_wm3 (i := 60) rfl rfl
theorem ed_w3_61 : Cond.selects RX5 yX5_copiesThatCame yX5_copiesThatCame ∈ ed_ws := ed_wm3 (i := 61) rfl rfl
theorem ed_w3_62 : Cond.code yX5_copiesThatCame cX5_copiesThatCame 4 (some .int) ∈ ed_ws := ed_wm3 (i := 62) rfl rfl
theorem ed_w3_63 : Cond.methodLink RX8 136 yX5_passHour ∈ ed_ws := ed_wm3 (i := 63) rfl rfl
theorem ed_w3_64 : Cond.instanceMethod yX5_passHour ∈ ed_ws := ed_wm3 (i := 64) rfl rfl
theorem ed_w3_65 : Cond.selects RX5 yX5_passHour yX5_passHour ∈ ed_ws := ed_wm3 (i := 65) rfl rfl
theorem ed_w3_66 : Cond.code yX5_passHour cX5_passHour 3 none ∈ ed_ws := ed_wm3 (i := 66) rfl rfl
theorem ed_w3_67 : Cond.methodLink RX5 129 yX5_startDay ∈ ed_ws := ed_wm3 (i := 67) rfl rfl
theorem ed_w3_69 : Cond.instanceMethod yX5_startDay ∈ ed_ws := ed_wm3 (i := 69) rfl rfl
theorem ed_w3_70 : Cond.code yX5_startDay cX5_startDay 3 none ∈ ed_ws := ed_wm3 (i := 70) rfl rfl
theorem ed_w3_71 : Cond.methodLink RX5 138 yX5_publish ∈ ed_ws := ed_wm3 (i := 71) rfl rfl
theorem ed_w3_73 : Cond.instanceMethod yX5_publish ∈ ed_ws := ed_wm3 (i := 73) rfl rfl
theorem ed_w3_74 : Cond.code yX5_publish cX5_publish 5 none ∈ ed_ws := ed_wm3 (i := 74) rfl rfl
theorem ed_w3_75 : Cond.methodLink RX5 155 yX3_add ∈ ed_ws := ed_wm3 (i := 75) rfl rfl
theorem ed_w3_76 : Cond.methodLink RX5 169 yX5_planCopy ∈ ed_ws := ed_wm3 (i := 76) rfl rfl
theorem ed_w3_78 : Cond.instanceMethod yX5_planCopy ∈ ed_ws := ed_wm3 (i := 78) rfl rfl
theorem ed_w3_79 : Cond.code yX5_planCopy cX5_planCopy 5 none ∈ ed_ws := ed_wm3 (i := 79) rfl rfl
theorem ed_w3_80 : Cond.methodLink RX5 173 yX1_begin ∈ ed_ws := ed_wm3 (i := 80) rfl rfl
theorem ed_w3_81 : Cond.instanceMethod yX1_begin ∈ ed_ws := ed_wm3 (i := 81) rfl rfl
theorem ed_w3_82 : Cond.selects RX1 yX1_begin yX1_begin ∈ ed_ws := ed_wm3 (i := 82) rfl rfl
theorem ed_w3_83 : Cond.code yX1_begin cX1_begin 4 none ∈ ed_ws := ed_wm3 (i := 83) rfl rfl
theorem ed_w3_84 : Cond.methodLink RX5 142 yX1_isOver ∈ ed_ws := ed_wm3 (i := 84) rfl rfl
theorem ed_w3_85 : Cond.instanceMethod yX1_isOver ∈ ed_ws := ed_wm3 (i := 85) rfl rfl
theorem ed_w3_86 : Cond.selects RX1 yX1_isOver yX1_isOver ∈ ed_ws := ed_wm3 (i := 86) rfl rfl
theorem ed_w3_87 : Cond.code yX1_isOver cX1_isOver 1 (some .boolean) ∈ ed_ws := ed_wm3 (i := 87) rfl rfl
theorem ed_w3_88 : Cond.methodLink RX5 146 yX5_moveOn ∈ ed_ws := ed_wm3 (i := 88) rfl rfl
theorem ed_w3_90 : Cond.instanceMethod yX5_moveOn ∈ ed_ws := ed_wm3 (i := 90) rfl rfl
theorem ed_w3_91 : Cond.code yX5_moveOn cX5_moveOn 4 none ∈ ed_ws := ed_wm3 (i := 91) rfl rfl
theorem ed_w3_92 : Cond.methodLink RX5 180 yX0_canGetCopy ∈ ed_ws := ed_wm3 (i := 92) rfl rfl
theorem ed_w3_93 : Cond.instanceMethod yX0_canGetCopy ∈ ed_ws := ed_wm3 (i := 93) rfl rfl
theorem ed_w3_94 : Cond.selects RX0 yX0_canGetCopy yX0_canGetCopy ∈ ed_ws := ed_wm3 (i := 94) rfl rfl
theorem ed_w3_95 : Cond.code yX0_canGetCopy cX0_canGetCopy 1 (some .boolean) ∈ ed_ws := ed_wm3 (i := 95) rfl rfl
theorem ed_w3_96 : Cond.methodLink RX5 183 yX5_startUse ∈ ed_ws := ed_wm3 (i := 96) rfl rfl
theorem ed_w3_98 : Cond.instanceMethod yX5_startUse ∈ ed_ws := ed_wm3 (i := 98) rfl rfl
theorem ed_w3_99 : Cond.code yX5_startUse cX5_startUse 4 none ∈ ed_ws := ed_wm3 (i := 99) rfl rfl
theorem ed_w3_100 : Cond.methodLink RX5 209 yX5_bill ∈ ed_ws := ed_wm3 (i := 100) rfl rfl
theorem ed_w3_102 : Cond.instanceMethod yX5_bill ∈ ed_ws := ed_wm3 (i := 102) rfl rfl
theorem ed_w3_103 : Cond.code yX5_bill cX5_bill 7 none ∈ ed_ws := ed_wm3 (i := 103) rfl rfl
theorem ed_w3_104 : Cond.constantLong RX5 219 (2147483647) ∈ ed_ws := ed_wm3 (i := 104) rfl rfl
theorem ed_w3_105 : Cond.methodLink RX5 227 yX6_authorAt ∈ ed_ws := ed_wm3 (i := 105) rfl rfl
theorem ed_w3_106 : Cond.instanceMethod yX6_authorAt ∈ ed_ws := ed_wm3 (i := 106) rfl rfl
theorem ed_w3_107 : Cond.selects RX6 yX6_authorAt yX6_authorAt ∈ ed_ws := ed_wm3 (i := 107) rfl rfl
theorem ed_w3_108 : Cond.code yX6_authorAt cX6_authorAt 2 (some .int) ∈ ed_ws := ed_wm3 (i := 108) rfl rfl
theorem ed_w3_109 : Cond.methodLink RX6 62 Lib.Math.min.name ∈ ed_ws := ed_wm3 (i := 109) rfl rfl
theorem ed_w3_110 : Cond.methodLink RX5 231 yX4_addShare ∈ ed_ws := ed_wm3 (i := 110) rfl rfl
theorem ed_w3_111 : Cond.instanceMethod yX4_addShare ∈ ed_ws := ed_wm3 (i := 111) rfl rfl
theorem ed_w3_112 : Cond.selects RX4 yX4_addShare yX4_addShare ∈ ed_ws := ed_wm3 (i := 112) rfl rfl
theorem ed_w3_113 : Cond.code yX4_addShare cX4_addShare 2 none ∈ ed_ws := ed_wm3 (i := 113) rfl rfl
theorem ed_w3_114 : Cond.constantLong RX4 15 (2147483647) ∈ ed_ws := ed_wm3 (i := 114) rfl rfl
theorem ed_w3_115 : Cond.methodLink RX5 187 yX5_useEndsAt ∈ ed_ws := ed_wm3 (i := 115) rfl rfl
theorem ed_w3_116 : Cond.instanceMethod yX5_useEndsAt ∈ ed_ws := ed_wm3 (i := 116) rfl rfl
theorem ed_w3_117 : Cond.selects RX5 yX5_useEndsAt yX5_useEndsAt ∈ ed_ws := ed_wm3 (i := 117) rfl rfl
theorem ed_w3_118 : Cond.code yX5_useEndsAt cX5_useEndsAt 2 (some .int) ∈ ed_ws := ed_wm3 (i := 118) rfl rfl
theorem ed_w3_119 : Cond.methodLink RX5 195 yX5_reach ∈ ed_ws := ed_wm3 (i := 119) rfl rfl
theorem ed_w3_121 : Cond.instanceMethod yX5_reach ∈ ed_ws := ed_wm3 (i := 121) rfl rfl
theorem ed_w3_122 : Cond.code yX5_reach cX5_reach 5 none ∈ ed_ws := ed_wm3 (i := 122) rfl rfl
theorem ed_w3_123 : Cond.methodLink RX5 235 yX5_killNoticeAt ∈ ed_ws := ed_wm3 (i := 123) rfl rfl
theorem ed_w3_124 : Cond.instanceMethod yX5_killNoticeAt ∈ ed_ws := ed_wm3 (i := 124) rfl rfl
theorem ed_w3_125 : Cond.selects RX5 yX5_killNoticeAt yX5_killNoticeAt ∈ ed_ws := ed_wm3 (i := 125) rfl rfl
theorem ed_w3_126 : Cond.code yX5_killNoticeAt cX5_killNoticeAt 4 (some .int) ∈ ed_ws := ed_wm3 (i := 126) rfl rfl
theorem ed_w3_127 : Cond.methodLink RX5 238 yX5_correctionsDue ∈ ed_ws := ed_wm3 (i := 127) rfl rfl
theorem ed_w3_128 : Cond.instanceMethod yX5_correctionsDue ∈ ed_ws := ed_wm3 (i := 128) rfl rfl
theorem ed_w3_129 : Cond.selects RX5 yX5_correctionsDue yX5_correctionsDue ∈ ed_ws := ed_wm3 (i := 129) rfl rfl
theorem ed_w3_130 : Cond.code yX5_correctionsDue cX5_correctionsDue 6 (some .int) ∈ ed_ws := ed_wm3 (i := 130) rfl rfl
theorem ed_w3_131 : Cond.methodLink RX5 241 yX6_correctedAt ∈ ed_ws := ed_wm3 (i := 131) rfl rfl
theorem ed_w3_132 : Cond.instanceMethod yX6_correctedAt ∈ ed_ws := ed_wm3 (i := 132) rfl rfl
theorem ed_w3_133 : Cond.selects RX6 yX6_correctedAt yX6_correctedAt ∈ ed_ws := ed_wm3 (i := 133) rfl rfl
theorem ed_w3_134 : Cond.code yX6_correctedAt cX6_correctedAt 2 (some .int) ∈ ed_ws := ed_wm3 (i := 134) rfl rfl
theorem ed_w3_135 : Cond.methodLink RL 66 yX8_type ∈ ed_ws := ed_wm3 (i := 135) rfl rfl
theorem ed_w3_136 : Cond.instanceMethod yX8_type ∈ ed_ws := ed_wm3 (i := 136) rfl rfl
theorem ed_w3_137 : Cond.selects RX8 yX8_type yX8_type ∈ ed_ws := ed_wm3 (i := 137) rfl rfl
theorem ed_w3_138 : Cond.code yX8_type cX8_type 2 (some .int) ∈ ed_ws := ed_wm3 (i := 138) rfl rfl
theorem ed_w3_139 : Cond.methodLink RX8 142 yX7_add ∈ ed_ws := ed_wm3 (i := 139) rfl rfl
theorem ed_w3_140 : Cond.instanceMethod yX7_add ∈ ed_ws := ed_wm3 (i := 140) rfl rfl
theorem ed_w3_141 : Cond.selects RX7 yX7_add yX7_add ∈ ed_ws := ed_wm3 (i := 141) rfl rfl
theorem ed_w3_142 : Cond.code yX7_add cX7_add 2 none ∈ ed_ws := ed_wm3 (i := 142) rfl rfl
theorem ed_w3_143 : Cond.methodLink RL 71 yX8_clearText ∈ ed_ws := ed_wm3 (i := 143) rfl rfl
theorem ed_w3_144 : Cond.instanceMethod yX8_clearText ∈ ed_ws := ed_wm3 (i := 144) rfl rfl
theorem ed_w3_145 : Cond.selects RX8 yX8_clearText yX8_clearText ∈ ed_ws := ed_wm3 (i := 145) rfl rfl
theorem ed_w3_146 : Cond.code yX8_clearText cX8_clearText 2 (some .int) ∈ ed_ws := ed_wm3 (i := 146) rfl rfl
theorem ed_w3_147 : Cond.methodLink RL 75 yX8_undo ∈ ed_ws := ed_wm3 (i := 147) rfl rfl
theorem ed_w3_148 : Cond.instanceMethod yX8_undo ∈ ed_ws := ed_wm3 (i := 148) rfl rfl
theorem ed_w3_149 : Cond.selects RX8 yX8_undo yX8_undo ∈ ed_ws := ed_wm3 (i := 149) rfl rfl
theorem ed_w3_150 : Cond.code yX8_undo cX8_undo 1 (some .int) ∈ ed_ws := ed_wm3 (i := 150) rfl rfl
theorem ed_w3_151 : Cond.methodLink RX8 148 yX2_takeLatest ∈ ed_ws := ed_wm3 (i := 151) rfl rfl
theorem ed_w3_152 : Cond.instanceMethod yX2_takeLatest ∈ ed_ws := ed_wm3 (i := 152) rfl rfl
theorem ed_w3_153 : Cond.selects RX2 yX2_takeLatest yX2_takeLatest ∈ ed_ws := ed_wm3 (i := 153) rfl rfl
theorem ed_w3_154 : Cond.code yX2_takeLatest cX2_takeLatest 3 none ∈ ed_ws := ed_wm3 (i := 154) rfl rfl
theorem ed_w3_155 : Cond.methodLink RL 79 yX8_keep ∈ ed_ws := ed_wm3 (i := 155) rfl rfl
theorem ed_w3_156 : Cond.instanceMethod yX8_keep ∈ ed_ws := ed_wm3 (i := 156) rfl rfl
theorem ed_w3_157 : Cond.selects RX8 yX8_keep yX8_keep ∈ ed_ws := ed_wm3 (i := 157) rfl rfl
theorem ed_w3_158 : Cond.code yX8_keep cX8_keep 1 (some .int) ∈ ed_ws := ed_wm3 (i := 158) rfl rfl
theorem ed_w3_159 : Cond.methodLink RX8 151 yX5_copyFrom ∈ ed_ws := ed_wm3 (i := 159) rfl rfl
theorem ed_w3_160 : Cond.methodLink RL 83 yX8_restore ∈ ed_ws := ed_wm3 (i := 160) rfl rfl
theorem ed_w3_161 : Cond.instanceMethod yX8_restore ∈ ed_ws := ed_wm3 (i := 161) rfl rfl
theorem ed_w3_162 : Cond.selects RX8 yX8_restore yX8_restore ∈ ed_ws := ed_wm3 (i := 162) rfl rfl
theorem ed_w3_163 : Cond.code yX8_restore cX8_restore 1 (some .int) ∈ ed_ws := ed_wm3 (i := 163) rfl rfl
theorem ed_w3_164 : Cond.methodLink RL 87 yX8_story ∈ ed_ws := ed_wm3 (i := 164) rfl rfl
theorem ed_w3_165 : Cond.instanceMethod yX8_story ∈ ed_ws := ed_wm3 (i := 165) rfl rfl
theorem ed_w3_166 : Cond.selects RX8 yX8_story yX8_story ∈ ed_ws := ed_wm3 (i := 166) rfl rfl
theorem ed_w3_167 : Cond.code yX8_story cX8_story 4 (some .int) ∈ ed_ws := ed_wm3 (i := 167) rfl rfl
theorem ed_w3_168 : Cond.methodLink RX8 166 yX5_upToDateCopies ∈ ed_ws := ed_wm3 (i := 168) rfl rfl
theorem ed_w3_169 : Cond.instanceMethod yX5_upToDateCopies ∈ ed_ws := ed_wm3 (i := 169) rfl rfl
theorem ed_w3_170 : Cond.selects RX5 yX5_upToDateCopies yX5_upToDateCopies ∈ ed_ws := ed_wm3 (i := 170) rfl rfl
theorem ed_w3_171 : Cond.code yX5_upToDateCopies cX5_upToDateCopies 5 (some .int) ∈ ed_ws := ed_wm3 (i := 171) rfl rfl
theorem ed_w3_172 : Cond.methodLink RX5 247 yX5_correctionsMissing ∈ ed_ws := ed_wm3 (i := 172) rfl rfl
theorem ed_w3_173 : Cond.instanceMethod yX5_correctionsMissing ∈ ed_ws := ed_wm3 (i := 173) rfl rfl
theorem ed_w3_174 : Cond.selects RX5 yX5_correctionsMissing yX5_correctionsMissing ∈ ed_ws := ed_wm3 (i := 174) rfl rfl
theorem ed_w3_175 : Cond.code yX5_correctionsMissing cX5_correctionsMissing 3 (some .int) ∈ ed_ws := ed_wm3 (i := 175) rfl rfl
theorem ed_w3_176 : Cond.methodLink RL 91 yX8_byline ∈ ed_ws := ed_wm3 (i := 176) rfl rfl
theorem ed_w3_177 : Cond.instanceMethod yX8_byline ∈ ed_ws := ed_wm3 (i := 177) rfl rfl
theorem ed_w3_178 : Cond.selects RX8 yX8_byline yX8_byline ∈ ed_ws := ed_wm3 (i := 178) rfl rfl
theorem ed_w3_179 : Cond.code yX8_byline cX8_byline 4 (some .int) ∈ ed_ws := ed_wm3 (i := 179) rfl rfl
theorem ed_w3_180 : Cond.methodLink RX8 169 yX6_authorAt ∈ ed_ws := ed_wm3 (i := 180) rfl rfl
theorem ed_w3_181 : Cond.methodLink RL 95 yX8_slugChar ∈ ed_ws := ed_wm3 (i := 181) rfl rfl
theorem ed_w3_182 : Cond.instanceMethod yX8_slugChar ∈ ed_ws := ed_wm3 (i := 182) rfl rfl
theorem ed_w3_183 : Cond.selects RX8 yX8_slugChar yX8_slugChar ∈ ed_ws := ed_wm3 (i := 183) rfl rfl
theorem ed_w3_184 : Cond.code yX8_slugChar cX8_slugChar 4 (some .int) ∈ ed_ws := ed_wm3 (i := 184) rfl rfl
theorem ed_w3_185 : Cond.methodLink RX8 172 yX6_letterAt ∈ ed_ws := ed_wm3 (i := 185) rfl rfl
theorem ed_w3_186 : Cond.instanceMethod yX6_letterAt ∈ ed_ws := ed_wm3 (i := 186) rfl rfl
theorem ed_w3_187 : Cond.selects RX6 yX6_letterAt yX6_letterAt ∈ ed_ws := ed_wm3 (i := 187) rfl rfl
theorem ed_w3_188 : Cond.code yX6_letterAt cX6_letterAt 2 (some .int) ∈ ed_ws := ed_wm3 (i := 188) rfl rfl
theorem ed_w3_189 : Cond.methodLink RL 99 yX8_correction ∈ ed_ws := ed_wm3 (i := 189) rfl rfl
theorem ed_w3_190 : Cond.instanceMethod yX8_correction ∈ ed_ws := ed_wm3 (i := 190) rfl rfl
theorem ed_w3_191 : Cond.selects RX8 yX8_correction yX8_correction ∈ ed_ws := ed_wm3 (i := 191) rfl rfl
theorem ed_w3_192 : Cond.code yX8_correction cX8_correction 4 (some .int) ∈ ed_ws := ed_wm3 (i := 192) rfl rfl
theorem ed_w3_193 : Cond.methodLink RX8 175 yX6_correctedAt ∈ ed_ws := ed_wm3 (i := 193) rfl rfl
theorem ed_w3_194 : Cond.methodLink RL 103 yX8_client ∈ ed_ws := ed_wm3 (i := 194) rfl rfl
theorem ed_w3_195 : Cond.instanceMethod yX8_client ∈ ed_ws := ed_wm3 (i := 195) rfl rfl
theorem ed_w3_196 : Cond.selects RX8 yX8_client yX8_client ∈ ed_ws := ed_wm3 (i := 196) rfl rfl
theorem ed_w3_197 : Cond.code yX8_client cX8_client 4 (some .int) ∈ ed_ws := ed_wm3 (i := 197) rfl rfl
theorem ed_w3_198 : Cond.methodLink RL 107 yX8_person ∈ ed_ws := ed_wm3 (i := 198) rfl rfl
theorem ed_w3_199 : Cond.instanceMethod yX8_person ∈ ed_ws := ed_wm3 (i := 199) rfl rfl
theorem ed_w3_200 : Cond.selects RX8 yX8_person yX8_person ∈ ed_ws := ed_wm3 (i := 200) rfl rfl
theorem ed_w3_201 : Cond.code yX8_person cX8_person 4 (some .int) ∈ ed_ws := ed_wm3 (i := 201) rfl rfl
theorem ed_w3_202 : Cond.methodLink RX8 199 yX5_personAt ∈ ed_ws := ed_wm3 (i := 202) rfl rfl
theorem ed_w3_203 : Cond.methodLink RX8 211 yX5_storiesBy ∈ ed_ws := ed_wm3 (i := 203) rfl rfl
theorem ed_w3_204 : Cond.instanceMethod yX5_storiesBy ∈ ed_ws := ed_wm3 (i := 204) rfl rfl
theorem ed_w3_205 : Cond.selects RX5 yX5_storiesBy yX5_storiesBy ∈ ed_ws := ed_wm3 (i := 205) rfl rfl
theorem ed_w3_206 : Cond.code yX5_storiesBy cX5_storiesBy 5 (some .int) ∈ ed_ws := ed_wm3 (i := 206) rfl rfl
theorem ed_w3_207 : Cond.methodLink RX5 256 yX6_isBy ∈ ed_ws := ed_wm3 (i := 207) rfl rfl
theorem ed_w3_208 : Cond.instanceMethod yX6_isBy ∈ ed_ws := ed_wm3 (i := 208) rfl rfl
theorem ed_w3_209 : Cond.selects RX6 yX6_isBy yX6_isBy ∈ ed_ws := ed_wm3 (i := 209) rfl rfl
theorem ed_w3_210 : Cond.code yX6_isBy cX6_isBy 3 (some .boolean) ∈ ed_ws := ed_wm3 (i := 210) rfl rfl
theorem ed_w3_211 : Cond.methodLink RX6 68 yX6_authorAt ∈ ed_ws := ed_wm3 (i := 211) rfl rfl
theorem ed_w3_212 : Cond.methodLink RX8 214 yX5_copiesInUseBy ∈ ed_ws := ed_wm3 (i := 212) rfl rfl
theorem ed_w3_213 : Cond.instanceMethod yX5_copiesInUseBy ∈ ed_ws := ed_wm3 (i := 213) rfl rfl
theorem ed_w3_214 : Cond.selects RX5 yX5_copiesInUseBy yX5_copiesInUseBy ∈ ed_ws := ed_wm3 (i := 214) rfl rfl
theorem ed_w3_215 : Cond.code yX5_copiesInUseBy cX5_copiesInUseBy 5 (some .int) ∈ ed_ws := ed_wm3 (i := 215) rfl rfl
theorem ed_w3_216 : Cond.methodLink RX5 259 yX5_copiesOf ∈ ed_ws := ed_wm3 (i := 216) rfl rfl
theorem ed_w3_217 : Cond.methodLink RL 111 yX8_copy ∈ ed_ws := ed_wm3 (i := 217) rfl rfl
theorem ed_w3_218 : Cond.instanceMethod yX8_copy ∈ ed_ws := ed_wm3 (i := 218) rfl rfl
theorem ed_w3_219 : Cond.selects RX8 yX8_copy yX8_copy ∈ ed_ws := ed_wm3 (i := 219) rfl rfl
theorem ed_w3_220 : Cond.code yX8_copy cX8_copy 5 (some .int) ∈ ed_ws := ed_wm3 (i := 220) rfl rfl
theorem ed_w3_221 : Cond.methodLink RX8 217 yX5_copyFor ∈ ed_ws := ed_wm3 (i := 221) rfl rfl
theorem ed_w3_222 : Cond.instanceMethod yX5_copyFor ∈ ed_ws := ed_wm3 (i := 222) rfl rfl
theorem ed_w3_223 : Cond.selects RX5 yX5_copyFor yX5_copyFor ∈ ed_ws := ed_wm3 (i := 223) rfl rfl
theorem ed_w3_224 : Cond.code yX5_copyFor cX5_copyFor 5 (some (.object "EmbargoDesk$Copy")) ∈ ed_ws := ed_wm3 (i := 224) rfl rfl
theorem ed_w3_225 : Cond.methodLink RX8 231 yX5_correctionsMissing ∈ ed_ws := ed_wm3 (i := 225) rfl rfl
theorem ed_w3_226 : Cond.methodLink RX8 235 yX5_correctionsDue ∈ ed_ws := ed_wm3 (i := 226) rfl rfl
theorem ed_w3_227 : Cond.methodLink RX8 238 yX5_nextCorrectionAt ∈ ed_ws := ed_wm3 (i := 227) rfl rfl
theorem ed_w3_228 : Cond.instanceMethod yX5_nextCorrectionAt ∈ ed_ws := ed_wm3 (i := 228) rfl rfl
theorem ed_w3_229 : Cond.selects RX5 yX5_nextCorrectionAt yX5_nextCorrectionAt ∈ ed_ws := ed_wm3 (i := 229) rfl rfl
theorem ed_w3_230 : Cond.code yX5_nextCorrectionAt cX5_nextCorrectionAt 4 (some .int) ∈ ed_ws := ed_wm3 (i := 230) rfl rfl
theorem ed_w3_231 : Cond.methodLink RX8 241 yX5_killNoticeAt ∈ ed_ws := ed_wm3 (i := 231) rfl rfl
theorem ed_w3_232 : Cond.methodLink RX8 244 yX5_useEndsAt ∈ ed_ws := ed_wm3 (i := 232) rfl rfl
theorem ed_w3_233 : Cond.methodLink RL 116 yX8_copyAt ∈ ed_ws := ed_wm3 (i := 233) rfl rfl
theorem ed_w3_234 : Cond.instanceMethod yX8_copyAt ∈ ed_ws := ed_wm3 (i := 234) rfl rfl
theorem ed_w3_235 : Cond.selects RX8 yX8_copyAt yX8_copyAt ∈ ed_ws := ed_wm3 (i := 235) rfl rfl
theorem ed_w3_236 : Cond.code yX8_copyAt cX8_copyAt 3 (some .int) ∈ ed_ws := ed_wm3 (i := 236) rfl rfl
theorem ed_w3_237 : Cond.methodLink RX8 247 yX5_copyMade ∈ ed_ws := ed_wm3 (i := 237) rfl rfl
theorem ed_w3_238 : Cond.methodLink RL 120 yX8_carriedIn ∈ ed_ws := ed_wm3 (i := 238) rfl rfl
theorem ed_w3_239 : Cond.instanceMethod yX8_carriedIn ∈ ed_ws := ed_wm3 (i := 239) rfl rfl
theorem ed_w4_0 : Cond.selects RX8 yX8_carriedIn yX8_carriedIn ∈ ed_ws := ed_wm4 (i := 0) rfl rfl
theorem ed_w4_1 : Cond.code yX8_carriedIn cX8_carriedIn 6 (some .int) ∈ ed_ws := ed_wm4 (i := 1) rfl rfl
theorem ed_w4_2 : Cond.methodLink RL 124 yX8_wouldCome ∈ ed_ws := ed_wm4 (i := 2) rfl rfl
theorem ed_w4_3 : Cond.instanceMethod yX8_wouldCome ∈ ed_ws := ed_wm4 (i := 3) rfl rfl
theorem ed_w4_4 : Cond.selects RX8 yX8_wouldCome yX8_wouldCome ∈ ed_ws := ed_wm4 (i := 4) rfl rfl
theorem ed_w4_5 : Cond.code yX8_wouldCome cX8_wouldCome 6 (some .int) ∈ ed_ws := ed_wm4 (i := 5) rfl rfl
theorem ed_w4_6 : Cond.methodLink RL 128 yX8_event ∈ ed_ws := ed_wm4 (i := 6) rfl rfl
theorem ed_w4_7 : Cond.instanceMethod yX8_event ∈ ed_ws := ed_wm4 (i := 7) rfl rfl
theorem ed_w4_8 : Cond.selects RX8 yX8_event yX8_event ∈ ed_ws := ed_wm4 (i := 8) rfl rfl
theorem ed_w4_9 : Cond.code yX8_event cX8_event 3 (some .int) ∈ ed_ws := ed_wm4 (i := 9) rfl rfl
theorem ed_w4_10 : Cond.methodLink RX8 257 yX3_part ∈ ed_ws := ed_wm4 (i := 10) rfl rfl
theorem ed_w4_11 : Cond.instanceMethod yX3_part ∈ ed_ws := ed_wm4 (i := 11) rfl rfl
theorem ed_w4_12 : Cond.selects RX3 yX3_part yX3_part ∈ ed_ws := ed_wm4 (i := 12) rfl rfl
theorem ed_w4_13 : Cond.code yX3_part cX3_part 4 (some .int) ∈ ed_ws := ed_wm4 (i := 13) rfl rfl
theorem ed_w4_14 : Cond.methodLink RL 132 yX8_count ∈ ed_ws := ed_wm4 (i := 14) rfl rfl
theorem ed_w4_15 : Cond.instanceMethod yX8_count ∈ ed_ws := ed_wm4 (i := 15) rfl rfl
theorem ed_w4_16 : Cond.selects RX8 yX8_count yX8_count ∈ ed_ws := ed_wm4 (i := 16) rfl rfl
theorem ed_w4_17 : Cond.code yX8_count cX8_count 2 (some .int) ∈ ed_ws := ed_wm4 (i := 17) rfl rfl
theorem ed_w4_18 : Cond.methodLink RX8 263 yX5_copiesWithCorrectionsDue ∈ ed_ws := ed_wm4 (i := 18) rfl rfl
theorem ed_w4_19 : Cond.instanceMethod yX5_copiesWithCorrectionsDue ∈ ed_ws := ed_wm4 (i := 19) rfl rfl
theorem ed_w4_20 : Cond.selects RX5 yX5_copiesWithCorrectionsDue yX5_copiesWithCorrectionsDue ∈ ed_ws := ed_wm4 (i := 20) rfl rfl
theorem ed_w4_21 : Cond.code yX5_copiesWithCorrectionsDue cX5_copiesWithCorrectionsDue 4 (some .int) ∈ ed_ws := ed_wm4 (i := 21) rfl rfl
theorem ed_w4_22 : Cond.methodLink RX8 269 yX5_authors ∈ ed_ws := ed_wm4 (i := 22) rfl rfl
theorem ed_w4_23 : Cond.instanceMethod yX5_authors ∈ ed_ws := ed_wm4 (i := 23) rfl rfl
theorem ed_w4_24 : Cond.selects RX5 yX5_authors yX5_authors ∈ ed_ws := ed_wm4 (i := 24) rfl rfl
theorem ed_w4_25 : Cond.code yX5_authors cX5_authors 3 (some .int) ∈ ed_ws := ed_wm4 (i := 25) rfl rfl
theorem ed_w4_26 : Cond.methodLink RX5 263 yX5_storiesBy ∈ ed_ws := ed_wm4 (i := 26) rfl rfl
theorem ed_w4_27 : Cond.classLink RL 10 RX9 ∈ ed_ws := ed_wm4 (i := 27) rfl rfl
theorem ed_w4_28 : Cond.instantiable RX9 11 ∈ ed_ws := ed_wm4 (i := 28) rfl rfl
theorem ed_w4_29 : Cond.methodLink RL 12 yX9_init ∈ ed_ws := ed_wm4 (i := 29) rfl rfl
theorem ed_w4_30 : Cond.instanceMethod yX9_init ∈ ed_ws := ed_wm4 (i := 30) rfl rfl
theorem ed_w4_31 : Cond.code yX9_init cX9_init 1 none ∈ ed_ws := ed_wm4 (i := 31) rfl rfl
theorem ed_w4_32 : Cond.methodLink RX9 1 objectInit ∈ ed_ws := ed_wm4 (i := 32) rfl rfl
theorem ed_w4_33 : Cond.fieldLink RX9 7 "EmbargoDeskModel" "v" "[I" ∈ ed_ws := ed_wm4 (i := 33) rfl rfl
theorem ed_w4_34 : Cond.fieldLink RX9 13 "EmbargoDeskModel" "spare" "[I" ∈ ed_ws := ed_wm4 (i := 34) rfl rfl
theorem ed_w4_35 : Cond.fieldLink RX9 16 "EmbargoDeskModel" "history" "[I" ∈ ed_ws := ed_wm4 (i := 35) rfl rfl
theorem ed_w4_36 : Cond.fieldLink RX9 28 "EmbargoDeskModel" "states" "I" ∈ ed_ws := ed_wm4 (i := 36) rfl rfl
theorem ed_w4_37 : Cond.fieldLink RX9 19 "EmbargoDeskModel" "kept" "[I" ∈ ed_ws := ed_wm4 (i := 37) rfl rfl
theorem ed_w4_38 : Cond.fieldLink RX9 138 "EmbargoDeskModel" "isKept" "Z" ∈ ed_ws := ed_wm4 (i := 38) rfl rfl
theorem ed_w4_39 : Cond.fieldLink RX9 22 "EmbargoDeskModel" "text" "[I" ∈ ed_ws := ed_wm4 (i := 39) rfl rfl
theorem ed_w4_40 : Cond.fieldLink RX9 99 "EmbargoDeskModel" "length" "I" ∈ ed_ws := ed_wm4 (i := 40) rfl rfl
theorem ed_w4_41 : Cond.fieldLink RX9 102 "EmbargoDeskModel" "place" "I" ∈ ed_ws := ed_wm4 (i := 41) rfl rfl
theorem ed_w4_42 : Cond.fieldLink RX9 25 "EmbargoDeskModel" "read" "[I" ∈ ed_ws := ed_wm4 (i := 42) rfl rfl
theorem ed_w4_43 : Cond.fieldLink RX9 105 "EmbargoDeskModel" "digit" "I" ∈ ed_ws := ed_wm4 (i := 43) rfl rfl
theorem ed_w4_44 : Cond.laysFinal "EmbargoDeskModel" "EmbargoDeskModel" "v" "[I" ∈ ed_ws := ed_wm4 (i := 44) rfl rfl
theorem ed_w4_46 : Cond.laysFinal "EmbargoDeskModel" "EmbargoDeskModel" "spare" "[I" ∈ ed_ws := ed_wm4 (i := 46) rfl rfl
theorem ed_w4_48 : Cond.laysFinal "EmbargoDeskModel" "EmbargoDeskModel" "history" "[I" ∈ ed_ws := ed_wm4 (i := 48) rfl rfl
theorem ed_w4_50 : Cond.lays "EmbargoDeskModel" "EmbargoDeskModel" "states" "I" ∈ ed_ws := ed_wm4 (i := 50) rfl rfl
theorem ed_w4_52 : Cond.laysFinal "EmbargoDeskModel" "EmbargoDeskModel" "kept" "[I" ∈ ed_ws := ed_wm4 (i := 52) rfl rfl
theorem ed_w4_54 : Cond.lays "EmbargoDeskModel" "EmbargoDeskModel" "isKept" "Z" ∈ ed_ws := ed_wm4 (i := 54) rfl rfl
theorem ed_w4_56 : Cond.laysFinal "EmbargoDeskModel" "EmbargoDeskModel" "text" "[I" ∈ ed_ws := ed_wm4 (i := 56) rfl rfl
theorem ed_w4_58 : Cond.lays "EmbargoDeskModel" "EmbargoDeskModel" "length" "I" ∈ ed_ws := ed_wm4 (i := 58) rfl rfl
theorem ed_w4_60 : Cond.lays "EmbargoDeskModel" "EmbargoDeskModel" "place" "I" ∈ ed_ws := ed_wm4 (i := 60) rfl rfl
theorem ed_w4_62 : Cond.laysFinal "EmbargoDeskModel" "EmbargoDeskModel" "read" "[I" ∈ ed_ws := ed_wm4 (i := 62) rfl rfl
theorem ed_w4_64 : Cond.lays "EmbargoDeskModel" "EmbargoDeskModel" "digit" "I" ∈ ed_ws := ed_wm4 (i := 64) rfl rfl
theorem ed_w4_67 : Cond.methodLink RL 17 yX9_addClient ∈ ed_ws := ed_wm4 (i := 67) rfl rfl
theorem ed_w4_68 : Cond.instanceMethod yX9_addClient ∈ ed_ws := ed_wm4 (i := 68) rfl rfl
theorem ed_w4_69 : Cond.selects RX9 yX9_addClient yX9_addClient ∈ ed_ws := ed_wm4 (i := 69) rfl rfl
theorem ed_w4_70 : Cond.code yX9_addClient cX9_addClient 7 (some .int) ∈ ed_ws := ed_wm4 (i := 70) rfl rfl
theorem ed_w4_71 : Cond.methodLink RX9 32 yX9_in ∈ ed_ws := ed_wm4 (i := 71) rfl rfl
theorem ed_w4_72 : Cond.static yX9_in ∈ ed_ws := ed_wm4 (i := 72) rfl rfl
theorem ed_w4_73 : Cond.code yX9_in cX9_in 3 (some .boolean) ∈ ed_ws := ed_wm4 (i := 73) rfl rfl
theorem ed_w4_74 : Cond.constant RX9 88 (2000000000) ∈ ed_ws := ed_wm4 (i := 74) rfl rfl
theorem ed_w4_75 : Cond.methodLink RX9 89 yX9_record ∈ ed_ws := ed_wm4 (i := 75) rfl rfl
theorem ed_w4_77 : Cond.instanceMethod yX9_record ∈ ed_ws := ed_wm4 (i := 77) rfl rfl
theorem ed_w4_78 : Cond.code yX9_record cX9_record 2 none ∈ ed_ws := ed_wm4 (i := 78) rfl rfl
theorem ed_w4_79 : Cond.methodLink RX9 36 yX9_clientAt ∈ ed_ws := ed_wm4 (i := 79) rfl rfl
theorem ed_w4_80 : Cond.static yX9_clientAt ∈ ed_ws := ed_wm4 (i := 80) rfl rfl
theorem ed_w4_81 : Cond.code yX9_clientAt cX9_clientAt 2 (some .int) ∈ ed_ws := ed_wm4 (i := 81) rfl rfl
theorem ed_w4_82 : Cond.methodLink RL 22 yX9_setTopics ∈ ed_ws := ed_wm4 (i := 82) rfl rfl
theorem ed_w4_83 : Cond.instanceMethod yX9_setTopics ∈ ed_ws := ed_wm4 (i := 83) rfl rfl
theorem ed_w4_84 : Cond.selects RX9 yX9_setTopics yX9_setTopics ∈ ed_ws := ed_wm4 (i := 84) rfl rfl
theorem ed_w4_85 : Cond.code yX9_setTopics cX9_setTopics 3 (some .int) ∈ ed_ws := ed_wm4 (i := 85) rfl rfl
theorem ed_w4_86 : Cond.methodLink RX9 92 yX9_isClient ∈ ed_ws := ed_wm4 (i := 86) rfl rfl
theorem ed_w4_88 : Cond.instanceMethod yX9_isClient ∈ ed_ws := ed_wm4 (i := 88) rfl rfl
theorem ed_w4_89 : Cond.code yX9_isClient cX9_isClient 2 (some .boolean) ∈ ed_ws := ed_wm4 (i := 89) rfl rfl
theorem ed_w4_90 : Cond.methodLink RX9 96 yX9_becomes ∈ ed_ws := ed_wm4 (i := 90) rfl rfl
theorem ed_w4_92 : Cond.instanceMethod yX9_becomes ∈ ed_ws := ed_wm4 (i := 92) rfl rfl
theorem ed_w4_93 : Cond.code yX9_becomes cX9_becomes 4 (some .int) ∈ ed_ws := ed_wm4 (i := 93) rfl rfl
theorem ed_w4_94 : Cond.methodLink RL 27 yX9_setUp ∈ ed_ws := ed_wm4 (i := 94) rfl rfl
theorem ed_w4_95 : Cond.instanceMethod yX9_setUp ∈ ed_ws := ed_wm4 (i := 95) rfl rfl
theorem ed_w4_96 : Cond.selects RX9 yX9_setUp yX9_setUp ∈ ed_ws := ed_wm4 (i := 96) rfl rfl
theorem ed_w4_97 : Cond.code yX9_setUp cX9_setUp 5 (some .int) ∈ ed_ws := ed_wm4 (i := 97) rfl rfl
theorem ed_w4_98 : Cond.methodLink RX9 65 yX9_ofCopy ∈ ed_ws := ed_wm4 (i := 98) rfl rfl
theorem ed_w4_100 : Cond.instanceMethod yX9_ofCopy ∈ ed_ws := ed_wm4 (i := 100) rfl rfl
theorem ed_w4_101 : Cond.code yX9_ofCopy cX9_ofCopy 3 (some .int) ∈ ed_ws := ed_wm4 (i := 101) rfl rfl
theorem ed_w4_102 : Cond.methodLink RX9 43 yX9_atCopy ∈ ed_ws := ed_wm4 (i := 102) rfl rfl
theorem ed_w4_103 : Cond.static yX9_atCopy ∈ ed_ws := ed_wm4 (i := 103) rfl rfl
theorem ed_w4_104 : Cond.code yX9_atCopy cX9_atCopy 2 (some .int) ∈ ed_ws := ed_wm4 (i := 104) rfl rfl
theorem ed_w4_105 : Cond.methodLink RL 32 yX9_setUse ∈ ed_ws := ed_wm4 (i := 105) rfl rfl
theorem ed_w4_106 : Cond.instanceMethod yX9_setUse ∈ ed_ws := ed_wm4 (i := 106) rfl rfl
theorem ed_w4_107 : Cond.selects RX9 yX9_setUse yX9_setUse ∈ ed_ws := ed_wm4 (i := 107) rfl rfl
theorem ed_w4_108 : Cond.code yX9_setUse cX9_setUse 2 (some .int) ∈ ed_ws := ed_wm4 (i := 108) rfl rfl
theorem ed_w4_109 : Cond.methodLink RL 36 yX9_pay ∈ ed_ws := ed_wm4 (i := 109) rfl rfl
theorem ed_w4_110 : Cond.instanceMethod yX9_pay ∈ ed_ws := ed_wm4 (i := 110) rfl rfl
theorem ed_w4_111 : Cond.selects RX9 yX9_pay yX9_pay ∈ ed_ws := ed_wm4 (i := 111) rfl rfl
theorem ed_w4_112 : Cond.code yX9_pay cX9_pay 3 (some .int) ∈ ed_ws := ed_wm4 (i := 112) rfl rfl
theorem ed_w4_113 : Cond.methodLink RX9 46 yX9_ofClient ∈ ed_ws := ed_wm4 (i := 113) rfl rfl
theorem ed_w4_115 : Cond.instanceMethod yX9_ofClient ∈ ed_ws := ed_wm4 (i := 115) rfl rfl
theorem ed_w4_116 : Cond.code yX9_ofClient cX9_ofClient 3 (some .int) ∈ ed_ws := ed_wm4 (i := 116) rfl rfl
theorem ed_w4_117 : Cond.methodLink RL 70 yX9_type ∈ ed_ws := ed_wm4 (i := 117) rfl rfl
theorem ed_w4_118 : Cond.instanceMethod yX9_type ∈ ed_ws := ed_wm4 (i := 118) rfl rfl
theorem ed_w4_119 : Cond.selects RX9 yX9_type yX9_type ∈ ed_ws := ed_wm4 (i := 119) rfl rfl
theorem ed_w4_120 : Cond.code yX9_type cX9_type 2 (some .int) ∈ ed_ws := ed_wm4 (i := 120) rfl rfl
theorem ed_w4_121 : Cond.methodLink RL 74 yX9_clearText ∈ ed_ws := ed_wm4 (i := 121) rfl rfl
theorem ed_w4_122 : Cond.instanceMethod yX9_clearText ∈ ed_ws := ed_wm4 (i := 122) rfl rfl
theorem ed_w4_123 : Cond.selects RX9 yX9_clearText yX9_clearText ∈ ed_ws := ed_wm4 (i := 123) rfl rfl
theorem ed_w4_124 : Cond.code yX9_clearText cX9_clearText 2 (some .int) ∈ ed_ws := ed_wm4 (i := 124) rfl rfl
theorem ed_w4_125 : Cond.methodLink RL 41 yX9_readStory ∈ ed_ws := ed_wm4 (i := 125) rfl rfl
theorem ed_w4_126 : Cond.instanceMethod yX9_readStory ∈ ed_ws := ed_wm4 (i := 126) rfl rfl
theorem ed_w4_127 : Cond.selects RX9 yX9_readStory yX9_readStory ∈ ed_ws := ed_wm4 (i := 127) rfl rfl
theorem ed_w4_128 : Cond.code yX9_readStory cX9_readStory 3 (some .int) ∈ ed_ws := ed_wm4 (i := 128) rfl rfl
theorem ed_w4_129 : Cond.methodLink RX9 124 yX9_readText ∈ ed_ws := ed_wm4 (i := 129) rfl rfl
theorem ed_w4_131 : Cond.instanceMethod yX9_readText ∈ ed_ws := ed_wm4 (i := 131) rfl rfl
theorem ed_w4_132 : Cond.code yX9_readText cX9_readText 2 (some .boolean) ∈ ed_ws := ed_wm4 (i := 132) rfl rfl
theorem ed_w4_133 : Cond.methodLink RX9 108 yX9_digitTo ∈ ed_ws := ed_wm4 (i := 133) rfl rfl
theorem ed_w4_135 : Cond.instanceMethod yX9_digitTo ∈ ed_ws := ed_wm4 (i := 135) rfl rfl
theorem ed_w4_136 : Cond.code yX9_digitTo cX9_digitTo 3 (some .boolean) ∈ ed_ws := ed_wm4 (i := 136) rfl rfl
theorem ed_w4_137 : Cond.methodLink RX9 111 yX9_sign ∈ ed_ws := ed_wm4 (i := 137) rfl rfl
theorem ed_w4_139 : Cond.instanceMethod yX9_sign ∈ ed_ws := ed_wm4 (i := 139) rfl rfl
theorem ed_w4_140 : Cond.code yX9_sign cX9_sign 3 (some .boolean) ∈ ed_ws := ed_wm4 (i := 140) rfl rfl
theorem ed_w4_141 : Cond.methodLink RX9 114 yX9_readPersons ∈ ed_ws := ed_wm4 (i := 141) rfl rfl
theorem ed_w4_143 : Cond.instanceMethod yX9_readPersons ∈ ed_ws := ed_wm4 (i := 143) rfl rfl
theorem ed_w4_144 : Cond.code yX9_readPersons cX9_readPersons 5 (some .boolean) ∈ ed_ws := ed_wm4 (i := 144) rfl rfl
theorem ed_w4_145 : Cond.methodLink RX9 118 yX9_readHour ∈ ed_ws := ed_wm4 (i := 145) rfl rfl
theorem ed_w4_147 : Cond.instanceMethod yX9_readHour ∈ ed_ws := ed_wm4 (i := 147) rfl rfl
theorem ed_w4_148 : Cond.code yX9_readHour cX9_readHour 3 (some .boolean) ∈ ed_ws := ed_wm4 (i := 148) rfl rfl
theorem ed_w4_149 : Cond.methodLink RX9 121 yX9_readSlug ∈ ed_ws := ed_wm4 (i := 149) rfl rfl
theorem ed_w4_151 : Cond.instanceMethod yX9_readSlug ∈ ed_ws := ed_wm4 (i := 151) rfl rfl
theorem ed_w4_152 : Cond.code yX9_readSlug cX9_readSlug 2 (some .boolean) ∈ ed_ws := ed_wm4 (i := 152) rfl rfl
theorem ed_w4_153 : Cond.methodLink RX9 40 yX9_storyAt ∈ ed_ws := ed_wm4 (i := 153) rfl rfl
theorem ed_w4_154 : Cond.static yX9_storyAt ∈ ed_ws := ed_wm4 (i := 154) rfl rfl
theorem ed_w4_155 : Cond.code yX9_storyAt cX9_storyAt 2 (some .int) ∈ ed_ws := ed_wm4 (i := 155) rfl rfl
theorem ed_w4_156 : Cond.methodLink RL 45 yX9_release ∈ ed_ws := ed_wm4 (i := 156) rfl rfl
theorem ed_w4_157 : Cond.instanceMethod yX9_release ∈ ed_ws := ed_wm4 (i := 157) rfl rfl
theorem ed_w4_158 : Cond.selects RX9 yX9_release yX9_release ∈ ed_ws := ed_wm4 (i := 158) rfl rfl
theorem ed_w4_159 : Cond.code yX9_release cX9_release 4 (some .int) ∈ ed_ws := ed_wm4 (i := 159) rfl rfl
theorem ed_w4_160 : Cond.methodLink RX9 127 yX9_isStory ∈ ed_ws := ed_wm4 (i := 160) rfl rfl
theorem ed_w4_162 : Cond.instanceMethod yX9_isStory ∈ ed_ws := ed_wm4 (i := 162) rfl rfl
theorem ed_w4_163 : Cond.code yX9_isStory cX9_isStory 2 (some .boolean) ∈ ed_ws := ed_wm4 (i := 163) rfl rfl
theorem ed_w4_164 : Cond.methodLink RX9 49 yX9_ofStory ∈ ed_ws := ed_wm4 (i := 164) rfl rfl
theorem ed_w4_166 : Cond.instanceMethod yX9_ofStory ∈ ed_ws := ed_wm4 (i := 166) rfl rfl
theorem ed_w4_167 : Cond.code yX9_ofStory cX9_ofStory 3 (some .int) ∈ ed_ws := ed_wm4 (i := 167) rfl rfl
theorem ed_w4_168 : Cond.methodLink RX9 56 yX9_wants ∈ ed_ws := ed_wm4 (i := 168) rfl rfl
theorem ed_w4_170 : Cond.instanceMethod yX9_wants ∈ ed_ws := ed_wm4 (i := 170) rfl rfl
theorem ed_w4_171 : Cond.code yX9_wants cX9_wants 3 (some .boolean) ∈ ed_ws := ed_wm4 (i := 171) rfl rfl
theorem ed_w4_172 : Cond.methodLink RL 49 yX9_hold ∈ ed_ws := ed_wm4 (i := 172) rfl rfl
theorem ed_w4_173 : Cond.instanceMethod yX9_hold ∈ ed_ws := ed_wm4 (i := 173) rfl rfl
theorem ed_w4_174 : Cond.selects RX9 yX9_hold yX9_hold ∈ ed_ws := ed_wm4 (i := 174) rfl rfl
theorem ed_w4_175 : Cond.code yX9_hold cX9_hold 3 (some .int) ∈ ed_ws := ed_wm4 (i := 175) rfl rfl
theorem ed_w4_176 : Cond.methodLink RL 53 yX9_setEmbargo ∈ ed_ws := ed_wm4 (i := 176) rfl rfl
theorem ed_w4_177 : Cond.instanceMethod yX9_setEmbargo ∈ ed_ws := ed_wm4 (i := 177) rfl rfl
theorem ed_w4_178 : Cond.selects RX9 yX9_setEmbargo yX9_setEmbargo ∈ ed_ws := ed_wm4 (i := 178) rfl rfl
theorem ed_w4_179 : Cond.code yX9_setEmbargo cX9_setEmbargo 3 (some .int) ∈ ed_ws := ed_wm4 (i := 179) rfl rfl
theorem ed_w4_180 : Cond.methodLink RL 57 yX9_correct ∈ ed_ws := ed_wm4 (i := 180) rfl rfl
theorem ed_w4_181 : Cond.instanceMethod yX9_correct ∈ ed_ws := ed_wm4 (i := 181) rfl rfl
theorem ed_w4_182 : Cond.selects RX9 yX9_correct yX9_correct ∈ ed_ws := ed_wm4 (i := 182) rfl rfl
theorem ed_w4_183 : Cond.code yX9_correct cX9_correct 2 (some .int) ∈ ed_ws := ed_wm4 (i := 183) rfl rfl
theorem ed_w4_184 : Cond.methodLink RX9 52 yX9_log ∈ ed_ws := ed_wm4 (i := 184) rfl rfl
theorem ed_w4_186 : Cond.instanceMethod yX9_log ∈ ed_ws := ed_wm4 (i := 186) rfl rfl
theorem ed_w4_187 : Cond.code yX9_log cX9_log 5 none ∈ ed_ws := ed_wm4 (i := 187) rfl rfl
theorem ed_w4_188 : Cond.methodLink RL 61 yX9_kill ∈ ed_ws := ed_wm4 (i := 188) rfl rfl
theorem ed_w4_189 : Cond.instanceMethod yX9_kill ∈ ed_ws := ed_wm4 (i := 189) rfl rfl
theorem ed_w4_190 : Cond.selects RX9 yX9_kill yX9_kill ∈ ed_ws := ed_wm4 (i := 190) rfl rfl
theorem ed_w4_191 : Cond.code yX9_kill cX9_kill 2 (some .int) ∈ ed_ws := ed_wm4 (i := 191) rfl rfl
theorem ed_w4_192 : Cond.methodLink RX9 130 yX9_inUse ∈ ed_ws := ed_wm4 (i := 192) rfl rfl
theorem ed_w4_194 : Cond.instanceMethod yX9_inUse ∈ ed_ws := ed_wm4 (i := 194) rfl rfl
theorem ed_w4_195 : Cond.code yX9_inUse cX9_inUse 5 (some .int) ∈ ed_ws := ed_wm4 (i := 195) rfl rfl
theorem ed_w4_196 : Cond.methodLink RL 65 yX9_pass ∈ ed_ws := ed_wm4 (i := 196) rfl rfl
theorem ed_w4_197 : Cond.instanceMethod yX9_pass ∈ ed_ws := ed_wm4 (i := 197) rfl rfl
theorem ed_w4_198 : Cond.selects RX9 yX9_pass yX9_pass ∈ ed_ws := ed_wm4 (i := 198) rfl rfl
theorem ed_w4_199 : Cond.code yX9_pass cX9_pass 4 (some .int) ∈ ed_ws := ed_wm4 (i := 199) rfl rfl
theorem ed_w4_200 : Cond.methodLink RX9 134 yX9_oneHour ∈ ed_ws := ed_wm4 (i := 200) rfl rfl
theorem ed_w4_202 : Cond.instanceMethod yX9_oneHour ∈ ed_ws := ed_wm4 (i := 202) rfl rfl
theorem ed_w4_203 : Cond.code yX9_oneHour cX9_oneHour 3 (some .int) ∈ ed_ws := ed_wm4 (i := 203) rfl rfl
theorem ed_w4_204 : Cond.methodLink RX9 81 yX9_publish ∈ ed_ws := ed_wm4 (i := 204) rfl rfl
theorem ed_w4_206 : Cond.instanceMethod yX9_publish ∈ ed_ws := ed_wm4 (i := 206) rfl rfl
theorem ed_w4_207 : Cond.code yX9_publish cX9_publish 4 none ∈ ed_ws := ed_wm4 (i := 207) rfl rfl
theorem ed_w4_208 : Cond.methodLink RX9 85 yX9_goOn ∈ ed_ws := ed_wm4 (i := 208) rfl rfl
theorem ed_w4_210 : Cond.instanceMethod yX9_goOn ∈ ed_ws := ed_wm4 (i := 210) rfl rfl
theorem ed_w4_211 : Cond.code yX9_goOn cX9_goOn 6 (some .int) ∈ ed_ws := ed_wm4 (i := 211) rfl rfl
theorem ed_w4_212 : Cond.methodLink RX9 68 yX9_bill ∈ ed_ws := ed_wm4 (i := 212) rfl rfl
theorem ed_w4_214 : Cond.instanceMethod yX9_bill ∈ ed_ws := ed_wm4 (i := 214) rfl rfl
theorem ed_w4_215 : Cond.code yX9_bill cX9_bill 6 none ∈ ed_ws := ed_wm4 (i := 215) rfl rfl
theorem ed_w4_216 : Cond.constant RX9 60 (2147483647) ∈ ed_ws := ed_wm4 (i := 216) rfl rfl
theorem ed_w4_217 : Cond.methodLink RX9 61 yX9_share ∈ ed_ws := ed_wm4 (i := 217) rfl rfl
theorem ed_w4_219 : Cond.instanceMethod yX9_share ∈ ed_ws := ed_wm4 (i := 219) rfl rfl
theorem ed_w4_220 : Cond.code yX9_share cX9_share 4 none ∈ ed_ws := ed_wm4 (i := 220) rfl rfl
theorem ed_w4_221 : Cond.methodLink RX9 71 yX9_useEnds ∈ ed_ws := ed_wm4 (i := 221) rfl rfl
theorem ed_w4_223 : Cond.instanceMethod yX9_useEnds ∈ ed_ws := ed_wm4 (i := 223) rfl rfl
theorem ed_w4_224 : Cond.code yX9_useEnds cX9_useEnds 2 (some .int) ∈ ed_ws := ed_wm4 (i := 224) rfl rfl
theorem ed_w4_225 : Cond.methodLink RX9 75 yX9_killDue ∈ ed_ws := ed_wm4 (i := 225) rfl rfl
theorem ed_w4_227 : Cond.instanceMethod yX9_killDue ∈ ed_ws := ed_wm4 (i := 227) rfl rfl
theorem ed_w4_228 : Cond.code yX9_killDue cX9_killDue 2 (some .int) ∈ ed_ws := ed_wm4 (i := 228) rfl rfl
theorem ed_w4_229 : Cond.methodLink RX9 78 yX9_correctionDue ∈ ed_ws := ed_wm4 (i := 229) rfl rfl
theorem ed_w4_231 : Cond.instanceMethod yX9_correctionDue ∈ ed_ws := ed_wm4 (i := 231) rfl rfl
theorem ed_w4_232 : Cond.code yX9_correctionDue cX9_correctionDue 3 (some .int) ∈ ed_ws := ed_wm4 (i := 232) rfl rfl
theorem ed_w4_233 : Cond.methodLink RL 78 yX9_undo ∈ ed_ws := ed_wm4 (i := 233) rfl rfl
theorem ed_w4_234 : Cond.instanceMethod yX9_undo ∈ ed_ws := ed_wm4 (i := 234) rfl rfl
theorem ed_w4_235 : Cond.selects RX9 yX9_undo yX9_undo ∈ ed_ws := ed_wm4 (i := 235) rfl rfl
theorem ed_w4_236 : Cond.code yX9_undo cX9_undo 2 (some .int) ∈ ed_ws := ed_wm4 (i := 236) rfl rfl
theorem ed_w4_237 : Cond.methodLink RL 82 yX9_keep ∈ ed_ws := ed_wm4 (i := 237) rfl rfl
theorem ed_w4_238 : Cond.instanceMethod yX9_keep ∈ ed_ws := ed_wm4 (i := 238) rfl rfl
theorem ed_w4_239 : Cond.selects RX9 yX9_keep yX9_keep ∈ ed_ws := ed_wm4 (i := 239) rfl rfl
theorem ed_w5_0 : Cond.code yX9_keep cX9_keep 2 (some .int) ∈ ed_ws := ed_wm5 (i := 0) rfl rfl
theorem ed_w5_1 : Cond.methodLink RL 86 yX9_restore ∈ ed_ws := ed_wm5 (i := 1) rfl rfl
theorem ed_w5_2 : Cond.instanceMethod yX9_restore ∈ ed_ws := ed_wm5 (i := 2) rfl rfl
theorem ed_w5_3 : Cond.selects RX9 yX9_restore yX9_restore ∈ ed_ws := ed_wm5 (i := 3) rfl rfl
theorem ed_w5_4 : Cond.code yX9_restore cX9_restore 2 (some .int) ∈ ed_ws := ed_wm5 (i := 4) rfl rfl
theorem ed_w5_5 : Cond.methodLink RL 90 yX9_story ∈ ed_ws := ed_wm5 (i := 5) rfl rfl
theorem ed_w5_6 : Cond.instanceMethod yX9_story ∈ ed_ws := ed_wm5 (i := 6) rfl rfl
theorem ed_w5_7 : Cond.selects RX9 yX9_story yX9_story ∈ ed_ws := ed_wm5 (i := 7) rfl rfl
theorem ed_w5_8 : Cond.code yX9_story cX9_story 5 (some .int) ∈ ed_ws := ed_wm5 (i := 8) rfl rfl
theorem ed_w5_9 : Cond.methodLink RL 94 yX9_byline ∈ ed_ws := ed_wm5 (i := 9) rfl rfl
theorem ed_w5_10 : Cond.instanceMethod yX9_byline ∈ ed_ws := ed_wm5 (i := 10) rfl rfl
theorem ed_w5_11 : Cond.selects RX9 yX9_byline yX9_byline ∈ ed_ws := ed_wm5 (i := 11) rfl rfl
theorem ed_w5_12 : Cond.code yX9_byline cX9_byline 3 (some .int) ∈ ed_ws := ed_wm5 (i := 12) rfl rfl
theorem ed_w5_13 : Cond.methodLink RX9 142 yX9_rowOf ∈ ed_ws := ed_wm5 (i := 13) rfl rfl
theorem ed_w5_15 : Cond.instanceMethod yX9_rowOf ∈ ed_ws := ed_wm5 (i := 15) rfl rfl
theorem ed_w5_16 : Cond.code yX9_rowOf cX9_rowOf 5 (some .int) ∈ ed_ws := ed_wm5 (i := 16) rfl rfl
theorem ed_w5_17 : Cond.methodLink RL 98 yX9_slugChar ∈ ed_ws := ed_wm5 (i := 17) rfl rfl
theorem ed_w5_18 : Cond.instanceMethod yX9_slugChar ∈ ed_ws := ed_wm5 (i := 18) rfl rfl
theorem ed_w5_19 : Cond.selects RX9 yX9_slugChar yX9_slugChar ∈ ed_ws := ed_wm5 (i := 19) rfl rfl
theorem ed_w5_20 : Cond.code yX9_slugChar cX9_slugChar 3 (some .int) ∈ ed_ws := ed_wm5 (i := 20) rfl rfl
theorem ed_w5_21 : Cond.methodLink RL 102 yX9_correction ∈ ed_ws := ed_wm5 (i := 21) rfl rfl
theorem ed_w5_22 : Cond.instanceMethod yX9_correction ∈ ed_ws := ed_wm5 (i := 22) rfl rfl
theorem ed_w5_23 : Cond.selects RX9 yX9_correction yX9_correction ∈ ed_ws := ed_wm5 (i := 23) rfl rfl
theorem ed_w5_24 : Cond.code yX9_correction cX9_correction 3 (some .int) ∈ ed_ws := ed_wm5 (i := 24) rfl rfl
theorem ed_w5_25 : Cond.methodLink RL 106 yX9_client ∈ ed_ws := ed_wm5 (i := 25) rfl rfl
theorem ed_w5_26 : Cond.instanceMethod yX9_client ∈ ed_ws := ed_wm5 (i := 26) rfl rfl
theorem ed_w5_27 : Cond.selects RX9 yX9_client yX9_client ∈ ed_ws := ed_wm5 (i := 27) rfl rfl
theorem ed_w5_28 : Cond.code yX9_client cX9_client 3 (some .int) ∈ ed_ws := ed_wm5 (i := 28) rfl rfl
theorem ed_w5_29 : Cond.methodLink RX9 146 yX9_inUseFor ∈ ed_ws := ed_wm5 (i := 29) rfl rfl
theorem ed_w5_31 : Cond.instanceMethod yX9_inUseFor ∈ ed_ws := ed_wm5 (i := 31) rfl rfl
theorem ed_w5_32 : Cond.code yX9_inUseFor cX9_inUseFor 4 (some .int) ∈ ed_ws := ed_wm5 (i := 32) rfl rfl
theorem ed_w5_33 : Cond.methodLink RL 110 yX9_person ∈ ed_ws := ed_wm5 (i := 33) rfl rfl
theorem ed_w5_34 : Cond.instanceMethod yX9_person ∈ ed_ws := ed_wm5 (i := 34) rfl rfl
theorem ed_w5_35 : Cond.selects RX9 yX9_person yX9_person ∈ ed_ws := ed_wm5 (i := 35) rfl rfl
theorem ed_w5_36 : Cond.code yX9_person cX9_person 6 (some .int) ∈ ed_ws := ed_wm5 (i := 36) rfl rfl
theorem ed_w5_37 : Cond.methodLink RX9 149 yX9_wrote ∈ ed_ws := ed_wm5 (i := 37) rfl rfl
theorem ed_w5_39 : Cond.instanceMethod yX9_wrote ∈ ed_ws := ed_wm5 (i := 39) rfl rfl
theorem ed_w5_40 : Cond.code yX9_wrote cX9_wrote 5 (some .boolean) ∈ ed_ws := ed_wm5 (i := 40) rfl rfl
theorem ed_w5_41 : Cond.methodLink RL 115 yX9_copy ∈ ed_ws := ed_wm5 (i := 41) rfl rfl
theorem ed_w5_42 : Cond.instanceMethod yX9_copy ∈ ed_ws := ed_wm5 (i := 42) rfl rfl
theorem ed_w5_43 : Cond.selects RX9 yX9_copy yX9_copy ∈ ed_ws := ed_wm5 (i := 43) rfl rfl
theorem ed_w5_44 : Cond.code yX9_copy cX9_copy 7 (some .int) ∈ ed_ws := ed_wm5 (i := 44) rfl rfl
theorem ed_w5_45 : Cond.methodLink RX9 152 yX9_copyOf ∈ ed_ws := ed_wm5 (i := 45) rfl rfl
theorem ed_w5_47 : Cond.instanceMethod yX9_copyOf ∈ ed_ws := ed_wm5 (i := 47) rfl rfl
theorem ed_w5_48 : Cond.code yX9_copyOf cX9_copyOf 5 (some .int) ∈ ed_ws := ed_wm5 (i := 48) rfl rfl
theorem ed_w5_49 : Cond.methodLink RX9 155 yX9_dueNow ∈ ed_ws := ed_wm5 (i := 49) rfl rfl
theorem ed_w5_51 : Cond.instanceMethod yX9_dueNow ∈ ed_ws := ed_wm5 (i := 51) rfl rfl
theorem ed_w5_52 : Cond.code yX9_dueNow cX9_dueNow 4 (some .int) ∈ ed_ws := ed_wm5 (i := 52) rfl rfl
theorem ed_w5_53 : Cond.methodLink RL 119 yX9_copyAt ∈ ed_ws := ed_wm5 (i := 53) rfl rfl
theorem ed_w5_54 : Cond.instanceMethod yX9_copyAt ∈ ed_ws := ed_wm5 (i := 54) rfl rfl
theorem ed_w5_55 : Cond.selects RX9 yX9_copyAt yX9_copyAt ∈ ed_ws := ed_wm5 (i := 55) rfl rfl
theorem ed_w5_56 : Cond.code yX9_copyAt cX9_copyAt 2 (some .int) ∈ ed_ws := ed_wm5 (i := 56) rfl rfl
theorem ed_w5_57 : Cond.methodLink RL 123 yX9_carriedIn ∈ ed_ws := ed_wm5 (i := 57) rfl rfl
theorem ed_w5_58 : Cond.instanceMethod yX9_carriedIn ∈ ed_ws := ed_wm5 (i := 58) rfl rfl
theorem ed_w5_59 : Cond.selects RX9 yX9_carriedIn yX9_carriedIn ∈ ed_ws := ed_wm5 (i := 59) rfl rfl
theorem ed_w5_60 : Cond.code yX9_carriedIn cX9_carriedIn 5 (some .int) ∈ ed_ws := ed_wm5 (i := 60) rfl rfl
theorem ed_w5_61 : Cond.methodLink RX9 158 yX9_setAside ∈ ed_ws := ed_wm5 (i := 61) rfl rfl
theorem ed_w5_63 : Cond.instanceMethod yX9_setAside ∈ ed_ws := ed_wm5 (i := 63) rfl rfl
theorem ed_w5_64 : Cond.code yX9_setAside cX9_setAside 2 none ∈ ed_ws := ed_wm5 (i := 64) rfl rfl
theorem ed_w5_65 : Cond.methodLink RX9 161 yX9_bringBack ∈ ed_ws := ed_wm5 (i := 65) rfl rfl
theorem ed_w5_67 : Cond.instanceMethod yX9_bringBack ∈ ed_ws := ed_wm5 (i := 67) rfl rfl
theorem ed_w5_68 : Cond.code yX9_bringBack cX9_bringBack 2 none ∈ ed_ws := ed_wm5 (i := 68) rfl rfl
theorem ed_w5_69 : Cond.methodLink RL 127 yX9_wouldCome ∈ ed_ws := ed_wm5 (i := 69) rfl rfl
theorem ed_w5_70 : Cond.instanceMethod yX9_wouldCome ∈ ed_ws := ed_wm5 (i := 70) rfl rfl
theorem ed_w5_71 : Cond.selects RX9 yX9_wouldCome yX9_wouldCome ∈ ed_ws := ed_wm5 (i := 71) rfl rfl
theorem ed_w5_72 : Cond.code yX9_wouldCome cX9_wouldCome 4 (some .int) ∈ ed_ws := ed_wm5 (i := 72) rfl rfl
theorem ed_w5_73 : Cond.methodLink RL 131 yX9_event ∈ ed_ws := ed_wm5 (i := 73) rfl rfl
theorem ed_w5_74 : Cond.instanceMethod yX9_event ∈ ed_ws := ed_wm5 (i := 74) rfl rfl
theorem ed_w5_75 : Cond.selects RX9 yX9_event yX9_event ∈ ed_ws := ed_wm5 (i := 75) rfl rfl
theorem ed_w5_76 : Cond.code yX9_event cX9_event 5 (some .int) ∈ ed_ws := ed_wm5 (i := 76) rfl rfl
theorem ed_w5_77 : Cond.methodLink RL 135 yX9_count ∈ ed_ws := ed_wm5 (i := 77) rfl rfl
theorem ed_w5_78 : Cond.instanceMethod yX9_count ∈ ed_ws := ed_wm5 (i := 78) rfl rfl
theorem ed_w5_79 : Cond.selects RX9 yX9_count yX9_count ∈ ed_ws := ed_wm5 (i := 79) rfl rfl
theorem ed_w5_80 : Cond.code yX9_count cX9_count 5 (some .int) ∈ ed_ws := ed_wm5 (i := 80) rfl rfl
theorem ed_w5_81 : Cond.methodLink RX9 164 yX9_personsOfAll ∈ ed_ws := ed_wm5 (i := 81) rfl rfl
theorem ed_w5_83 : Cond.instanceMethod yX9_personsOfAll ∈ ed_ws := ed_wm5 (i := 83) rfl rfl
theorem ed_w5_84 : Cond.code yX9_personsOfAll cX9_personsOfAll 5 (some .int) ∈ ed_ws := ed_wm5 (i := 84) rfl rfl
theorem ed_wp_0 : Cond.selects RX2 yX2_dropOldest yX2_dropOldest ∈ ed_ws := ed_wp1 (i := 0) rfl rfl rfl
theorem ed_wp_1 : Cond.selects RX5 yX5_copyStories yX5_copyStories ∈ ed_ws := ed_wp1 (i := 1) rfl rfl rfl
theorem ed_wp_2 : Cond.selects RX5 yX5_copyClients yX5_copyClients ∈ ed_ws := ed_wp1 (i := 2) rfl rfl rfl
theorem ed_wp_3 : Cond.selects RX5 yX5_copyCopies yX5_copyCopies ∈ ed_ws := ed_wp1 (i := 3) rfl rfl rfl
theorem ed_wp_4 : Cond.selects RX5 yX5_copyPersons yX5_copyPersons ∈ ed_ws := ed_wp1 (i := 4) rfl rfl rfl
theorem ed_wp_5 : Cond.selects RX7 yX7_readTopic yX7_readTopic ∈ ed_ws := ed_wp1 (i := 5) rfl rfl rfl
theorem ed_wp_6 : Cond.selects RX7 yX7_digit yX7_digit ∈ ed_ws := ed_wp1 (i := 6) rfl rfl rfl
theorem ed_wp_7 : Cond.selects RX7 yX7_sign yX7_sign ∈ ed_ws := ed_wp1 (i := 7) rfl rfl rfl
theorem ed_wp_8 : Cond.selects RX7 yX7_readSign yX7_readSign ∈ ed_ws := ed_wp1 (i := 8) rfl rfl rfl
theorem ed_wp_9 : Cond.selects RX7 yX7_readByline yX7_readByline ∈ ed_ws := ed_wp1 (i := 9) rfl rfl rfl
theorem ed_wp_10 : Cond.selects RX7 yX7_readPerson yX7_readPerson ∈ ed_ws := ed_wp1 (i := 10) rfl rfl rfl
theorem ed_wp_11 : Cond.selects RX7 yX7_isInByline yX7_isInByline ∈ ed_ws := ed_wp1 (i := 11) rfl rfl rfl
theorem ed_wp_12 : Cond.selects RX7 yX7_readEmbargo yX7_readEmbargo ∈ ed_ws := ed_wp1 (i := 12) rfl rfl rfl
theorem ed_wp_13 : Cond.selects RX7 yX7_readSlug yX7_readSlug ∈ ed_ws := ed_wp1 (i := 13) rfl rfl rfl
theorem ed_wp_14 : Cond.selects RX5 yX5_startDay yX5_startDay ∈ ed_ws := ed_wp1 (i := 14) rfl rfl rfl
theorem ed_wp_15 : Cond.selects RX5 yX5_publish yX5_publish ∈ ed_ws := ed_wp1 (i := 15) rfl rfl rfl
theorem ed_wp_16 : Cond.selects RX5 yX5_planCopy yX5_planCopy ∈ ed_ws := ed_wp2 (i := 0) rfl rfl rfl
theorem ed_wp_17 : Cond.selects RX5 yX5_moveOn yX5_moveOn ∈ ed_ws := ed_wp2 (i := 1) rfl rfl rfl
theorem ed_wp_18 : Cond.selects RX5 yX5_startUse yX5_startUse ∈ ed_ws := ed_wp2 (i := 2) rfl rfl rfl
theorem ed_wp_19 : Cond.selects RX5 yX5_bill yX5_bill ∈ ed_ws := ed_wp2 (i := 3) rfl rfl rfl
theorem ed_wp_20 : Cond.selects RX5 yX5_reach yX5_reach ∈ ed_ws := ed_wp2 (i := 4) rfl rfl rfl
theorem ed_wp_21 : Cond.selects RX9 yX9_record yX9_record ∈ ed_ws := ed_wp2 (i := 5) rfl rfl rfl
theorem ed_wp_22 : Cond.selects RX9 yX9_isClient yX9_isClient ∈ ed_ws := ed_wp2 (i := 6) rfl rfl rfl
theorem ed_wp_23 : Cond.selects RX9 yX9_becomes yX9_becomes ∈ ed_ws := ed_wp2 (i := 7) rfl rfl rfl
theorem ed_wp_24 : Cond.selects RX9 yX9_ofCopy yX9_ofCopy ∈ ed_ws := ed_wp2 (i := 8) rfl rfl rfl
theorem ed_wp_25 : Cond.selects RX9 yX9_ofClient yX9_ofClient ∈ ed_ws := ed_wp2 (i := 9) rfl rfl rfl
theorem ed_wp_26 : Cond.selects RX9 yX9_readText yX9_readText ∈ ed_ws := ed_wp2 (i := 10) rfl rfl rfl
theorem ed_wp_27 : Cond.selects RX9 yX9_digitTo yX9_digitTo ∈ ed_ws := ed_wp2 (i := 11) rfl rfl rfl
theorem ed_wp_28 : Cond.selects RX9 yX9_sign yX9_sign ∈ ed_ws := ed_wp2 (i := 12) rfl rfl rfl
theorem ed_wp_29 : Cond.selects RX9 yX9_readPersons yX9_readPersons ∈ ed_ws := ed_wp2 (i := 13) rfl rfl rfl
theorem ed_wp_30 : Cond.selects RX9 yX9_readHour yX9_readHour ∈ ed_ws := ed_wp2 (i := 14) rfl rfl rfl
theorem ed_wp_31 : Cond.selects RX9 yX9_readSlug yX9_readSlug ∈ ed_ws := ed_wp2 (i := 15) rfl rfl rfl
theorem ed_wp_32 : Cond.selects RX9 yX9_isStory yX9_isStory ∈ ed_ws := ed_wp3 (i := 0) rfl rfl rfl
theorem ed_wp_33 : Cond.selects RX9 yX9_ofStory yX9_ofStory ∈ ed_ws := ed_wp3 (i := 1) rfl rfl rfl
theorem ed_wp_34 : Cond.selects RX9 yX9_wants yX9_wants ∈ ed_ws := ed_wp3 (i := 2) rfl rfl rfl
theorem ed_wp_35 : Cond.selects RX9 yX9_log yX9_log ∈ ed_ws := ed_wp3 (i := 3) rfl rfl rfl
theorem ed_wp_36 : Cond.selects RX9 yX9_inUse yX9_inUse ∈ ed_ws := ed_wp3 (i := 4) rfl rfl rfl
theorem ed_wp_37 : Cond.selects RX9 yX9_oneHour yX9_oneHour ∈ ed_ws := ed_wp3 (i := 5) rfl rfl rfl
theorem ed_wp_38 : Cond.selects RX9 yX9_publish yX9_publish ∈ ed_ws := ed_wp3 (i := 6) rfl rfl rfl
theorem ed_wp_39 : Cond.selects RX9 yX9_goOn yX9_goOn ∈ ed_ws := ed_wp3 (i := 7) rfl rfl rfl
theorem ed_wp_40 : Cond.selects RX9 yX9_bill yX9_bill ∈ ed_ws := ed_wp3 (i := 8) rfl rfl rfl
theorem ed_wp_41 : Cond.selects RX9 yX9_share yX9_share ∈ ed_ws := ed_wp3 (i := 9) rfl rfl rfl
theorem ed_wp_42 : Cond.selects RX9 yX9_useEnds yX9_useEnds ∈ ed_ws := ed_wp3 (i := 10) rfl rfl rfl
theorem ed_wp_43 : Cond.selects RX9 yX9_killDue yX9_killDue ∈ ed_ws := ed_wp3 (i := 11) rfl rfl rfl
theorem ed_wp_44 : Cond.selects RX9 yX9_correctionDue yX9_correctionDue ∈ ed_ws := ed_wp3 (i := 12) rfl rfl rfl
theorem ed_wp_45 : Cond.selects RX9 yX9_rowOf yX9_rowOf ∈ ed_ws := ed_wp3 (i := 13) rfl rfl rfl
theorem ed_wp_46 : Cond.selects RX9 yX9_inUseFor yX9_inUseFor ∈ ed_ws := ed_wp3 (i := 14) rfl rfl rfl
theorem ed_wp_47 : Cond.selects RX9 yX9_wrote yX9_wrote ∈ ed_ws := ed_wp3 (i := 15) rfl rfl rfl
theorem ed_wp_48 : Cond.selects RX9 yX9_copyOf yX9_copyOf ∈ ed_ws := ed_wp4 (i := 0) rfl rfl rfl
theorem ed_wp_49 : Cond.selects RX9 yX9_dueNow yX9_dueNow ∈ ed_ws := ed_wp4 (i := 1) rfl rfl rfl
theorem ed_wp_50 : Cond.selects RX9 yX9_setAside yX9_setAside ∈ ed_ws := ed_wp4 (i := 2) rfl rfl rfl
theorem ed_wp_51 : Cond.selects RX9 yX9_bringBack yX9_bringBack ∈ ed_ws := ed_wp4 (i := 3) rfl rfl rfl
theorem ed_wp_52 : Cond.selects RX9 yX9_personsOfAll yX9_personsOfAll ∈ ed_ws := ed_wp4 (i := 4) rfl rfl rfl
theorem ed_uX0 : ∀ w ∈ u_ws RX0 TX0 10, w ∈ ed_ws := List.forall_mem_cons.mpr ⟨ed_w1_139, List.forall_mem_cons.mpr ⟨ed_w1_141, List.forall_mem_cons.mpr ⟨ed_w1_143, List.forall_mem_cons.mpr ⟨ed_w1_145, List.forall_mem_cons.mpr ⟨ed_w1_147, List.forall_mem_cons.mpr ⟨ed_w1_149, List.forall_mem_cons.mpr ⟨ed_w1_151, List.forall_mem_cons.mpr ⟨ed_w1_153, List.forall_mem_cons.mpr ⟨ed_w1_155, List.forall_mem_cons.mpr ⟨ed_w1_157, fun _ h => absurd h List.not_mem_nil⟩⟩⟩⟩⟩⟩⟩⟩⟩⟩
theorem ed_uX1 : ∀ w ∈ u_ws RX1 TX1 6, w ∈ ed_ws := List.forall_mem_cons.mpr ⟨ed_w1_183, List.forall_mem_cons.mpr ⟨ed_w1_185, List.forall_mem_cons.mpr ⟨ed_w1_187, List.forall_mem_cons.mpr ⟨ed_w1_189, List.forall_mem_cons.mpr ⟨ed_w1_191, List.forall_mem_cons.mpr ⟨ed_w1_193, fun _ h => absurd h List.not_mem_nil⟩⟩⟩⟩⟩⟩
theorem ed_uX2 : ∀ w ∈ u_ws RX2 TX2 2, w ∈ ed_ws := List.forall_mem_cons.mpr ⟨ed_w2_25, List.forall_mem_cons.mpr ⟨ed_w2_27, fun _ h => absurd h List.not_mem_nil⟩⟩
theorem ed_uX3 : ∀ w ∈ u_ws RX3 TX3 3, w ∈ ed_ws := List.forall_mem_cons.mpr ⟨ed_w1_36, List.forall_mem_cons.mpr ⟨ed_w1_38, List.forall_mem_cons.mpr ⟨ed_w1_40, fun _ h => absurd h List.not_mem_nil⟩⟩⟩
theorem ed_uX4 : ∀ w ∈ u_ws RX4 TX4 2, w ∈ ed_ws := List.forall_mem_cons.mpr ⟨ed_w1_207, List.forall_mem_cons.mpr ⟨ed_w1_209, fun _ h => absurd h List.not_mem_nil⟩⟩
theorem ed_uX5 : ∀ w ∈ u_ws RX5 TX5 11, w ∈ ed_ws := List.forall_mem_cons.mpr ⟨ed_w1_230, List.forall_mem_cons.mpr ⟨ed_w1_232, List.forall_mem_cons.mpr ⟨ed_w1_234, List.forall_mem_cons.mpr ⟨ed_w1_236, List.forall_mem_cons.mpr ⟨ed_w1_238, List.forall_mem_cons.mpr ⟨ed_w2_0, List.forall_mem_cons.mpr ⟨ed_w2_2, List.forall_mem_cons.mpr ⟨ed_w2_4, List.forall_mem_cons.mpr ⟨ed_w2_6, List.forall_mem_cons.mpr ⟨ed_w2_8, List.forall_mem_cons.mpr ⟨ed_w2_10, fun _ h => absurd h List.not_mem_nil⟩⟩⟩⟩⟩⟩⟩⟩⟩⟩⟩
theorem ed_uX6 : ∀ w ∈ u_ws RX6 TX6 11, w ∈ ed_ws := List.forall_mem_cons.mpr ⟨ed_w1_83, List.forall_mem_cons.mpr ⟨ed_w1_85, List.forall_mem_cons.mpr ⟨ed_w1_87, List.forall_mem_cons.mpr ⟨ed_w1_89, List.forall_mem_cons.mpr ⟨ed_w1_91, List.forall_mem_cons.mpr ⟨ed_w1_93, List.forall_mem_cons.mpr ⟨ed_w1_95, List.forall_mem_cons.mpr ⟨ed_w1_97, List.forall_mem_cons.mpr ⟨ed_w1_99, List.forall_mem_cons.mpr ⟨ed_w1_101, List.forall_mem_cons.mpr ⟨ed_w1_103, fun _ h => absurd h List.not_mem_nil⟩⟩⟩⟩⟩⟩⟩⟩⟩⟩⟩
theorem ed_uX7 : ∀ w ∈ u_ws RX7 TX7 9, w ∈ ed_ws := List.forall_mem_cons.mpr ⟨ed_w2_52, List.forall_mem_cons.mpr ⟨ed_w2_54, List.forall_mem_cons.mpr ⟨ed_w2_56, List.forall_mem_cons.mpr ⟨ed_w2_58, List.forall_mem_cons.mpr ⟨ed_w2_60, List.forall_mem_cons.mpr ⟨ed_w2_62, List.forall_mem_cons.mpr ⟨ed_w2_64, List.forall_mem_cons.mpr ⟨ed_w2_66, List.forall_mem_cons.mpr ⟨ed_w2_68, fun _ h => absurd h List.not_mem_nil⟩⟩⟩⟩⟩⟩⟩⟩⟩
theorem ed_uX8 : ∀ w ∈ u_ws RX8 TX8 6, w ∈ ed_ws := List.forall_mem_cons.mpr ⟨ed_w2_77, List.forall_mem_cons.mpr ⟨ed_w2_79, List.forall_mem_cons.mpr ⟨ed_w2_81, List.forall_mem_cons.mpr ⟨ed_w2_83, List.forall_mem_cons.mpr ⟨ed_w2_85, List.forall_mem_cons.mpr ⟨ed_w2_87, fun _ h => absurd h List.not_mem_nil⟩⟩⟩⟩⟩⟩
theorem ed_uX9 : ∀ w ∈ u_ws RX9 TX9 11, w ∈ ed_ws := List.forall_mem_cons.mpr ⟨ed_w4_44, List.forall_mem_cons.mpr ⟨ed_w4_46, List.forall_mem_cons.mpr ⟨ed_w4_48, List.forall_mem_cons.mpr ⟨ed_w4_50, List.forall_mem_cons.mpr ⟨ed_w4_52, List.forall_mem_cons.mpr ⟨ed_w4_54, List.forall_mem_cons.mpr ⟨ed_w4_56, List.forall_mem_cons.mpr ⟨ed_w4_58, List.forall_mem_cons.mpr ⟨ed_w4_60, List.forall_mem_cons.mpr ⟨ed_w4_62, List.forall_mem_cons.mpr ⟨ed_w4_64, fun _ h => absurd h List.not_mem_nil⟩⟩⟩⟩⟩⟩⟩⟩⟩⟩⟩
def wsX0_init : List Cond := Cond.code yX0_init cX0_init 1 none :: ed_ws
theorem hn_X0_init : yX0_init.cls ≠ "java/lang/invoke/MethodHandle" ∧ yX0_init.cls ≠ "java/lang/invoke/VarHandle" ∧ (parseMethodDescriptor yX0_init.desc).map (fun d => d.parameters.length) = some 0 := by decide +kernel
theorem hd_X0_init : yX0_init.cls = RX0 ∧ yX0_init.cls ≠ "java/lang/invoke/MethodHandle" ∧ yX0_init.cls ≠ "java/lang/invoke/VarHandle" ∧ (parseMethodDescriptor yX0_init.desc).map (fun d => d.parameters.length) = some 0 := by decide +kernel
def wsX0_begin : List Cond := Cond.code yX0_begin cX0_begin 6 none :: ed_ws
theorem hd_X0_begin : yX0_begin.cls = RX0 ∧ yX0_begin.cls ≠ "java/lang/invoke/MethodHandle" ∧ yX0_begin.cls ≠ "java/lang/invoke/VarHandle" ∧ (parseMethodDescriptor yX0_begin.desc).map (fun d => d.parameters.length) = some 5 := by decide +kernel
def wsX0_copyFrom : List Cond := Cond.code yX0_copyFrom cX0_copyFrom 2 none :: ed_ws
theorem hd_X0_copyFrom : yX0_copyFrom.cls = RX0 ∧ yX0_copyFrom.cls ≠ "java/lang/invoke/MethodHandle" ∧ yX0_copyFrom.cls ≠ "java/lang/invoke/VarHandle" ∧ (parseMethodDescriptor yX0_copyFrom.desc).map (fun d => d.parameters.length) = some 1 := by decide +kernel
def wsX0_hasTopic : List Cond := Cond.code yX0_hasTopic cX0_hasTopic 2 (some .boolean) :: ed_ws
theorem hd_X0_hasTopic : yX0_hasTopic.cls = RX0 ∧ yX0_hasTopic.cls ≠ "java/lang/invoke/MethodHandle" ∧ yX0_hasTopic.cls ≠ "java/lang/invoke/VarHandle" ∧ (parseMethodDescriptor yX0_hasTopic.desc).map (fun d => d.parameters.length) = some 1 := by decide +kernel
def wsX0_canGetCopy : List Cond := Cond.code yX0_canGetCopy cX0_canGetCopy 1 (some .boolean) :: ed_ws
theorem hd_X0_canGetCopy : yX0_canGetCopy.cls = RX0 ∧ yX0_canGetCopy.cls ≠ "java/lang/invoke/MethodHandle" ∧ yX0_canGetCopy.cls ≠ "java/lang/invoke/VarHandle" ∧ (parseMethodDescriptor yX0_canGetCopy.desc).map (fun d => d.parameters.length) = some 0 := by decide +kernel
def wsX1_init : List Cond := Cond.code yX1_init cX1_init 1 none :: ed_ws
theorem hn_X1_init : yX1_init.cls ≠ "java/lang/invoke/MethodHandle" ∧ yX1_init.cls ≠ "java/lang/invoke/VarHandle" ∧ (parseMethodDescriptor yX1_init.desc).map (fun d => d.parameters.length) = some 0 := by decide +kernel
theorem hd_X1_init : yX1_init.cls = RX1 ∧ yX1_init.cls ≠ "java/lang/invoke/MethodHandle" ∧ yX1_init.cls ≠ "java/lang/invoke/VarHandle" ∧ (parseMethodDescriptor yX1_init.desc).map (fun d => d.parameters.length) = some 0 := by decide +kernel
def wsX1_begin : List Cond := Cond.code yX1_begin cX1_begin 4 none :: ed_ws
theorem hd_X1_begin : yX1_begin.cls = RX1 ∧ yX1_begin.cls ≠ "java/lang/invoke/MethodHandle" ∧ yX1_begin.cls ≠ "java/lang/invoke/VarHandle" ∧ (parseMethodDescriptor yX1_begin.desc).map (fun d => d.parameters.length) = some 3 := by decide +kernel
def wsX1_isOver : List Cond := Cond.code yX1_isOver cX1_isOver 1 (some .boolean) :: ed_ws
theorem hd_X1_isOver : yX1_isOver.cls = RX1 ∧ yX1_isOver.cls ≠ "java/lang/invoke/MethodHandle" ∧ yX1_isOver.cls ≠ "java/lang/invoke/VarHandle" ∧ (parseMethodDescriptor yX1_isOver.desc).map (fun d => d.parameters.length) = some 0 := by decide +kernel
def wsX1_copyFrom : List Cond := Cond.code yX1_copyFrom cX1_copyFrom 2 none :: ed_ws
theorem hd_X1_copyFrom : yX1_copyFrom.cls = RX1 ∧ yX1_copyFrom.cls ≠ "java/lang/invoke/MethodHandle" ∧ yX1_copyFrom.cls ≠ "java/lang/invoke/VarHandle" ∧ (parseMethodDescriptor yX1_copyFrom.desc).map (fun d => d.parameters.length) = some 1 := by decide +kernel
def wsX2_init : List Cond := Cond.code yX2_init cX2_init 2 none :: ed_ws
theorem hn_X2_init : yX2_init.cls ≠ "java/lang/invoke/MethodHandle" ∧ yX2_init.cls ≠ "java/lang/invoke/VarHandle" ∧ (parseMethodDescriptor yX2_init.desc).map (fun d => d.parameters.length) = some 0 := by decide +kernel
theorem hd_X2_init : yX2_init.cls = RX2 ∧ yX2_init.cls ≠ "java/lang/invoke/MethodHandle" ∧ yX2_init.cls ≠ "java/lang/invoke/VarHandle" ∧ (parseMethodDescriptor yX2_init.desc).map (fun d => d.parameters.length) = some 0 := by decide +kernel
def wsX2_remember : List Cond := Cond.code yX2_remember cX2_remember 3 none :: ed_ws
theorem hd_X2_remember : yX2_remember.cls = RX2 ∧ yX2_remember.cls ≠ "java/lang/invoke/MethodHandle" ∧ yX2_remember.cls ≠ "java/lang/invoke/VarHandle" ∧ (parseMethodDescriptor yX2_remember.desc).map (fun d => d.parameters.length) = some 1 := by decide +kernel
def wsX2_dropOldest : List Cond := Cond.code yX2_dropOldest cX2_dropOldest 3 none :: ed_ws
theorem hd_X2_dropOldest : yX2_dropOldest.cls = RX2 ∧ yX2_dropOldest.cls ≠ "java/lang/invoke/MethodHandle" ∧ yX2_dropOldest.cls ≠ "java/lang/invoke/VarHandle" ∧ (parseMethodDescriptor yX2_dropOldest.desc).map (fun d => d.parameters.length) = some 0 := by decide +kernel
def wsX2_takeLatest : List Cond := Cond.code yX2_takeLatest cX2_takeLatest 3 none :: ed_ws
theorem hd_X2_takeLatest : yX2_takeLatest.cls = RX2 ∧ yX2_takeLatest.cls ≠ "java/lang/invoke/MethodHandle" ∧ yX2_takeLatest.cls ≠ "java/lang/invoke/VarHandle" ∧ (parseMethodDescriptor yX2_takeLatest.desc).map (fun d => d.parameters.length) = some 1 := by decide +kernel
def wsX3_init : List Cond := Cond.code yX3_init cX3_init 1 none :: ed_ws
theorem hn_X3_init : yX3_init.cls ≠ "java/lang/invoke/MethodHandle" ∧ yX3_init.cls ≠ "java/lang/invoke/VarHandle" ∧ (parseMethodDescriptor yX3_init.desc).map (fun d => d.parameters.length) = some 0 := by decide +kernel
theorem hd_X3_init : yX3_init.cls = RX3 ∧ yX3_init.cls ≠ "java/lang/invoke/MethodHandle" ∧ yX3_init.cls ≠ "java/lang/invoke/VarHandle" ∧ (parseMethodDescriptor yX3_init.desc).map (fun d => d.parameters.length) = some 0 := by decide +kernel
def wsX3_add : List Cond := Cond.code yX3_add cX3_add 6 none :: ed_ws
theorem hd_X3_add : yX3_add.cls = RX3 ∧ yX3_add.cls ≠ "java/lang/invoke/MethodHandle" ∧ yX3_add.cls ≠ "java/lang/invoke/VarHandle" ∧ (parseMethodDescriptor yX3_add.desc).map (fun d => d.parameters.length) = some 4 := by decide +kernel
def wsX3_part : List Cond := Cond.code yX3_part cX3_part 4 (some .int) :: ed_ws
theorem hd_X3_part : yX3_part.cls = RX3 ∧ yX3_part.cls ≠ "java/lang/invoke/MethodHandle" ∧ yX3_part.cls ≠ "java/lang/invoke/VarHandle" ∧ (parseMethodDescriptor yX3_part.desc).map (fun d => d.parameters.length) = some 2 := by decide +kernel
def wsX3_copyFrom : List Cond := Cond.code yX3_copyFrom cX3_copyFrom 2 none :: ed_ws
theorem hd_X3_copyFrom : yX3_copyFrom.cls = RX3 ∧ yX3_copyFrom.cls ≠ "java/lang/invoke/MethodHandle" ∧ yX3_copyFrom.cls ≠ "java/lang/invoke/VarHandle" ∧ (parseMethodDescriptor yX3_copyFrom.desc).map (fun d => d.parameters.length) = some 1 := by decide +kernel
def wsX4_init : List Cond := Cond.code yX4_init cX4_init 1 none :: ed_ws
theorem hn_X4_init : yX4_init.cls ≠ "java/lang/invoke/MethodHandle" ∧ yX4_init.cls ≠ "java/lang/invoke/VarHandle" ∧ (parseMethodDescriptor yX4_init.desc).map (fun d => d.parameters.length) = some 0 := by decide +kernel
theorem hd_X4_init : yX4_init.cls = RX4 ∧ yX4_init.cls ≠ "java/lang/invoke/MethodHandle" ∧ yX4_init.cls ≠ "java/lang/invoke/VarHandle" ∧ (parseMethodDescriptor yX4_init.desc).map (fun d => d.parameters.length) = some 0 := by decide +kernel
def wsX4_addShare : List Cond := Cond.code yX4_addShare cX4_addShare 2 none :: ed_ws
theorem hd_X4_addShare : yX4_addShare.cls = RX4 ∧ yX4_addShare.cls ≠ "java/lang/invoke/MethodHandle" ∧ yX4_addShare.cls ≠ "java/lang/invoke/VarHandle" ∧ (parseMethodDescriptor yX4_addShare.desc).map (fun d => d.parameters.length) = some 1 := by decide +kernel
def wsX5_init : List Cond := Cond.code yX5_init cX5_init 2 none :: ed_ws
theorem hn_X5_init : yX5_init.cls ≠ "java/lang/invoke/MethodHandle" ∧ yX5_init.cls ≠ "java/lang/invoke/VarHandle" ∧ (parseMethodDescriptor yX5_init.desc).map (fun d => d.parameters.length) = some 0 := by decide +kernel
theorem hd_X5_init : yX5_init.cls = RX5 ∧ yX5_init.cls ≠ "java/lang/invoke/MethodHandle" ∧ yX5_init.cls ≠ "java/lang/invoke/VarHandle" ∧ (parseMethodDescriptor yX5_init.desc).map (fun d => d.parameters.length) = some 0 := by decide +kernel
def wsX5_copyFrom : List Cond := Cond.code yX5_copyFrom cX5_copyFrom 2 none :: ed_ws
theorem hd_X5_copyFrom : yX5_copyFrom.cls = RX5 ∧ yX5_copyFrom.cls ≠ "java/lang/invoke/MethodHandle" ∧ yX5_copyFrom.cls ≠ "java/lang/invoke/VarHandle" ∧ (parseMethodDescriptor yX5_copyFrom.desc).map (fun d => d.parameters.length) = some 1 := by decide +kernel
def wsX5_copyStories : List Cond := Cond.code yX5_copyStories cX5_copyStories 5 none :: ed_ws
theorem hd_X5_copyStories : yX5_copyStories.cls = RX5 ∧ yX5_copyStories.cls ≠ "java/lang/invoke/MethodHandle" ∧ yX5_copyStories.cls ≠ "java/lang/invoke/VarHandle" ∧ (parseMethodDescriptor yX5_copyStories.desc).map (fun d => d.parameters.length) = some 1 := by decide +kernel
def wsX5_copyClients : List Cond := Cond.code yX5_copyClients cX5_copyClients 5 none :: ed_ws
theorem hd_X5_copyClients : yX5_copyClients.cls = RX5 ∧ yX5_copyClients.cls ≠ "java/lang/invoke/MethodHandle" ∧ yX5_copyClients.cls ≠ "java/lang/invoke/VarHandle" ∧ (parseMethodDescriptor yX5_copyClients.desc).map (fun d => d.parameters.length) = some 1 := by decide +kernel
def wsX5_copyCopies : List Cond := Cond.code yX5_copyCopies cX5_copyCopies 5 none :: ed_ws
theorem hd_X5_copyCopies : yX5_copyCopies.cls = RX5 ∧ yX5_copyCopies.cls ≠ "java/lang/invoke/MethodHandle" ∧ yX5_copyCopies.cls ≠ "java/lang/invoke/VarHandle" ∧ (parseMethodDescriptor yX5_copyCopies.desc).map (fun d => d.parameters.length) = some 1 := by decide +kernel
def wsX5_copyPersons : List Cond := Cond.code yX5_copyPersons cX5_copyPersons 5 none :: ed_ws
theorem hd_X5_copyPersons : yX5_copyPersons.cls = RX5 ∧ yX5_copyPersons.cls ≠ "java/lang/invoke/MethodHandle" ∧ yX5_copyPersons.cls ≠ "java/lang/invoke/VarHandle" ∧ (parseMethodDescriptor yX5_copyPersons.desc).map (fun d => d.parameters.length) = some 1 := by decide +kernel
def wsX5_storyAt : List Cond := Cond.code yX5_storyAt cX5_storyAt 2 (some (.object "EmbargoDesk$Story")) :: ed_ws
theorem hd_X5_storyAt : yX5_storyAt.cls = RX5 ∧ yX5_storyAt.cls ≠ "java/lang/invoke/MethodHandle" ∧ yX5_storyAt.cls ≠ "java/lang/invoke/VarHandle" ∧ (parseMethodDescriptor yX5_storyAt.desc).map (fun d => d.parameters.length) = some 1 := by decide +kernel
def wsX5_clientAt : List Cond := Cond.code yX5_clientAt cX5_clientAt 2 (some (.object "EmbargoDesk$Client")) :: ed_ws
theorem hd_X5_clientAt : yX5_clientAt.cls = RX5 ∧ yX5_clientAt.cls ≠ "java/lang/invoke/MethodHandle" ∧ yX5_clientAt.cls ≠ "java/lang/invoke/VarHandle" ∧ (parseMethodDescriptor yX5_clientAt.desc).map (fun d => d.parameters.length) = some 1 := by decide +kernel
def wsX5_copyMade : List Cond := Cond.code yX5_copyMade cX5_copyMade 2 (some (.object "EmbargoDesk$Copy")) :: ed_ws
theorem hd_X5_copyMade : yX5_copyMade.cls = RX5 ∧ yX5_copyMade.cls ≠ "java/lang/invoke/MethodHandle" ∧ yX5_copyMade.cls ≠ "java/lang/invoke/VarHandle" ∧ (parseMethodDescriptor yX5_copyMade.desc).map (fun d => d.parameters.length) = some 1 := by decide +kernel
def wsX5_personAt : List Cond := Cond.code yX5_personAt cX5_personAt 2 (some (.object "EmbargoDesk$Person")) :: ed_ws
theorem hd_X5_personAt : yX5_personAt.cls = RX5 ∧ yX5_personAt.cls ≠ "java/lang/invoke/MethodHandle" ∧ yX5_personAt.cls ≠ "java/lang/invoke/VarHandle" ∧ (parseMethodDescriptor yX5_personAt.desc).map (fun d => d.parameters.length) = some 1 := by decide +kernel
def wsX5_copyFor : List Cond := Cond.code yX5_copyFor cX5_copyFor 5 (some (.object "EmbargoDesk$Copy")) :: ed_ws
theorem hd_X5_copyFor : yX5_copyFor.cls = RX5 ∧ yX5_copyFor.cls ≠ "java/lang/invoke/MethodHandle" ∧ yX5_copyFor.cls ≠ "java/lang/invoke/VarHandle" ∧ (parseMethodDescriptor yX5_copyFor.desc).map (fun d => d.parameters.length) = some 2 := by decide +kernel
def wsX5_passHour : List Cond := Cond.code yX5_passHour cX5_passHour 3 none :: ed_ws
theorem hd_X5_passHour : yX5_passHour.cls = RX5 ∧ yX5_passHour.cls ≠ "java/lang/invoke/MethodHandle" ∧ yX5_passHour.cls ≠ "java/lang/invoke/VarHandle" ∧ (parseMethodDescriptor yX5_passHour.desc).map (fun d => d.parameters.length) = some 0 := by decide +kernel
def wsX5_startDay : List Cond := Cond.code yX5_startDay cX5_startDay 3 none :: ed_ws
theorem hd_X5_startDay : yX5_startDay.cls = RX5 ∧ yX5_startDay.cls ≠ "java/lang/invoke/MethodHandle" ∧ yX5_startDay.cls ≠ "java/lang/invoke/VarHandle" ∧ (parseMethodDescriptor yX5_startDay.desc).map (fun d => d.parameters.length) = some 0 := by decide +kernel
def wsX5_publish : List Cond := Cond.code yX5_publish cX5_publish 5 none :: ed_ws
theorem hd_X5_publish : yX5_publish.cls = RX5 ∧ yX5_publish.cls ≠ "java/lang/invoke/MethodHandle" ∧ yX5_publish.cls ≠ "java/lang/invoke/VarHandle" ∧ (parseMethodDescriptor yX5_publish.desc).map (fun d => d.parameters.length) = some 2 := by decide +kernel
def wsX5_planCopy : List Cond := Cond.code yX5_planCopy cX5_planCopy 5 none :: ed_ws
theorem hd_X5_planCopy : yX5_planCopy.cls = RX5 ∧ yX5_planCopy.cls ≠ "java/lang/invoke/MethodHandle" ∧ yX5_planCopy.cls ≠ "java/lang/invoke/VarHandle" ∧ (parseMethodDescriptor yX5_planCopy.desc).map (fun d => d.parameters.length) = some 3 := by decide +kernel
def wsX5_moveOn : List Cond := Cond.code yX5_moveOn cX5_moveOn 4 none :: ed_ws
theorem hd_X5_moveOn : yX5_moveOn.cls = RX5 ∧ yX5_moveOn.cls ≠ "java/lang/invoke/MethodHandle" ∧ yX5_moveOn.cls ≠ "java/lang/invoke/VarHandle" ∧ (parseMethodDescriptor yX5_moveOn.desc).map (fun d => d.parameters.length) = some 1 := by decide +kernel
def wsX5_startUse : List Cond := Cond.code yX5_startUse cX5_startUse 4 none :: ed_ws
theorem hd_X5_startUse : yX5_startUse.cls = RX5 ∧ yX5_startUse.cls ≠ "java/lang/invoke/MethodHandle" ∧ yX5_startUse.cls ≠ "java/lang/invoke/VarHandle" ∧ (parseMethodDescriptor yX5_startUse.desc).map (fun d => d.parameters.length) = some 3 := by decide +kernel
def wsX5_bill : List Cond := Cond.code yX5_bill cX5_bill 7 none :: ed_ws
theorem hd_X5_bill : yX5_bill.cls = RX5 ∧ yX5_bill.cls ≠ "java/lang/invoke/MethodHandle" ∧ yX5_bill.cls ≠ "java/lang/invoke/VarHandle" ∧ (parseMethodDescriptor yX5_bill.desc).map (fun d => d.parameters.length) = some 2 := by decide +kernel
def wsX5_reach : List Cond := Cond.code yX5_reach cX5_reach 5 none :: ed_ws
theorem hd_X5_reach : yX5_reach.cls = RX5 ∧ yX5_reach.cls ≠ "java/lang/invoke/MethodHandle" ∧ yX5_reach.cls ≠ "java/lang/invoke/VarHandle" ∧ (parseMethodDescriptor yX5_reach.desc).map (fun d => d.parameters.length) = some 2 := by decide +kernel
def wsX5_correctionsMissing : List Cond := Cond.code yX5_correctionsMissing cX5_correctionsMissing 3 (some .int) :: ed_ws
theorem hd_X5_correctionsMissing : yX5_correctionsMissing.cls = RX5 ∧ yX5_correctionsMissing.cls ≠ "java/lang/invoke/MethodHandle" ∧ yX5_correctionsMissing.cls ≠ "java/lang/invoke/VarHandle" ∧ (parseMethodDescriptor yX5_correctionsMissing.desc).map (fun d => d.parameters.length) = some 1 := by decide +kernel
def wsX5_correctionsDue : List Cond := Cond.code yX5_correctionsDue cX5_correctionsDue 6 (some .int) :: ed_ws
theorem hd_X5_correctionsDue : yX5_correctionsDue.cls = RX5 ∧ yX5_correctionsDue.cls ≠ "java/lang/invoke/MethodHandle" ∧ yX5_correctionsDue.cls ≠ "java/lang/invoke/VarHandle" ∧ (parseMethodDescriptor yX5_correctionsDue.desc).map (fun d => d.parameters.length) = some 1 := by decide +kernel
def wsX5_nextCorrectionAt : List Cond := Cond.code yX5_nextCorrectionAt cX5_nextCorrectionAt 4 (some .int) :: ed_ws
theorem hd_X5_nextCorrectionAt : yX5_nextCorrectionAt.cls = RX5 ∧ yX5_nextCorrectionAt.cls ≠ "java/lang/invoke/MethodHandle" ∧ yX5_nextCorrectionAt.cls ≠ "java/lang/invoke/VarHandle" ∧ (parseMethodDescriptor yX5_nextCorrectionAt.desc).map (fun d => d.parameters.length) = some 1 := by decide +kernel
def wsX5_killNoticeAt : List Cond := Cond.code yX5_killNoticeAt cX5_killNoticeAt 4 (some .int) :: ed_ws
theorem hd_X5_killNoticeAt : yX5_killNoticeAt.cls = RX5 ∧ yX5_killNoticeAt.cls ≠ "java/lang/invoke/MethodHandle" ∧ yX5_killNoticeAt.cls ≠ "java/lang/invoke/VarHandle" ∧ (parseMethodDescriptor yX5_killNoticeAt.desc).map (fun d => d.parameters.length) = some 1 := by decide +kernel
def wsX5_useEndsAt : List Cond := Cond.code yX5_useEndsAt cX5_useEndsAt 2 (some .int) :: ed_ws
theorem hd_X5_useEndsAt : yX5_useEndsAt.cls = RX5 ∧ yX5_useEndsAt.cls ≠ "java/lang/invoke/MethodHandle" ∧ yX5_useEndsAt.cls ≠ "java/lang/invoke/VarHandle" ∧ (parseMethodDescriptor yX5_useEndsAt.desc).map (fun d => d.parameters.length) = some 1 := by decide +kernel
def wsX5_clientsFor : List Cond := Cond.code yX5_clientsFor cX5_clientsFor 5 (some .int) :: ed_ws
theorem hd_X5_clientsFor : yX5_clientsFor.cls = RX5 ∧ yX5_clientsFor.cls ≠ "java/lang/invoke/MethodHandle" ∧ yX5_clientsFor.cls ≠ "java/lang/invoke/VarHandle" ∧ (parseMethodDescriptor yX5_clientsFor.desc).map (fun d => d.parameters.length) = some 1 := by decide +kernel
def wsX5_copiesThatCame : List Cond := Cond.code yX5_copiesThatCame cX5_copiesThatCame 4 (some .int) :: ed_ws
theorem hd_X5_copiesThatCame : yX5_copiesThatCame.cls = RX5 ∧ yX5_copiesThatCame.cls ≠ "java/lang/invoke/MethodHandle" ∧ yX5_copiesThatCame.cls ≠ "java/lang/invoke/VarHandle" ∧ (parseMethodDescriptor yX5_copiesThatCame.desc).map (fun d => d.parameters.length) = some 0 := by decide +kernel
def wsX5_copiesOf : List Cond := Cond.code yX5_copiesOf cX5_copiesOf 7 (some .int) :: ed_ws
theorem hd_X5_copiesOf : yX5_copiesOf.cls = RX5 ∧ yX5_copiesOf.cls ≠ "java/lang/invoke/MethodHandle" ∧ yX5_copiesOf.cls ≠ "java/lang/invoke/VarHandle" ∧ (parseMethodDescriptor yX5_copiesOf.desc).map (fun d => d.parameters.length) = some 3 := by decide +kernel
def wsX5_fits : List Cond := Cond.code yX5_fits cX5_fits 2 (some .boolean) :: ed_ws
theorem hd_X5_fits : yX5_fits.cls = RX5 ∧ yX5_fits.cls ≠ "java/lang/invoke/MethodHandle" ∧ yX5_fits.cls ≠ "java/lang/invoke/VarHandle" ∧ (parseMethodDescriptor yX5_fits.desc).map (fun d => d.parameters.length) = some 2 := by decide +kernel
def wsX5_upToDateCopies : List Cond := Cond.code yX5_upToDateCopies cX5_upToDateCopies 5 (some .int) :: ed_ws
theorem hd_X5_upToDateCopies : yX5_upToDateCopies.cls = RX5 ∧ yX5_upToDateCopies.cls ≠ "java/lang/invoke/MethodHandle" ∧ yX5_upToDateCopies.cls ≠ "java/lang/invoke/VarHandle" ∧ (parseMethodDescriptor yX5_upToDateCopies.desc).map (fun d => d.parameters.length) = some 1 := by decide +kernel
def wsX5_copiesWithCorrectionsDue : List Cond := Cond.code yX5_copiesWithCorrectionsDue cX5_copiesWithCorrectionsDue 4 (some .int) :: ed_ws
theorem hd_X5_copiesWithCorrectionsDue : yX5_copiesWithCorrectionsDue.cls = RX5 ∧ yX5_copiesWithCorrectionsDue.cls ≠ "java/lang/invoke/MethodHandle" ∧ yX5_copiesWithCorrectionsDue.cls ≠ "java/lang/invoke/VarHandle" ∧ (parseMethodDescriptor yX5_copiesWithCorrectionsDue.desc).map (fun d => d.parameters.length) = some 0 := by decide +kernel
def wsX5_storiesBy : List Cond := Cond.code yX5_storiesBy cX5_storiesBy 5 (some .int) :: ed_ws
theorem hd_X5_storiesBy : yX5_storiesBy.cls = RX5 ∧ yX5_storiesBy.cls ≠ "java/lang/invoke/MethodHandle" ∧ yX5_storiesBy.cls ≠ "java/lang/invoke/VarHandle" ∧ (parseMethodDescriptor yX5_storiesBy.desc).map (fun d => d.parameters.length) = some 1 := by decide +kernel
def wsX5_copiesInUseBy : List Cond := Cond.code yX5_copiesInUseBy cX5_copiesInUseBy 5 (some .int) :: ed_ws
theorem hd_X5_copiesInUseBy : yX5_copiesInUseBy.cls = RX5 ∧ yX5_copiesInUseBy.cls ≠ "java/lang/invoke/MethodHandle" ∧ yX5_copiesInUseBy.cls ≠ "java/lang/invoke/VarHandle" ∧ (parseMethodDescriptor yX5_copiesInUseBy.desc).map (fun d => d.parameters.length) = some 1 := by decide +kernel
def wsX5_authors : List Cond := Cond.code yX5_authors cX5_authors 3 (some .int) :: ed_ws
theorem hd_X5_authors : yX5_authors.cls = RX5 ∧ yX5_authors.cls ≠ "java/lang/invoke/MethodHandle" ∧ yX5_authors.cls ≠ "java/lang/invoke/VarHandle" ∧ (parseMethodDescriptor yX5_authors.desc).map (fun d => d.parameters.length) = some 0 := by decide +kernel
def wsX6_init : List Cond := Cond.code yX6_init cX6_init 1 none :: ed_ws
theorem hn_X6_init : yX6_init.cls ≠ "java/lang/invoke/MethodHandle" ∧ yX6_init.cls ≠ "java/lang/invoke/VarHandle" ∧ (parseMethodDescriptor yX6_init.desc).map (fun d => d.parameters.length) = some 0 := by decide +kernel
theorem hd_X6_init : yX6_init.cls = RX6 ∧ yX6_init.cls ≠ "java/lang/invoke/MethodHandle" ∧ yX6_init.cls ≠ "java/lang/invoke/VarHandle" ∧ (parseMethodDescriptor yX6_init.desc).map (fun d => d.parameters.length) = some 0 := by decide +kernel
def wsX6_begin : List Cond := Cond.code yX6_begin cX6_begin 2 none :: ed_ws
theorem hd_X6_begin : yX6_begin.cls = RX6 ∧ yX6_begin.cls ≠ "java/lang/invoke/MethodHandle" ∧ yX6_begin.cls ≠ "java/lang/invoke/VarHandle" ∧ (parseMethodDescriptor yX6_begin.desc).map (fun d => d.parameters.length) = some 1 := by decide +kernel
def wsX6_copyFrom : List Cond := Cond.code yX6_copyFrom cX6_copyFrom 2 none :: ed_ws
theorem hd_X6_copyFrom : yX6_copyFrom.cls = RX6 ∧ yX6_copyFrom.cls ≠ "java/lang/invoke/MethodHandle" ∧ yX6_copyFrom.cls ≠ "java/lang/invoke/VarHandle" ∧ (parseMethodDescriptor yX6_copyFrom.desc).map (fun d => d.parameters.length) = some 1 := by decide +kernel
def wsX6_addCorrection : List Cond := Cond.code yX6_addCorrection cX6_addCorrection 2 none :: ed_ws
theorem hd_X6_addCorrection : yX6_addCorrection.cls = RX6 ∧ yX6_addCorrection.cls ≠ "java/lang/invoke/MethodHandle" ∧ yX6_addCorrection.cls ≠ "java/lang/invoke/VarHandle" ∧ (parseMethodDescriptor yX6_addCorrection.desc).map (fun d => d.parameters.length) = some 1 := by decide +kernel
def wsX6_authorAt : List Cond := Cond.code yX6_authorAt cX6_authorAt 2 (some .int) :: ed_ws
theorem hd_X6_authorAt : yX6_authorAt.cls = RX6 ∧ yX6_authorAt.cls ≠ "java/lang/invoke/MethodHandle" ∧ yX6_authorAt.cls ≠ "java/lang/invoke/VarHandle" ∧ (parseMethodDescriptor yX6_authorAt.desc).map (fun d => d.parameters.length) = some 1 := by decide +kernel
def wsX6_letterAt : List Cond := Cond.code yX6_letterAt cX6_letterAt 2 (some .int) :: ed_ws
theorem hd_X6_letterAt : yX6_letterAt.cls = RX6 ∧ yX6_letterAt.cls ≠ "java/lang/invoke/MethodHandle" ∧ yX6_letterAt.cls ≠ "java/lang/invoke/VarHandle" ∧ (parseMethodDescriptor yX6_letterAt.desc).map (fun d => d.parameters.length) = some 1 := by decide +kernel
def wsX6_correctedAt : List Cond := Cond.code yX6_correctedAt cX6_correctedAt 2 (some .int) :: ed_ws
theorem hd_X6_correctedAt : yX6_correctedAt.cls = RX6 ∧ yX6_correctedAt.cls ≠ "java/lang/invoke/MethodHandle" ∧ yX6_correctedAt.cls ≠ "java/lang/invoke/VarHandle" ∧ (parseMethodDescriptor yX6_correctedAt.desc).map (fun d => d.parameters.length) = some 1 := by decide +kernel
def wsX6_isBy : List Cond := Cond.code yX6_isBy cX6_isBy 3 (some .boolean) :: ed_ws
theorem hd_X6_isBy : yX6_isBy.cls = RX6 ∧ yX6_isBy.cls ≠ "java/lang/invoke/MethodHandle" ∧ yX6_isBy.cls ≠ "java/lang/invoke/VarHandle" ∧ (parseMethodDescriptor yX6_isBy.desc).map (fun d => d.parameters.length) = some 1 := by decide +kernel
def wsX7_init : List Cond := Cond.code yX7_init cX7_init 1 none :: ed_ws
theorem hn_X7_init : yX7_init.cls ≠ "java/lang/invoke/MethodHandle" ∧ yX7_init.cls ≠ "java/lang/invoke/VarHandle" ∧ (parseMethodDescriptor yX7_init.desc).map (fun d => d.parameters.length) = some 0 := by decide +kernel
theorem hd_X7_init : yX7_init.cls = RX7 ∧ yX7_init.cls ≠ "java/lang/invoke/MethodHandle" ∧ yX7_init.cls ≠ "java/lang/invoke/VarHandle" ∧ (parseMethodDescriptor yX7_init.desc).map (fun d => d.parameters.length) = some 0 := by decide +kernel
def wsX7_add : List Cond := Cond.code yX7_add cX7_add 2 none :: ed_ws
theorem hd_X7_add : yX7_add.cls = RX7 ∧ yX7_add.cls ≠ "java/lang/invoke/MethodHandle" ∧ yX7_add.cls ≠ "java/lang/invoke/VarHandle" ∧ (parseMethodDescriptor yX7_add.desc).map (fun d => d.parameters.length) = some 1 := by decide +kernel
def wsX7_parse : List Cond := Cond.code yX7_parse cX7_parse 2 (some .int) :: ed_ws
theorem hd_X7_parse : yX7_parse.cls = RX7 ∧ yX7_parse.cls ≠ "java/lang/invoke/MethodHandle" ∧ yX7_parse.cls ≠ "java/lang/invoke/VarHandle" ∧ (parseMethodDescriptor yX7_parse.desc).map (fun d => d.parameters.length) = some 0 := by decide +kernel
def wsX7_sign : List Cond := Cond.code yX7_sign cX7_sign 1 (some .int) :: ed_ws
theorem hd_X7_sign : yX7_sign.cls = RX7 ∧ yX7_sign.cls ≠ "java/lang/invoke/MethodHandle" ∧ yX7_sign.cls ≠ "java/lang/invoke/VarHandle" ∧ (parseMethodDescriptor yX7_sign.desc).map (fun d => d.parameters.length) = some 0 := by decide +kernel
def wsX7_digit : List Cond := Cond.code yX7_digit cX7_digit 1 (some .int) :: ed_ws
theorem hd_X7_digit : yX7_digit.cls = RX7 ∧ yX7_digit.cls ≠ "java/lang/invoke/MethodHandle" ∧ yX7_digit.cls ≠ "java/lang/invoke/VarHandle" ∧ (parseMethodDescriptor yX7_digit.desc).map (fun d => d.parameters.length) = some 0 := by decide +kernel
def wsX7_readSign : List Cond := Cond.code yX7_readSign cX7_readSign 2 (some .boolean) :: ed_ws
theorem hd_X7_readSign : yX7_readSign.cls = RX7 ∧ yX7_readSign.cls ≠ "java/lang/invoke/MethodHandle" ∧ yX7_readSign.cls ≠ "java/lang/invoke/VarHandle" ∧ (parseMethodDescriptor yX7_readSign.desc).map (fun d => d.parameters.length) = some 1 := by decide +kernel
def wsX7_readTopic : List Cond := Cond.code yX7_readTopic cX7_readTopic 1 (some .boolean) :: ed_ws
theorem hd_X7_readTopic : yX7_readTopic.cls = RX7 ∧ yX7_readTopic.cls ≠ "java/lang/invoke/MethodHandle" ∧ yX7_readTopic.cls ≠ "java/lang/invoke/VarHandle" ∧ (parseMethodDescriptor yX7_readTopic.desc).map (fun d => d.parameters.length) = some 0 := by decide +kernel
def wsX7_readByline : List Cond := Cond.code yX7_readByline cX7_readByline 2 (some .boolean) :: ed_ws
theorem hd_X7_readByline : yX7_readByline.cls = RX7 ∧ yX7_readByline.cls ≠ "java/lang/invoke/MethodHandle" ∧ yX7_readByline.cls ≠ "java/lang/invoke/VarHandle" ∧ (parseMethodDescriptor yX7_readByline.desc).map (fun d => d.parameters.length) = some 0 := by decide +kernel
def wsX7_readPerson : List Cond := Cond.code yX7_readPerson cX7_readPerson 2 (some .boolean) :: ed_ws
theorem hd_X7_readPerson : yX7_readPerson.cls = RX7 ∧ yX7_readPerson.cls ≠ "java/lang/invoke/MethodHandle" ∧ yX7_readPerson.cls ≠ "java/lang/invoke/VarHandle" ∧ (parseMethodDescriptor yX7_readPerson.desc).map (fun d => d.parameters.length) = some 0 := by decide +kernel
def wsX7_isInByline : List Cond := Cond.code yX7_isInByline cX7_isInByline 3 (some .boolean) :: ed_ws
theorem hd_X7_isInByline : yX7_isInByline.cls = RX7 ∧ yX7_isInByline.cls ≠ "java/lang/invoke/MethodHandle" ∧ yX7_isInByline.cls ≠ "java/lang/invoke/VarHandle" ∧ (parseMethodDescriptor yX7_isInByline.desc).map (fun d => d.parameters.length) = some 1 := by decide +kernel
def wsX7_readEmbargo : List Cond := Cond.code yX7_readEmbargo cX7_readEmbargo 2 (some .boolean) :: ed_ws
theorem hd_X7_readEmbargo : yX7_readEmbargo.cls = RX7 ∧ yX7_readEmbargo.cls ≠ "java/lang/invoke/MethodHandle" ∧ yX7_readEmbargo.cls ≠ "java/lang/invoke/VarHandle" ∧ (parseMethodDescriptor yX7_readEmbargo.desc).map (fun d => d.parameters.length) = some 0 := by decide +kernel
def wsX7_readSlug : List Cond := Cond.code yX7_readSlug cX7_readSlug 2 (some .boolean) :: ed_ws
theorem hd_X7_readSlug : yX7_readSlug.cls = RX7 ∧ yX7_readSlug.cls ≠ "java/lang/invoke/MethodHandle" ∧ yX7_readSlug.cls ≠ "java/lang/invoke/VarHandle" ∧ (parseMethodDescriptor yX7_readSlug.desc).map (fun d => d.parameters.length) = some 0 := by decide +kernel
def wsX8_init : List Cond := Cond.code yX8_init cX8_init 1 none :: ed_ws
theorem hn_X8_init : yX8_init.cls ≠ "java/lang/invoke/MethodHandle" ∧ yX8_init.cls ≠ "java/lang/invoke/VarHandle" ∧ (parseMethodDescriptor yX8_init.desc).map (fun d => d.parameters.length) = some 0 := by decide +kernel
theorem hd_X8_init : yX8_init.cls = RX8 ∧ yX8_init.cls ≠ "java/lang/invoke/MethodHandle" ∧ yX8_init.cls ≠ "java/lang/invoke/VarHandle" ∧ (parseMethodDescriptor yX8_init.desc).map (fun d => d.parameters.length) = some 0 := by decide +kernel
def wsX8_addClient : List Cond := Cond.code yX8_addClient cX8_addClient 8 (some .int) :: ed_ws
theorem hd_X8_addClient : yX8_addClient.cls = RX8 ∧ yX8_addClient.cls ≠ "java/lang/invoke/MethodHandle" ∧ yX8_addClient.cls ≠ "java/lang/invoke/VarHandle" ∧ (parseMethodDescriptor yX8_addClient.desc).map (fun d => d.parameters.length) = some 5 := by decide +kernel
def wsX8_setTopics : List Cond := Cond.code yX8_setTopics cX8_setTopics 5 (some .int) :: ed_ws
theorem hd_X8_setTopics : yX8_setTopics.cls = RX8 ∧ yX8_setTopics.cls ≠ "java/lang/invoke/MethodHandle" ∧ yX8_setTopics.cls ≠ "java/lang/invoke/VarHandle" ∧ (parseMethodDescriptor yX8_setTopics.desc).map (fun d => d.parameters.length) = some 2 := by decide +kernel
def wsX8_setUp : List Cond := Cond.code yX8_setUp cX8_setUp 4 (some .int) :: ed_ws
theorem hd_X8_setUp : yX8_setUp.cls = RX8 ∧ yX8_setUp.cls ≠ "java/lang/invoke/MethodHandle" ∧ yX8_setUp.cls ≠ "java/lang/invoke/VarHandle" ∧ (parseMethodDescriptor yX8_setUp.desc).map (fun d => d.parameters.length) = some 2 := by decide +kernel
def wsX8_setUse : List Cond := Cond.code yX8_setUse cX8_setUse 3 (some .int) :: ed_ws
theorem hd_X8_setUse : yX8_setUse.cls = RX8 ∧ yX8_setUse.cls ≠ "java/lang/invoke/MethodHandle" ∧ yX8_setUse.cls ≠ "java/lang/invoke/VarHandle" ∧ (parseMethodDescriptor yX8_setUse.desc).map (fun d => d.parameters.length) = some 1 := by decide +kernel
def wsX8_pay : List Cond := Cond.code yX8_pay cX8_pay 4 (some .int) :: ed_ws
theorem hd_X8_pay : yX8_pay.cls = RX8 ∧ yX8_pay.cls ≠ "java/lang/invoke/MethodHandle" ∧ yX8_pay.cls ≠ "java/lang/invoke/VarHandle" ∧ (parseMethodDescriptor yX8_pay.desc).map (fun d => d.parameters.length) = some 2 := by decide +kernel
def wsX8_readStory : List Cond := Cond.code yX8_readStory cX8_readStory 4 (some .int) :: ed_ws
theorem hd_X8_readStory : yX8_readStory.cls = RX8 ∧ yX8_readStory.cls ≠ "java/lang/invoke/MethodHandle" ∧ yX8_readStory.cls ≠ "java/lang/invoke/VarHandle" ∧ (parseMethodDescriptor yX8_readStory.desc).map (fun d => d.parameters.length) = some 0 := by decide +kernel
def wsX8_release : List Cond := Cond.code yX8_release cX8_release 3 (some .int) :: ed_ws
theorem hd_X8_release : yX8_release.cls = RX8 ∧ yX8_release.cls ≠ "java/lang/invoke/MethodHandle" ∧ yX8_release.cls ≠ "java/lang/invoke/VarHandle" ∧ (parseMethodDescriptor yX8_release.desc).map (fun d => d.parameters.length) = some 1 := by decide +kernel
def wsX8_hold : List Cond := Cond.code yX8_hold cX8_hold 3 (some .int) :: ed_ws
theorem hd_X8_hold : yX8_hold.cls = RX8 ∧ yX8_hold.cls ≠ "java/lang/invoke/MethodHandle" ∧ yX8_hold.cls ≠ "java/lang/invoke/VarHandle" ∧ (parseMethodDescriptor yX8_hold.desc).map (fun d => d.parameters.length) = some 1 := by decide +kernel
def wsX8_setEmbargo : List Cond := Cond.code yX8_setEmbargo cX8_setEmbargo 5 (some .int) :: ed_ws
theorem hd_X8_setEmbargo : yX8_setEmbargo.cls = RX8 ∧ yX8_setEmbargo.cls ≠ "java/lang/invoke/MethodHandle" ∧ yX8_setEmbargo.cls ≠ "java/lang/invoke/VarHandle" ∧ (parseMethodDescriptor yX8_setEmbargo.desc).map (fun d => d.parameters.length) = some 2 := by decide +kernel
def wsX8_correct : List Cond := Cond.code yX8_correct cX8_correct 3 (some .int) :: ed_ws
theorem hd_X8_correct : yX8_correct.cls = RX8 ∧ yX8_correct.cls ≠ "java/lang/invoke/MethodHandle" ∧ yX8_correct.cls ≠ "java/lang/invoke/VarHandle" ∧ (parseMethodDescriptor yX8_correct.desc).map (fun d => d.parameters.length) = some 1 := by decide +kernel
def wsX8_kill : List Cond := Cond.code yX8_kill cX8_kill 3 (some .int) :: ed_ws
theorem hd_X8_kill : yX8_kill.cls = RX8 ∧ yX8_kill.cls ≠ "java/lang/invoke/MethodHandle" ∧ yX8_kill.cls ≠ "java/lang/invoke/VarHandle" ∧ (parseMethodDescriptor yX8_kill.desc).map (fun d => d.parameters.length) = some 1 := by decide +kernel
def wsX8_pass : List Cond := Cond.code yX8_pass cX8_pass 4 (some .int) :: ed_ws
theorem hd_X8_pass : yX8_pass.cls = RX8 ∧ yX8_pass.cls ≠ "java/lang/invoke/MethodHandle" ∧ yX8_pass.cls ≠ "java/lang/invoke/VarHandle" ∧ (parseMethodDescriptor yX8_pass.desc).map (fun d => d.parameters.length) = some 1 := by decide +kernel
def wsX8_type : List Cond := Cond.code yX8_type cX8_type 2 (some .int) :: ed_ws
theorem hd_X8_type : yX8_type.cls = RX8 ∧ yX8_type.cls ≠ "java/lang/invoke/MethodHandle" ∧ yX8_type.cls ≠ "java/lang/invoke/VarHandle" ∧ (parseMethodDescriptor yX8_type.desc).map (fun d => d.parameters.length) = some 1 := by decide +kernel
def wsX8_clearText : List Cond := Cond.code yX8_clearText cX8_clearText 2 (some .int) :: ed_ws
theorem hd_X8_clearText : yX8_clearText.cls = RX8 ∧ yX8_clearText.cls ≠ "java/lang/invoke/MethodHandle" ∧ yX8_clearText.cls ≠ "java/lang/invoke/VarHandle" ∧ (parseMethodDescriptor yX8_clearText.desc).map (fun d => d.parameters.length) = some 0 := by decide +kernel
def wsX8_undo : List Cond := Cond.code yX8_undo cX8_undo 1 (some .int) :: ed_ws
theorem hd_X8_undo : yX8_undo.cls = RX8 ∧ yX8_undo.cls ≠ "java/lang/invoke/MethodHandle" ∧ yX8_undo.cls ≠ "java/lang/invoke/VarHandle" ∧ (parseMethodDescriptor yX8_undo.desc).map (fun d => d.parameters.length) = some 0 := by decide +kernel
def wsX8_keep : List Cond := Cond.code yX8_keep cX8_keep 1 (some .int) :: ed_ws
theorem hd_X8_keep : yX8_keep.cls = RX8 ∧ yX8_keep.cls ≠ "java/lang/invoke/MethodHandle" ∧ yX8_keep.cls ≠ "java/lang/invoke/VarHandle" ∧ (parseMethodDescriptor yX8_keep.desc).map (fun d => d.parameters.length) = some 0 := by decide +kernel
def wsX8_restore : List Cond := Cond.code yX8_restore cX8_restore 1 (some .int) :: ed_ws
theorem hd_X8_restore : yX8_restore.cls = RX8 ∧ yX8_restore.cls ≠ "java/lang/invoke/MethodHandle" ∧ yX8_restore.cls ≠ "java/lang/invoke/VarHandle" ∧ (parseMethodDescriptor yX8_restore.desc).map (fun d => d.parameters.length) = some 0 := by decide +kernel
def wsX8_story : List Cond := Cond.code yX8_story cX8_story 4 (some .int) :: ed_ws
theorem hd_X8_story : yX8_story.cls = RX8 ∧ yX8_story.cls ≠ "java/lang/invoke/MethodHandle" ∧ yX8_story.cls ≠ "java/lang/invoke/VarHandle" ∧ (parseMethodDescriptor yX8_story.desc).map (fun d => d.parameters.length) = some 2 := by decide +kernel
def wsX8_byline : List Cond := Cond.code yX8_byline cX8_byline 4 (some .int) :: ed_ws
theorem hd_X8_byline : yX8_byline.cls = RX8 ∧ yX8_byline.cls ≠ "java/lang/invoke/MethodHandle" ∧ yX8_byline.cls ≠ "java/lang/invoke/VarHandle" ∧ (parseMethodDescriptor yX8_byline.desc).map (fun d => d.parameters.length) = some 2 := by decide +kernel
def wsX8_slugChar : List Cond := Cond.code yX8_slugChar cX8_slugChar 4 (some .int) :: ed_ws
theorem hd_X8_slugChar : yX8_slugChar.cls = RX8 ∧ yX8_slugChar.cls ≠ "java/lang/invoke/MethodHandle" ∧ yX8_slugChar.cls ≠ "java/lang/invoke/VarHandle" ∧ (parseMethodDescriptor yX8_slugChar.desc).map (fun d => d.parameters.length) = some 2 := by decide +kernel
def wsX8_correction : List Cond := Cond.code yX8_correction cX8_correction 4 (some .int) :: ed_ws
theorem hd_X8_correction : yX8_correction.cls = RX8 ∧ yX8_correction.cls ≠ "java/lang/invoke/MethodHandle" ∧ yX8_correction.cls ≠ "java/lang/invoke/VarHandle" ∧ (parseMethodDescriptor yX8_correction.desc).map (fun d => d.parameters.length) = some 2 := by decide +kernel
def wsX8_client : List Cond := Cond.code yX8_client cX8_client 4 (some .int) :: ed_ws
theorem hd_X8_client : yX8_client.cls = RX8 ∧ yX8_client.cls ≠ "java/lang/invoke/MethodHandle" ∧ yX8_client.cls ≠ "java/lang/invoke/VarHandle" ∧ (parseMethodDescriptor yX8_client.desc).map (fun d => d.parameters.length) = some 2 := by decide +kernel
def wsX8_person : List Cond := Cond.code yX8_person cX8_person 4 (some .int) :: ed_ws
theorem hd_X8_person : yX8_person.cls = RX8 ∧ yX8_person.cls ≠ "java/lang/invoke/MethodHandle" ∧ yX8_person.cls ≠ "java/lang/invoke/VarHandle" ∧ (parseMethodDescriptor yX8_person.desc).map (fun d => d.parameters.length) = some 2 := by decide +kernel
def wsX8_copy : List Cond := Cond.code yX8_copy cX8_copy 5 (some .int) :: ed_ws
theorem hd_X8_copy : yX8_copy.cls = RX8 ∧ yX8_copy.cls ≠ "java/lang/invoke/MethodHandle" ∧ yX8_copy.cls ≠ "java/lang/invoke/VarHandle" ∧ (parseMethodDescriptor yX8_copy.desc).map (fun d => d.parameters.length) = some 3 := by decide +kernel
def wsX8_copyAt : List Cond := Cond.code yX8_copyAt cX8_copyAt 3 (some .int) :: ed_ws
theorem hd_X8_copyAt : yX8_copyAt.cls = RX8 ∧ yX8_copyAt.cls ≠ "java/lang/invoke/MethodHandle" ∧ yX8_copyAt.cls ≠ "java/lang/invoke/VarHandle" ∧ (parseMethodDescriptor yX8_copyAt.desc).map (fun d => d.parameters.length) = some 1 := by decide +kernel
def wsX8_carriedIn : List Cond := Cond.code yX8_carriedIn cX8_carriedIn 6 (some .int) :: ed_ws
theorem hd_X8_carriedIn : yX8_carriedIn.cls = RX8 ∧ yX8_carriedIn.cls ≠ "java/lang/invoke/MethodHandle" ∧ yX8_carriedIn.cls ≠ "java/lang/invoke/VarHandle" ∧ (parseMethodDescriptor yX8_carriedIn.desc).map (fun d => d.parameters.length) = some 2 := by decide +kernel
def wsX8_wouldCome : List Cond := Cond.code yX8_wouldCome cX8_wouldCome 6 (some .int) :: ed_ws
theorem hd_X8_wouldCome : yX8_wouldCome.cls = RX8 ∧ yX8_wouldCome.cls ≠ "java/lang/invoke/MethodHandle" ∧ yX8_wouldCome.cls ≠ "java/lang/invoke/VarHandle" ∧ (parseMethodDescriptor yX8_wouldCome.desc).map (fun d => d.parameters.length) = some 2 := by decide +kernel
def wsX8_event : List Cond := Cond.code yX8_event cX8_event 3 (some .int) :: ed_ws
theorem hd_X8_event : yX8_event.cls = RX8 ∧ yX8_event.cls ≠ "java/lang/invoke/MethodHandle" ∧ yX8_event.cls ≠ "java/lang/invoke/VarHandle" ∧ (parseMethodDescriptor yX8_event.desc).map (fun d => d.parameters.length) = some 2 := by decide +kernel
def wsX8_count : List Cond := Cond.code yX8_count cX8_count 2 (some .int) :: ed_ws
theorem hd_X8_count : yX8_count.cls = RX8 ∧ yX8_count.cls ≠ "java/lang/invoke/MethodHandle" ∧ yX8_count.cls ≠ "java/lang/invoke/VarHandle" ∧ (parseMethodDescriptor yX8_count.desc).map (fun d => d.parameters.length) = some 1 := by decide +kernel
def wsX8_isBetween : List Cond := Cond.code yX8_isBetween cX8_isBetween 3 (some .boolean) :: ed_ws
theorem hn_X8_isBetween : yX8_isBetween.cls ≠ "java/lang/invoke/MethodHandle" ∧ yX8_isBetween.cls ≠ "java/lang/invoke/VarHandle" ∧ (parseMethodDescriptor yX8_isBetween.desc).map (fun d => d.parameters.length) = some 3 := by decide +kernel
theorem hd_X8_isBetween : yX8_isBetween.cls = RX8 ∧ yX8_isBetween.cls ≠ "java/lang/invoke/MethodHandle" ∧ yX8_isBetween.cls ≠ "java/lang/invoke/VarHandle" ∧ (parseMethodDescriptor yX8_isBetween.desc).map (fun d => d.parameters.length) = some 3 := by decide +kernel
def wsX8_isPlace : List Cond := Cond.code yX8_isPlace cX8_isPlace 2 (some .boolean) :: ed_ws
theorem hn_X8_isPlace : yX8_isPlace.cls ≠ "java/lang/invoke/MethodHandle" ∧ yX8_isPlace.cls ≠ "java/lang/invoke/VarHandle" ∧ (parseMethodDescriptor yX8_isPlace.desc).map (fun d => d.parameters.length) = some 2 := by decide +kernel
theorem hd_X8_isPlace : yX8_isPlace.cls = RX8 ∧ yX8_isPlace.cls ≠ "java/lang/invoke/MethodHandle" ∧ yX8_isPlace.cls ≠ "java/lang/invoke/VarHandle" ∧ (parseMethodDescriptor yX8_isPlace.desc).map (fun d => d.parameters.length) = some 2 := by decide +kernel
def wsX8_copyRow : List Cond := Cond.code yX8_copyRow cX8_copyRow 2 none :: ed_ws
theorem hn_X8_copyRow : yX8_copyRow.cls ≠ "java/lang/invoke/MethodHandle" ∧ yX8_copyRow.cls ≠ "java/lang/invoke/VarHandle" ∧ (parseMethodDescriptor yX8_copyRow.desc).map (fun d => d.parameters.length) = some 2 := by decide +kernel
theorem hd_X8_copyRow : yX8_copyRow.cls = RX8 ∧ yX8_copyRow.cls ≠ "java/lang/invoke/MethodHandle" ∧ yX8_copyRow.cls ≠ "java/lang/invoke/VarHandle" ∧ (parseMethodDescriptor yX8_copyRow.desc).map (fun d => d.parameters.length) = some 2 := by decide +kernel
def wsX9_init : List Cond := Cond.code yX9_init cX9_init 1 none :: ed_ws
theorem hn_X9_init : yX9_init.cls ≠ "java/lang/invoke/MethodHandle" ∧ yX9_init.cls ≠ "java/lang/invoke/VarHandle" ∧ (parseMethodDescriptor yX9_init.desc).map (fun d => d.parameters.length) = some 0 := by decide +kernel
theorem hd_X9_init : yX9_init.cls = RX9 ∧ yX9_init.cls ≠ "java/lang/invoke/MethodHandle" ∧ yX9_init.cls ≠ "java/lang/invoke/VarHandle" ∧ (parseMethodDescriptor yX9_init.desc).map (fun d => d.parameters.length) = some 0 := by decide +kernel
def wsX9_in : List Cond := Cond.code yX9_in cX9_in 3 (some .boolean) :: ed_ws
theorem hd_X9_in : yX9_in.cls = RX9 ∧ yX9_in.cls ≠ "java/lang/invoke/MethodHandle" ∧ yX9_in.cls ≠ "java/lang/invoke/VarHandle" ∧ (parseMethodDescriptor yX9_in.desc).map (fun d => d.parameters.length) = some 3 := by decide +kernel
def wsX9_record : List Cond := Cond.code yX9_record cX9_record 2 none :: ed_ws
theorem hd_X9_record : yX9_record.cls = RX9 ∧ yX9_record.cls ≠ "java/lang/invoke/MethodHandle" ∧ yX9_record.cls ≠ "java/lang/invoke/VarHandle" ∧ (parseMethodDescriptor yX9_record.desc).map (fun d => d.parameters.length) = some 0 := by decide +kernel
def wsX9_isClient : List Cond := Cond.code yX9_isClient cX9_isClient 2 (some .boolean) :: ed_ws
theorem hd_X9_isClient : yX9_isClient.cls = RX9 ∧ yX9_isClient.cls ≠ "java/lang/invoke/MethodHandle" ∧ yX9_isClient.cls ≠ "java/lang/invoke/VarHandle" ∧ (parseMethodDescriptor yX9_isClient.desc).map (fun d => d.parameters.length) = some 1 := by decide +kernel
def wsX9_isStory : List Cond := Cond.code yX9_isStory cX9_isStory 2 (some .boolean) :: ed_ws
theorem hd_X9_isStory : yX9_isStory.cls = RX9 ∧ yX9_isStory.cls ≠ "java/lang/invoke/MethodHandle" ∧ yX9_isStory.cls ≠ "java/lang/invoke/VarHandle" ∧ (parseMethodDescriptor yX9_isStory.desc).map (fun d => d.parameters.length) = some 1 := by decide +kernel
def wsX9_clientAt : List Cond := Cond.code yX9_clientAt cX9_clientAt 2 (some .int) :: ed_ws
theorem hd_X9_clientAt : yX9_clientAt.cls = RX9 ∧ yX9_clientAt.cls ≠ "java/lang/invoke/MethodHandle" ∧ yX9_clientAt.cls ≠ "java/lang/invoke/VarHandle" ∧ (parseMethodDescriptor yX9_clientAt.desc).map (fun d => d.parameters.length) = some 2 := by decide +kernel
def wsX9_storyAt : List Cond := Cond.code yX9_storyAt cX9_storyAt 2 (some .int) :: ed_ws
theorem hd_X9_storyAt : yX9_storyAt.cls = RX9 ∧ yX9_storyAt.cls ≠ "java/lang/invoke/MethodHandle" ∧ yX9_storyAt.cls ≠ "java/lang/invoke/VarHandle" ∧ (parseMethodDescriptor yX9_storyAt.desc).map (fun d => d.parameters.length) = some 2 := by decide +kernel
def wsX9_atCopy : List Cond := Cond.code yX9_atCopy cX9_atCopy 2 (some .int) :: ed_ws
theorem hd_X9_atCopy : yX9_atCopy.cls = RX9 ∧ yX9_atCopy.cls ≠ "java/lang/invoke/MethodHandle" ∧ yX9_atCopy.cls ≠ "java/lang/invoke/VarHandle" ∧ (parseMethodDescriptor yX9_atCopy.desc).map (fun d => d.parameters.length) = some 2 := by decide +kernel
def wsX9_ofClient : List Cond := Cond.code yX9_ofClient cX9_ofClient 3 (some .int) :: ed_ws
theorem hd_X9_ofClient : yX9_ofClient.cls = RX9 ∧ yX9_ofClient.cls ≠ "java/lang/invoke/MethodHandle" ∧ yX9_ofClient.cls ≠ "java/lang/invoke/VarHandle" ∧ (parseMethodDescriptor yX9_ofClient.desc).map (fun d => d.parameters.length) = some 2 := by decide +kernel
def wsX9_ofStory : List Cond := Cond.code yX9_ofStory cX9_ofStory 3 (some .int) :: ed_ws
theorem hd_X9_ofStory : yX9_ofStory.cls = RX9 ∧ yX9_ofStory.cls ≠ "java/lang/invoke/MethodHandle" ∧ yX9_ofStory.cls ≠ "java/lang/invoke/VarHandle" ∧ (parseMethodDescriptor yX9_ofStory.desc).map (fun d => d.parameters.length) = some 2 := by decide +kernel
def wsX9_ofCopy : List Cond := Cond.code yX9_ofCopy cX9_ofCopy 3 (some .int) :: ed_ws
theorem hd_X9_ofCopy : yX9_ofCopy.cls = RX9 ∧ yX9_ofCopy.cls ≠ "java/lang/invoke/MethodHandle" ∧ yX9_ofCopy.cls ≠ "java/lang/invoke/VarHandle" ∧ (parseMethodDescriptor yX9_ofCopy.desc).map (fun d => d.parameters.length) = some 2 := by decide +kernel
def wsX9_log : List Cond := Cond.code yX9_log cX9_log 5 none :: ed_ws
theorem hd_X9_log : yX9_log.cls = RX9 ∧ yX9_log.cls ≠ "java/lang/invoke/MethodHandle" ∧ yX9_log.cls ≠ "java/lang/invoke/VarHandle" ∧ (parseMethodDescriptor yX9_log.desc).map (fun d => d.parameters.length) = some 3 := by decide +kernel
def wsX9_wants : List Cond := Cond.code yX9_wants cX9_wants 3 (some .boolean) :: ed_ws
theorem hd_X9_wants : yX9_wants.cls = RX9 ∧ yX9_wants.cls ≠ "java/lang/invoke/MethodHandle" ∧ yX9_wants.cls ≠ "java/lang/invoke/VarHandle" ∧ (parseMethodDescriptor yX9_wants.desc).map (fun d => d.parameters.length) = some 2 := by decide +kernel
def wsX9_publish : List Cond := Cond.code yX9_publish cX9_publish 4 none :: ed_ws
theorem hd_X9_publish : yX9_publish.cls = RX9 ∧ yX9_publish.cls ≠ "java/lang/invoke/MethodHandle" ∧ yX9_publish.cls ≠ "java/lang/invoke/VarHandle" ∧ (parseMethodDescriptor yX9_publish.desc).map (fun d => d.parameters.length) = some 1 := by decide +kernel
def wsX9_share : List Cond := Cond.code yX9_share cX9_share 4 none :: ed_ws
theorem hd_X9_share : yX9_share.cls = RX9 ∧ yX9_share.cls ≠ "java/lang/invoke/MethodHandle" ∧ yX9_share.cls ≠ "java/lang/invoke/VarHandle" ∧ (parseMethodDescriptor yX9_share.desc).map (fun d => d.parameters.length) = some 2 := by decide +kernel
def wsX9_bill : List Cond := Cond.code yX9_bill cX9_bill 6 none :: ed_ws
theorem hd_X9_bill : yX9_bill.cls = RX9 ∧ yX9_bill.cls ≠ "java/lang/invoke/MethodHandle" ∧ yX9_bill.cls ≠ "java/lang/invoke/VarHandle" ∧ (parseMethodDescriptor yX9_bill.desc).map (fun d => d.parameters.length) = some 2 := by decide +kernel
def wsX9_useEnds : List Cond := Cond.code yX9_useEnds cX9_useEnds 2 (some .int) :: ed_ws
theorem hd_X9_useEnds : yX9_useEnds.cls = RX9 ∧ yX9_useEnds.cls ≠ "java/lang/invoke/MethodHandle" ∧ yX9_useEnds.cls ≠ "java/lang/invoke/VarHandle" ∧ (parseMethodDescriptor yX9_useEnds.desc).map (fun d => d.parameters.length) = some 1 := by decide +kernel
def wsX9_killDue : List Cond := Cond.code yX9_killDue cX9_killDue 2 (some .int) :: ed_ws
theorem hd_X9_killDue : yX9_killDue.cls = RX9 ∧ yX9_killDue.cls ≠ "java/lang/invoke/MethodHandle" ∧ yX9_killDue.cls ≠ "java/lang/invoke/VarHandle" ∧ (parseMethodDescriptor yX9_killDue.desc).map (fun d => d.parameters.length) = some 1 := by decide +kernel
def wsX9_correctionDue : List Cond := Cond.code yX9_correctionDue cX9_correctionDue 3 (some .int) :: ed_ws
theorem hd_X9_correctionDue : yX9_correctionDue.cls = RX9 ∧ yX9_correctionDue.cls ≠ "java/lang/invoke/MethodHandle" ∧ yX9_correctionDue.cls ≠ "java/lang/invoke/VarHandle" ∧ (parseMethodDescriptor yX9_correctionDue.desc).map (fun d => d.parameters.length) = some 2 := by decide +kernel
def wsX9_goOn : List Cond := Cond.code yX9_goOn cX9_goOn 6 (some .int) :: ed_ws
theorem hd_X9_goOn : yX9_goOn.cls = RX9 ∧ yX9_goOn.cls ≠ "java/lang/invoke/MethodHandle" ∧ yX9_goOn.cls ≠ "java/lang/invoke/VarHandle" ∧ (parseMethodDescriptor yX9_goOn.desc).map (fun d => d.parameters.length) = some 1 := by decide +kernel
def wsX9_oneHour : List Cond := Cond.code yX9_oneHour cX9_oneHour 3 (some .int) :: ed_ws
theorem hd_X9_oneHour : yX9_oneHour.cls = RX9 ∧ yX9_oneHour.cls ≠ "java/lang/invoke/MethodHandle" ∧ yX9_oneHour.cls ≠ "java/lang/invoke/VarHandle" ∧ (parseMethodDescriptor yX9_oneHour.desc).map (fun d => d.parameters.length) = some 0 := by decide +kernel
def wsX9_addClient : List Cond := Cond.code yX9_addClient cX9_addClient 7 (some .int) :: ed_ws
theorem hd_X9_addClient : yX9_addClient.cls = RX9 ∧ yX9_addClient.cls ≠ "java/lang/invoke/MethodHandle" ∧ yX9_addClient.cls ≠ "java/lang/invoke/VarHandle" ∧ (parseMethodDescriptor yX9_addClient.desc).map (fun d => d.parameters.length) = some 5 := by decide +kernel
def wsX9_becomes : List Cond := Cond.code yX9_becomes cX9_becomes 4 (some .int) :: ed_ws
theorem hd_X9_becomes : yX9_becomes.cls = RX9 ∧ yX9_becomes.cls ≠ "java/lang/invoke/MethodHandle" ∧ yX9_becomes.cls ≠ "java/lang/invoke/VarHandle" ∧ (parseMethodDescriptor yX9_becomes.desc).map (fun d => d.parameters.length) = some 2 := by decide +kernel
def wsX9_setTopics : List Cond := Cond.code yX9_setTopics cX9_setTopics 3 (some .int) :: ed_ws
theorem hd_X9_setTopics : yX9_setTopics.cls = RX9 ∧ yX9_setTopics.cls ≠ "java/lang/invoke/MethodHandle" ∧ yX9_setTopics.cls ≠ "java/lang/invoke/VarHandle" ∧ (parseMethodDescriptor yX9_setTopics.desc).map (fun d => d.parameters.length) = some 2 := by decide +kernel
def wsX9_setUp : List Cond := Cond.code yX9_setUp cX9_setUp 5 (some .int) :: ed_ws
theorem hd_X9_setUp : yX9_setUp.cls = RX9 ∧ yX9_setUp.cls ≠ "java/lang/invoke/MethodHandle" ∧ yX9_setUp.cls ≠ "java/lang/invoke/VarHandle" ∧ (parseMethodDescriptor yX9_setUp.desc).map (fun d => d.parameters.length) = some 2 := by decide +kernel
def wsX9_setUse : List Cond := Cond.code yX9_setUse cX9_setUse 2 (some .int) :: ed_ws
theorem hd_X9_setUse : yX9_setUse.cls = RX9 ∧ yX9_setUse.cls ≠ "java/lang/invoke/MethodHandle" ∧ yX9_setUse.cls ≠ "java/lang/invoke/VarHandle" ∧ (parseMethodDescriptor yX9_setUse.desc).map (fun d => d.parameters.length) = some 1 := by decide +kernel
def wsX9_pay : List Cond := Cond.code yX9_pay cX9_pay 3 (some .int) :: ed_ws
theorem hd_X9_pay : yX9_pay.cls = RX9 ∧ yX9_pay.cls ≠ "java/lang/invoke/MethodHandle" ∧ yX9_pay.cls ≠ "java/lang/invoke/VarHandle" ∧ (parseMethodDescriptor yX9_pay.desc).map (fun d => d.parameters.length) = some 2 := by decide +kernel
def wsX9_type : List Cond := Cond.code yX9_type cX9_type 2 (some .int) :: ed_ws
theorem hd_X9_type : yX9_type.cls = RX9 ∧ yX9_type.cls ≠ "java/lang/invoke/MethodHandle" ∧ yX9_type.cls ≠ "java/lang/invoke/VarHandle" ∧ (parseMethodDescriptor yX9_type.desc).map (fun d => d.parameters.length) = some 1 := by decide +kernel
def wsX9_clearText : List Cond := Cond.code yX9_clearText cX9_clearText 2 (some .int) :: ed_ws
theorem hd_X9_clearText : yX9_clearText.cls = RX9 ∧ yX9_clearText.cls ≠ "java/lang/invoke/MethodHandle" ∧ yX9_clearText.cls ≠ "java/lang/invoke/VarHandle" ∧ (parseMethodDescriptor yX9_clearText.desc).map (fun d => d.parameters.length) = some 0 := by decide +kernel
def wsX9_sign : List Cond := Cond.code yX9_sign cX9_sign 3 (some .boolean) :: ed_ws
theorem hd_X9_sign : yX9_sign.cls = RX9 ∧ yX9_sign.cls ≠ "java/lang/invoke/MethodHandle" ∧ yX9_sign.cls ≠ "java/lang/invoke/VarHandle" ∧ (parseMethodDescriptor yX9_sign.desc).map (fun d => d.parameters.length) = some 1 := by decide +kernel
def wsX9_digitTo : List Cond := Cond.code yX9_digitTo cX9_digitTo 3 (some .boolean) :: ed_ws
theorem hd_X9_digitTo : yX9_digitTo.cls = RX9 ∧ yX9_digitTo.cls ≠ "java/lang/invoke/MethodHandle" ∧ yX9_digitTo.cls ≠ "java/lang/invoke/VarHandle" ∧ (parseMethodDescriptor yX9_digitTo.desc).map (fun d => d.parameters.length) = some 1 := by decide +kernel
def wsX9_readPersons : List Cond := Cond.code yX9_readPersons cX9_readPersons 5 (some .boolean) :: ed_ws
theorem hd_X9_readPersons : yX9_readPersons.cls = RX9 ∧ yX9_readPersons.cls ≠ "java/lang/invoke/MethodHandle" ∧ yX9_readPersons.cls ≠ "java/lang/invoke/VarHandle" ∧ (parseMethodDescriptor yX9_readPersons.desc).map (fun d => d.parameters.length) = some 0 := by decide +kernel
def wsX9_readHour : List Cond := Cond.code yX9_readHour cX9_readHour 3 (some .boolean) :: ed_ws
theorem hd_X9_readHour : yX9_readHour.cls = RX9 ∧ yX9_readHour.cls ≠ "java/lang/invoke/MethodHandle" ∧ yX9_readHour.cls ≠ "java/lang/invoke/VarHandle" ∧ (parseMethodDescriptor yX9_readHour.desc).map (fun d => d.parameters.length) = some 0 := by decide +kernel
def wsX9_readSlug : List Cond := Cond.code yX9_readSlug cX9_readSlug 2 (some .boolean) :: ed_ws
theorem hd_X9_readSlug : yX9_readSlug.cls = RX9 ∧ yX9_readSlug.cls ≠ "java/lang/invoke/MethodHandle" ∧ yX9_readSlug.cls ≠ "java/lang/invoke/VarHandle" ∧ (parseMethodDescriptor yX9_readSlug.desc).map (fun d => d.parameters.length) = some 0 := by decide +kernel
def wsX9_readText : List Cond := Cond.code yX9_readText cX9_readText 2 (some .boolean) :: ed_ws
theorem hd_X9_readText : yX9_readText.cls = RX9 ∧ yX9_readText.cls ≠ "java/lang/invoke/MethodHandle" ∧ yX9_readText.cls ≠ "java/lang/invoke/VarHandle" ∧ (parseMethodDescriptor yX9_readText.desc).map (fun d => d.parameters.length) = some 0 := by decide +kernel
def wsX9_readStory : List Cond := Cond.code yX9_readStory cX9_readStory 3 (some .int) :: ed_ws
theorem hd_X9_readStory : yX9_readStory.cls = RX9 ∧ yX9_readStory.cls ≠ "java/lang/invoke/MethodHandle" ∧ yX9_readStory.cls ≠ "java/lang/invoke/VarHandle" ∧ (parseMethodDescriptor yX9_readStory.desc).map (fun d => d.parameters.length) = some 0 := by decide +kernel
def wsX9_release : List Cond := Cond.code yX9_release cX9_release 4 (some .int) :: ed_ws
theorem hd_X9_release : yX9_release.cls = RX9 ∧ yX9_release.cls ≠ "java/lang/invoke/MethodHandle" ∧ yX9_release.cls ≠ "java/lang/invoke/VarHandle" ∧ (parseMethodDescriptor yX9_release.desc).map (fun d => d.parameters.length) = some 1 := by decide +kernel
def wsX9_hold : List Cond := Cond.code yX9_hold cX9_hold 3 (some .int) :: ed_ws
theorem hd_X9_hold : yX9_hold.cls = RX9 ∧ yX9_hold.cls ≠ "java/lang/invoke/MethodHandle" ∧ yX9_hold.cls ≠ "java/lang/invoke/VarHandle" ∧ (parseMethodDescriptor yX9_hold.desc).map (fun d => d.parameters.length) = some 1 := by decide +kernel
def wsX9_setEmbargo : List Cond := Cond.code yX9_setEmbargo cX9_setEmbargo 3 (some .int) :: ed_ws
theorem hd_X9_setEmbargo : yX9_setEmbargo.cls = RX9 ∧ yX9_setEmbargo.cls ≠ "java/lang/invoke/MethodHandle" ∧ yX9_setEmbargo.cls ≠ "java/lang/invoke/VarHandle" ∧ (parseMethodDescriptor yX9_setEmbargo.desc).map (fun d => d.parameters.length) = some 2 := by decide +kernel
def wsX9_correct : List Cond := Cond.code yX9_correct cX9_correct 2 (some .int) :: ed_ws
theorem hd_X9_correct : yX9_correct.cls = RX9 ∧ yX9_correct.cls ≠ "java/lang/invoke/MethodHandle" ∧ yX9_correct.cls ≠ "java/lang/invoke/VarHandle" ∧ (parseMethodDescriptor yX9_correct.desc).map (fun d => d.parameters.length) = some 1 := by decide +kernel
def wsX9_inUse : List Cond := Cond.code yX9_inUse cX9_inUse 5 (some .int) :: ed_ws
theorem hd_X9_inUse : yX9_inUse.cls = RX9 ∧ yX9_inUse.cls ≠ "java/lang/invoke/MethodHandle" ∧ yX9_inUse.cls ≠ "java/lang/invoke/VarHandle" ∧ (parseMethodDescriptor yX9_inUse.desc).map (fun d => d.parameters.length) = some 2 := by decide +kernel
def wsX9_kill : List Cond := Cond.code yX9_kill cX9_kill 2 (some .int) :: ed_ws
theorem hd_X9_kill : yX9_kill.cls = RX9 ∧ yX9_kill.cls ≠ "java/lang/invoke/MethodHandle" ∧ yX9_kill.cls ≠ "java/lang/invoke/VarHandle" ∧ (parseMethodDescriptor yX9_kill.desc).map (fun d => d.parameters.length) = some 1 := by decide +kernel
def wsX9_pass : List Cond := Cond.code yX9_pass cX9_pass 4 (some .int) :: ed_ws
theorem hd_X9_pass : yX9_pass.cls = RX9 ∧ yX9_pass.cls ≠ "java/lang/invoke/MethodHandle" ∧ yX9_pass.cls ≠ "java/lang/invoke/VarHandle" ∧ (parseMethodDescriptor yX9_pass.desc).map (fun d => d.parameters.length) = some 1 := by decide +kernel
def wsX9_undo : List Cond := Cond.code yX9_undo cX9_undo 2 (some .int) :: ed_ws
theorem hd_X9_undo : yX9_undo.cls = RX9 ∧ yX9_undo.cls ≠ "java/lang/invoke/MethodHandle" ∧ yX9_undo.cls ≠ "java/lang/invoke/VarHandle" ∧ (parseMethodDescriptor yX9_undo.desc).map (fun d => d.parameters.length) = some 0 := by decide +kernel
def wsX9_keep : List Cond := Cond.code yX9_keep cX9_keep 2 (some .int) :: ed_ws
theorem hd_X9_keep : yX9_keep.cls = RX9 ∧ yX9_keep.cls ≠ "java/lang/invoke/MethodHandle" ∧ yX9_keep.cls ≠ "java/lang/invoke/VarHandle" ∧ (parseMethodDescriptor yX9_keep.desc).map (fun d => d.parameters.length) = some 0 := by decide +kernel
def wsX9_restore : List Cond := Cond.code yX9_restore cX9_restore 2 (some .int) :: ed_ws
theorem hd_X9_restore : yX9_restore.cls = RX9 ∧ yX9_restore.cls ≠ "java/lang/invoke/MethodHandle" ∧ yX9_restore.cls ≠ "java/lang/invoke/VarHandle" ∧ (parseMethodDescriptor yX9_restore.desc).map (fun d => d.parameters.length) = some 0 := by decide +kernel
def wsX9_story : List Cond := Cond.code yX9_story cX9_story 5 (some .int) :: ed_ws
theorem hd_X9_story : yX9_story.cls = RX9 ∧ yX9_story.cls ≠ "java/lang/invoke/MethodHandle" ∧ yX9_story.cls ≠ "java/lang/invoke/VarHandle" ∧ (parseMethodDescriptor yX9_story.desc).map (fun d => d.parameters.length) = some 2 := by decide +kernel
def wsX9_rowOf : List Cond := Cond.code yX9_rowOf cX9_rowOf 5 (some .int) :: ed_ws
theorem hd_X9_rowOf : yX9_rowOf.cls = RX9 ∧ yX9_rowOf.cls ≠ "java/lang/invoke/MethodHandle" ∧ yX9_rowOf.cls ≠ "java/lang/invoke/VarHandle" ∧ (parseMethodDescriptor yX9_rowOf.desc).map (fun d => d.parameters.length) = some 4 := by decide +kernel
def wsX9_byline : List Cond := Cond.code yX9_byline cX9_byline 3 (some .int) :: ed_ws
theorem hd_X9_byline : yX9_byline.cls = RX9 ∧ yX9_byline.cls ≠ "java/lang/invoke/MethodHandle" ∧ yX9_byline.cls ≠ "java/lang/invoke/VarHandle" ∧ (parseMethodDescriptor yX9_byline.desc).map (fun d => d.parameters.length) = some 2 := by decide +kernel
def wsX9_slugChar : List Cond := Cond.code yX9_slugChar cX9_slugChar 3 (some .int) :: ed_ws
theorem hd_X9_slugChar : yX9_slugChar.cls = RX9 ∧ yX9_slugChar.cls ≠ "java/lang/invoke/MethodHandle" ∧ yX9_slugChar.cls ≠ "java/lang/invoke/VarHandle" ∧ (parseMethodDescriptor yX9_slugChar.desc).map (fun d => d.parameters.length) = some 2 := by decide +kernel
def wsX9_correction : List Cond := Cond.code yX9_correction cX9_correction 3 (some .int) :: ed_ws
theorem hd_X9_correction : yX9_correction.cls = RX9 ∧ yX9_correction.cls ≠ "java/lang/invoke/MethodHandle" ∧ yX9_correction.cls ≠ "java/lang/invoke/VarHandle" ∧ (parseMethodDescriptor yX9_correction.desc).map (fun d => d.parameters.length) = some 2 := by decide +kernel
def wsX9_inUseFor : List Cond := Cond.code yX9_inUseFor cX9_inUseFor 4 (some .int) :: ed_ws
theorem hd_X9_inUseFor : yX9_inUseFor.cls = RX9 ∧ yX9_inUseFor.cls ≠ "java/lang/invoke/MethodHandle" ∧ yX9_inUseFor.cls ≠ "java/lang/invoke/VarHandle" ∧ (parseMethodDescriptor yX9_inUseFor.desc).map (fun d => d.parameters.length) = some 1 := by decide +kernel
def wsX9_client : List Cond := Cond.code yX9_client cX9_client 3 (some .int) :: ed_ws
theorem hd_X9_client : yX9_client.cls = RX9 ∧ yX9_client.cls ≠ "java/lang/invoke/MethodHandle" ∧ yX9_client.cls ≠ "java/lang/invoke/VarHandle" ∧ (parseMethodDescriptor yX9_client.desc).map (fun d => d.parameters.length) = some 2 := by decide +kernel
def wsX9_wrote : List Cond := Cond.code yX9_wrote cX9_wrote 5 (some .boolean) :: ed_ws
theorem hd_X9_wrote : yX9_wrote.cls = RX9 ∧ yX9_wrote.cls ≠ "java/lang/invoke/MethodHandle" ∧ yX9_wrote.cls ≠ "java/lang/invoke/VarHandle" ∧ (parseMethodDescriptor yX9_wrote.desc).map (fun d => d.parameters.length) = some 2 := by decide +kernel
def wsX9_person : List Cond := Cond.code yX9_person cX9_person 6 (some .int) :: ed_ws
theorem hd_X9_person : yX9_person.cls = RX9 ∧ yX9_person.cls ≠ "java/lang/invoke/MethodHandle" ∧ yX9_person.cls ≠ "java/lang/invoke/VarHandle" ∧ (parseMethodDescriptor yX9_person.desc).map (fun d => d.parameters.length) = some 2 := by decide +kernel
def wsX9_copyOf : List Cond := Cond.code yX9_copyOf cX9_copyOf 5 (some .int) :: ed_ws
theorem hd_X9_copyOf : yX9_copyOf.cls = RX9 ∧ yX9_copyOf.cls ≠ "java/lang/invoke/MethodHandle" ∧ yX9_copyOf.cls ≠ "java/lang/invoke/VarHandle" ∧ (parseMethodDescriptor yX9_copyOf.desc).map (fun d => d.parameters.length) = some 2 := by decide +kernel
def wsX9_dueNow : List Cond := Cond.code yX9_dueNow cX9_dueNow 4 (some .int) :: ed_ws
theorem hd_X9_dueNow : yX9_dueNow.cls = RX9 ∧ yX9_dueNow.cls ≠ "java/lang/invoke/MethodHandle" ∧ yX9_dueNow.cls ≠ "java/lang/invoke/VarHandle" ∧ (parseMethodDescriptor yX9_dueNow.desc).map (fun d => d.parameters.length) = some 1 := by decide +kernel
def wsX9_copy : List Cond := Cond.code yX9_copy cX9_copy 7 (some .int) :: ed_ws
theorem hd_X9_copy : yX9_copy.cls = RX9 ∧ yX9_copy.cls ≠ "java/lang/invoke/MethodHandle" ∧ yX9_copy.cls ≠ "java/lang/invoke/VarHandle" ∧ (parseMethodDescriptor yX9_copy.desc).map (fun d => d.parameters.length) = some 3 := by decide +kernel
def wsX9_copyAt : List Cond := Cond.code yX9_copyAt cX9_copyAt 2 (some .int) :: ed_ws
theorem hd_X9_copyAt : yX9_copyAt.cls = RX9 ∧ yX9_copyAt.cls ≠ "java/lang/invoke/MethodHandle" ∧ yX9_copyAt.cls ≠ "java/lang/invoke/VarHandle" ∧ (parseMethodDescriptor yX9_copyAt.desc).map (fun d => d.parameters.length) = some 1 := by decide +kernel
def wsX9_bringBack : List Cond := Cond.code yX9_bringBack cX9_bringBack 2 none :: ed_ws
theorem hd_X9_bringBack : yX9_bringBack.cls = RX9 ∧ yX9_bringBack.cls ≠ "java/lang/invoke/MethodHandle" ∧ yX9_bringBack.cls ≠ "java/lang/invoke/VarHandle" ∧ (parseMethodDescriptor yX9_bringBack.desc).map (fun d => d.parameters.length) = some 0 := by decide +kernel
def wsX9_setAside : List Cond := Cond.code yX9_setAside cX9_setAside 2 none :: ed_ws
theorem hd_X9_setAside : yX9_setAside.cls = RX9 ∧ yX9_setAside.cls ≠ "java/lang/invoke/MethodHandle" ∧ yX9_setAside.cls ≠ "java/lang/invoke/VarHandle" ∧ (parseMethodDescriptor yX9_setAside.desc).map (fun d => d.parameters.length) = some 0 := by decide +kernel
def wsX9_carriedIn : List Cond := Cond.code yX9_carriedIn cX9_carriedIn 5 (some .int) :: ed_ws
theorem hd_X9_carriedIn : yX9_carriedIn.cls = RX9 ∧ yX9_carriedIn.cls ≠ "java/lang/invoke/MethodHandle" ∧ yX9_carriedIn.cls ≠ "java/lang/invoke/VarHandle" ∧ (parseMethodDescriptor yX9_carriedIn.desc).map (fun d => d.parameters.length) = some 2 := by decide +kernel
def wsX9_wouldCome : List Cond := Cond.code yX9_wouldCome cX9_wouldCome 4 (some .int) :: ed_ws
theorem hd_X9_wouldCome : yX9_wouldCome.cls = RX9 ∧ yX9_wouldCome.cls ≠ "java/lang/invoke/MethodHandle" ∧ yX9_wouldCome.cls ≠ "java/lang/invoke/VarHandle" ∧ (parseMethodDescriptor yX9_wouldCome.desc).map (fun d => d.parameters.length) = some 2 := by decide +kernel
def wsX9_event : List Cond := Cond.code yX9_event cX9_event 5 (some .int) :: ed_ws
theorem hd_X9_event : yX9_event.cls = RX9 ∧ yX9_event.cls ≠ "java/lang/invoke/MethodHandle" ∧ yX9_event.cls ≠ "java/lang/invoke/VarHandle" ∧ (parseMethodDescriptor yX9_event.desc).map (fun d => d.parameters.length) = some 2 := by decide +kernel
def wsX9_personsOfAll : List Cond := Cond.code yX9_personsOfAll cX9_personsOfAll 5 (some .int) :: ed_ws
theorem hd_X9_personsOfAll : yX9_personsOfAll.cls = RX9 ∧ yX9_personsOfAll.cls ≠ "java/lang/invoke/MethodHandle" ∧ yX9_personsOfAll.cls ≠ "java/lang/invoke/VarHandle" ∧ (parseMethodDescriptor yX9_personsOfAll.desc).map (fun d => d.parameters.length) = some 0 := by decide +kernel
def wsX9_count : List Cond := Cond.code yX9_count cX9_count 5 (some .int) :: ed_ws
theorem hd_X9_count : yX9_count.cls = RX9 ∧ yX9_count.cls ≠ "java/lang/invoke/MethodHandle" ∧ yX9_count.cls ≠ "java/lang/invoke/VarHandle" ∧ (parseMethodDescriptor yX9_count.desc).map (fun d => d.parameters.length) = some 1 := by decide +kernel
end
section
/-! The memory of the class: seven states, the text, the history, the desk itself, at fixed places behind a base B. What a place holds is a row of ints; the references are fixed by the place. -/
abbrev ed_SM : Type := Nat → Nat → Nat → Int32
abbrev ed_CM : Type := Nat → ed_SM
/-- set a row, set a place of a row; set a state -/
def ed_sR (σ : ed_SM) (K i : Nat) (r : Nat → Int32) : ed_SM := fun K' i' => if K' = K ∧ i' = i then r else σ K' i'
def ed_up (σ : ed_SM) (K i k : Nat) (v : Int32) : ed_SM := ed_sR σ K i (upd (σ K i) k v)
def ed_sJ (μ : ed_CM) (j : Nat) (σ : ed_SM) : ed_CM := fun j' => if j' = j then σ else μ j'
theorem ed_sJ_self (μ : ed_CM) (j : Nat) (σ : ed_SM) : ed_sJ μ j σ j = σ := by simp [ed_sJ]
theorem ed_sJ_ne (μ : ed_CM) {j k : Nat} (σ : ed_SM) (h : k ≠ j) : ed_sJ μ j σ k = μ k := by simp [ed_sJ, h]
theorem ed_sJ_eta (μ : ed_CM) (j : Nat) : ed_sJ μ j (μ j) = μ := by
  funext k
  by_cases h : k = j
  · subst h; simp [ed_sJ]
  · simp [ed_sJ, h]
theorem ed_sJ_sJ (μ : ed_CM) (j : Nat) (σ τ : ed_SM) : ed_sJ (ed_sJ μ j σ) j τ = ed_sJ μ j τ := by
  funext k
  by_cases h : k = j <;> simp [ed_sJ, h]
/-- places: kinds 0 State, 1 Log, 2 its cells, 3..6 the rows of stories, clients, copies, persons, 7 Story, 8 byline, 9 slug, 10 corrections, 11 Client, 12 Copy, 13 Person; of j = 7: 14 the desk, 15 History, 16 its rows, 17 StoryText, 18 signs, 19 byline, 20 slug -/
def ed_oS (j : Nat) : Nat := if j < 3 then 1 + 265 * j else 798 + 265 * (j - 3)
def ed_oF (j K i : Nat) : Nat := match K with
  | 0 => ed_oS j
  | 1 => ed_oS j + 1
  | 2 => ed_oS j + 2
  | 3 => ed_oS j + 3
  | 4 => ed_oS j + 4
  | 5 => ed_oS j + 5
  | 6 => ed_oS j + 6
  | 7 => ed_oS j + 7 + 4 * i
  | 8 => ed_oS j + 8 + 4 * i
  | 9 => ed_oS j + 9 + 4 * i
  | 10 => ed_oS j + 10 + 4 * i
  | 11 => ed_oS j + 87 + i
  | 12 => ed_oS j + 95 + i
  | 13 => ed_oS j + 255 + i
  | 14 => 0
  | 15 => 796
  | 16 => 797
  | 17 => 1858
  | 18 => 1859
  | 19 => 1860
  | _ => 1861
def ed_vd (j K i : Nat) : Bool := if K < 7 then decide (j < 7) && decide (i = 0) else if K < 11 then decide (j < 7) && decide (i < 20) else if K = 11 then decide (j < 7) && decide (i < 8) else if K = 12 then decide (j < 7) && decide (i < 160) else if K = 13 then decide (j < 7) && decide (i < 10) else decide (K < 21) && decide (j = 7) && decide (i = 0)
def ed_dS (j o : Nat) : Nat × Nat × Nat := if o < 7 then (j, o, 0) else if o < 87 then (j, 7 + (o - 7) % 4, (o - 7) / 4) else if o < 95 then (j, 11, o - 87) else if o < 255 then (j, 12, o - 95) else (j, 13, o - 255)
def ed_dK (o : Nat) : Nat × Nat × Nat := if o = 0 then (7, 14, 0) else if o < 796 then ed_dS ((o - 1) / 265) ((o - 1) % 265) else if o = 796 then (7, 15, 0) else if o = 797 then (7, 16, 0) else if o < 1858 then ed_dS (3 + (o - 798) / 265) ((o - 798) % 265) else (7, o - 1858 + 17, 0)
theorem ed_vd_lt {j K i : Nat} (h : ed_vd j K i = true) : j < 8 ∧ K < 21 ∧ i < 160 := by
  unfold ed_vd at h
  split at h
  · simp at h; omega
  · split at h
    · simp at h; omega
    · split at h
      · simp at h; omega
      · split at h
        · simp at h; omega
        · split at h
          · simp at h; omega
          · simp at h; omega
theorem ed_tab1 : ((List.range 8).all fun j => (List.range 21).all fun K => (List.range 160).all fun i => !(ed_vd j K i) || (decide (ed_oF j K i < 1862) && decide (ed_dK (ed_oF j K i) = (j, K, i)))) = true := by decide +kernel
theorem ed_tab2 : ((List.range 1862).all fun o => decide (ed_oF (ed_dK o).1 (ed_dK o).2.1 (ed_dK o).2.2 = o)) = true := by decide +kernel
theorem ed_oF_spec {j K i : Nat} (h : ed_vd j K i = true) : ed_oF j K i < 1862 ∧ ed_dK (ed_oF j K i) = (j, K, i) := by
  obtain ⟨h1, h2, h3⟩ := ed_vd_lt h
  have t := List.all_eq_true.mp (List.all_eq_true.mp (List.all_eq_true.mp ed_tab1 j (List.mem_range.mpr h1)) K (List.mem_range.mpr h2)) i (List.mem_range.mpr h3)
  simpa [h] using t
theorem ed_dK_spec {o : Nat} (h : o < 1862) : ed_oF (ed_dK o).1 (ed_dK o).2.1 (ed_dK o).2.2 = o := by
  have t := List.all_eq_true.mp ed_tab2 o (List.mem_range.mpr h)
  simpa using t
def ed_ent (cy : Nat → ClassId) (B j K i : Nat) (r : Nat → Int32) : va_E := match K with
  | 0 => .inr (5, [.int (r 0), .int (r 1), .int (r 2), .int (r 3), .int (r 4), .int (r 5), .ref (B + ed_oF j 1 0), .ref (B + ed_oF j 3 0), .ref (B + ed_oF j 4 0), .ref (B + ed_oF j 5 0), .ref (B + ed_oF j 6 0)])
  | 1 => .inr (3, [.ref (B + ed_oF j 2 0), .int (r 1), .int (r 2)])
  | 2 => .inl (cy 0, 48, .inl r)
  | 3 => .inl (cy 1, 20, .inr (.inr (.inr (.inr (fun k => some (B + ed_oF j 7 k))))))
  | 4 => .inl (cy 2, 8, .inr (.inr (.inr (.inr (fun k => some (B + ed_oF j 11 k))))))
  | 5 => .inl (cy 3, 160, .inr (.inr (.inr (.inr (fun k => some (B + ed_oF j 12 k))))))
  | 6 => .inl (cy 4, 10, .inr (.inr (.inr (.inr (fun k => some (B + ed_oF j 13 k))))))
  | 7 => .inr (6, [.int (r 0), .int (r 1), .ref (B + ed_oF j 8 i), .int (r 3), .int (r 4), .ref (B + ed_oF j 9 i), .int (r 6), .int (r 7), .ref (B + ed_oF j 10 i), .int (r 9), .int (r 10)])
  | 8 => .inl (cy 0, 3, .inl r)
  | 9 => .inl (cy 0, 12, .inl r)
  | 10 => .inl (cy 0, 6, .inl r)
  | 11 => .inr (0, [.int (r 0), .int (r 1), .int (r 2), .int (r 3), .int (r 4), .int (r 5), .int (r 6), .int (r 7), .int (r 8), .int (r 9)])
  | 12 => .inr (1, [.int (r 0), .int (r 1), .int (r 2), .int (r 3), .int (r 4), .int (r 5)])
  | 13 => .inr (4, [.int (r 0), .int (r 1)])
  | 14 => .inr (8, [.ref (B + ed_oF 0 0 0), .ref (B + ed_oF 1 0 0), .ref (B + ed_oF 2 0 0), .int (r 3), .ref (B + ed_oF 7 15 0), .ref (B + ed_oF 7 17 0)])
  | 15 => .inr (2, [.ref (B + ed_oF 7 16 0), .int (r 1)])
  | 16 => .inl (cy 5, 4, .inr (.inr (.inr (.inr (fun k => some (B + ed_oF ((r k).toNatClampNeg % 7) 0 0))))))
  | 17 => .inr (7, [.ref (B + ed_oF 7 18 0), .int (r 1), .int (r 2), .int (r 3), .int (r 4), .ref (B + ed_oF 7 19 0), .int (r 6), .int (r 7), .ref (B + ed_oF 7 20 0)])
  | 18 => .inl (cy 0, 40, .inl r)
  | 19 => .inl (cy 0, 3, .inl r)
  | _ => .inl (cy 0, 12, .inl r)
def ed_f (cy : Nat → ClassId) (B : Nat) (μ : ed_CM) (a : Nat) : va_E := ed_ent cy B (ed_dK (a - B)).1 (ed_dK (a - B)).2.1 (ed_dK (a - B)).2.2 (μ (ed_dK (a - B)).1 (ed_dK (a - B)).2.1 (ed_dK (a - B)).2.2)
def ed_w (cy : Nat → ClassId) (B : Nat) (μ : ed_CM) : va_W := va_pl ((List.range 1862).map (fun o => B + o)) (ed_f cy B μ)
def ed_A (B : Nat) : Nat → Prop := fun q => B ≤ q ∧ q < B + 1862
theorem ed_w_get (cy : Nat → ClassId) (B : Nat) (μ : ed_CM) (o : Nat) : (ed_w cy B μ)[o]? = if o < 1862 then some (B + o, ed_f cy B μ (B + o)) else none := by
  by_cases h : o < 1862
  · simp [ed_w, va_pl, h]
  · simp [ed_w, va_pl, h]
theorem ed_w_at (cy : Nat → ClassId) (B : Nat) (μ : ed_CM) {j K i : Nat} (h : ed_vd j K i = true) : (ed_w cy B μ)[ed_oF j K i]? = some (B + ed_oF j K i, ed_ent cy B j K i (μ j K i)) := by
  obtain ⟨h1, h2⟩ := ed_oF_spec h
  rw [ed_w_get, if_pos h1]
  unfold ed_f
  rw [Nat.add_sub_cancel_left, h2]
theorem ed_w_D (cy : Nat → ClassId) (B : Nat) (μ : ed_CM) : va_D (ed_A B) (ed_w cy B μ) := by
  refine ⟨fun i j p q hi hj he => ?_, fun k q hk => ?_⟩
  · rw [ed_w_get] at hi hj
    split at hi
    · split at hj
      · cases hi; cases hj
        have he : B + i = B + j := he
        omega
      · cases hj
    · cases hi
  · rw [ed_w_get] at hk
    split at hk
    · cases hk
      exact ⟨by show B ≤ B + k; omega, by show B + k < B + 1862; omega⟩
    · cases hk
theorem ed_w_set (cy : Nat → ClassId) (B : Nat) (μ : ed_CM) {j K i : Nat} (h : ed_vd j K i = true) (r : Nat → Int32) : (ed_w cy B μ).set (ed_oF j K i) (B + ed_oF j K i, ed_ent cy B j K i r) = ed_w cy B (ed_sJ μ j (ed_sR (μ j) K i r)) := by
  obtain ⟨h1, h2⟩ := ed_oF_spec h
  have hlen : ed_oF j K i < (ed_w cy B μ).length := by
    apply Decidable.byContradiction
    intro hc
    have := ed_w_at cy B μ h
    rw [List.getElem?_eq_none (by omega)] at this
    cases this
  apply List.ext_getElem?
  intro o
  by_cases ho : o = ed_oF j K i
  · subst ho
    rw [List.getElem?_set_self hlen, ed_w_at cy B _ h]
    simp [ed_sJ, ed_sR]
  · rw [List.getElem?_set_ne (Ne.symm ho), ed_w_get, ed_w_get]
    by_cases h3 : o < 1862
    · rw [if_pos h3, if_pos h3]
      unfold ed_f
      rw [Nat.add_sub_cancel_left]
      have h4 := ed_dK_spec h3
      generalize hd : ed_dK o = d at h4
      obtain ⟨a, b, c⟩ := d
      have hne : ¬ (a = j ∧ b = K ∧ c = i) := by
        rintro ⟨rfl, rfl, rfl⟩
        exact ho h4.symm
      have e : ed_sJ μ j (ed_sR (μ j) K i r) a b c = μ a b c := by
        unfold ed_sJ ed_sR
        by_cases ha : a = j
        · subst ha
          have hbc : ¬ (b = K ∧ c = i) := fun q => hne ⟨rfl, q.1, q.2⟩
          simp [hbc]
        · simp [ha]
      rw [e]
    · rw [if_neg h3, if_neg h3]
theorem ed_w_set2 (cy : Nat → ClassId) (B : Nat) (μ : ed_CM) {j K i : Nat} {σ : ed_SM} (h : ed_vd j K i = true) (r : Nat → Int32) : (ed_w cy B (ed_sJ μ j σ)).set (ed_oF j K i) (B + ed_oF j K i, ed_ent cy B j K i r) = ed_w cy B (ed_sJ μ j (ed_sR σ K i r)) := by
  rw [ed_w_set cy B _ h, ed_sJ_self, ed_sJ_sJ]
/-- places that are there -/
theorem ed_v0 {j : Nat} (h : j < 7) (K : Nat) (hK : K < 7 := by decide) : ed_vd j K 0 = true := by simp [ed_vd, h, hK]
theorem ed_v7 {j i : Nat} (h : j < 7) (hi : i < 20) (K : Nat) (hK : K < 11 := by decide) (h7 : ¬ K < 7 := by decide) : ed_vd j K i = true := by simp [ed_vd, h, hi, hK, h7]
theorem ed_v11 {j i : Nat} (h : j < 7) (hi : i < 8) : ed_vd j 11 i = true := by simp [ed_vd, h, hi]
theorem ed_v12 {j i : Nat} (h : j < 7) (hi : i < 160) : ed_vd j 12 i = true := by simp [ed_vd, h, hi]
theorem ed_v13 {j i : Nat} (h : j < 7) (hi : i < 10) : ed_vd j 13 i = true := by simp [ed_vd, h, hi]
theorem ed_v14 : ed_vd 7 14 0 = true := rfl
theorem ed_v15 : ed_vd 7 15 0 = true := rfl
theorem ed_v16 : ed_vd 7 16 0 = true := rfl
theorem ed_v17 : ed_vd 7 17 0 = true := rfl
theorem ed_v18 : ed_vd 7 18 0 = true := rfl
theorem ed_v19 : ed_vd 7 19 0 = true := rfl
theorem ed_v20 : ed_vd 7 20 0 = true := rfl
/-- the arrays' classes -/
def ed_ty (cy : Nat → ClassId) : List (ClassId × FieldType) := [(cy 0, .int), (cy 1, .object "EmbargoDesk$Story"), (cy 2, .object "EmbargoDesk$Client"), (cy 3, .object "EmbargoDesk$Copy"), (cy 4, .object "EmbargoDesk$Person"), (cy 5, .object "EmbargoDesk$State")]
/-- calls between nest mates -/
def ed_nw : List (String × Nat × MethodName × String) := [("EmbargoDesk", 31, ⟨"EmbargoDesk$StoryText", "<init>", "()V"⟩, "EmbargoDesk"), ("EmbargoDesk$History", 25, ⟨"EmbargoDesk", "isPlace", "(II)Z"⟩, "EmbargoDesk"), ("EmbargoDesk$Log", 28, ⟨"EmbargoDesk", "isPlace", "(II)Z"⟩, "EmbargoDesk"), ("EmbargoDesk$Log", 32, ⟨"EmbargoDesk", "copyRow", "([I[I)V"⟩, "EmbargoDesk"), ("EmbargoDesk$State", 119, ⟨"EmbargoDesk", "isPlace", "(II)Z"⟩, "EmbargoDesk"), ("EmbargoDesk$State", 17, ⟨"EmbargoDesk$Log", "<init>", "()V"⟩, "EmbargoDesk"), ("EmbargoDesk$State", 46, ⟨"EmbargoDesk$Story", "<init>", "()V"⟩, "EmbargoDesk"), ("EmbargoDesk$State", 47, ⟨"EmbargoDesk$Client", "<init>", "()V"⟩, "EmbargoDesk"), ("EmbargoDesk$State", 48, ⟨"EmbargoDesk$Copy", "<init>", "()V"⟩, "EmbargoDesk"), ("EmbargoDesk$State", 49, ⟨"EmbargoDesk$Person", "<init>", "()V"⟩, "EmbargoDesk"), ("EmbargoDesk$Story", 33, ⟨"EmbargoDesk", "copyRow", "([I[I)V"⟩, "EmbargoDesk"), ("EmbargoDesk$Story", 58, ⟨"EmbargoDesk", "isPlace", "(II)Z"⟩, "EmbargoDesk"), ("EmbargoDesk$StoryText", 25, ⟨"EmbargoDesk", "isPlace", "(II)Z"⟩, "EmbargoDesk"), ("EmbargoDesk$StoryText", 59, ⟨"EmbargoDesk", "isBetween", "(III)Z"⟩, "EmbargoDesk")]
def ed_NW (U : State) : Prop := ∀ q ∈ ed_nw, va_Nw (.methodLinkNest q.1 q.2.1 q.2.2.1 q.2.2.2) U
theorem ed_NW.warm {s U : State} (hW : s.WarmedH U.vm) (h : ed_NW s) : ed_NW U := fun q hq => va_Nw.warmM hW (h q hq)
def ed_K (D : va_G) (cy : Nat → ClassId) (U : State) : Prop := va_K D vwCl (ed_ty cy) U ∧ ed_NW U
theorem ed_K.warm {D : va_G} {cy : Nat → ClassId} {s U : State} (hW : s.WarmedH U.vm) (h : ed_K D cy s) : ed_K D cy U := ⟨va_K.moved hW.alike h.1, h.2.warm hW⟩
theorem ed_K.call {D : va_G} {cy : Nat → ClassId} {a : Array Value} {U : State} {g : JFrame} {mk : MethodId} (h : ed_K D cy U) : ed_K D cy (U.calling g mk a) := ⟨va_K.moved (u := U) (U := U.calling g mk a) (Vm.Alike.refl U.vm) h.1, fun q hq => va_Nw.same rfl rfl (h.2 q hq)⟩
/-- a contract's start: the arguments, what the heap is; its ends -/
def ed_pC (D : va_G) (cy : Nat → ClassId) (P : Heap → Prop) (av : List Value) : Array Value → State → Prop := va_Pc av (fun U => P U.heap ∧ ed_K D cy U)
theorem ed_pC_blind {D : va_G} {cy : Nat → ClassId} {P : Heap → Prop} {av : List Value} : FrameBlind (ed_pC D cy P av) := fun _ _ _ _ q => ⟨q.1, q.2.1, q.2.2.call⟩
def ed_qI (A : Nat → Prop) (P : Heap → Prop) (r : Int32) : Array Value → State → Outcome → State → Prop := va_Qi (fun (x : Int32) (_ : Unit) => x = r) (fun _ t => P t.heap) A
def ed_qV (A : Nat → Prop) (P : Heap → Prop) : Array Value → State → Outcome → State → Prop := va_Qv (fun (_ : Unit) => True) (fun _ t => P t.heap) A
def ed_qA (A : Nat → Prop) (P : Heap → Prop) (r : Option Nat) : Array Value → State → Outcome → State → Prop := va_Qq (fun (x : Option Nat) (_ : Unit) => x = r) (fun _ t => P t.heap) A
/-- the class's memory in a heap -/
def ed_P (D : va_G) (cy : Nat → ClassId) (B : Nat) (μ : ed_CM) (H : Heap) : Prop := va_P D vwCl (ed_w cy B μ) H
/-! walks as functions: a step that may fail, and how it is taken -/
def ed_b {α β : Type} (x : Option α) (k : α → Option β) : Option β := match x with
  | none => none
  | some a => k a
def ed_g {β : Type} (c : Prop) [Decidable c] (k : Option β) : Option β := if c then k else none
def ed_t {α β : Type} (x : α) (k : α → β) : β := k x
theorem ed_b_e {α β : Type} {x : Option α} {k : α → Option β} {z : β} (h : ed_b x k = some z) : ∃ a, x = some a ∧ k a = some z := by
  cases x with
  | none => cases h
  | some a => exact ⟨a, rfl, h⟩
theorem ed_g_e {β : Type} {c : Prop} [Decidable c] {k : Option β} {z : β} (h : ed_g c k = some z) : c ∧ k = some z := by
  unfold ed_g at h
  split at h
  · exact ⟨‹_›, h⟩
  · cases h
theorem ed_t_e {α β : Type} {x : α} {k : α → Option β} {z : β} (h : ed_t x k = some z) : ∃ a, a = x ∧ k a = some z := ⟨x, rfl, h⟩
/-- an index that is in range -/
abbrev ed_in (x : Int32) (n : Nat) : Prop := ¬ x < 0 ∧ x.toNatClampNeg < n
theorem ed_in_vp {x : Int32} {n : Nat} (h : ed_in x n) : vp_in x n := fun q => q.elim h.1 (fun z => absurd h.2 (Nat.not_lt.mpr z))
abbrev ed_bo (x : Int32) : Prop := x = 0 ∨ x = 1
theorem ed_bo_n {x : Int32} (h : ed_bo x) : narrow .boolean (.int x) = .int x ∧ fits .boolean (.int x) = true := by
  rcases h with rfl | rfl <;> exact ⟨rfl, rfl⟩
end
section
/-! Rows over the class's memory: one instruction each. -/
theorem ed_e0 (cy : Nat → ClassId) (B j i : Nat) (r : Nat → Int32) : ed_ent cy B j 0 i r = .inr (5, [.int (r 0), .int (r 1), .int (r 2), .int (r 3), .int (r 4), .int (r 5), .ref (B + ed_oF j 1 0), .ref (B + ed_oF j 3 0), .ref (B + ed_oF j 4 0), .ref (B + ed_oF j 5 0), .ref (B + ed_oF j 6 0)]) := rfl
theorem ed_e1 (cy : Nat → ClassId) (B j i : Nat) (r : Nat → Int32) : ed_ent cy B j 1 i r = .inr (3, [.ref (B + ed_oF j 2 0), .int (r 1), .int (r 2)]) := rfl
theorem ed_e2 (cy : Nat → ClassId) (B j i : Nat) (r : Nat → Int32) : ed_ent cy B j 2 i r = .inl (cy 0, 48, .inl r) := rfl
theorem ed_e3 (cy : Nat → ClassId) (B j i : Nat) (r : Nat → Int32) : ed_ent cy B j 3 i r = .inl (cy 1, 20, .inr (.inr (.inr (.inr (fun k => some (B + ed_oF j 7 k)))))) := rfl
theorem ed_e4 (cy : Nat → ClassId) (B j i : Nat) (r : Nat → Int32) : ed_ent cy B j 4 i r = .inl (cy 2, 8, .inr (.inr (.inr (.inr (fun k => some (B + ed_oF j 11 k)))))) := rfl
theorem ed_e5 (cy : Nat → ClassId) (B j i : Nat) (r : Nat → Int32) : ed_ent cy B j 5 i r = .inl (cy 3, 160, .inr (.inr (.inr (.inr (fun k => some (B + ed_oF j 12 k)))))) := rfl
theorem ed_e6 (cy : Nat → ClassId) (B j i : Nat) (r : Nat → Int32) : ed_ent cy B j 6 i r = .inl (cy 4, 10, .inr (.inr (.inr (.inr (fun k => some (B + ed_oF j 13 k)))))) := rfl
theorem ed_e7 (cy : Nat → ClassId) (B j i : Nat) (r : Nat → Int32) : ed_ent cy B j 7 i r = .inr (6, [.int (r 0), .int (r 1), .ref (B + ed_oF j 8 i), .int (r 3), .int (r 4), .ref (B + ed_oF j 9 i), .int (r 6), .int (r 7), .ref (B + ed_oF j 10 i), .int (r 9), .int (r 10)]) := rfl
theorem ed_e8 (cy : Nat → ClassId) (B j i : Nat) (r : Nat → Int32) : ed_ent cy B j 8 i r = .inl (cy 0, 3, .inl r) := rfl
theorem ed_e9 (cy : Nat → ClassId) (B j i : Nat) (r : Nat → Int32) : ed_ent cy B j 9 i r = .inl (cy 0, 12, .inl r) := rfl
theorem ed_e10 (cy : Nat → ClassId) (B j i : Nat) (r : Nat → Int32) : ed_ent cy B j 10 i r = .inl (cy 0, 6, .inl r) := rfl
theorem ed_e11 (cy : Nat → ClassId) (B j i : Nat) (r : Nat → Int32) : ed_ent cy B j 11 i r = .inr (0, [.int (r 0), .int (r 1), .int (r 2), .int (r 3), .int (r 4), .int (r 5), .int (r 6), .int (r 7), .int (r 8), .int (r 9)]) := rfl
theorem ed_e12 (cy : Nat → ClassId) (B j i : Nat) (r : Nat → Int32) : ed_ent cy B j 12 i r = .inr (1, [.int (r 0), .int (r 1), .int (r 2), .int (r 3), .int (r 4), .int (r 5)]) := rfl
theorem ed_e13 (cy : Nat → ClassId) (B j i : Nat) (r : Nat → Int32) : ed_ent cy B j 13 i r = .inr (4, [.int (r 0), .int (r 1)]) := rfl
theorem ed_e14 (cy : Nat → ClassId) (B j i : Nat) (r : Nat → Int32) : ed_ent cy B j 14 i r = .inr (8, [.ref (B + ed_oF 0 0 0), .ref (B + ed_oF 1 0 0), .ref (B + ed_oF 2 0 0), .int (r 3), .ref (B + ed_oF 7 15 0), .ref (B + ed_oF 7 17 0)]) := rfl
theorem ed_e15 (cy : Nat → ClassId) (B j i : Nat) (r : Nat → Int32) : ed_ent cy B j 15 i r = .inr (2, [.ref (B + ed_oF 7 16 0), .int (r 1)]) := rfl
theorem ed_e16 (cy : Nat → ClassId) (B j i : Nat) (r : Nat → Int32) : ed_ent cy B j 16 i r = .inl (cy 5, 4, .inr (.inr (.inr (.inr (fun k => some (B + ed_oF ((r k).toNatClampNeg % 7) 0 0)))))) := rfl
theorem ed_e17 (cy : Nat → ClassId) (B j i : Nat) (r : Nat → Int32) : ed_ent cy B j 17 i r = .inr (7, [.ref (B + ed_oF 7 18 0), .int (r 1), .int (r 2), .int (r 3), .int (r 4), .ref (B + ed_oF 7 19 0), .int (r 6), .int (r 7), .ref (B + ed_oF 7 20 0)]) := rfl
theorem ed_e18 (cy : Nat → ClassId) (B j i : Nat) (r : Nat → Int32) : ed_ent cy B j 18 i r = .inl (cy 0, 40, .inl r) := rfl
theorem ed_e19 (cy : Nat → ClassId) (B j i : Nat) (r : Nat → Int32) : ed_ent cy B j 19 i r = .inl (cy 0, 3, .inl r) := rfl
theorem ed_e20 (cy : Nat → ClassId) (B j i : Nat) (r : Nat → Int32) : ed_ent cy B j 20 i r = .inl (cy 0, 12, .inl r) := rfl
section
variable {p : Program} {l : Launch} {e : Env} {R : Room} {s : State} {m : MethodId} {args : Array Value} {below : List Frame} {meth : Method} {c : Code} {H : Heap} {locs : List Loc} {cells slots : Nat} {Q : State → Prop}
variable {pc nL : Nat} {ls : Array Slot} {rest st0 : List Value} {cc : ByteArray} {Ts : List Cond} {own : String} {D : va_G} {cy : Nat → ClassId} {B : Nat} {μ : ed_CM} {j K i : Nat} {σ : ed_SM} {H0 : Heap}
theorem ed_get {C ref : String} {T : u_T} {N ci index : Nat} {fs : List Value} {v : Value} {r : Nat → Int32} (S : CallFix p m c cc nL s args Ts own) (hin : ∀ w ∈ u_ws C T N, w ∈ Ts) (hK : ed_K D cy s) (hM : ed_P D cy B μ H) (hv : ed_vd j K i = true) (hr : μ j K i = r) (he : ed_ent cy B j K i r = .inr (ci, fs)) (hc : vwCl[ci]? = some (C, T, N)) (k : Nat) (hk : k < N) (hlink : Cond.fieldLink own index ref (T k).2.1 (T k).2.2.1 ∈ Ts) (href : ref = (T k).1) (hfv : fs[k]? = some v) (hdg : decode cc pc = .ok (.getfield index, 3))
    (kk : W p l e R s m args below meth c H locs cells slots Q (F0 m (pc + 3) ls (v :: rest))) : W p l e R s m args below meth c H locs cells slots Q (F0 m pc ls (.ref (B + ed_oF j K i) :: rest)) := by
  subst href
  subst hr
  exact va_get S.1 S.2.1 S.2.2.2.2 hin S.2.2.2.1 hK.1 hM (ed_oF j K i) (by rw [ed_w_at cy B μ hv, he]) hc k hk (S.2.2.2.2 _ hlink) (fun _ h => h) hfv hdg kk
theorem ed_put {C ref : String} {T : u_T} {N ci index : Nat} {fs : List Value} {x : Int32} (S : CallFix p m c cc nL s args Ts own) (hin : ∀ w ∈ u_ws C T N, w ∈ Ts) (ty0 : Nat → FieldType) (hty : ∀ k, k < N → parseFieldDescriptor (T k).2.2.1 = some (ty0 k)) (hnm : ∀ a, a < N → ∀ b, b < N → a ≠ b → (T a).2.1 ≠ (T b).2.1) (hK : ed_K D cy s) (hM : ed_P D cy B (ed_sJ μ j σ) H) (hS : va_S (ed_A B) H0 H locs) (hv : ed_vd j K i = true) (he : ed_ent cy B j K i (σ K i) = .inr (ci, fs)) (hc : vwCl[ci]? = some (C, T, N)) (k : Nat) (hk : k < N) (hlink : Cond.fieldLink own index ref (T k).2.1 (T k).2.2.1 ∈ Ts) (href : ref = (T k).1) (hfin : (T k).2.2.2 = false) (hn : narrow (ty0 k) (.int x) = .int x) (hfit : fits (ty0 k) (.int x) = true) (hl : k < fs.length) (he2 : ed_ent cy B j K i (upd (σ K i) k x) = .inr (ci, fs.set k (.int x))) (hdg : decode cc pc = .ok (.putfield index, 3))
    (kk : ∀ (H1 : Heap) (locs1 : List Loc), ed_P D cy B (ed_sJ μ j (ed_up σ K i k x)) H1 → va_S (ed_A B) H0 H1 locs1 → W p l e R s m args below meth c H1 locs1 cells slots Q (F0 m (pc + 3) ls rest)) : W p l e R s m args below meth c H locs cells slots Q (F0 m pc ls (.int x :: .ref (B + ed_oF j K i) :: rest)) := by
  subst href
  refine va_put S.1 S.2.1 S.2.2.2.2 hin ty0 hty hnm S.2.2.2.1 hK.1 hM (ed_w_D cy B _) hS (ed_oF j K i) (by rw [ed_w_at cy B _ hv, ed_sJ_self, he]) hc k hk (S.2.2.2.2 _ hlink) (fun _ h => h) hfin (hty k hk) hn hfit hl hdg (fun H1 locs1 hP _ hS1 => kk H1 locs1 ?_ hS1)
  rw [← he2, ed_w_set2 cy B μ hv] at hP
  exact hP
theorem ed_ild {r : Nat → Int32} {n : Nat} {x : Int32} (S : CallFix p m c cc nL s args Ts own) (hK : ed_K D cy s) (hM : ed_P D cy B μ H) (hv : ed_vd j K i = true) (hr : μ j K i = r) (he : ed_ent cy B j K i r = .inl (cy 0, n, .inl r)) (hx : ed_in x n) (hdg : decode cc pc = .ok (.iaload, 1))
    (kk : W p l e R s m args below meth c H locs cells slots Q (F0 m (pc + 1) ls (.int (r x.toNatClampNeg) :: rest))) : W p l e R s m args below meth c H locs cells slots Q (F0 m pc ls (.int x :: .ref (B + ed_oF j K i) :: rest)) := by
  subst hr
  exact va_iald S.1 S.2.1 hK.1 hM (ed_oF j K i) 0 (by rw [ed_w_at cy B μ hv, he]) rfl (ed_in_vp hx) hdg kk
theorem ed_ist {n : Nat} {x y : Int32} (S : CallFix p m c cc nL s args Ts own) (hK : ed_K D cy s) (hM : ed_P D cy B (ed_sJ μ j σ) H) (hS : va_S (ed_A B) H0 H locs) (hv : ed_vd j K i = true) (he : ∀ r, ed_ent cy B j K i r = .inl (cy 0, n, .inl r)) (hx : ed_in x n) (hdg : decode cc pc = .ok (.iastore, 1))
    (kk : ∀ (H1 : Heap) (locs1 : List Loc), ed_P D cy B (ed_sJ μ j (ed_up σ K i x.toNatClampNeg y)) H1 → va_S (ed_A B) H0 H1 locs1 → W p l e R s m args below meth c H1 locs1 cells slots Q (F0 m (pc + 1) ls rest)) : W p l e R s m args below meth c H locs cells slots Q (F0 m pc ls (.int y :: .int x :: .ref (B + ed_oF j K i) :: rest)) := by
  refine va_iast S.1 S.2.1 hK.1 hM (ed_w_D cy B _) hS (ed_oF j K i) 0 (by rw [ed_w_at cy B _ hv, ed_sJ_self, he]) rfl (ed_in_vp hx) hdg (fun H1 locs1 hP _ hS1 => kk H1 locs1 ?_ hS1)
  rw [← he, ed_w_set2 cy B μ hv] at hP
  exact hP
theorem ed_ald {C : String} {t n : Nat} {f : Nat → Option Nat} {r : Nat → Int32} {x : Int32} {v : Value} (S : CallFix p m c cc nL s args Ts own) (hK : ed_K D cy s) (hM : ed_P D cy B μ H) (hv : ed_vd j K i = true) (hr : μ j K i = r) (he : ed_ent cy B j K i r = .inl (cy t, n, .inr (.inr (.inr (.inr f))))) (ht : (ed_ty cy)[t]? = some (cy t, .object C)) (hx : ed_in x n) (hvv : va_rf (f x.toNatClampNeg) = v) (hdg : decode cc pc = .ok (.aaload, 1))
    (kk : W p l e R s m args below meth c H locs cells slots Q (F0 m (pc + 1) ls (v :: rest))) : W p l e R s m args below meth c H locs cells slots Q (F0 m pc ls (.int x :: .ref (B + ed_oF j K i) :: rest)) := by
  subst hr
  subst hvv
  exact va_aldq S.1 S.2.1 hK.1 hM (ed_oF j K i) t (by rw [ed_w_at cy B μ hv, he]) ht (ed_in_vp hx) hdg kk
theorem ed_len {t n : Nat} {g : (Nat → Int32) ⊕ (Nat → Int64) ⊕ (Nat → UInt32) ⊕ (Nat → UInt64) ⊕ (Nat → Option Nat)} {r : Nat → Int32} {ty : FieldType} {v : Int32} (S : CallFix p m c cc nL s args Ts own) (hK : ed_K D cy s) (hM : ed_P D cy B μ H) (hv : ed_vd j K i = true) (hr : μ j K i = r) (he : ed_ent cy B j K i r = .inl (cy t, n, g)) (ht : (ed_ty cy)[t]? = some (cy t, ty)) (hvv : Int32.ofNat n = v) (hdg : decode cc pc = .ok (.arraylength, 1))
    (kk : W p l e R s m args below meth c H locs cells slots Q (F0 m (pc + 1) ls (.int v :: rest))) : W p l e R s m args below meth c H locs cells slots Q (F0 m pc ls (.ref (B + ed_oF j K i) :: rest)) := by
  subst hr
  exact va_alen S.1 S.2.1 hK.1 hM (ed_oF j K i) t (by rw [ed_w_at cy B μ hv, he]) ht hvv hdg kk
/-- a receiver of a call -/
theorem ed_rc {ci : Nat} {q : vw_C} {fs : List Value} {r : Nat → Int32} (hK : ed_K D cy s) (hM : ed_P D cy B μ H) (hv : ed_vd j K i = true) (hr : μ j K i = r) (he : ed_ent cy B j K i r = .inr (ci, fs)) (hc : vwCl[ci]? = some q) : ∃ cell : Cell, H[B + ed_oF j K i]? = some cell ∧ cell.vm.isStatics = false ∧ s.vm.findClass q.1 = some cell.cls := by
  subst hr
  exact va_recv hK.1 hM hc (q0 := ed_oF j K i) (by rw [ed_w_at cy B μ hv, he])
end
section
variable {p : Program} {l : Launch} {e : Env} {R : Room} {s : State} {m : MethodId} {args : Array Value} {below : List Frame} {meth : Method} {c : Code} {H : Heap} {locs : List Loc} {cells slots : Nat} {Q : State → Prop}
variable {pc nL n index maxL : Nat} {ls : Array Slot} {rest st0 As : List Value} {a : Array Value} {cc bytes : ByteArray} {Ts ws : List Cond} {own C host : String} {D : va_G} {cy : Nat → ClassId} {A : Nat → Prop} {P0 P1 : Heap → Prop} {r : Int32} {o : Option Nat} {b : Addr} {y : MethodName} {ret : Option FieldType} {rm : Room}
theorem ed_kI (hr : va_Run p l e R s m args below meth c H locs cells slots 0 0 (F0 m pc ls st0) rest (ed_qI A P1 r a) A) (hS : va_S A s.heap H locs) (kk : ∀ (H1 : Heap) (locs1 : List Loc), P1 H1 → va_S A s.heap H1 locs1 → W p l e R s m args below meth c H1 locs1 cells slots Q (F0 m (pc + 3) ls (.int r :: rest))) : W p l e R s m args below meth c H locs cells slots Q (F0 m pc ls st0) := by
  refine va_calli (mc := 0) (ms := 0) hr hS (fun q _ h => h) (fun q h => h) (fun r' u t H1 locs1 ht _ hw hB _ _ hS1 => ?_)
  subst hw
  exact kk H1 locs1 (by rw [← ht]; exact hB) hS1
theorem ed_kV (hr : va_Run p l e R s m args below meth c H locs cells slots 0 0 (F0 m pc ls st0) rest (ed_qV A P1 a) A) (hS : va_S A s.heap H locs) (kk : ∀ (H1 : Heap) (locs1 : List Loc), P1 H1 → va_S A s.heap H1 locs1 → W p l e R s m args below meth c H1 locs1 cells slots Q (F0 m (pc + 3) ls rest)) : W p l e R s m args below meth c H locs cells slots Q (F0 m pc ls st0) := by
  refine va_callv (mc := 0) (ms := 0) hr hS (fun q _ h => h) (fun q h => h) (fun u t H1 locs1 ht _ _ hB _ _ hS1 => ?_)
  exact kk H1 locs1 (by rw [← ht]; exact hB) hS1
theorem ed_kA (hr : va_Run p l e R s m args below meth c H locs cells slots 0 0 (F0 m pc ls st0) rest (ed_qA A P1 o a) A) (hS : va_S A s.heap H locs) (kk : ∀ (H1 : Heap) (locs1 : List Loc), P1 H1 → va_S A s.heap H1 locs1 → W p l e R s m args below meth c H1 locs1 cells slots Q (F0 m (pc + 3) ls (va_rf o :: rest))) : W p l e R s m args below meth c H locs cells slots Q (F0 m pc ls st0) := by
  refine va_callq (mc := 0) (ms := 0) hr hS (fun q _ h => h) (fun q h => h) (fun r' u t H1 locs1 ht _ hw hB _ _ hS1 => ?_)
  subst hw
  exact kk H1 locs1 (by rw [← ht]; exact hB) hS1
/-- a call's run: virtual, static, static of a nest mate -/
theorem ed_rV {Qc : Array Value → State → Outcome → State → Prop} (S : CallFix p m c cc nL s args Ts own) (hK : ed_K D cy s) (hM : P0 H) (hC : Met l y ws rm (ed_pC D cy P0 (.ref b :: As)) Qc 0 0 A) (cw : CallW R s args own C index y bytes maxL ret ws rm 0 0 n) (hrc : ∃ cell : Cell, H[b]? = some cell ∧ cell.vm.isStatics = false ∧ s.vm.findClass C = some cell.cls) (hn : As.length = n) (hl : ls.size = nL) (hst : st0 = As.reverse ++ .ref b :: rest) (hW : (rest.map fun v => v.category).sum ≤ 8) (hdg : decode cc pc = .ok (.invokevirtual index, 3)) (hf : cells ≤ R.cells ∧ slots ≤ R.slots) :
    va_Run p l e R s m args below meth c H locs cells slots 0 0 (F0 m pc ls st0) rest (Qc (Value.ref b :: As).toArray) A :=
  va_runV (As := As) (rest := rest) S hC cw ⟨ed_pC_blind, hrc, fun U hU hWm => ⟨rfl, by rw [hU]; exact hM, hK.warm hWm⟩⟩ rfl hn hl hst (lv_room hW) hdg hf
theorem ed_rS {Qc : Array Value → State → Outcome → State → Prop} (S : CallFix p m c cc nL s args Ts own) (hK : ed_K D cy s) (hM : P0 H) (hC : Met l y ws rm (ed_pC D cy P0 As) Qc 0 0 A) (cw : CallB R s args own index y bytes maxL ret ws rm 0 0 n ∧ (Cond.static y).before args s = true) (hn : As.length = n) (hl : ls.size = nL) (hst : st0 = As.reverse ++ rest) (hW : (rest.map fun v => v.category).sum ≤ 8) (hdg : decode cc pc = .ok (.invokestatic index, 3)) (hf : cells ≤ R.cells ∧ slots ≤ R.slots) :
    va_Run p l e R s m args below meth c H locs cells slots 0 0 (F0 m pc ls st0) rest (Qc As.toArray) A :=
  va_runS (As := As) (rest := rest) S hC cw ⟨ed_pC_blind, fun U hU hWm => ⟨rfl, by rw [hU]; exact hM, hK.warm hWm⟩⟩ rfl hn hl hst (lv_room hW) hdg hf
theorem ed_rN {Qc : Array Value → State → Outcome → State → Prop} (S : CallFix p m c cc nL s args Ts own) (hK : ed_K D cy s) (hM : P0 H) (hC : Met l y ws rm (ed_pC D cy P0 As) Qc 0 0 A) (cw : va_CN R s args own index y host bytes maxL ret ws rm 0 0 n ∧ (Cond.static y).before args s = true ∧ True) (hn : As.length = n) (hl : ls.size = nL) (hst : st0 = As.reverse ++ rest) (hW : (rest.map fun v => v.category).sum ≤ 8) (hdg : decode cc pc = .ok (.invokestatic index, 3)) (hf : cells ≤ R.cells ∧ slots ≤ R.slots) :
    va_Run p l e R s m args below meth c H locs cells slots 0 0 (F0 m pc ls st0) rest (Qc As.toArray) A :=
  va_runSN (As := As) (rest := rest) S hC cw ⟨ed_pC_blind, fun U hU hWm => ⟨rfl, by rw [hU]; exact hM, hK.warm hWm⟩⟩ rfl hn hl hst (lv_room hW) hdg hf
/-- ends -/
theorem ed_ri (S : CallFix p m c cc nL s args Ts own) (hr : meth.sig.returnType = some .int) (hlocks : meth.locks = false) (hM : P1 H) (hS : va_S A s.heap H locs) (hdg : decode cc pc = .ok (.ireturn, 1)) : W p l e R s m args below meth c H locs cells slots (MQ below (ed_qI A P1 r) args s cells slots A) (F0 m pc ls [.int r]) :=
  W.iret (v := r) S.1 S.2.1 hr (fun t ht _ => ⟨⟨r, (), rfl, rfl, by show P1 t.heap; rw [ht]; exact hM⟩, hS.F ht⟩) hS.2.2 hdg hlocks
theorem ed_rz (S : CallFix p m c cc nL s args Ts own) (hr : meth.sig.returnType = some .boolean) (hlocks : meth.locks = false) (hbo : narrow .boolean (.int r) = .int r) (hM : P1 H) (hS : va_S A s.heap H locs) (hdg : decode cc pc = .ok (.ireturn, 1)) : W p l e R s m args below meth c H locs cells slots (MQ below (ed_qI A P1 r) args s cells slots A) (F0 m pc ls [.int r]) :=
  W.zret (v := r) S.1 S.2.1 hr hbo (fun t ht _ => ⟨⟨r, (), rfl, rfl, by show P1 t.heap; rw [ht]; exact hM⟩, hS.F ht⟩) hS.2.2 hdg hlocks
theorem ed_rv (S : CallFix p m c cc nL s args Ts own) (hr : meth.sig.returnType = none) (hlocks : meth.locks = false) (hM : P1 H) (hS : va_S A s.heap H locs) (hdg : decode cc pc = .ok (.return_, 1)) : W p l e R s m args below meth c H locs cells slots (MQ below (ed_qV A P1) args s cells slots A) (F0 m pc ls []) :=
  W.vret S.1 S.2.1 hr (fun t ht _ => ⟨⟨(), rfl, trivial, by show P1 t.heap; rw [ht]; exact hM⟩, hS.F ht⟩) hS.2.2 hdg hlocks
theorem ed_ra {rt : FieldType} {v : Value} (S : CallFix p m c cc nL s args Ts own) (hr : meth.sig.returnType = some rt) (hrt : (∃ n, rt = .object n) ∨ ∃ t, rt = .array t) (hlocks : meth.locks = false) (hv : va_rf o = v) (hM : P1 H) (hS : va_S A s.heap H locs) (hdg : decode cc pc = .ok (.areturn, 1)) : W p l e R s m args below meth c H locs cells slots (MQ below (ed_qA A P1 o) args s cells slots A) (F0 m pc ls [v]) := by
  subst hv
  exact W.aret S.1 S.2.1 hr hrt (va_rf_or o) (fun t ht _ => ⟨⟨o, (), rfl, rfl, by show P1 t.heap; rw [ht]; exact hM⟩, hS.F ht⟩) hS.2.2 hdg hlocks
theorem ed_min {x y : Int32} (S : CallFix p m c cc nL s args Ts own) (hl : ls.size = nL) (hlink : Cond.methodLink own index Lib.Math.min.name ∈ Ts) (hstat : Cond.static Lib.Math.min.name ∈ Ts) (hini : Cond.initialized "java/lang/Math" ∈ Ts) (hcode : Cond.code Lib.Math.min.name Lib.Math.min.code 2 (some .int) ∈ Ts) (hframes : 1 ≤ R.frames) (hlocals : (rest.map fun v => v.category).sum + 13 ≤ R.locals) (hf : cells ≤ R.cells ∧ slots ≤ R.slots) (hdg : decode cc pc = .ok (.invokestatic index, 3))
    (kk : W p l e R s m args below meth c H locs cells slots Q (F0 m (pc + 3) ls (.int (if y < x then y else x) :: rest))) : W p l e R s m args below meth c H locs cells slots Q (F0 m pc ls (.int y :: .int x :: rest)) :=
  va_mmin S.1 S.2.1 (S.2.2.1.trans hl.symm) S.2.2.2.1 (S.2.2.2.2 _ hlink) (S.2.2.2.2 _ hstat) (S.2.2.2.2 _ hini) (S.2.2.2.2 _ hcode) hframes hlocals hf.1 hf.2 hdg kk
theorem ed_max {x y : Int32} (S : CallFix p m c cc nL s args Ts own) (hl : ls.size = nL) (hlink : Cond.methodLink own index Lib.Math.max.name ∈ Ts) (hstat : Cond.static Lib.Math.max.name ∈ Ts) (hini : Cond.initialized "java/lang/Math" ∈ Ts) (hcode : Cond.code Lib.Math.max.name Lib.Math.max.code 2 (some .int) ∈ Ts) (hframes : 1 ≤ R.frames) (hlocals : (rest.map fun v => v.category).sum + 13 ≤ R.locals) (hf : cells ≤ R.cells ∧ slots ≤ R.slots) (hdg : decode cc pc = .ok (.invokestatic index, 3))
    (kk : W p l e R s m args below meth c H locs cells slots Q (F0 m (pc + 3) ls (.int (if x < y then y else x) :: rest))) : W p l e R s m args below meth c H locs cells slots Q (F0 m pc ls (.int y :: .int x :: rest)) :=
  va_mmax S.1 S.2.1 (S.2.2.1.trans hl.symm) S.2.2.2.1 (S.2.2.2.2 _ hlink) (S.2.2.2.2 _ hstat) (S.2.2.2.2 _ hini) (S.2.2.2.2 _ hcode) hframes hlocals hf.1 hf.2 hdg kk
end
end
section
theorem ed_u0_0 (cy : Nat → ClassId) (B j i : Nat) (r : Nat → Int32) (x : Int32) : ed_ent cy B j 0 i (upd r 0 x) = .inr (5, [.int x, .int (r 1), .int (r 2), .int (r 3), .int (r 4), .int (r 5), .ref (B + ed_oF j 1 0), .ref (B + ed_oF j 3 0), .ref (B + ed_oF j 4 0), .ref (B + ed_oF j 5 0), .ref (B + ed_oF j 6 0)]) := rfl
theorem ed_u0_1 (cy : Nat → ClassId) (B j i : Nat) (r : Nat → Int32) (x : Int32) : ed_ent cy B j 0 i (upd r 1 x) = .inr (5, [.int (r 0), .int x, .int (r 2), .int (r 3), .int (r 4), .int (r 5), .ref (B + ed_oF j 1 0), .ref (B + ed_oF j 3 0), .ref (B + ed_oF j 4 0), .ref (B + ed_oF j 5 0), .ref (B + ed_oF j 6 0)]) := rfl
theorem ed_u0_2 (cy : Nat → ClassId) (B j i : Nat) (r : Nat → Int32) (x : Int32) : ed_ent cy B j 0 i (upd r 2 x) = .inr (5, [.int (r 0), .int (r 1), .int x, .int (r 3), .int (r 4), .int (r 5), .ref (B + ed_oF j 1 0), .ref (B + ed_oF j 3 0), .ref (B + ed_oF j 4 0), .ref (B + ed_oF j 5 0), .ref (B + ed_oF j 6 0)]) := rfl
theorem ed_u0_3 (cy : Nat → ClassId) (B j i : Nat) (r : Nat → Int32) (x : Int32) : ed_ent cy B j 0 i (upd r 3 x) = .inr (5, [.int (r 0), .int (r 1), .int (r 2), .int x, .int (r 4), .int (r 5), .ref (B + ed_oF j 1 0), .ref (B + ed_oF j 3 0), .ref (B + ed_oF j 4 0), .ref (B + ed_oF j 5 0), .ref (B + ed_oF j 6 0)]) := rfl
theorem ed_u0_4 (cy : Nat → ClassId) (B j i : Nat) (r : Nat → Int32) (x : Int32) : ed_ent cy B j 0 i (upd r 4 x) = .inr (5, [.int (r 0), .int (r 1), .int (r 2), .int (r 3), .int x, .int (r 5), .ref (B + ed_oF j 1 0), .ref (B + ed_oF j 3 0), .ref (B + ed_oF j 4 0), .ref (B + ed_oF j 5 0), .ref (B + ed_oF j 6 0)]) := rfl
theorem ed_u0_5 (cy : Nat → ClassId) (B j i : Nat) (r : Nat → Int32) (x : Int32) : ed_ent cy B j 0 i (upd r 5 x) = .inr (5, [.int (r 0), .int (r 1), .int (r 2), .int (r 3), .int (r 4), .int x, .ref (B + ed_oF j 1 0), .ref (B + ed_oF j 3 0), .ref (B + ed_oF j 4 0), .ref (B + ed_oF j 5 0), .ref (B + ed_oF j 6 0)]) := rfl
theorem ed_u1_1 (cy : Nat → ClassId) (B j i : Nat) (r : Nat → Int32) (x : Int32) : ed_ent cy B j 1 i (upd r 1 x) = .inr (3, [.ref (B + ed_oF j 2 0), .int x, .int (r 2)]) := rfl
theorem ed_u1_2 (cy : Nat → ClassId) (B j i : Nat) (r : Nat → Int32) (x : Int32) : ed_ent cy B j 1 i (upd r 2 x) = .inr (3, [.ref (B + ed_oF j 2 0), .int (r 1), .int x]) := rfl
theorem ed_u7_0 (cy : Nat → ClassId) (B j i : Nat) (r : Nat → Int32) (x : Int32) : ed_ent cy B j 7 i (upd r 0 x) = .inr (6, [.int x, .int (r 1), .ref (B + ed_oF j 8 i), .int (r 3), .int (r 4), .ref (B + ed_oF j 9 i), .int (r 6), .int (r 7), .ref (B + ed_oF j 10 i), .int (r 9), .int (r 10)]) := rfl
theorem ed_u7_1 (cy : Nat → ClassId) (B j i : Nat) (r : Nat → Int32) (x : Int32) : ed_ent cy B j 7 i (upd r 1 x) = .inr (6, [.int (r 0), .int x, .ref (B + ed_oF j 8 i), .int (r 3), .int (r 4), .ref (B + ed_oF j 9 i), .int (r 6), .int (r 7), .ref (B + ed_oF j 10 i), .int (r 9), .int (r 10)]) := rfl
theorem ed_u7_3 (cy : Nat → ClassId) (B j i : Nat) (r : Nat → Int32) (x : Int32) : ed_ent cy B j 7 i (upd r 3 x) = .inr (6, [.int (r 0), .int (r 1), .ref (B + ed_oF j 8 i), .int x, .int (r 4), .ref (B + ed_oF j 9 i), .int (r 6), .int (r 7), .ref (B + ed_oF j 10 i), .int (r 9), .int (r 10)]) := rfl
theorem ed_u7_4 (cy : Nat → ClassId) (B j i : Nat) (r : Nat → Int32) (x : Int32) : ed_ent cy B j 7 i (upd r 4 x) = .inr (6, [.int (r 0), .int (r 1), .ref (B + ed_oF j 8 i), .int (r 3), .int x, .ref (B + ed_oF j 9 i), .int (r 6), .int (r 7), .ref (B + ed_oF j 10 i), .int (r 9), .int (r 10)]) := rfl
theorem ed_u7_6 (cy : Nat → ClassId) (B j i : Nat) (r : Nat → Int32) (x : Int32) : ed_ent cy B j 7 i (upd r 6 x) = .inr (6, [.int (r 0), .int (r 1), .ref (B + ed_oF j 8 i), .int (r 3), .int (r 4), .ref (B + ed_oF j 9 i), .int x, .int (r 7), .ref (B + ed_oF j 10 i), .int (r 9), .int (r 10)]) := rfl
theorem ed_u7_7 (cy : Nat → ClassId) (B j i : Nat) (r : Nat → Int32) (x : Int32) : ed_ent cy B j 7 i (upd r 7 x) = .inr (6, [.int (r 0), .int (r 1), .ref (B + ed_oF j 8 i), .int (r 3), .int (r 4), .ref (B + ed_oF j 9 i), .int (r 6), .int x, .ref (B + ed_oF j 10 i), .int (r 9), .int (r 10)]) := rfl
theorem ed_u7_9 (cy : Nat → ClassId) (B j i : Nat) (r : Nat → Int32) (x : Int32) : ed_ent cy B j 7 i (upd r 9 x) = .inr (6, [.int (r 0), .int (r 1), .ref (B + ed_oF j 8 i), .int (r 3), .int (r 4), .ref (B + ed_oF j 9 i), .int (r 6), .int (r 7), .ref (B + ed_oF j 10 i), .int x, .int (r 10)]) := rfl
theorem ed_u7_10 (cy : Nat → ClassId) (B j i : Nat) (r : Nat → Int32) (x : Int32) : ed_ent cy B j 7 i (upd r 10 x) = .inr (6, [.int (r 0), .int (r 1), .ref (B + ed_oF j 8 i), .int (r 3), .int (r 4), .ref (B + ed_oF j 9 i), .int (r 6), .int (r 7), .ref (B + ed_oF j 10 i), .int (r 9), .int x]) := rfl
theorem ed_u11_0 (cy : Nat → ClassId) (B j i : Nat) (r : Nat → Int32) (x : Int32) : ed_ent cy B j 11 i (upd r 0 x) = .inr (0, [.int x, .int (r 1), .int (r 2), .int (r 3), .int (r 4), .int (r 5), .int (r 6), .int (r 7), .int (r 8), .int (r 9)]) := rfl
theorem ed_u11_1 (cy : Nat → ClassId) (B j i : Nat) (r : Nat → Int32) (x : Int32) : ed_ent cy B j 11 i (upd r 1 x) = .inr (0, [.int (r 0), .int x, .int (r 2), .int (r 3), .int (r 4), .int (r 5), .int (r 6), .int (r 7), .int (r 8), .int (r 9)]) := rfl
theorem ed_u11_2 (cy : Nat → ClassId) (B j i : Nat) (r : Nat → Int32) (x : Int32) : ed_ent cy B j 11 i (upd r 2 x) = .inr (0, [.int (r 0), .int (r 1), .int x, .int (r 3), .int (r 4), .int (r 5), .int (r 6), .int (r 7), .int (r 8), .int (r 9)]) := rfl
theorem ed_u11_3 (cy : Nat → ClassId) (B j i : Nat) (r : Nat → Int32) (x : Int32) : ed_ent cy B j 11 i (upd r 3 x) = .inr (0, [.int (r 0), .int (r 1), .int (r 2), .int x, .int (r 4), .int (r 5), .int (r 6), .int (r 7), .int (r 8), .int (r 9)]) := rfl
theorem ed_u11_4 (cy : Nat → ClassId) (B j i : Nat) (r : Nat → Int32) (x : Int32) : ed_ent cy B j 11 i (upd r 4 x) = .inr (0, [.int (r 0), .int (r 1), .int (r 2), .int (r 3), .int x, .int (r 5), .int (r 6), .int (r 7), .int (r 8), .int (r 9)]) := rfl
theorem ed_u11_5 (cy : Nat → ClassId) (B j i : Nat) (r : Nat → Int32) (x : Int32) : ed_ent cy B j 11 i (upd r 5 x) = .inr (0, [.int (r 0), .int (r 1), .int (r 2), .int (r 3), .int (r 4), .int x, .int (r 6), .int (r 7), .int (r 8), .int (r 9)]) := rfl
theorem ed_u11_6 (cy : Nat → ClassId) (B j i : Nat) (r : Nat → Int32) (x : Int32) : ed_ent cy B j 11 i (upd r 6 x) = .inr (0, [.int (r 0), .int (r 1), .int (r 2), .int (r 3), .int (r 4), .int (r 5), .int x, .int (r 7), .int (r 8), .int (r 9)]) := rfl
theorem ed_u11_7 (cy : Nat → ClassId) (B j i : Nat) (r : Nat → Int32) (x : Int32) : ed_ent cy B j 11 i (upd r 7 x) = .inr (0, [.int (r 0), .int (r 1), .int (r 2), .int (r 3), .int (r 4), .int (r 5), .int (r 6), .int x, .int (r 8), .int (r 9)]) := rfl
theorem ed_u11_8 (cy : Nat → ClassId) (B j i : Nat) (r : Nat → Int32) (x : Int32) : ed_ent cy B j 11 i (upd r 8 x) = .inr (0, [.int (r 0), .int (r 1), .int (r 2), .int (r 3), .int (r 4), .int (r 5), .int (r 6), .int (r 7), .int x, .int (r 9)]) := rfl
theorem ed_u11_9 (cy : Nat → ClassId) (B j i : Nat) (r : Nat → Int32) (x : Int32) : ed_ent cy B j 11 i (upd r 9 x) = .inr (0, [.int (r 0), .int (r 1), .int (r 2), .int (r 3), .int (r 4), .int (r 5), .int (r 6), .int (r 7), .int (r 8), .int x]) := rfl
theorem ed_u12_0 (cy : Nat → ClassId) (B j i : Nat) (r : Nat → Int32) (x : Int32) : ed_ent cy B j 12 i (upd r 0 x) = .inr (1, [.int x, .int (r 1), .int (r 2), .int (r 3), .int (r 4), .int (r 5)]) := rfl
theorem ed_u12_1 (cy : Nat → ClassId) (B j i : Nat) (r : Nat → Int32) (x : Int32) : ed_ent cy B j 12 i (upd r 1 x) = .inr (1, [.int (r 0), .int x, .int (r 2), .int (r 3), .int (r 4), .int (r 5)]) := rfl
theorem ed_u12_2 (cy : Nat → ClassId) (B j i : Nat) (r : Nat → Int32) (x : Int32) : ed_ent cy B j 12 i (upd r 2 x) = .inr (1, [.int (r 0), .int (r 1), .int x, .int (r 3), .int (r 4), .int (r 5)]) := rfl
theorem ed_u12_3 (cy : Nat → ClassId) (B j i : Nat) (r : Nat → Int32) (x : Int32) : ed_ent cy B j 12 i (upd r 3 x) = .inr (1, [.int (r 0), .int (r 1), .int (r 2), .int x, .int (r 4), .int (r 5)]) := rfl
theorem ed_u12_4 (cy : Nat → ClassId) (B j i : Nat) (r : Nat → Int32) (x : Int32) : ed_ent cy B j 12 i (upd r 4 x) = .inr (1, [.int (r 0), .int (r 1), .int (r 2), .int (r 3), .int x, .int (r 5)]) := rfl
theorem ed_u12_5 (cy : Nat → ClassId) (B j i : Nat) (r : Nat → Int32) (x : Int32) : ed_ent cy B j 12 i (upd r 5 x) = .inr (1, [.int (r 0), .int (r 1), .int (r 2), .int (r 3), .int (r 4), .int x]) := rfl
theorem ed_u13_0 (cy : Nat → ClassId) (B j i : Nat) (r : Nat → Int32) (x : Int32) : ed_ent cy B j 13 i (upd r 0 x) = .inr (4, [.int x, .int (r 1)]) := rfl
theorem ed_u13_1 (cy : Nat → ClassId) (B j i : Nat) (r : Nat → Int32) (x : Int32) : ed_ent cy B j 13 i (upd r 1 x) = .inr (4, [.int (r 0), .int x]) := rfl
theorem ed_u14_3 (cy : Nat → ClassId) (B j i : Nat) (r : Nat → Int32) (x : Int32) : ed_ent cy B j 14 i (upd r 3 x) = .inr (8, [.ref (B + ed_oF 0 0 0), .ref (B + ed_oF 1 0 0), .ref (B + ed_oF 2 0 0), .int x, .ref (B + ed_oF 7 15 0), .ref (B + ed_oF 7 17 0)]) := rfl
theorem ed_u15_1 (cy : Nat → ClassId) (B j i : Nat) (r : Nat → Int32) (x : Int32) : ed_ent cy B j 15 i (upd r 1 x) = .inr (2, [.ref (B + ed_oF 7 16 0), .int x]) := rfl
theorem ed_u17_1 (cy : Nat → ClassId) (B j i : Nat) (r : Nat → Int32) (x : Int32) : ed_ent cy B j 17 i (upd r 1 x) = .inr (7, [.ref (B + ed_oF 7 18 0), .int x, .int (r 2), .int (r 3), .int (r 4), .ref (B + ed_oF 7 19 0), .int (r 6), .int (r 7), .ref (B + ed_oF 7 20 0)]) := rfl
theorem ed_u17_2 (cy : Nat → ClassId) (B j i : Nat) (r : Nat → Int32) (x : Int32) : ed_ent cy B j 17 i (upd r 2 x) = .inr (7, [.ref (B + ed_oF 7 18 0), .int (r 1), .int x, .int (r 3), .int (r 4), .ref (B + ed_oF 7 19 0), .int (r 6), .int (r 7), .ref (B + ed_oF 7 20 0)]) := rfl
theorem ed_u17_3 (cy : Nat → ClassId) (B j i : Nat) (r : Nat → Int32) (x : Int32) : ed_ent cy B j 17 i (upd r 3 x) = .inr (7, [.ref (B + ed_oF 7 18 0), .int (r 1), .int (r 2), .int x, .int (r 4), .ref (B + ed_oF 7 19 0), .int (r 6), .int (r 7), .ref (B + ed_oF 7 20 0)]) := rfl
theorem ed_u17_4 (cy : Nat → ClassId) (B j i : Nat) (r : Nat → Int32) (x : Int32) : ed_ent cy B j 17 i (upd r 4 x) = .inr (7, [.ref (B + ed_oF 7 18 0), .int (r 1), .int (r 2), .int (r 3), .int x, .ref (B + ed_oF 7 19 0), .int (r 6), .int (r 7), .ref (B + ed_oF 7 20 0)]) := rfl
theorem ed_u17_6 (cy : Nat → ClassId) (B j i : Nat) (r : Nat → Int32) (x : Int32) : ed_ent cy B j 17 i (upd r 6 x) = .inr (7, [.ref (B + ed_oF 7 18 0), .int (r 1), .int (r 2), .int (r 3), .int (r 4), .ref (B + ed_oF 7 19 0), .int x, .int (r 7), .ref (B + ed_oF 7 20 0)]) := rfl
theorem ed_u17_7 (cy : Nat → ClassId) (B j i : Nat) (r : Nat → Int32) (x : Int32) : ed_ent cy B j 17 i (upd r 7 x) = .inr (7, [.ref (B + ed_oF 7 18 0), .int (r 1), .int (r 2), .int (r 3), .int (r 4), .ref (B + ed_oF 7 19 0), .int (r 6), .int x, .ref (B + ed_oF 7 20 0)]) := rfl
def ed_N : Nat := 10000
theorem ed_ip {α : Sort _} {c : Prop} {h : Decidable c} {a b z : α} (hc : c) (hf : (if c then a else b) = z) : a = z := by rw [if_pos hc] at hf; exact hf
theorem ed_in_ {α : Sort _} {c : Prop} {h : Decidable c} {a b z : α} (hc : ¬ c) (hf : (if c then a else b) = z) : b = z := by rw [if_neg hc] at hf; exact hf
theorem ed_so {α β : Type} {a c : α} {b d : β} (h : some (a, b) = some (c, d)) : a = c ∧ b = d := by cases h; exact ⟨rfl, rfl⟩
theorem ed_sJr (μ : ed_CM) (j : Nat) (σ : ed_SM) (K i : Nat) : ed_sJ μ j σ j K i = σ K i := by rw [ed_sJ_self]
theorem ed_sJn (μ : ed_CM) {j k : Nat} (σ : ed_SM) {τ : ed_SM} (h : k ≠ j) (hτ : μ k = τ) (K i : Nat) : ed_sJ μ j σ k K i = τ K i := by rw [ed_sJ_ne μ σ h, hτ]
theorem ed_eta {D : va_G} {cy : Nat → ClassId} {B : Nat} {μ : ed_CM} {j : Nat} {H : Heap} (h : ed_P D cy B μ H) : ed_P D cy B (ed_sJ μ j (μ j)) H := by rw [ed_sJ_eta]; exact h
def ed_b2 {α β γ : Type} (x : Option (α × γ)) (k : α → γ → Option β) : Option β := match x with
  | none => none
  | some q => k q.1 q.2
section
variable {p : Program} {l : Launch} {e : Env} {R : Room} {s : State} {m : MethodId} {args : Array Value} {below : List Frame} {meth : Method} {c : Code} {H : Heap} {locs : List Loc} {cells slots : Nat} {Q : State → Prop}
variable {pc nL : Nat} {ls : Array Slot} {rest st0 : List Value} {cc : ByteArray} {Ts : List Cond} {own : String} {D : va_G} {cy : Nat → ClassId} {B : Nat} {μ : ed_CM} {j K i : Nat} {σ : ed_SM} {H0 : Heap}
theorem ed_nm {x v : Int32} (h : x = v) (kk : W p l e R s m args below meth c H locs cells slots Q (F0 m pc ls (.int x :: rest))) : W p l e R s m args below meth c H locs cells slots Q (F0 m pc ls (.int v :: rest)) := by
  subst h
  exact kk
theorem ed_rw16 (j : Nat) (hj : j < 7) : (nI j).toNatClampNeg % 7 = j := by
  rw [nI_clamp (by omega)]
  omega
theorem ed_ast {x : Int32} {k : Nat} (S : CallFix p m c cc nL s args Ts own) (hK : ed_K D cy s) (hM : ed_P D cy B (ed_sJ μ 7 (μ 7)) H) (hS : va_S (ed_A B) H0 H locs) (hk : k < 7) (hx : ed_in x 4) (hdg : decode cc pc = .ok (.aastore, 1))
    (kk : ∀ (H1 : Heap) (locs1 : List Loc), ed_P D cy B (ed_sJ μ 7 (ed_up (μ 7) 16 0 x.toNatClampNeg (nI k))) H1 → va_S (ed_A B) H0 H1 locs1 → W p l e R s m args below meth c H1 locs1 cells slots Q (F0 m (pc + 1) ls rest)) : W p l e R s m args below meth c H locs cells slots Q (F0 m pc ls (.ref (B + ed_oF k 0 0) :: .int x :: .ref (B + ed_oF 7 16 0) :: rest)) := by
  refine va_astq S.1 S.2.1 hK.1 hM (ed_w_D cy B _) hS (ed_oF 7 16 0) 5 (ed_oF k 0 0) 5 (by rw [ed_w_at cy B _ ed_v16, ed_sJ_self, ed_e16]) rfl (by rw [ed_w_at cy B _ (ed_v0 hk 0), ed_e0]) rfl (ed_in_vp hx) hdg (fun H1 locs1 hP _ hS1 => kk H1 locs1 ?_ hS1)
  have he : (Sum.inl (cy 5, 4, Sum.inr (Sum.inr (Sum.inr (Sum.inr (va_up (fun z => some (B + ed_oF ((μ 7 16 0 z).toNatClampNeg % 7) 0 0)) x.toNatClampNeg (some (B + ed_oF k 0 0))))))) : va_E) = ed_ent cy B 7 16 0 (upd (μ 7 16 0) x.toNatClampNeg (nI k)) := by
    rw [ed_e16]
    congr 7
    funext z
    by_cases hz : z = x.toNatClampNeg
    · subst hz
      simp [va_up, upd, ed_rw16 k hk]
    · simp [va_up, upd, hz]
  rw [he, ed_w_set2 cy B μ ed_v16] at hP
  exact hP
end
theorem ed_b2_e {α β γ : Type} {x : Option (α × γ)} {k : α → γ → Option β} {z : β} (h : ed_b2 x k = some z) : ∃ a c, x = some (a, c) ∧ k a c = some z := by
  cases x with
  | none => cases h
  | some a => exact ⟨a.1, a.2, rfl, h⟩
end
section
theorem ed_n0 {D : va_G} {cy : Nat → ClassId} {s : State} (hK : ed_K D cy s) : va_Nw (.methodLinkNest RX8 31 yX7_init RX8) s := hK.2 ("EmbargoDesk", 31, ⟨"EmbargoDesk$StoryText", "<init>", "()V"⟩, "EmbargoDesk") (List.mem_of_getElem? (i := 0) rfl)
theorem ed_n1 {D : va_G} {cy : Nat → ClassId} {s : State} (hK : ed_K D cy s) : va_Nw (.methodLinkNest RX2 25 yX8_isPlace RX8) s := hK.2 ("EmbargoDesk$History", 25, ⟨"EmbargoDesk", "isPlace", "(II)Z"⟩, "EmbargoDesk") (List.mem_of_getElem? (i := 1) rfl)
theorem ed_n2 {D : va_G} {cy : Nat → ClassId} {s : State} (hK : ed_K D cy s) : va_Nw (.methodLinkNest RX3 28 yX8_isPlace RX8) s := hK.2 ("EmbargoDesk$Log", 28, ⟨"EmbargoDesk", "isPlace", "(II)Z"⟩, "EmbargoDesk") (List.mem_of_getElem? (i := 2) rfl)
theorem ed_n3 {D : va_G} {cy : Nat → ClassId} {s : State} (hK : ed_K D cy s) : va_Nw (.methodLinkNest RX3 32 yX8_copyRow RX8) s := hK.2 ("EmbargoDesk$Log", 32, ⟨"EmbargoDesk", "copyRow", "([I[I)V"⟩, "EmbargoDesk") (List.mem_of_getElem? (i := 3) rfl)
theorem ed_n4 {D : va_G} {cy : Nat → ClassId} {s : State} (hK : ed_K D cy s) : va_Nw (.methodLinkNest RX5 119 yX8_isPlace RX8) s := hK.2 ("EmbargoDesk$State", 119, ⟨"EmbargoDesk", "isPlace", "(II)Z"⟩, "EmbargoDesk") (List.mem_of_getElem? (i := 4) rfl)
theorem ed_n5 {D : va_G} {cy : Nat → ClassId} {s : State} (hK : ed_K D cy s) : va_Nw (.methodLinkNest RX5 17 yX3_init RX8) s := hK.2 ("EmbargoDesk$State", 17, ⟨"EmbargoDesk$Log", "<init>", "()V"⟩, "EmbargoDesk") (List.mem_of_getElem? (i := 5) rfl)
theorem ed_n6 {D : va_G} {cy : Nat → ClassId} {s : State} (hK : ed_K D cy s) : va_Nw (.methodLinkNest RX5 46 yX6_init RX8) s := hK.2 ("EmbargoDesk$State", 46, ⟨"EmbargoDesk$Story", "<init>", "()V"⟩, "EmbargoDesk") (List.mem_of_getElem? (i := 6) rfl)
theorem ed_n7 {D : va_G} {cy : Nat → ClassId} {s : State} (hK : ed_K D cy s) : va_Nw (.methodLinkNest RX5 47 yX0_init RX8) s := hK.2 ("EmbargoDesk$State", 47, ⟨"EmbargoDesk$Client", "<init>", "()V"⟩, "EmbargoDesk") (List.mem_of_getElem? (i := 7) rfl)
theorem ed_n8 {D : va_G} {cy : Nat → ClassId} {s : State} (hK : ed_K D cy s) : va_Nw (.methodLinkNest RX5 48 yX1_init RX8) s := hK.2 ("EmbargoDesk$State", 48, ⟨"EmbargoDesk$Copy", "<init>", "()V"⟩, "EmbargoDesk") (List.mem_of_getElem? (i := 8) rfl)
theorem ed_n9 {D : va_G} {cy : Nat → ClassId} {s : State} (hK : ed_K D cy s) : va_Nw (.methodLinkNest RX5 49 yX4_init RX8) s := hK.2 ("EmbargoDesk$State", 49, ⟨"EmbargoDesk$Person", "<init>", "()V"⟩, "EmbargoDesk") (List.mem_of_getElem? (i := 9) rfl)
theorem ed_n10 {D : va_G} {cy : Nat → ClassId} {s : State} (hK : ed_K D cy s) : va_Nw (.methodLinkNest RX6 33 yX8_copyRow RX8) s := hK.2 ("EmbargoDesk$Story", 33, ⟨"EmbargoDesk", "copyRow", "([I[I)V"⟩, "EmbargoDesk") (List.mem_of_getElem? (i := 10) rfl)
theorem ed_n11 {D : va_G} {cy : Nat → ClassId} {s : State} (hK : ed_K D cy s) : va_Nw (.methodLinkNest RX6 58 yX8_isPlace RX8) s := hK.2 ("EmbargoDesk$Story", 58, ⟨"EmbargoDesk", "isPlace", "(II)Z"⟩, "EmbargoDesk") (List.mem_of_getElem? (i := 11) rfl)
theorem ed_n12 {D : va_G} {cy : Nat → ClassId} {s : State} (hK : ed_K D cy s) : va_Nw (.methodLinkNest RX7 25 yX8_isPlace RX8) s := hK.2 ("EmbargoDesk$StoryText", 25, ⟨"EmbargoDesk", "isPlace", "(II)Z"⟩, "EmbargoDesk") (List.mem_of_getElem? (i := 12) rfl)
theorem ed_n13 {D : va_G} {cy : Nat → ClassId} {s : State} (hK : ed_K D cy s) : va_Nw (.methodLinkNest RX7 59 yX8_isBetween RX8) s := hK.2 ("EmbargoDesk$StoryText", 59, ⟨"EmbargoDesk", "isBetween", "(III)Z"⟩, "EmbargoDesk") (List.mem_of_getElem? (i := 13) rfl)
end
section
/-! The memory of the reference: its object (0) and its six rows of ints (1 v, 2 spare, 3 history, 4 kept, 5 text, 6 read), at a base B. -/
abbrev em_MM : Type := Nat → Nat → Int32
def em_sR (ν : em_MM) (i : Nat) (r : Nat → Int32) : em_MM := fun i' => if i' = i then r else ν i'
def em_up (ν : em_MM) (i k : Nat) (v : Int32) : em_MM := em_sR ν i (upd (ν i) k v)
def em_ent (cy : Nat → ClassId) (B i : Nat) (r : Nat → Int32) : va_E := match i with
  | 0 => .inr (9, [.ref (B + 1), .ref (B + 2), .ref (B + 3), .int (r 3), .ref (B + 4), .int (r 5), .ref (B + 5), .int (r 7), .int (r 8), .ref (B + 6), .int (r 10)])
  | 1 => .inl (cy 0, 1683, .inl r)
  | 2 => .inl (cy 0, 1683, .inl r)
  | 3 => .inl (cy 0, 6732, .inl r)
  | 4 => .inl (cy 0, 1683, .inl r)
  | 5 => .inl (cy 0, 40, .inl r)
  | _ => .inl (cy 0, 29, .inl r)
def em_w (cy : Nat → ClassId) (B : Nat) (ν : em_MM) : va_W := (List.range 7).map (fun i => (B + i, em_ent cy B i (ν i)))
def em_A (B : Nat) : Nat → Prop := fun q => B ≤ q ∧ q < B + 7
theorem em_w_get (cy : Nat → ClassId) (B : Nat) (ν : em_MM) (i : Nat) : (em_w cy B ν)[i]? = if i < 7 then some (B + i, em_ent cy B i (ν i)) else none := by
  by_cases h : i < 7
  · simp [em_w, h]
  · simp [em_w, h]
theorem em_w_D (cy : Nat → ClassId) (B : Nat) (ν : em_MM) : va_D (em_A B) (em_w cy B ν) := by
  refine ⟨fun i j p q hi hj he => ?_, fun k q hk => ?_⟩
  · rw [em_w_get] at hi hj
    split at hi
    · split at hj
      · cases hi; cases hj
        have he : B + i = B + j := he
        omega
      · cases hj
    · cases hi
  · rw [em_w_get] at hk
    split at hk
    · cases hk
      exact ⟨by show B ≤ B + k; omega, by show B + k < B + 7; omega⟩
    · cases hk
theorem em_w_set (cy : Nat → ClassId) (B : Nat) (ν : em_MM) {i : Nat} (h : i < 7) (r : Nat → Int32) : (em_w cy B ν).set i (B + i, em_ent cy B i r) = em_w cy B (em_sR ν i r) := by
  apply List.ext_getElem?
  intro o
  by_cases ho : o = i
  · subst ho
    rw [List.getElem?_set_self (by simp [em_w, h]), em_w_get, if_pos h]
    simp [em_sR]
  · rw [List.getElem?_set_ne (Ne.symm ho), em_w_get, em_w_get]
    simp [em_sR, ho]
def em_P (D : va_G) (cy : Nat → ClassId) (B : Nat) (ν : em_MM) (H : Heap) : Prop := va_P D vwCl (em_w cy B ν) H
theorem em_e0 (cy : Nat → ClassId) (B : Nat) (r : Nat → Int32) : em_ent cy B 0 r = .inr (9, [.ref (B + 1), .ref (B + 2), .ref (B + 3), .int (r 3), .ref (B + 4), .int (r 5), .ref (B + 5), .int (r 7), .int (r 8), .ref (B + 6), .int (r 10)]) := rfl
theorem em_e1 (cy : Nat → ClassId) (B : Nat) (r : Nat → Int32) : em_ent cy B 1 r = .inl (cy 0, 1683, .inl r) := rfl
theorem em_e2 (cy : Nat → ClassId) (B : Nat) (r : Nat → Int32) : em_ent cy B 2 r = .inl (cy 0, 1683, .inl r) := rfl
theorem em_e3 (cy : Nat → ClassId) (B : Nat) (r : Nat → Int32) : em_ent cy B 3 r = .inl (cy 0, 6732, .inl r) := rfl
theorem em_e4 (cy : Nat → ClassId) (B : Nat) (r : Nat → Int32) : em_ent cy B 4 r = .inl (cy 0, 1683, .inl r) := rfl
theorem em_e5 (cy : Nat → ClassId) (B : Nat) (r : Nat → Int32) : em_ent cy B 5 r = .inl (cy 0, 40, .inl r) := rfl
theorem em_e6 (cy : Nat → ClassId) (B : Nat) (r : Nat → Int32) : em_ent cy B 6 r = .inl (cy 0, 29, .inl r) := rfl
theorem em_u3 (cy : Nat → ClassId) (B : Nat) (r : Nat → Int32) (x : Int32) : em_ent cy B 0 (upd r 3 x) = .inr (9, [.ref (B + 1), .ref (B + 2), .ref (B + 3), .int x, .ref (B + 4), .int (r 5), .ref (B + 5), .int (r 7), .int (r 8), .ref (B + 6), .int (r 10)]) := rfl
theorem em_u5 (cy : Nat → ClassId) (B : Nat) (r : Nat → Int32) (x : Int32) : em_ent cy B 0 (upd r 5 x) = .inr (9, [.ref (B + 1), .ref (B + 2), .ref (B + 3), .int (r 3), .ref (B + 4), .int x, .ref (B + 5), .int (r 7), .int (r 8), .ref (B + 6), .int (r 10)]) := rfl
theorem em_u7 (cy : Nat → ClassId) (B : Nat) (r : Nat → Int32) (x : Int32) : em_ent cy B 0 (upd r 7 x) = .inr (9, [.ref (B + 1), .ref (B + 2), .ref (B + 3), .int (r 3), .ref (B + 4), .int (r 5), .ref (B + 5), .int x, .int (r 8), .ref (B + 6), .int (r 10)]) := rfl
theorem em_u8 (cy : Nat → ClassId) (B : Nat) (r : Nat → Int32) (x : Int32) : em_ent cy B 0 (upd r 8 x) = .inr (9, [.ref (B + 1), .ref (B + 2), .ref (B + 3), .int (r 3), .ref (B + 4), .int (r 5), .ref (B + 5), .int (r 7), .int x, .ref (B + 6), .int (r 10)]) := rfl
theorem em_u10 (cy : Nat → ClassId) (B : Nat) (r : Nat → Int32) (x : Int32) : em_ent cy B 0 (upd r 10 x) = .inr (9, [.ref (B + 1), .ref (B + 2), .ref (B + 3), .int (r 3), .ref (B + 4), .int (r 5), .ref (B + 5), .int (r 7), .int (r 8), .ref (B + 6), .int x]) := rfl
section
variable {p : Program} {l : Launch} {e : Env} {R : Room} {s : State} {m : MethodId} {args : Array Value} {below : List Frame} {meth : Method} {c : Code} {H : Heap} {locs : List Loc} {cells slots : Nat} {Q : State → Prop}
variable {pc nL : Nat} {ls : Array Slot} {rest st0 : List Value} {cc : ByteArray} {Ts : List Cond} {own : String} {D : va_G} {cy : Nat → ClassId} {B : Nat} {ν : em_MM} {H0 : Heap}
theorem em_get {ref : String} {index : Nat} {v : Value} (S : CallFix p m c cc nL s args Ts own) (hin : ∀ w ∈ u_ws RX9 TX9 11, w ∈ Ts) (hK : ed_K D cy s) (hM : em_P D cy B ν H) (k : Nat) (hk : k < 11) (hlink : Cond.fieldLink own index ref (TX9 k).2.1 (TX9 k).2.2.1 ∈ Ts) (href : ref = (TX9 k).1) (hfv : ([.ref (B + 1), .ref (B + 2), .ref (B + 3), .int (ν 0 3), .ref (B + 4), .int (ν 0 5), .ref (B + 5), .int (ν 0 7), .int (ν 0 8), .ref (B + 6), .int (ν 0 10)] : List Value)[k]? = some v) (hdg : decode cc pc = .ok (.getfield index, 3))
    (kk : W p l e R s m args below meth c H locs cells slots Q (F0 m (pc + 3) ls (v :: rest))) : W p l e R s m args below meth c H locs cells slots Q (F0 m pc ls (.ref (B + 0) :: rest)) := by
  subst href
  exact va_get S.1 S.2.1 S.2.2.2.2 hin S.2.2.2.1 hK.1 hM 0 (by rw [em_w_get]; rfl) rfl k hk (S.2.2.2.2 _ hlink) (fun _ h => h) hfv hdg kk
theorem em_put {ref : String} {index : Nat} {x : Int32} (S : CallFix p m c cc nL s args Ts own) (hin : ∀ w ∈ u_ws RX9 TX9 11, w ∈ Ts) (hK : ed_K D cy s) (hM : em_P D cy B ν H) (hS : va_S (em_A B) H0 H locs) (k : Nat) (hk : k < 11) (hlink : Cond.fieldLink own index ref (TX9 k).2.1 (TX9 k).2.2.1 ∈ Ts) (href : ref = (TX9 k).1) (hfin : (TX9 k).2.2.2 = false) (hn : narrow (tyX9 k) (.int x) = .int x) (hfit : fits (tyX9 k) (.int x) = true) (he2 : em_ent cy B 0 (upd (ν 0) k x) = .inr (9, ([.ref (B + 1), .ref (B + 2), .ref (B + 3), .int (ν 0 3), .ref (B + 4), .int (ν 0 5), .ref (B + 5), .int (ν 0 7), .int (ν 0 8), .ref (B + 6), .int (ν 0 10)] : List Value).set k (.int x))) (hdg : decode cc pc = .ok (.putfield index, 3))
    (kk : ∀ (H1 : Heap) (locs1 : List Loc), em_P D cy B (em_up ν 0 k x) H1 → va_S (em_A B) H0 H1 locs1 → W p l e R s m args below meth c H1 locs1 cells slots Q (F0 m (pc + 3) ls rest)) : W p l e R s m args below meth c H locs cells slots Q (F0 m pc ls (.int x :: .ref (B + 0) :: rest)) := by
  subst href
  refine va_put (fs := [.ref (B + 1), .ref (B + 2), .ref (B + 3), .int (ν 0 3), .ref (B + 4), .int (ν 0 5), .ref (B + 5), .int (ν 0 7), .int (ν 0 8), .ref (B + 6), .int (ν 0 10)]) S.1 S.2.1 S.2.2.2.2 hin tyX9 tyX9_ok nmX9 S.2.2.2.1 hK.1 hM (em_w_D cy B _) hS 0 (by rw [em_w_get]; rfl) rfl k hk (S.2.2.2.2 _ hlink) (fun _ h => h) hfin (tyX9_ok k hk) hn hfit hk hdg (fun H1 locs1 hP _ hS1 => kk H1 locs1 ?_ hS1)
  rw [← he2, em_w_set cy B ν (by decide)] at hP
  exact hP
theorem em_ild {n : Nat} {x : Int32} (S : CallFix p m c cc nL s args Ts own) (hK : ed_K D cy s) (hM : em_P D cy B ν H) (i : Nat) (hi : i < 7) (he : em_ent cy B i (ν i) = .inl (cy 0, n, .inl (ν i))) (hx : ed_in x n) (hdg : decode cc pc = .ok (.iaload, 1))
    (kk : W p l e R s m args below meth c H locs cells slots Q (F0 m (pc + 1) ls (.int (ν i x.toNatClampNeg) :: rest))) : W p l e R s m args below meth c H locs cells slots Q (F0 m pc ls (.int x :: .ref (B + i) :: rest)) :=
  va_iald S.1 S.2.1 hK.1 hM i 0 (by rw [em_w_get, if_pos hi, he]) rfl (ed_in_vp hx) hdg kk
theorem em_ist {n : Nat} {x y : Int32} (S : CallFix p m c cc nL s args Ts own) (hK : ed_K D cy s) (hM : em_P D cy B ν H) (hS : va_S (em_A B) H0 H locs) (i : Nat) (hi : i < 7) (he : ∀ r, em_ent cy B i r = .inl (cy 0, n, .inl r)) (hx : ed_in x n) (hdg : decode cc pc = .ok (.iastore, 1))
    (kk : ∀ (H1 : Heap) (locs1 : List Loc), em_P D cy B (em_up ν i x.toNatClampNeg y) H1 → va_S (em_A B) H0 H1 locs1 → W p l e R s m args below meth c H1 locs1 cells slots Q (F0 m (pc + 1) ls rest)) : W p l e R s m args below meth c H locs cells slots Q (F0 m pc ls (.int y :: .int x :: .ref (B + i) :: rest)) := by
  refine va_iast S.1 S.2.1 hK.1 hM (em_w_D cy B _) hS i 0 (by rw [em_w_get, if_pos hi, he]) rfl (ed_in_vp hx) hdg (fun H1 locs1 hP _ hS1 => kk H1 locs1 ?_ hS1)
  rw [← he, em_w_set cy B ν hi] at hP
  exact hP
theorem em_rc (hK : ed_K D cy s) (hM : em_P D cy B ν H) : ∃ cell : Cell, H[B + 0]? = some cell ∧ cell.vm.isStatics = false ∧ s.vm.findClass RX9 = some cell.cls :=
  va_recv (q := (RX9, TX9, 11)) hK.1 hM rfl (q0 := 0) (by rw [em_w_get]; rfl)
end
end
section
theorem dX0_init_0 : decode cX0_init 0 = .ok (.aload_n 0, 1) := by decide +kernel
theorem dX0_init_1 : decode cX0_init 1 = .ok (.invokespecial 1, 3) := by decide +kernel
theorem dX0_init_4 : decode cX0_init 4 = .ok (.return_, 1) := by decide +kernel
theorem dX0_begin_0 : decode cX0_begin 0 = .ok (.aload_n 0, 1) := by decide +kernel
theorem dX0_begin_1 : decode cX0_begin 1 = .ok (.iload_n 1, 1) := by decide +kernel
theorem dX0_begin_2 : decode cX0_begin 2 = .ok (.putfield 7, 3) := by decide +kernel
theorem dX0_begin_5 : decode cX0_begin 5 = .ok (.aload_n 0, 1) := by decide +kernel
theorem dX0_begin_6 : decode cX0_begin 6 = .ok (.iload_n 2, 1) := by decide +kernel
theorem dX0_begin_7 : decode cX0_begin 7 = .ok (.putfield 13, 3) := by decide +kernel
theorem dX0_begin_10 : decode cX0_begin 10 = .ok (.aload_n 0, 1) := by decide +kernel
theorem dX0_begin_11 : decode cX0_begin 11 = .ok (.iload_n 3, 1) := by decide +kernel
theorem dX0_begin_12 : decode cX0_begin 12 = .ok (.putfield 16, 3) := by decide +kernel
theorem dX0_begin_15 : decode cX0_begin 15 = .ok (.aload_n 0, 1) := by decide +kernel
theorem dX0_begin_16 : decode cX0_begin 16 = .ok (.iload 4, 2) := by decide +kernel
theorem dX0_begin_18 : decode cX0_begin 18 = .ok (.putfield 19, 3) := by decide +kernel
theorem dX0_begin_21 : decode cX0_begin 21 = .ok (.aload_n 0, 1) := by decide +kernel
theorem dX0_begin_22 : decode cX0_begin 22 = .ok (.iload 5, 2) := by decide +kernel
theorem dX0_begin_24 : decode cX0_begin 24 = .ok (.putfield 22, 3) := by decide +kernel
theorem dX0_begin_27 : decode cX0_begin 27 = .ok (.aload_n 0, 1) := by decide +kernel
theorem dX0_begin_28 : decode cX0_begin 28 = .ok (.iconst 1, 1) := by decide +kernel
theorem dX0_begin_29 : decode cX0_begin 29 = .ok (.putfield 25, 3) := by decide +kernel
theorem dX0_begin_32 : decode cX0_begin 32 = .ok (.aload_n 0, 1) := by decide +kernel
theorem dX0_begin_33 : decode cX0_begin 33 = .ok (.iconst 0, 1) := by decide +kernel
theorem dX0_begin_34 : decode cX0_begin 34 = .ok (.putfield 29, 3) := by decide +kernel
theorem dX0_begin_37 : decode cX0_begin 37 = .ok (.aload_n 0, 1) := by decide +kernel
theorem dX0_begin_38 : decode cX0_begin 38 = .ok (.iconst 0, 1) := by decide +kernel
theorem dX0_begin_39 : decode cX0_begin 39 = .ok (.putfield 32, 3) := by decide +kernel
theorem dX0_begin_42 : decode cX0_begin 42 = .ok (.aload_n 0, 1) := by decide +kernel
theorem dX0_begin_43 : decode cX0_begin 43 = .ok (.iconst 0, 1) := by decide +kernel
theorem dX0_begin_44 : decode cX0_begin 44 = .ok (.putfield 35, 3) := by decide +kernel
theorem dX0_begin_47 : decode cX0_begin 47 = .ok (.aload_n 0, 1) := by decide +kernel
theorem dX0_begin_48 : decode cX0_begin 48 = .ok (.iconst 0, 1) := by decide +kernel
theorem dX0_begin_49 : decode cX0_begin 49 = .ok (.putfield 38, 3) := by decide +kernel
theorem dX0_begin_52 : decode cX0_begin 52 = .ok (.return_, 1) := by decide +kernel
theorem dX0_copyFrom_0 : decode cX0_copyFrom 0 = .ok (.aload_n 0, 1) := by decide +kernel
theorem dX0_copyFrom_1 : decode cX0_copyFrom 1 = .ok (.aload_n 1, 1) := by decide +kernel
theorem dX0_copyFrom_2 : decode cX0_copyFrom 2 = .ok (.getfield 7, 3) := by decide +kernel
theorem dX0_copyFrom_5 : decode cX0_copyFrom 5 = .ok (.putfield 7, 3) := by decide +kernel
theorem dX0_copyFrom_8 : decode cX0_copyFrom 8 = .ok (.aload_n 0, 1) := by decide +kernel
theorem dX0_copyFrom_9 : decode cX0_copyFrom 9 = .ok (.aload_n 1, 1) := by decide +kernel
theorem dX0_copyFrom_10 : decode cX0_copyFrom 10 = .ok (.getfield 13, 3) := by decide +kernel
theorem dX0_copyFrom_13 : decode cX0_copyFrom 13 = .ok (.putfield 13, 3) := by decide +kernel
theorem dX0_copyFrom_16 : decode cX0_copyFrom 16 = .ok (.aload_n 0, 1) := by decide +kernel
theorem dX0_copyFrom_17 : decode cX0_copyFrom 17 = .ok (.aload_n 1, 1) := by decide +kernel
theorem dX0_copyFrom_18 : decode cX0_copyFrom 18 = .ok (.getfield 16, 3) := by decide +kernel
theorem dX0_copyFrom_21 : decode cX0_copyFrom 21 = .ok (.putfield 16, 3) := by decide +kernel
theorem dX0_copyFrom_24 : decode cX0_copyFrom 24 = .ok (.aload_n 0, 1) := by decide +kernel
theorem dX0_copyFrom_25 : decode cX0_copyFrom 25 = .ok (.aload_n 1, 1) := by decide +kernel
theorem dX0_copyFrom_26 : decode cX0_copyFrom 26 = .ok (.getfield 19, 3) := by decide +kernel
theorem dX0_copyFrom_29 : decode cX0_copyFrom 29 = .ok (.putfield 19, 3) := by decide +kernel
theorem dX0_copyFrom_32 : decode cX0_copyFrom 32 = .ok (.aload_n 0, 1) := by decide +kernel
theorem dX0_copyFrom_33 : decode cX0_copyFrom 33 = .ok (.aload_n 1, 1) := by decide +kernel
theorem dX0_copyFrom_34 : decode cX0_copyFrom 34 = .ok (.getfield 22, 3) := by decide +kernel
theorem dX0_copyFrom_37 : decode cX0_copyFrom 37 = .ok (.putfield 22, 3) := by decide +kernel
theorem dX0_copyFrom_40 : decode cX0_copyFrom 40 = .ok (.aload_n 0, 1) := by decide +kernel
theorem dX0_copyFrom_41 : decode cX0_copyFrom 41 = .ok (.aload_n 1, 1) := by decide +kernel
theorem dX0_copyFrom_42 : decode cX0_copyFrom 42 = .ok (.getfield 25, 3) := by decide +kernel
theorem dX0_copyFrom_45 : decode cX0_copyFrom 45 = .ok (.putfield 25, 3) := by decide +kernel
theorem dX0_copyFrom_48 : decode cX0_copyFrom 48 = .ok (.aload_n 0, 1) := by decide +kernel
theorem dX0_copyFrom_49 : decode cX0_copyFrom 49 = .ok (.aload_n 1, 1) := by decide +kernel
theorem dX0_copyFrom_50 : decode cX0_copyFrom 50 = .ok (.getfield 29, 3) := by decide +kernel
theorem dX0_copyFrom_53 : decode cX0_copyFrom 53 = .ok (.putfield 29, 3) := by decide +kernel
theorem dX0_copyFrom_56 : decode cX0_copyFrom 56 = .ok (.aload_n 0, 1) := by decide +kernel
theorem dX0_copyFrom_57 : decode cX0_copyFrom 57 = .ok (.aload_n 1, 1) := by decide +kernel
theorem dX0_copyFrom_58 : decode cX0_copyFrom 58 = .ok (.getfield 32, 3) := by decide +kernel
theorem dX0_copyFrom_61 : decode cX0_copyFrom 61 = .ok (.putfield 32, 3) := by decide +kernel
theorem dX0_copyFrom_64 : decode cX0_copyFrom 64 = .ok (.aload_n 0, 1) := by decide +kernel
theorem dX0_copyFrom_65 : decode cX0_copyFrom 65 = .ok (.aload_n 1, 1) := by decide +kernel
theorem dX0_copyFrom_66 : decode cX0_copyFrom 66 = .ok (.getfield 35, 3) := by decide +kernel
theorem dX0_copyFrom_69 : decode cX0_copyFrom 69 = .ok (.putfield 35, 3) := by decide +kernel
theorem dX0_copyFrom_72 : decode cX0_copyFrom 72 = .ok (.aload_n 0, 1) := by decide +kernel
theorem dX0_copyFrom_73 : decode cX0_copyFrom 73 = .ok (.aload_n 1, 1) := by decide +kernel
theorem dX0_copyFrom_74 : decode cX0_copyFrom 74 = .ok (.getfield 38, 3) := by decide +kernel
theorem dX0_copyFrom_77 : decode cX0_copyFrom 77 = .ok (.putfield 38, 3) := by decide +kernel
theorem dX0_copyFrom_80 : decode cX0_copyFrom 80 = .ok (.return_, 1) := by decide +kernel
theorem dX0_hasTopic_0 : decode cX0_hasTopic 0 = .ok (.aload_n 0, 1) := by decide +kernel
theorem dX0_hasTopic_1 : decode cX0_hasTopic 1 = .ok (.getfield 7, 3) := by decide +kernel
theorem dX0_hasTopic_4 : decode cX0_hasTopic 4 = .ok (.iload_n 1, 1) := by decide +kernel
theorem dX0_hasTopic_5 : decode cX0_hasTopic 5 = .ok (.ishr, 1) := by decide +kernel
theorem dX0_hasTopic_6 : decode cX0_hasTopic 6 = .ok (.iconst 1, 1) := by decide +kernel
theorem dX0_hasTopic_7 : decode cX0_hasTopic 7 = .ok (.iand, 1) := by decide +kernel
theorem dX0_hasTopic_8 : decode cX0_hasTopic 8 = .ok (.iconst 1, 1) := by decide +kernel
theorem dX0_hasTopic_9 : decode cX0_hasTopic 9 = .ok (.if_icmp .ne 7, 3) := by decide +kernel
theorem dX0_hasTopic_12 : decode cX0_hasTopic 12 = .ok (.iconst 1, 1) := by decide +kernel
theorem dX0_hasTopic_13 : decode cX0_hasTopic 13 = .ok (.goto 4, 3) := by decide +kernel
theorem dX0_hasTopic_16 : decode cX0_hasTopic 16 = .ok (.iconst 0, 1) := by decide +kernel
theorem dX0_hasTopic_17 : decode cX0_hasTopic 17 = .ok (.ireturn, 1) := by decide +kernel
theorem dX0_canGetCopy_0 : decode cX0_canGetCopy 0 = .ok (.aload_n 0, 1) := by decide +kernel
theorem dX0_canGetCopy_1 : decode cX0_canGetCopy 1 = .ok (.getfield 25, 3) := by decide +kernel
theorem dX0_canGetCopy_4 : decode cX0_canGetCopy 4 = .ok (.ifCond .eq 18, 3) := by decide +kernel
theorem dX0_canGetCopy_7 : decode cX0_canGetCopy 7 = .ok (.aload_n 0, 1) := by decide +kernel
theorem dX0_canGetCopy_8 : decode cX0_canGetCopy 8 = .ok (.getfield 32, 3) := by decide +kernel
theorem dX0_canGetCopy_11 : decode cX0_canGetCopy 11 = .ok (.aload_n 0, 1) := by decide +kernel
theorem dX0_canGetCopy_12 : decode cX0_canGetCopy 12 = .ok (.getfield 19, 3) := by decide +kernel
theorem dX0_canGetCopy_15 : decode cX0_canGetCopy 15 = .ok (.if_icmp .ge 7, 3) := by decide +kernel
theorem dX0_canGetCopy_18 : decode cX0_canGetCopy 18 = .ok (.iconst 1, 1) := by decide +kernel
theorem dX0_canGetCopy_19 : decode cX0_canGetCopy 19 = .ok (.goto 4, 3) := by decide +kernel
theorem dX0_canGetCopy_22 : decode cX0_canGetCopy 22 = .ok (.iconst 0, 1) := by decide +kernel
theorem dX0_canGetCopy_23 : decode cX0_canGetCopy 23 = .ok (.ireturn, 1) := by decide +kernel
theorem dX1_init_0 : decode cX1_init 0 = .ok (.aload_n 0, 1) := by decide +kernel
theorem dX1_init_1 : decode cX1_init 1 = .ok (.invokespecial 3, 3) := by decide +kernel
theorem dX1_init_4 : decode cX1_init 4 = .ok (.return_, 1) := by decide +kernel
theorem dX1_begin_0 : decode cX1_begin 0 = .ok (.aload_n 0, 1) := by decide +kernel
theorem dX1_begin_1 : decode cX1_begin 1 = .ok (.iload_n 1, 1) := by decide +kernel
theorem dX1_begin_2 : decode cX1_begin 2 = .ok (.putfield 9, 3) := by decide +kernel
theorem dX1_begin_5 : decode cX1_begin 5 = .ok (.aload_n 0, 1) := by decide +kernel
theorem dX1_begin_6 : decode cX1_begin 6 = .ok (.iload_n 2, 1) := by decide +kernel
theorem dX1_begin_7 : decode cX1_begin 7 = .ok (.putfield 15, 3) := by decide +kernel
theorem dX1_begin_10 : decode cX1_begin 10 = .ok (.aload_n 0, 1) := by decide +kernel
theorem dX1_begin_11 : decode cX1_begin 11 = .ok (.iconst 0, 1) := by decide +kernel
theorem dX1_begin_12 : decode cX1_begin 12 = .ok (.putfield 18, 3) := by decide +kernel
theorem dX1_begin_15 : decode cX1_begin 15 = .ok (.aload_n 0, 1) := by decide +kernel
theorem dX1_begin_16 : decode cX1_begin 16 = .ok (.iload_n 3, 1) := by decide +kernel
theorem dX1_begin_17 : decode cX1_begin 17 = .ok (.putfield 21, 3) := by decide +kernel
theorem dX1_begin_20 : decode cX1_begin 20 = .ok (.aload_n 0, 1) := by decide +kernel
theorem dX1_begin_21 : decode cX1_begin 21 = .ok (.bipush (-5), 2) := by decide +kernel
theorem dX1_begin_23 : decode cX1_begin 23 = .ok (.putfield 24, 3) := by decide +kernel
theorem dX1_begin_26 : decode cX1_begin 26 = .ok (.aload_n 0, 1) := by decide +kernel
theorem dX1_begin_27 : decode cX1_begin 27 = .ok (.bipush (-5), 2) := by decide +kernel
theorem dX1_begin_29 : decode cX1_begin 29 = .ok (.putfield 27, 3) := by decide +kernel
theorem dX1_begin_32 : decode cX1_begin 32 = .ok (.return_, 1) := by decide +kernel
theorem dX1_isOver_0 : decode cX1_isOver 0 = .ok (.aload_n 0, 1) := by decide +kernel
theorem dX1_isOver_1 : decode cX1_isOver 1 = .ok (.getfield 18, 3) := by decide +kernel
theorem dX1_isOver_4 : decode cX1_isOver 4 = .ok (.ifCond .eq 15, 3) := by decide +kernel
theorem dX1_isOver_7 : decode cX1_isOver 7 = .ok (.aload_n 0, 1) := by decide +kernel
theorem dX1_isOver_8 : decode cX1_isOver 8 = .ok (.getfield 18, 3) := by decide +kernel
theorem dX1_isOver_11 : decode cX1_isOver 11 = .ok (.iconst 1, 1) := by decide +kernel
theorem dX1_isOver_12 : decode cX1_isOver 12 = .ok (.if_icmp .eq 7, 3) := by decide +kernel
theorem dX1_isOver_15 : decode cX1_isOver 15 = .ok (.iconst 1, 1) := by decide +kernel
theorem dX1_isOver_16 : decode cX1_isOver 16 = .ok (.goto 4, 3) := by decide +kernel
theorem dX1_isOver_19 : decode cX1_isOver 19 = .ok (.iconst 0, 1) := by decide +kernel
theorem dX1_isOver_20 : decode cX1_isOver 20 = .ok (.ireturn, 1) := by decide +kernel
theorem dX1_copyFrom_0 : decode cX1_copyFrom 0 = .ok (.aload_n 0, 1) := by decide +kernel
theorem dX1_copyFrom_1 : decode cX1_copyFrom 1 = .ok (.aload_n 1, 1) := by decide +kernel
theorem dX1_copyFrom_2 : decode cX1_copyFrom 2 = .ok (.getfield 9, 3) := by decide +kernel
theorem dX1_copyFrom_5 : decode cX1_copyFrom 5 = .ok (.putfield 9, 3) := by decide +kernel
theorem dX1_copyFrom_8 : decode cX1_copyFrom 8 = .ok (.aload_n 0, 1) := by decide +kernel
theorem dX1_copyFrom_9 : decode cX1_copyFrom 9 = .ok (.aload_n 1, 1) := by decide +kernel
theorem dX1_copyFrom_10 : decode cX1_copyFrom 10 = .ok (.getfield 15, 3) := by decide +kernel
theorem dX1_copyFrom_13 : decode cX1_copyFrom 13 = .ok (.putfield 15, 3) := by decide +kernel
theorem dX1_copyFrom_16 : decode cX1_copyFrom 16 = .ok (.aload_n 0, 1) := by decide +kernel
theorem dX1_copyFrom_17 : decode cX1_copyFrom 17 = .ok (.aload_n 1, 1) := by decide +kernel
theorem dX1_copyFrom_18 : decode cX1_copyFrom 18 = .ok (.getfield 18, 3) := by decide +kernel
theorem dX1_copyFrom_21 : decode cX1_copyFrom 21 = .ok (.putfield 18, 3) := by decide +kernel
theorem dX1_copyFrom_24 : decode cX1_copyFrom 24 = .ok (.aload_n 0, 1) := by decide +kernel
theorem dX1_copyFrom_25 : decode cX1_copyFrom 25 = .ok (.aload_n 1, 1) := by decide +kernel
theorem dX1_copyFrom_26 : decode cX1_copyFrom 26 = .ok (.getfield 21, 3) := by decide +kernel
theorem dX1_copyFrom_29 : decode cX1_copyFrom 29 = .ok (.putfield 21, 3) := by decide +kernel
theorem dX1_copyFrom_32 : decode cX1_copyFrom 32 = .ok (.aload_n 0, 1) := by decide +kernel
theorem dX1_copyFrom_33 : decode cX1_copyFrom 33 = .ok (.aload_n 1, 1) := by decide +kernel
theorem dX1_copyFrom_34 : decode cX1_copyFrom 34 = .ok (.getfield 24, 3) := by decide +kernel
theorem dX1_copyFrom_37 : decode cX1_copyFrom 37 = .ok (.putfield 24, 3) := by decide +kernel
theorem dX1_copyFrom_40 : decode cX1_copyFrom 40 = .ok (.aload_n 0, 1) := by decide +kernel
theorem dX1_copyFrom_41 : decode cX1_copyFrom 41 = .ok (.aload_n 1, 1) := by decide +kernel
theorem dX1_copyFrom_42 : decode cX1_copyFrom 42 = .ok (.getfield 27, 3) := by decide +kernel
theorem dX1_copyFrom_45 : decode cX1_copyFrom 45 = .ok (.putfield 27, 3) := by decide +kernel
theorem dX1_copyFrom_48 : decode cX1_copyFrom 48 = .ok (.return_, 1) := by decide +kernel
theorem dX2_init_0 : decode cX2_init 0 = .ok (.aload_n 0, 1) := by decide +kernel
theorem dX2_init_1 : decode cX2_init 1 = .ok (.invokespecial 3, 3) := by decide +kernel
theorem dX2_init_4 : decode cX2_init 4 = .ok (.aload_n 0, 1) := by decide +kernel
theorem dX2_init_5 : decode cX2_init 5 = .ok (.iconst 4, 1) := by decide +kernel
theorem dX2_init_6 : decode cX2_init 6 = .ok (.anewarray 9, 3) := by decide +kernel
theorem dX2_init_9 : decode cX2_init 9 = .ok (.putfield 11, 3) := by decide +kernel
theorem dX2_init_12 : decode cX2_init 12 = .ok (.iconst 0, 1) := by decide +kernel
theorem dX2_init_13 : decode cX2_init 13 = .ok (.istore_n 1, 1) := by decide +kernel
theorem dX2_init_14 : decode cX2_init 14 = .ok (.iload_n 1, 1) := by decide +kernel
theorem dX2_init_15 : decode cX2_init 15 = .ok (.aload_n 0, 1) := by decide +kernel
theorem dX2_init_16 : decode cX2_init 16 = .ok (.getfield 11, 3) := by decide +kernel
theorem dX2_init_19 : decode cX2_init 19 = .ok (.arraylength, 1) := by decide +kernel
theorem dX2_init_20 : decode cX2_init 20 = .ok (.if_icmp .ge 22, 3) := by decide +kernel
theorem dX2_init_23 : decode cX2_init 23 = .ok (.aload_n 0, 1) := by decide +kernel
theorem dX2_init_24 : decode cX2_init 24 = .ok (.getfield 11, 3) := by decide +kernel
theorem dX2_init_27 : decode cX2_init 27 = .ok (.iload_n 1, 1) := by decide +kernel
theorem dX2_init_28 : decode cX2_init 28 = .ok (.new 9, 3) := by decide +kernel
theorem dX2_init_31 : decode cX2_init 31 = .ok (.dup, 1) := by decide +kernel
theorem dX2_init_32 : decode cX2_init 32 = .ok (.invokespecial 17, 3) := by decide +kernel
theorem dX2_init_35 : decode cX2_init 35 = .ok (.aastore, 1) := by decide +kernel
theorem dX2_init_36 : decode cX2_init 36 = .ok (.iinc 1 1, 3) := by decide +kernel
theorem dX2_init_39 : decode cX2_init 39 = .ok (.goto (-25), 3) := by decide +kernel
theorem dX2_init_42 : decode cX2_init 42 = .ok (.return_, 1) := by decide +kernel
theorem dX2_remember_0 : decode cX2_remember 0 = .ok (.aload_n 0, 1) := by decide +kernel
theorem dX2_remember_1 : decode cX2_remember 1 = .ok (.getfield 18, 3) := by decide +kernel
theorem dX2_remember_4 : decode cX2_remember 4 = .ok (.aload_n 0, 1) := by decide +kernel
theorem dX2_remember_5 : decode cX2_remember 5 = .ok (.getfield 11, 3) := by decide +kernel
theorem dX2_remember_8 : decode cX2_remember 8 = .ok (.arraylength, 1) := by decide +kernel
theorem dX2_remember_9 : decode cX2_remember 9 = .ok (.if_icmp .lt 7, 3) := by decide +kernel
theorem dX2_remember_12 : decode cX2_remember 12 = .ok (.aload_n 0, 1) := by decide +kernel
theorem dX2_remember_13 : decode cX2_remember 13 = .ok (.invokevirtual 22, 3) := by decide +kernel
theorem dX2_remember_16 : decode cX2_remember 16 = .ok (.aload_n 0, 1) := by decide +kernel
theorem dX2_remember_17 : decode cX2_remember 17 = .ok (.getfield 18, 3) := by decide +kernel
theorem dX2_remember_20 : decode cX2_remember 20 = .ok (.aload_n 0, 1) := by decide +kernel
theorem dX2_remember_21 : decode cX2_remember 21 = .ok (.getfield 11, 3) := by decide +kernel
theorem dX2_remember_24 : decode cX2_remember 24 = .ok (.arraylength, 1) := by decide +kernel
theorem dX2_remember_25 : decode cX2_remember 25 = .ok (.invokestatic 25, 3) := by decide +kernel
theorem dX2_remember_28 : decode cX2_remember 28 = .ok (.ifCond .eq 15, 3) := by decide +kernel
theorem dX2_remember_31 : decode cX2_remember 31 = .ok (.aload_n 0, 1) := by decide +kernel
theorem dX2_remember_32 : decode cX2_remember 32 = .ok (.getfield 11, 3) := by decide +kernel
theorem dX2_remember_35 : decode cX2_remember 35 = .ok (.aload_n 0, 1) := by decide +kernel
theorem dX2_remember_36 : decode cX2_remember 36 = .ok (.getfield 18, 3) := by decide +kernel
theorem dX2_remember_39 : decode cX2_remember 39 = .ok (.aaload, 1) := by decide +kernel
theorem dX2_remember_40 : decode cX2_remember 40 = .ok (.goto 4, 3) := by decide +kernel
theorem dX2_remember_43 : decode cX2_remember 43 = .ok (.aconst_null, 1) := by decide +kernel
theorem dX2_remember_44 : decode cX2_remember 44 = .ok (.astore_n 2, 1) := by decide +kernel
theorem dX2_remember_45 : decode cX2_remember 45 = .ok (.aload_n 2, 1) := by decide +kernel
theorem dX2_remember_46 : decode cX2_remember 46 = .ok (.ifnull 18, 3) := by decide +kernel
theorem dX2_remember_49 : decode cX2_remember 49 = .ok (.aload_n 2, 1) := by decide +kernel
theorem dX2_remember_50 : decode cX2_remember 50 = .ok (.aload_n 1, 1) := by decide +kernel
theorem dX2_remember_51 : decode cX2_remember 51 = .ok (.invokevirtual 29, 3) := by decide +kernel
theorem dX2_remember_54 : decode cX2_remember 54 = .ok (.aload_n 0, 1) := by decide +kernel
theorem dX2_remember_55 : decode cX2_remember 55 = .ok (.dup, 1) := by decide +kernel
theorem dX2_remember_56 : decode cX2_remember 56 = .ok (.getfield 18, 3) := by decide +kernel
theorem dX2_remember_59 : decode cX2_remember 59 = .ok (.iconst 1, 1) := by decide +kernel
theorem dX2_remember_60 : decode cX2_remember 60 = .ok (.iadd, 1) := by decide +kernel
theorem dX2_remember_61 : decode cX2_remember 61 = .ok (.putfield 18, 3) := by decide +kernel
theorem dX2_remember_64 : decode cX2_remember 64 = .ok (.return_, 1) := by decide +kernel
theorem dX2_dropOldest_0 : decode cX2_dropOldest 0 = .ok (.iconst 0, 1) := by decide +kernel
theorem dX2_dropOldest_1 : decode cX2_dropOldest 1 = .ok (.istore_n 1, 1) := by decide +kernel
theorem dX2_dropOldest_2 : decode cX2_dropOldest 2 = .ok (.iload_n 1, 1) := by decide +kernel
theorem dX2_dropOldest_3 : decode cX2_dropOldest 3 = .ok (.iconst 1, 1) := by decide +kernel
theorem dX2_dropOldest_4 : decode cX2_dropOldest 4 = .ok (.iadd, 1) := by decide +kernel
theorem dX2_dropOldest_5 : decode cX2_dropOldest 5 = .ok (.aload_n 0, 1) := by decide +kernel
theorem dX2_dropOldest_6 : decode cX2_dropOldest 6 = .ok (.getfield 11, 3) := by decide +kernel
theorem dX2_dropOldest_9 : decode cX2_dropOldest 9 = .ok (.arraylength, 1) := by decide +kernel
theorem dX2_dropOldest_10 : decode cX2_dropOldest 10 = .ok (.if_icmp .ge 39, 3) := by decide +kernel
theorem dX2_dropOldest_13 : decode cX2_dropOldest 13 = .ok (.aload_n 0, 1) := by decide +kernel
theorem dX2_dropOldest_14 : decode cX2_dropOldest 14 = .ok (.getfield 11, 3) := by decide +kernel
theorem dX2_dropOldest_17 : decode cX2_dropOldest 17 = .ok (.iload_n 1, 1) := by decide +kernel
theorem dX2_dropOldest_18 : decode cX2_dropOldest 18 = .ok (.aaload, 1) := by decide +kernel
theorem dX2_dropOldest_19 : decode cX2_dropOldest 19 = .ok (.astore_n 2, 1) := by decide +kernel
theorem dX2_dropOldest_20 : decode cX2_dropOldest 20 = .ok (.aload_n 0, 1) := by decide +kernel
theorem dX2_dropOldest_21 : decode cX2_dropOldest 21 = .ok (.getfield 11, 3) := by decide +kernel
theorem dX2_dropOldest_24 : decode cX2_dropOldest 24 = .ok (.iload_n 1, 1) := by decide +kernel
theorem dX2_dropOldest_25 : decode cX2_dropOldest 25 = .ok (.aload_n 0, 1) := by decide +kernel
theorem dX2_dropOldest_26 : decode cX2_dropOldest 26 = .ok (.getfield 11, 3) := by decide +kernel
theorem dX2_dropOldest_29 : decode cX2_dropOldest 29 = .ok (.iload_n 1, 1) := by decide +kernel
theorem dX2_dropOldest_30 : decode cX2_dropOldest 30 = .ok (.iconst 1, 1) := by decide +kernel
theorem dX2_dropOldest_31 : decode cX2_dropOldest 31 = .ok (.iadd, 1) := by decide +kernel
theorem dX2_dropOldest_32 : decode cX2_dropOldest 32 = .ok (.aaload, 1) := by decide +kernel
theorem dX2_dropOldest_33 : decode cX2_dropOldest 33 = .ok (.aastore, 1) := by decide +kernel
theorem dX2_dropOldest_34 : decode cX2_dropOldest 34 = .ok (.aload_n 0, 1) := by decide +kernel
theorem dX2_dropOldest_35 : decode cX2_dropOldest 35 = .ok (.getfield 11, 3) := by decide +kernel
theorem dX2_dropOldest_38 : decode cX2_dropOldest 38 = .ok (.iload_n 1, 1) := by decide +kernel
theorem dX2_dropOldest_39 : decode cX2_dropOldest 39 = .ok (.iconst 1, 1) := by decide +kernel
theorem dX2_dropOldest_40 : decode cX2_dropOldest 40 = .ok (.iadd, 1) := by decide +kernel
theorem dX2_dropOldest_41 : decode cX2_dropOldest 41 = .ok (.aload_n 2, 1) := by decide +kernel
theorem dX2_dropOldest_42 : decode cX2_dropOldest 42 = .ok (.aastore, 1) := by decide +kernel
theorem dX2_dropOldest_43 : decode cX2_dropOldest 43 = .ok (.iinc 1 1, 3) := by decide +kernel
theorem dX2_dropOldest_46 : decode cX2_dropOldest 46 = .ok (.goto (-44), 3) := by decide +kernel
theorem dX2_dropOldest_49 : decode cX2_dropOldest 49 = .ok (.aload_n 0, 1) := by decide +kernel
theorem dX2_dropOldest_50 : decode cX2_dropOldest 50 = .ok (.dup, 1) := by decide +kernel
theorem dX2_dropOldest_51 : decode cX2_dropOldest 51 = .ok (.getfield 18, 3) := by decide +kernel
theorem dX2_dropOldest_54 : decode cX2_dropOldest 54 = .ok (.iconst 1, 1) := by decide +kernel
theorem dX2_dropOldest_55 : decode cX2_dropOldest 55 = .ok (.isub, 1) := by decide +kernel
theorem dX2_dropOldest_56 : decode cX2_dropOldest 56 = .ok (.putfield 18, 3) := by decide +kernel
theorem dX2_dropOldest_59 : decode cX2_dropOldest 59 = .ok (.return_, 1) := by decide +kernel
theorem dX2_takeLatest_0 : decode cX2_takeLatest 0 = .ok (.aload_n 0, 1) := by decide +kernel
theorem dX2_takeLatest_1 : decode cX2_takeLatest 1 = .ok (.getfield 18, 3) := by decide +kernel
theorem dX2_takeLatest_4 : decode cX2_takeLatest 4 = .ok (.iconst 1, 1) := by decide +kernel
theorem dX2_takeLatest_5 : decode cX2_takeLatest 5 = .ok (.isub, 1) := by decide +kernel
theorem dX2_takeLatest_6 : decode cX2_takeLatest 6 = .ok (.aload_n 0, 1) := by decide +kernel
theorem dX2_takeLatest_7 : decode cX2_takeLatest 7 = .ok (.getfield 11, 3) := by decide +kernel
theorem dX2_takeLatest_10 : decode cX2_takeLatest 10 = .ok (.arraylength, 1) := by decide +kernel
theorem dX2_takeLatest_11 : decode cX2_takeLatest 11 = .ok (.invokestatic 25, 3) := by decide +kernel
theorem dX2_takeLatest_14 : decode cX2_takeLatest 14 = .ok (.ifCond .eq 17, 3) := by decide +kernel
theorem dX2_takeLatest_17 : decode cX2_takeLatest 17 = .ok (.aload_n 0, 1) := by decide +kernel
theorem dX2_takeLatest_18 : decode cX2_takeLatest 18 = .ok (.getfield 11, 3) := by decide +kernel
theorem dX2_takeLatest_21 : decode cX2_takeLatest 21 = .ok (.aload_n 0, 1) := by decide +kernel
theorem dX2_takeLatest_22 : decode cX2_takeLatest 22 = .ok (.getfield 18, 3) := by decide +kernel
theorem dX2_takeLatest_25 : decode cX2_takeLatest 25 = .ok (.iconst 1, 1) := by decide +kernel
theorem dX2_takeLatest_26 : decode cX2_takeLatest 26 = .ok (.isub, 1) := by decide +kernel
theorem dX2_takeLatest_27 : decode cX2_takeLatest 27 = .ok (.aaload, 1) := by decide +kernel
theorem dX2_takeLatest_28 : decode cX2_takeLatest 28 = .ok (.goto 4, 3) := by decide +kernel
theorem dX2_takeLatest_31 : decode cX2_takeLatest 31 = .ok (.aconst_null, 1) := by decide +kernel
theorem dX2_takeLatest_32 : decode cX2_takeLatest 32 = .ok (.astore_n 2, 1) := by decide +kernel
theorem dX2_takeLatest_33 : decode cX2_takeLatest 33 = .ok (.aload_n 2, 1) := by decide +kernel
theorem dX2_takeLatest_34 : decode cX2_takeLatest 34 = .ok (.ifnull 18, 3) := by decide +kernel
theorem dX2_takeLatest_37 : decode cX2_takeLatest 37 = .ok (.aload_n 1, 1) := by decide +kernel
theorem dX2_takeLatest_38 : decode cX2_takeLatest 38 = .ok (.aload_n 2, 1) := by decide +kernel
theorem dX2_takeLatest_39 : decode cX2_takeLatest 39 = .ok (.invokevirtual 29, 3) := by decide +kernel
theorem dX2_takeLatest_42 : decode cX2_takeLatest 42 = .ok (.aload_n 0, 1) := by decide +kernel
theorem dX2_takeLatest_43 : decode cX2_takeLatest 43 = .ok (.dup, 1) := by decide +kernel
theorem dX2_takeLatest_44 : decode cX2_takeLatest 44 = .ok (.getfield 18, 3) := by decide +kernel
theorem dX2_takeLatest_47 : decode cX2_takeLatest 47 = .ok (.iconst 1, 1) := by decide +kernel
theorem dX2_takeLatest_48 : decode cX2_takeLatest 48 = .ok (.isub, 1) := by decide +kernel
theorem dX2_takeLatest_49 : decode cX2_takeLatest 49 = .ok (.putfield 18, 3) := by decide +kernel
theorem dX2_takeLatest_52 : decode cX2_takeLatest 52 = .ok (.return_, 1) := by decide +kernel
theorem dX3_init_0 : decode cX3_init 0 = .ok (.aload_n 0, 1) := by decide +kernel
theorem dX3_init_1 : decode cX3_init 1 = .ok (.invokespecial 3, 3) := by decide +kernel
theorem dX3_init_4 : decode cX3_init 4 = .ok (.aload_n 0, 1) := by decide +kernel
theorem dX3_init_5 : decode cX3_init 5 = .ok (.bipush 48, 2) := by decide +kernel
theorem dX3_init_7 : decode cX3_init 7 = .ok (.newarray .int, 2) := by decide +kernel
theorem dX3_init_9 : decode cX3_init 9 = .ok (.putfield 11, 3) := by decide +kernel
theorem dX3_init_12 : decode cX3_init 12 = .ok (.return_, 1) := by decide +kernel
theorem dX3_add_0 : decode cX3_add 0 = .ok (.aload_n 0, 1) := by decide +kernel
theorem dX3_add_1 : decode cX3_add 1 = .ok (.aload_n 0, 1) := by decide +kernel
theorem dX3_add_2 : decode cX3_add 2 = .ok (.getfield 15, 3) := by decide +kernel
theorem dX3_add_5 : decode cX3_add 5 = .ok (.iconst 1, 1) := by decide +kernel
theorem dX3_add_6 : decode cX3_add 6 = .ok (.iadd, 1) := by decide +kernel
theorem dX3_add_7 : decode cX3_add 7 = .ok (.bipush 12, 2) := by decide +kernel
theorem dX3_add_9 : decode cX3_add 9 = .ok (.irem, 1) := by decide +kernel
theorem dX3_add_10 : decode cX3_add 10 = .ok (.putfield 15, 3) := by decide +kernel
theorem dX3_add_13 : decode cX3_add 13 = .ok (.aload_n 0, 1) := by decide +kernel
theorem dX3_add_14 : decode cX3_add 14 = .ok (.aload_n 0, 1) := by decide +kernel
theorem dX3_add_15 : decode cX3_add 15 = .ok (.getfield 19, 3) := by decide +kernel
theorem dX3_add_18 : decode cX3_add 18 = .ok (.iconst 1, 1) := by decide +kernel
theorem dX3_add_19 : decode cX3_add 19 = .ok (.iadd, 1) := by decide +kernel
theorem dX3_add_20 : decode cX3_add 20 = .ok (.bipush 12, 2) := by decide +kernel
theorem dX3_add_22 : decode cX3_add 22 = .ok (.invokestatic 22, 3) := by decide +kernel
theorem dX3_add_25 : decode cX3_add 25 = .ok (.putfield 19, 3) := by decide +kernel
theorem dX3_add_28 : decode cX3_add 28 = .ok (.aload_n 0, 1) := by decide +kernel
theorem dX3_add_29 : decode cX3_add 29 = .ok (.getfield 15, 3) := by decide +kernel
theorem dX3_add_32 : decode cX3_add 32 = .ok (.iconst 4, 1) := by decide +kernel
theorem dX3_add_33 : decode cX3_add 33 = .ok (.imul, 1) := by decide +kernel
theorem dX3_add_34 : decode cX3_add 34 = .ok (.istore 5, 2) := by decide +kernel
theorem dX3_add_36 : decode cX3_add 36 = .ok (.iload 5, 2) := by decide +kernel
theorem dX3_add_38 : decode cX3_add 38 = .ok (.aload_n 0, 1) := by decide +kernel
theorem dX3_add_39 : decode cX3_add 39 = .ok (.getfield 11, 3) := by decide +kernel
theorem dX3_add_42 : decode cX3_add 42 = .ok (.arraylength, 1) := by decide +kernel
theorem dX3_add_43 : decode cX3_add 43 = .ok (.iconst 4, 1) := by decide +kernel
theorem dX3_add_44 : decode cX3_add 44 = .ok (.isub, 1) := by decide +kernel
theorem dX3_add_45 : decode cX3_add 45 = .ok (.iconst 1, 1) := by decide +kernel
theorem dX3_add_46 : decode cX3_add 46 = .ok (.iadd, 1) := by decide +kernel
theorem dX3_add_47 : decode cX3_add 47 = .ok (.invokestatic 28, 3) := by decide +kernel
theorem dX3_add_50 : decode cX3_add 50 = .ok (.ifCond .eq 42, 3) := by decide +kernel
theorem dX3_add_53 : decode cX3_add 53 = .ok (.aload_n 0, 1) := by decide +kernel
theorem dX3_add_54 : decode cX3_add 54 = .ok (.getfield 11, 3) := by decide +kernel
theorem dX3_add_57 : decode cX3_add 57 = .ok (.iload 5, 2) := by decide +kernel
theorem dX3_add_59 : decode cX3_add 59 = .ok (.iload_n 1, 1) := by decide +kernel
theorem dX3_add_60 : decode cX3_add 60 = .ok (.iastore, 1) := by decide +kernel
theorem dX3_add_61 : decode cX3_add 61 = .ok (.aload_n 0, 1) := by decide +kernel
theorem dX3_add_62 : decode cX3_add 62 = .ok (.getfield 11, 3) := by decide +kernel
theorem dX3_add_65 : decode cX3_add 65 = .ok (.iload 5, 2) := by decide +kernel
theorem dX3_add_67 : decode cX3_add 67 = .ok (.iconst 1, 1) := by decide +kernel
theorem dX3_add_68 : decode cX3_add 68 = .ok (.iadd, 1) := by decide +kernel
theorem dX3_add_69 : decode cX3_add 69 = .ok (.iload_n 2, 1) := by decide +kernel
theorem dX3_add_70 : decode cX3_add 70 = .ok (.iastore, 1) := by decide +kernel
theorem dX3_add_71 : decode cX3_add 71 = .ok (.aload_n 0, 1) := by decide +kernel
theorem dX3_add_72 : decode cX3_add 72 = .ok (.getfield 11, 3) := by decide +kernel
theorem dX3_add_75 : decode cX3_add 75 = .ok (.iload 5, 2) := by decide +kernel
theorem dX3_add_77 : decode cX3_add 77 = .ok (.iconst 2, 1) := by decide +kernel
theorem dX3_add_78 : decode cX3_add 78 = .ok (.iadd, 1) := by decide +kernel
theorem dX3_add_79 : decode cX3_add 79 = .ok (.iload_n 3, 1) := by decide +kernel
theorem dX3_add_80 : decode cX3_add 80 = .ok (.iastore, 1) := by decide +kernel
theorem dX3_add_81 : decode cX3_add 81 = .ok (.aload_n 0, 1) := by decide +kernel
theorem dX3_add_82 : decode cX3_add 82 = .ok (.getfield 11, 3) := by decide +kernel
theorem dX3_add_85 : decode cX3_add 85 = .ok (.iload 5, 2) := by decide +kernel
theorem dX3_add_87 : decode cX3_add 87 = .ok (.iconst 3, 1) := by decide +kernel
theorem dX3_add_88 : decode cX3_add 88 = .ok (.iadd, 1) := by decide +kernel
theorem dX3_add_89 : decode cX3_add 89 = .ok (.iload 4, 2) := by decide +kernel
theorem dX3_add_91 : decode cX3_add 91 = .ok (.iastore, 1) := by decide +kernel
theorem dX3_add_92 : decode cX3_add 92 = .ok (.return_, 1) := by decide +kernel
theorem dX3_part_0 : decode cX3_part 0 = .ok (.iload_n 1, 1) := by decide +kernel
theorem dX3_part_1 : decode cX3_part 1 = .ok (.aload_n 0, 1) := by decide +kernel
theorem dX3_part_2 : decode cX3_part 2 = .ok (.getfield 19, 3) := by decide +kernel
theorem dX3_part_5 : decode cX3_part 5 = .ok (.invokestatic 28, 3) := by decide +kernel
theorem dX3_part_8 : decode cX3_part 8 = .ok (.ifCond .ne 6, 3) := by decide +kernel
theorem dX3_part_11 : decode cX3_part 11 = .ok (.bipush (-5), 2) := by decide +kernel
theorem dX3_part_13 : decode cX3_part 13 = .ok (.ireturn, 1) := by decide +kernel
theorem dX3_part_14 : decode cX3_part 14 = .ok (.aload_n 0, 1) := by decide +kernel
theorem dX3_part_15 : decode cX3_part 15 = .ok (.getfield 15, 3) := by decide +kernel
theorem dX3_part_18 : decode cX3_part 18 = .ok (.iload_n 1, 1) := by decide +kernel
theorem dX3_part_19 : decode cX3_part 19 = .ok (.isub, 1) := by decide +kernel
theorem dX3_part_20 : decode cX3_part 20 = .ok (.bipush 12, 2) := by decide +kernel
theorem dX3_part_22 : decode cX3_part 22 = .ok (.iadd, 1) := by decide +kernel
theorem dX3_part_23 : decode cX3_part 23 = .ok (.bipush 12, 2) := by decide +kernel
theorem dX3_part_25 : decode cX3_part 25 = .ok (.irem, 1) := by decide +kernel
theorem dX3_part_26 : decode cX3_part 26 = .ok (.iconst 4, 1) := by decide +kernel
theorem dX3_part_27 : decode cX3_part 27 = .ok (.imul, 1) := by decide +kernel
theorem dX3_part_28 : decode cX3_part 28 = .ok (.iload_n 2, 1) := by decide +kernel
theorem dX3_part_29 : decode cX3_part 29 = .ok (.iadd, 1) := by decide +kernel
theorem dX3_part_30 : decode cX3_part 30 = .ok (.istore_n 3, 1) := by decide +kernel
theorem dX3_part_31 : decode cX3_part 31 = .ok (.iload_n 3, 1) := by decide +kernel
theorem dX3_part_32 : decode cX3_part 32 = .ok (.aload_n 0, 1) := by decide +kernel
theorem dX3_part_33 : decode cX3_part 33 = .ok (.getfield 11, 3) := by decide +kernel
theorem dX3_part_36 : decode cX3_part 36 = .ok (.arraylength, 1) := by decide +kernel
theorem dX3_part_37 : decode cX3_part 37 = .ok (.invokestatic 28, 3) := by decide +kernel
theorem dX3_part_40 : decode cX3_part 40 = .ok (.ifCond .eq 12, 3) := by decide +kernel
theorem dX3_part_43 : decode cX3_part 43 = .ok (.aload_n 0, 1) := by decide +kernel
theorem dX3_part_44 : decode cX3_part 44 = .ok (.getfield 11, 3) := by decide +kernel
theorem dX3_part_47 : decode cX3_part 47 = .ok (.iload_n 3, 1) := by decide +kernel
theorem dX3_part_48 : decode cX3_part 48 = .ok (.iaload, 1) := by decide +kernel
theorem dX3_part_49 : decode cX3_part 49 = .ok (.goto 5, 3) := by decide +kernel
theorem dX3_part_52 : decode cX3_part 52 = .ok (.bipush (-5), 2) := by decide +kernel
theorem dX3_part_54 : decode cX3_part 54 = .ok (.ireturn, 1) := by decide +kernel
theorem dX3_copyFrom_0 : decode cX3_copyFrom 0 = .ok (.aload_n 1, 1) := by decide +kernel
theorem dX3_copyFrom_1 : decode cX3_copyFrom 1 = .ok (.getfield 11, 3) := by decide +kernel
theorem dX3_copyFrom_4 : decode cX3_copyFrom 4 = .ok (.aload_n 0, 1) := by decide +kernel
theorem dX3_copyFrom_5 : decode cX3_copyFrom 5 = .ok (.getfield 11, 3) := by decide +kernel
theorem dX3_copyFrom_8 : decode cX3_copyFrom 8 = .ok (.invokestatic 32, 3) := by decide +kernel
theorem dX3_copyFrom_11 : decode cX3_copyFrom 11 = .ok (.aload_n 0, 1) := by decide +kernel
theorem dX3_copyFrom_12 : decode cX3_copyFrom 12 = .ok (.aload_n 1, 1) := by decide +kernel
theorem dX3_copyFrom_13 : decode cX3_copyFrom 13 = .ok (.getfield 15, 3) := by decide +kernel
theorem dX3_copyFrom_16 : decode cX3_copyFrom 16 = .ok (.putfield 15, 3) := by decide +kernel
theorem dX3_copyFrom_19 : decode cX3_copyFrom 19 = .ok (.aload_n 0, 1) := by decide +kernel
theorem dX3_copyFrom_20 : decode cX3_copyFrom 20 = .ok (.aload_n 1, 1) := by decide +kernel
theorem dX3_copyFrom_21 : decode cX3_copyFrom 21 = .ok (.getfield 19, 3) := by decide +kernel
theorem dX3_copyFrom_24 : decode cX3_copyFrom 24 = .ok (.putfield 19, 3) := by decide +kernel
theorem dX3_copyFrom_27 : decode cX3_copyFrom 27 = .ok (.return_, 1) := by decide +kernel
theorem dX4_init_0 : decode cX4_init 0 = .ok (.aload_n 0, 1) := by decide +kernel
theorem dX4_init_1 : decode cX4_init 1 = .ok (.invokespecial 3, 3) := by decide +kernel
theorem dX4_init_4 : decode cX4_init 4 = .ok (.return_, 1) := by decide +kernel
theorem dX4_addShare_0 : decode cX4_addShare 0 = .ok (.aload_n 0, 1) := by decide +kernel
theorem dX4_addShare_1 : decode cX4_addShare 1 = .ok (.getfield 9, 3) := by decide +kernel
theorem dX4_addShare_4 : decode cX4_addShare 4 = .ok (.i2l, 1) := by decide +kernel
theorem dX4_addShare_5 : decode cX4_addShare 5 = .ok (.iload_n 1, 1) := by decide +kernel
theorem dX4_addShare_6 : decode cX4_addShare 6 = .ok (.i2l, 1) := by decide +kernel
theorem dX4_addShare_7 : decode cX4_addShare 7 = .ok (.ladd, 1) := by decide +kernel
theorem dX4_addShare_8 : decode cX4_addShare 8 = .ok (.ldc2_w 15, 3) := by decide +kernel
theorem dX4_addShare_11 : decode cX4_addShare 11 = .ok (.lcmp, 1) := by decide +kernel
theorem dX4_addShare_12 : decode cX4_addShare 12 = .ok (.ifCond .le 16, 3) := by decide +kernel
theorem dX4_addShare_15 : decode cX4_addShare 15 = .ok (.aload_n 0, 1) := by decide +kernel
theorem dX4_addShare_16 : decode cX4_addShare 16 = .ok (.dup, 1) := by decide +kernel
theorem dX4_addShare_17 : decode cX4_addShare 17 = .ok (.getfield 17, 3) := by decide +kernel
theorem dX4_addShare_20 : decode cX4_addShare 20 = .ok (.iconst 1, 1) := by decide +kernel
theorem dX4_addShare_21 : decode cX4_addShare 21 = .ok (.iadd, 1) := by decide +kernel
theorem dX4_addShare_22 : decode cX4_addShare 22 = .ok (.putfield 17, 3) := by decide +kernel
theorem dX4_addShare_25 : decode cX4_addShare 25 = .ok (.goto 13, 3) := by decide +kernel
theorem dX4_addShare_28 : decode cX4_addShare 28 = .ok (.aload_n 0, 1) := by decide +kernel
theorem dX4_addShare_29 : decode cX4_addShare 29 = .ok (.dup, 1) := by decide +kernel
theorem dX4_addShare_30 : decode cX4_addShare 30 = .ok (.getfield 9, 3) := by decide +kernel
theorem dX4_addShare_33 : decode cX4_addShare 33 = .ok (.iload_n 1, 1) := by decide +kernel
theorem dX4_addShare_34 : decode cX4_addShare 34 = .ok (.iadd, 1) := by decide +kernel
theorem dX4_addShare_35 : decode cX4_addShare 35 = .ok (.putfield 9, 3) := by decide +kernel
theorem dX4_addShare_38 : decode cX4_addShare 38 = .ok (.return_, 1) := by decide +kernel
theorem dX5_init_0 : decode cX5_init 0 = .ok (.aload_n 0, 1) := by decide +kernel
theorem dX5_init_1 : decode cX5_init 1 = .ok (.invokespecial 3, 3) := by decide +kernel
theorem dX5_init_4 : decode cX5_init 4 = .ok (.aload_n 0, 1) := by decide +kernel
theorem dX5_init_5 : decode cX5_init 5 = .ok (.iconst 3, 1) := by decide +kernel
theorem dX5_init_6 : decode cX5_init 6 = .ok (.putfield 9, 3) := by decide +kernel
theorem dX5_init_9 : decode cX5_init 9 = .ok (.aload_n 0, 1) := by decide +kernel
theorem dX5_init_10 : decode cX5_init 10 = .ok (.new 15, 3) := by decide +kernel
theorem dX5_init_13 : decode cX5_init 13 = .ok (.dup, 1) := by decide +kernel
theorem dX5_init_14 : decode cX5_init 14 = .ok (.invokespecial 17, 3) := by decide +kernel
theorem dX5_init_17 : decode cX5_init 17 = .ok (.putfield 18, 3) := by decide +kernel
theorem dX5_init_20 : decode cX5_init 20 = .ok (.aload_n 0, 1) := by decide +kernel
theorem dX5_init_21 : decode cX5_init 21 = .ok (.bipush 20, 2) := by decide +kernel
theorem dX5_init_23 : decode cX5_init 23 = .ok (.anewarray 22, 3) := by decide +kernel
theorem dX5_init_26 : decode cX5_init 26 = .ok (.putfield 24, 3) := by decide +kernel
theorem dX5_init_29 : decode cX5_init 29 = .ok (.aload_n 0, 1) := by decide +kernel
theorem dX5_init_30 : decode cX5_init 30 = .ok (.bipush 8, 2) := by decide +kernel
theorem dX5_init_32 : decode cX5_init 32 = .ok (.anewarray 28, 3) := by decide +kernel
theorem dX5_init_35 : decode cX5_init 35 = .ok (.putfield 30, 3) := by decide +kernel
theorem dX5_init_38 : decode cX5_init 38 = .ok (.aload_n 0, 1) := by decide +kernel
theorem dX5_init_39 : decode cX5_init 39 = .ok (.sipush 160, 3) := by decide +kernel
theorem dX5_init_42 : decode cX5_init 42 = .ok (.anewarray 34, 3) := by decide +kernel
theorem dX5_init_45 : decode cX5_init 45 = .ok (.putfield 36, 3) := by decide +kernel
theorem dX5_init_48 : decode cX5_init 48 = .ok (.aload_n 0, 1) := by decide +kernel
theorem dX5_init_49 : decode cX5_init 49 = .ok (.bipush 10, 2) := by decide +kernel
theorem dX5_init_51 : decode cX5_init 51 = .ok (.anewarray 40, 3) := by decide +kernel
theorem dX5_init_54 : decode cX5_init 54 = .ok (.putfield 42, 3) := by decide +kernel
theorem dX5_init_57 : decode cX5_init 57 = .ok (.iconst 0, 1) := by decide +kernel
theorem dX5_init_58 : decode cX5_init 58 = .ok (.istore_n 1, 1) := by decide +kernel
theorem dX5_init_59 : decode cX5_init 59 = .ok (.iload_n 1, 1) := by decide +kernel
theorem dX5_init_60 : decode cX5_init 60 = .ok (.aload_n 0, 1) := by decide +kernel
theorem dX5_init_61 : decode cX5_init 61 = .ok (.getfield 24, 3) := by decide +kernel
theorem dX5_init_64 : decode cX5_init 64 = .ok (.arraylength, 1) := by decide +kernel
theorem dX5_init_65 : decode cX5_init 65 = .ok (.if_icmp .ge 22, 3) := by decide +kernel
theorem dX5_init_68 : decode cX5_init 68 = .ok (.aload_n 0, 1) := by decide +kernel
theorem dX5_init_69 : decode cX5_init 69 = .ok (.getfield 24, 3) := by decide +kernel
theorem dX5_init_72 : decode cX5_init 72 = .ok (.iload_n 1, 1) := by decide +kernel
theorem dX5_init_73 : decode cX5_init 73 = .ok (.new 22, 3) := by decide +kernel
theorem dX5_init_76 : decode cX5_init 76 = .ok (.dup, 1) := by decide +kernel
theorem dX5_init_77 : decode cX5_init 77 = .ok (.invokespecial 46, 3) := by decide +kernel
theorem dX5_init_80 : decode cX5_init 80 = .ok (.aastore, 1) := by decide +kernel
theorem dX5_init_81 : decode cX5_init 81 = .ok (.iinc 1 1, 3) := by decide +kernel
theorem dX5_init_84 : decode cX5_init 84 = .ok (.goto (-25), 3) := by decide +kernel
theorem dX5_init_87 : decode cX5_init 87 = .ok (.iconst 0, 1) := by decide +kernel
theorem dX5_init_88 : decode cX5_init 88 = .ok (.istore_n 1, 1) := by decide +kernel
theorem dX5_init_89 : decode cX5_init 89 = .ok (.iload_n 1, 1) := by decide +kernel
theorem dX5_init_90 : decode cX5_init 90 = .ok (.aload_n 0, 1) := by decide +kernel
theorem dX5_init_91 : decode cX5_init 91 = .ok (.getfield 30, 3) := by decide +kernel
theorem dX5_init_94 : decode cX5_init 94 = .ok (.arraylength, 1) := by decide +kernel
theorem dX5_init_95 : decode cX5_init 95 = .ok (.if_icmp .ge 22, 3) := by decide +kernel
theorem dX5_init_98 : decode cX5_init 98 = .ok (.aload_n 0, 1) := by decide +kernel
theorem dX5_init_99 : decode cX5_init 99 = .ok (.getfield 30, 3) := by decide +kernel
theorem dX5_init_102 : decode cX5_init 102 = .ok (.iload_n 1, 1) := by decide +kernel
theorem dX5_init_103 : decode cX5_init 103 = .ok (.new 28, 3) := by decide +kernel
theorem dX5_init_106 : decode cX5_init 106 = .ok (.dup, 1) := by decide +kernel
theorem dX5_init_107 : decode cX5_init 107 = .ok (.invokespecial 47, 3) := by decide +kernel
theorem dX5_init_110 : decode cX5_init 110 = .ok (.aastore, 1) := by decide +kernel
theorem dX5_init_111 : decode cX5_init 111 = .ok (.iinc 1 1, 3) := by decide +kernel
theorem dX5_init_114 : decode cX5_init 114 = .ok (.goto (-25), 3) := by decide +kernel
theorem dX5_init_117 : decode cX5_init 117 = .ok (.iconst 0, 1) := by decide +kernel
theorem dX5_init_118 : decode cX5_init 118 = .ok (.istore_n 1, 1) := by decide +kernel
theorem dX5_init_119 : decode cX5_init 119 = .ok (.iload_n 1, 1) := by decide +kernel
theorem dX5_init_120 : decode cX5_init 120 = .ok (.aload_n 0, 1) := by decide +kernel
theorem dX5_init_121 : decode cX5_init 121 = .ok (.getfield 36, 3) := by decide +kernel
theorem dX5_init_124 : decode cX5_init 124 = .ok (.arraylength, 1) := by decide +kernel
theorem dX5_init_125 : decode cX5_init 125 = .ok (.if_icmp .ge 22, 3) := by decide +kernel
theorem dX5_init_128 : decode cX5_init 128 = .ok (.aload_n 0, 1) := by decide +kernel
theorem dX5_init_129 : decode cX5_init 129 = .ok (.getfield 36, 3) := by decide +kernel
theorem dX5_init_132 : decode cX5_init 132 = .ok (.iload_n 1, 1) := by decide +kernel
theorem dX5_init_133 : decode cX5_init 133 = .ok (.new 34, 3) := by decide +kernel
theorem dX5_init_136 : decode cX5_init 136 = .ok (.dup, 1) := by decide +kernel
theorem dX5_init_137 : decode cX5_init 137 = .ok (.invokespecial 48, 3) := by decide +kernel
theorem dX5_init_140 : decode cX5_init 140 = .ok (.aastore, 1) := by decide +kernel
theorem dX5_init_141 : decode cX5_init 141 = .ok (.iinc 1 1, 3) := by decide +kernel
theorem dX5_init_144 : decode cX5_init 144 = .ok (.goto (-25), 3) := by decide +kernel
theorem dX5_init_147 : decode cX5_init 147 = .ok (.iconst 0, 1) := by decide +kernel
theorem dX5_init_148 : decode cX5_init 148 = .ok (.istore_n 1, 1) := by decide +kernel
theorem dX5_init_149 : decode cX5_init 149 = .ok (.iload_n 1, 1) := by decide +kernel
theorem dX5_init_150 : decode cX5_init 150 = .ok (.aload_n 0, 1) := by decide +kernel
theorem dX5_init_151 : decode cX5_init 151 = .ok (.getfield 42, 3) := by decide +kernel
theorem dX5_init_154 : decode cX5_init 154 = .ok (.arraylength, 1) := by decide +kernel
theorem dX5_init_155 : decode cX5_init 155 = .ok (.if_icmp .ge 22, 3) := by decide +kernel
theorem dX5_init_158 : decode cX5_init 158 = .ok (.aload_n 0, 1) := by decide +kernel
theorem dX5_init_159 : decode cX5_init 159 = .ok (.getfield 42, 3) := by decide +kernel
theorem dX5_init_162 : decode cX5_init 162 = .ok (.iload_n 1, 1) := by decide +kernel
theorem dX5_init_163 : decode cX5_init 163 = .ok (.new 40, 3) := by decide +kernel
theorem dX5_init_166 : decode cX5_init 166 = .ok (.dup, 1) := by decide +kernel
theorem dX5_init_167 : decode cX5_init 167 = .ok (.invokespecial 49, 3) := by decide +kernel
theorem dX5_init_170 : decode cX5_init 170 = .ok (.aastore, 1) := by decide +kernel
theorem dX5_init_171 : decode cX5_init 171 = .ok (.iinc 1 1, 3) := by decide +kernel
theorem dX5_init_174 : decode cX5_init 174 = .ok (.goto (-25), 3) := by decide +kernel
theorem dX5_init_177 : decode cX5_init 177 = .ok (.return_, 1) := by decide +kernel
theorem dX5_copyFrom_0 : decode cX5_copyFrom 0 = .ok (.aload_n 0, 1) := by decide +kernel
theorem dX5_copyFrom_1 : decode cX5_copyFrom 1 = .ok (.aload_n 1, 1) := by decide +kernel
theorem dX5_copyFrom_2 : decode cX5_copyFrom 2 = .ok (.getfield 50, 3) := by decide +kernel
theorem dX5_copyFrom_5 : decode cX5_copyFrom 5 = .ok (.putfield 50, 3) := by decide +kernel
theorem dX5_copyFrom_8 : decode cX5_copyFrom 8 = .ok (.aload_n 0, 1) := by decide +kernel
theorem dX5_copyFrom_9 : decode cX5_copyFrom 9 = .ok (.aload_n 1, 1) := by decide +kernel
theorem dX5_copyFrom_10 : decode cX5_copyFrom 10 = .ok (.getfield 9, 3) := by decide +kernel
theorem dX5_copyFrom_13 : decode cX5_copyFrom 13 = .ok (.putfield 9, 3) := by decide +kernel
theorem dX5_copyFrom_16 : decode cX5_copyFrom 16 = .ok (.aload_n 0, 1) := by decide +kernel
theorem dX5_copyFrom_17 : decode cX5_copyFrom 17 = .ok (.aload_n 1, 1) := by decide +kernel
theorem dX5_copyFrom_18 : decode cX5_copyFrom 18 = .ok (.getfield 53, 3) := by decide +kernel
theorem dX5_copyFrom_21 : decode cX5_copyFrom 21 = .ok (.putfield 53, 3) := by decide +kernel
theorem dX5_copyFrom_24 : decode cX5_copyFrom 24 = .ok (.aload_n 0, 1) := by decide +kernel
theorem dX5_copyFrom_25 : decode cX5_copyFrom 25 = .ok (.getfield 18, 3) := by decide +kernel
theorem dX5_copyFrom_28 : decode cX5_copyFrom 28 = .ok (.aload_n 1, 1) := by decide +kernel
theorem dX5_copyFrom_29 : decode cX5_copyFrom 29 = .ok (.getfield 18, 3) := by decide +kernel
theorem dX5_copyFrom_32 : decode cX5_copyFrom 32 = .ok (.invokevirtual 56, 3) := by decide +kernel
theorem dX5_copyFrom_35 : decode cX5_copyFrom 35 = .ok (.aload_n 0, 1) := by decide +kernel
theorem dX5_copyFrom_36 : decode cX5_copyFrom 36 = .ok (.aload_n 1, 1) := by decide +kernel
theorem dX5_copyFrom_37 : decode cX5_copyFrom 37 = .ok (.invokevirtual 60, 3) := by decide +kernel
theorem dX5_copyFrom_40 : decode cX5_copyFrom 40 = .ok (.aload_n 0, 1) := by decide +kernel
theorem dX5_copyFrom_41 : decode cX5_copyFrom 41 = .ok (.aload_n 1, 1) := by decide +kernel
theorem dX5_copyFrom_42 : decode cX5_copyFrom 42 = .ok (.invokevirtual 64, 3) := by decide +kernel
theorem dX5_copyFrom_45 : decode cX5_copyFrom 45 = .ok (.aload_n 0, 1) := by decide +kernel
theorem dX5_copyFrom_46 : decode cX5_copyFrom 46 = .ok (.aload_n 1, 1) := by decide +kernel
theorem dX5_copyFrom_47 : decode cX5_copyFrom 47 = .ok (.invokevirtual 67, 3) := by decide +kernel
theorem dX5_copyFrom_50 : decode cX5_copyFrom 50 = .ok (.aload_n 0, 1) := by decide +kernel
theorem dX5_copyFrom_51 : decode cX5_copyFrom 51 = .ok (.aload_n 1, 1) := by decide +kernel
theorem dX5_copyFrom_52 : decode cX5_copyFrom 52 = .ok (.invokevirtual 70, 3) := by decide +kernel
theorem dX5_copyFrom_55 : decode cX5_copyFrom 55 = .ok (.return_, 1) := by decide +kernel
theorem dX5_copyStories_0 : decode cX5_copyStories 0 = .ok (.aload_n 0, 1) := by decide +kernel
theorem dX5_copyStories_1 : decode cX5_copyStories 1 = .ok (.aload_n 1, 1) := by decide +kernel
theorem dX5_copyStories_2 : decode cX5_copyStories 2 = .ok (.getfield 73, 3) := by decide +kernel
theorem dX5_copyStories_5 : decode cX5_copyStories 5 = .ok (.putfield 73, 3) := by decide +kernel
theorem dX5_copyStories_8 : decode cX5_copyStories 8 = .ok (.iconst 0, 1) := by decide +kernel
theorem dX5_copyStories_9 : decode cX5_copyStories 9 = .ok (.istore_n 2, 1) := by decide +kernel
theorem dX5_copyStories_10 : decode cX5_copyStories 10 = .ok (.iload_n 2, 1) := by decide +kernel
theorem dX5_copyStories_11 : decode cX5_copyStories 11 = .ok (.aload_n 0, 1) := by decide +kernel
theorem dX5_copyStories_12 : decode cX5_copyStories 12 = .ok (.getfield 73, 3) := by decide +kernel
theorem dX5_copyStories_15 : decode cX5_copyStories 15 = .ok (.if_icmp .ge 37, 3) := by decide +kernel
theorem dX5_copyStories_18 : decode cX5_copyStories 18 = .ok (.aload_n 0, 1) := by decide +kernel
theorem dX5_copyStories_19 : decode cX5_copyStories 19 = .ok (.iload_n 2, 1) := by decide +kernel
theorem dX5_copyStories_20 : decode cX5_copyStories 20 = .ok (.invokevirtual 76, 3) := by decide +kernel
theorem dX5_copyStories_23 : decode cX5_copyStories 23 = .ok (.astore_n 3, 1) := by decide +kernel
theorem dX5_copyStories_24 : decode cX5_copyStories 24 = .ok (.aload_n 1, 1) := by decide +kernel
theorem dX5_copyStories_25 : decode cX5_copyStories 25 = .ok (.iload_n 2, 1) := by decide +kernel
theorem dX5_copyStories_26 : decode cX5_copyStories 26 = .ok (.invokevirtual 76, 3) := by decide +kernel
theorem dX5_copyStories_29 : decode cX5_copyStories 29 = .ok (.astore 4, 2) := by decide +kernel
theorem dX5_copyStories_31 : decode cX5_copyStories 31 = .ok (.aload_n 3, 1) := by decide +kernel
theorem dX5_copyStories_32 : decode cX5_copyStories 32 = .ok (.ifnull 14, 3) := by decide +kernel
theorem dX5_copyStories_35 : decode cX5_copyStories 35 = .ok (.aload 4, 2) := by decide +kernel
theorem dX5_copyStories_37 : decode cX5_copyStories 37 = .ok (.ifnull 9, 3) := by decide +kernel
theorem dX5_copyStories_40 : decode cX5_copyStories 40 = .ok (.aload_n 3, 1) := by decide +kernel
theorem dX5_copyStories_41 : decode cX5_copyStories 41 = .ok (.aload 4, 2) := by decide +kernel
theorem dX5_copyStories_43 : decode cX5_copyStories 43 = .ok (.invokevirtual 80, 3) := by decide +kernel
theorem dX5_copyStories_46 : decode cX5_copyStories 46 = .ok (.iinc 2 1, 3) := by decide +kernel
theorem dX5_copyStories_49 : decode cX5_copyStories 49 = .ok (.goto (-39), 3) := by decide +kernel
theorem dX5_copyStories_52 : decode cX5_copyStories 52 = .ok (.return_, 1) := by decide +kernel
theorem dX5_copyClients_0 : decode cX5_copyClients 0 = .ok (.aload_n 0, 1) := by decide +kernel
theorem dX5_copyClients_1 : decode cX5_copyClients 1 = .ok (.aload_n 1, 1) := by decide +kernel
theorem dX5_copyClients_2 : decode cX5_copyClients 2 = .ok (.getfield 83, 3) := by decide +kernel
theorem dX5_copyClients_5 : decode cX5_copyClients 5 = .ok (.putfield 83, 3) := by decide +kernel
theorem dX5_copyClients_8 : decode cX5_copyClients 8 = .ok (.iconst 0, 1) := by decide +kernel
theorem dX5_copyClients_9 : decode cX5_copyClients 9 = .ok (.istore_n 2, 1) := by decide +kernel
theorem dX5_copyClients_10 : decode cX5_copyClients 10 = .ok (.iload_n 2, 1) := by decide +kernel
theorem dX5_copyClients_11 : decode cX5_copyClients 11 = .ok (.aload_n 0, 1) := by decide +kernel
theorem dX5_copyClients_12 : decode cX5_copyClients 12 = .ok (.getfield 83, 3) := by decide +kernel
theorem dX5_copyClients_15 : decode cX5_copyClients 15 = .ok (.if_icmp .ge 37, 3) := by decide +kernel
theorem dX5_copyClients_18 : decode cX5_copyClients 18 = .ok (.aload_n 0, 1) := by decide +kernel
theorem dX5_copyClients_19 : decode cX5_copyClients 19 = .ok (.iload_n 2, 1) := by decide +kernel
theorem dX5_copyClients_20 : decode cX5_copyClients 20 = .ok (.invokevirtual 86, 3) := by decide +kernel
theorem dX5_copyClients_23 : decode cX5_copyClients 23 = .ok (.astore_n 3, 1) := by decide +kernel
theorem dX5_copyClients_24 : decode cX5_copyClients 24 = .ok (.aload_n 1, 1) := by decide +kernel
theorem dX5_copyClients_25 : decode cX5_copyClients 25 = .ok (.iload_n 2, 1) := by decide +kernel
theorem dX5_copyClients_26 : decode cX5_copyClients 26 = .ok (.invokevirtual 86, 3) := by decide +kernel
theorem dX5_copyClients_29 : decode cX5_copyClients 29 = .ok (.astore 4, 2) := by decide +kernel
theorem dX5_copyClients_31 : decode cX5_copyClients 31 = .ok (.aload_n 3, 1) := by decide +kernel
theorem dX5_copyClients_32 : decode cX5_copyClients 32 = .ok (.ifnull 14, 3) := by decide +kernel
theorem dX5_copyClients_35 : decode cX5_copyClients 35 = .ok (.aload 4, 2) := by decide +kernel
theorem dX5_copyClients_37 : decode cX5_copyClients 37 = .ok (.ifnull 9, 3) := by decide +kernel
theorem dX5_copyClients_40 : decode cX5_copyClients 40 = .ok (.aload_n 3, 1) := by decide +kernel
theorem dX5_copyClients_41 : decode cX5_copyClients 41 = .ok (.aload 4, 2) := by decide +kernel
theorem dX5_copyClients_43 : decode cX5_copyClients 43 = .ok (.invokevirtual 90, 3) := by decide +kernel
theorem dX5_copyClients_46 : decode cX5_copyClients 46 = .ok (.iinc 2 1, 3) := by decide +kernel
theorem dX5_copyClients_49 : decode cX5_copyClients 49 = .ok (.goto (-39), 3) := by decide +kernel
theorem dX5_copyClients_52 : decode cX5_copyClients 52 = .ok (.return_, 1) := by decide +kernel
theorem dX5_copyCopies_0 : decode cX5_copyCopies 0 = .ok (.aload_n 0, 1) := by decide +kernel
theorem dX5_copyCopies_1 : decode cX5_copyCopies 1 = .ok (.aload_n 1, 1) := by decide +kernel
theorem dX5_copyCopies_2 : decode cX5_copyCopies 2 = .ok (.getfield 93, 3) := by decide +kernel
theorem dX5_copyCopies_5 : decode cX5_copyCopies 5 = .ok (.putfield 93, 3) := by decide +kernel
theorem dX5_copyCopies_8 : decode cX5_copyCopies 8 = .ok (.iconst 0, 1) := by decide +kernel
theorem dX5_copyCopies_9 : decode cX5_copyCopies 9 = .ok (.istore_n 2, 1) := by decide +kernel
theorem dX5_copyCopies_10 : decode cX5_copyCopies 10 = .ok (.iload_n 2, 1) := by decide +kernel
theorem dX5_copyCopies_11 : decode cX5_copyCopies 11 = .ok (.aload_n 0, 1) := by decide +kernel
theorem dX5_copyCopies_12 : decode cX5_copyCopies 12 = .ok (.getfield 93, 3) := by decide +kernel
theorem dX5_copyCopies_15 : decode cX5_copyCopies 15 = .ok (.if_icmp .ge 37, 3) := by decide +kernel
theorem dX5_copyCopies_18 : decode cX5_copyCopies 18 = .ok (.aload_n 0, 1) := by decide +kernel
theorem dX5_copyCopies_19 : decode cX5_copyCopies 19 = .ok (.iload_n 2, 1) := by decide +kernel
theorem dX5_copyCopies_20 : decode cX5_copyCopies 20 = .ok (.invokevirtual 96, 3) := by decide +kernel
theorem dX5_copyCopies_23 : decode cX5_copyCopies 23 = .ok (.astore_n 3, 1) := by decide +kernel
theorem dX5_copyCopies_24 : decode cX5_copyCopies 24 = .ok (.aload_n 1, 1) := by decide +kernel
theorem dX5_copyCopies_25 : decode cX5_copyCopies 25 = .ok (.iload_n 2, 1) := by decide +kernel
theorem dX5_copyCopies_26 : decode cX5_copyCopies 26 = .ok (.invokevirtual 96, 3) := by decide +kernel
theorem dX5_copyCopies_29 : decode cX5_copyCopies 29 = .ok (.astore 4, 2) := by decide +kernel
theorem dX5_copyCopies_31 : decode cX5_copyCopies 31 = .ok (.aload_n 3, 1) := by decide +kernel
theorem dX5_copyCopies_32 : decode cX5_copyCopies 32 = .ok (.ifnull 14, 3) := by decide +kernel
theorem dX5_copyCopies_35 : decode cX5_copyCopies 35 = .ok (.aload 4, 2) := by decide +kernel
theorem dX5_copyCopies_37 : decode cX5_copyCopies 37 = .ok (.ifnull 9, 3) := by decide +kernel
theorem dX5_copyCopies_40 : decode cX5_copyCopies 40 = .ok (.aload_n 3, 1) := by decide +kernel
theorem dX5_copyCopies_41 : decode cX5_copyCopies 41 = .ok (.aload 4, 2) := by decide +kernel
theorem dX5_copyCopies_43 : decode cX5_copyCopies 43 = .ok (.invokevirtual 100, 3) := by decide +kernel
theorem dX5_copyCopies_46 : decode cX5_copyCopies 46 = .ok (.iinc 2 1, 3) := by decide +kernel
theorem dX5_copyCopies_49 : decode cX5_copyCopies 49 = .ok (.goto (-39), 3) := by decide +kernel
theorem dX5_copyCopies_52 : decode cX5_copyCopies 52 = .ok (.return_, 1) := by decide +kernel
theorem dX5_copyPersons_0 : decode cX5_copyPersons 0 = .ok (.iconst 0, 1) := by decide +kernel
theorem dX5_copyPersons_1 : decode cX5_copyPersons 1 = .ok (.istore_n 2, 1) := by decide +kernel
theorem dX5_copyPersons_2 : decode cX5_copyPersons 2 = .ok (.iload_n 2, 1) := by decide +kernel
theorem dX5_copyPersons_3 : decode cX5_copyPersons 3 = .ok (.bipush 10, 2) := by decide +kernel
theorem dX5_copyPersons_5 : decode cX5_copyPersons 5 = .ok (.if_icmp .ge 49, 3) := by decide +kernel
theorem dX5_copyPersons_8 : decode cX5_copyPersons 8 = .ok (.aload_n 0, 1) := by decide +kernel
theorem dX5_copyPersons_9 : decode cX5_copyPersons 9 = .ok (.iload_n 2, 1) := by decide +kernel
theorem dX5_copyPersons_10 : decode cX5_copyPersons 10 = .ok (.invokevirtual 103, 3) := by decide +kernel
theorem dX5_copyPersons_13 : decode cX5_copyPersons 13 = .ok (.astore_n 3, 1) := by decide +kernel
theorem dX5_copyPersons_14 : decode cX5_copyPersons 14 = .ok (.aload_n 1, 1) := by decide +kernel
theorem dX5_copyPersons_15 : decode cX5_copyPersons 15 = .ok (.iload_n 2, 1) := by decide +kernel
theorem dX5_copyPersons_16 : decode cX5_copyPersons 16 = .ok (.invokevirtual 103, 3) := by decide +kernel
theorem dX5_copyPersons_19 : decode cX5_copyPersons 19 = .ok (.astore 4, 2) := by decide +kernel
theorem dX5_copyPersons_21 : decode cX5_copyPersons 21 = .ok (.aload_n 3, 1) := by decide +kernel
theorem dX5_copyPersons_22 : decode cX5_copyPersons 22 = .ok (.ifnull 26, 3) := by decide +kernel
theorem dX5_copyPersons_25 : decode cX5_copyPersons 25 = .ok (.aload 4, 2) := by decide +kernel
theorem dX5_copyPersons_27 : decode cX5_copyPersons 27 = .ok (.ifnull 21, 3) := by decide +kernel
theorem dX5_copyPersons_30 : decode cX5_copyPersons 30 = .ok (.aload_n 3, 1) := by decide +kernel
theorem dX5_copyPersons_31 : decode cX5_copyPersons 31 = .ok (.aload 4, 2) := by decide +kernel
theorem dX5_copyPersons_33 : decode cX5_copyPersons 33 = .ok (.getfield 107, 3) := by decide +kernel
theorem dX5_copyPersons_36 : decode cX5_copyPersons 36 = .ok (.putfield 107, 3) := by decide +kernel
theorem dX5_copyPersons_39 : decode cX5_copyPersons 39 = .ok (.aload_n 3, 1) := by decide +kernel
theorem dX5_copyPersons_40 : decode cX5_copyPersons 40 = .ok (.aload 4, 2) := by decide +kernel
theorem dX5_copyPersons_42 : decode cX5_copyPersons 42 = .ok (.getfield 110, 3) := by decide +kernel
theorem dX5_copyPersons_45 : decode cX5_copyPersons 45 = .ok (.putfield 110, 3) := by decide +kernel
theorem dX5_copyPersons_48 : decode cX5_copyPersons 48 = .ok (.iinc 2 1, 3) := by decide +kernel
theorem dX5_copyPersons_51 : decode cX5_copyPersons 51 = .ok (.goto (-49), 3) := by decide +kernel
theorem dX5_copyPersons_54 : decode cX5_copyPersons 54 = .ok (.return_, 1) := by decide +kernel
theorem dX5_storyAt_0 : decode cX5_storyAt 0 = .ok (.iload_n 1, 1) := by decide +kernel
theorem dX5_storyAt_1 : decode cX5_storyAt 1 = .ok (.aload_n 0, 1) := by decide +kernel
theorem dX5_storyAt_2 : decode cX5_storyAt 2 = .ok (.getfield 73, 3) := by decide +kernel
theorem dX5_storyAt_5 : decode cX5_storyAt 5 = .ok (.aload_n 0, 1) := by decide +kernel
theorem dX5_storyAt_6 : decode cX5_storyAt 6 = .ok (.getfield 24, 3) := by decide +kernel
theorem dX5_storyAt_9 : decode cX5_storyAt 9 = .ok (.arraylength, 1) := by decide +kernel
theorem dX5_storyAt_10 : decode cX5_storyAt 10 = .ok (.invokestatic 113, 3) := by decide +kernel
theorem dX5_storyAt_13 : decode cX5_storyAt 13 = .ok (.invokestatic 119, 3) := by decide +kernel
theorem dX5_storyAt_16 : decode cX5_storyAt 16 = .ok (.ifCond .eq 12, 3) := by decide +kernel
theorem dX5_storyAt_19 : decode cX5_storyAt 19 = .ok (.aload_n 0, 1) := by decide +kernel
theorem dX5_storyAt_20 : decode cX5_storyAt 20 = .ok (.getfield 24, 3) := by decide +kernel
theorem dX5_storyAt_23 : decode cX5_storyAt 23 = .ok (.iload_n 1, 1) := by decide +kernel
theorem dX5_storyAt_24 : decode cX5_storyAt 24 = .ok (.aaload, 1) := by decide +kernel
theorem dX5_storyAt_25 : decode cX5_storyAt 25 = .ok (.goto 4, 3) := by decide +kernel
theorem dX5_storyAt_28 : decode cX5_storyAt 28 = .ok (.aconst_null, 1) := by decide +kernel
theorem dX5_storyAt_29 : decode cX5_storyAt 29 = .ok (.areturn, 1) := by decide +kernel
theorem dX5_clientAt_0 : decode cX5_clientAt 0 = .ok (.iload_n 1, 1) := by decide +kernel
theorem dX5_clientAt_1 : decode cX5_clientAt 1 = .ok (.aload_n 0, 1) := by decide +kernel
theorem dX5_clientAt_2 : decode cX5_clientAt 2 = .ok (.getfield 83, 3) := by decide +kernel
theorem dX5_clientAt_5 : decode cX5_clientAt 5 = .ok (.aload_n 0, 1) := by decide +kernel
theorem dX5_clientAt_6 : decode cX5_clientAt 6 = .ok (.getfield 30, 3) := by decide +kernel
theorem dX5_clientAt_9 : decode cX5_clientAt 9 = .ok (.arraylength, 1) := by decide +kernel
theorem dX5_clientAt_10 : decode cX5_clientAt 10 = .ok (.invokestatic 113, 3) := by decide +kernel
theorem dX5_clientAt_13 : decode cX5_clientAt 13 = .ok (.invokestatic 119, 3) := by decide +kernel
theorem dX5_clientAt_16 : decode cX5_clientAt 16 = .ok (.ifCond .eq 12, 3) := by decide +kernel
theorem dX5_clientAt_19 : decode cX5_clientAt 19 = .ok (.aload_n 0, 1) := by decide +kernel
theorem dX5_clientAt_20 : decode cX5_clientAt 20 = .ok (.getfield 30, 3) := by decide +kernel
theorem dX5_clientAt_23 : decode cX5_clientAt 23 = .ok (.iload_n 1, 1) := by decide +kernel
theorem dX5_clientAt_24 : decode cX5_clientAt 24 = .ok (.aaload, 1) := by decide +kernel
theorem dX5_clientAt_25 : decode cX5_clientAt 25 = .ok (.goto 4, 3) := by decide +kernel
theorem dX5_clientAt_28 : decode cX5_clientAt 28 = .ok (.aconst_null, 1) := by decide +kernel
theorem dX5_clientAt_29 : decode cX5_clientAt 29 = .ok (.areturn, 1) := by decide +kernel
theorem dX5_copyMade_0 : decode cX5_copyMade 0 = .ok (.iload_n 1, 1) := by decide +kernel
theorem dX5_copyMade_1 : decode cX5_copyMade 1 = .ok (.aload_n 0, 1) := by decide +kernel
theorem dX5_copyMade_2 : decode cX5_copyMade 2 = .ok (.getfield 93, 3) := by decide +kernel
theorem dX5_copyMade_5 : decode cX5_copyMade 5 = .ok (.aload_n 0, 1) := by decide +kernel
theorem dX5_copyMade_6 : decode cX5_copyMade 6 = .ok (.getfield 36, 3) := by decide +kernel
theorem dX5_copyMade_9 : decode cX5_copyMade 9 = .ok (.arraylength, 1) := by decide +kernel
theorem dX5_copyMade_10 : decode cX5_copyMade 10 = .ok (.invokestatic 113, 3) := by decide +kernel
theorem dX5_copyMade_13 : decode cX5_copyMade 13 = .ok (.invokestatic 119, 3) := by decide +kernel
theorem dX5_copyMade_16 : decode cX5_copyMade 16 = .ok (.ifCond .eq 12, 3) := by decide +kernel
theorem dX5_copyMade_19 : decode cX5_copyMade 19 = .ok (.aload_n 0, 1) := by decide +kernel
theorem dX5_copyMade_20 : decode cX5_copyMade 20 = .ok (.getfield 36, 3) := by decide +kernel
theorem dX5_copyMade_23 : decode cX5_copyMade 23 = .ok (.iload_n 1, 1) := by decide +kernel
theorem dX5_copyMade_24 : decode cX5_copyMade 24 = .ok (.aaload, 1) := by decide +kernel
theorem dX5_copyMade_25 : decode cX5_copyMade 25 = .ok (.goto 4, 3) := by decide +kernel
theorem dX5_copyMade_28 : decode cX5_copyMade 28 = .ok (.aconst_null, 1) := by decide +kernel
theorem dX5_copyMade_29 : decode cX5_copyMade 29 = .ok (.areturn, 1) := by decide +kernel
theorem dX5_personAt_0 : decode cX5_personAt 0 = .ok (.iload_n 1, 1) := by decide +kernel
theorem dX5_personAt_1 : decode cX5_personAt 1 = .ok (.aload_n 0, 1) := by decide +kernel
theorem dX5_personAt_2 : decode cX5_personAt 2 = .ok (.getfield 42, 3) := by decide +kernel
theorem dX5_personAt_5 : decode cX5_personAt 5 = .ok (.arraylength, 1) := by decide +kernel
theorem dX5_personAt_6 : decode cX5_personAt 6 = .ok (.invokestatic 119, 3) := by decide +kernel
theorem dX5_personAt_9 : decode cX5_personAt 9 = .ok (.ifCond .eq 12, 3) := by decide +kernel
theorem dX5_personAt_12 : decode cX5_personAt 12 = .ok (.aload_n 0, 1) := by decide +kernel
theorem dX5_personAt_13 : decode cX5_personAt 13 = .ok (.getfield 42, 3) := by decide +kernel
theorem dX5_personAt_16 : decode cX5_personAt 16 = .ok (.iload_n 1, 1) := by decide +kernel
theorem dX5_personAt_17 : decode cX5_personAt 17 = .ok (.aaload, 1) := by decide +kernel
theorem dX5_personAt_18 : decode cX5_personAt 18 = .ok (.goto 4, 3) := by decide +kernel
theorem dX5_personAt_21 : decode cX5_personAt 21 = .ok (.aconst_null, 1) := by decide +kernel
theorem dX5_personAt_22 : decode cX5_personAt 22 = .ok (.areturn, 1) := by decide +kernel
theorem dX5_copyFor_0 : decode cX5_copyFor 0 = .ok (.iconst 0, 1) := by decide +kernel
theorem dX5_copyFor_1 : decode cX5_copyFor 1 = .ok (.istore_n 3, 1) := by decide +kernel
theorem dX5_copyFor_2 : decode cX5_copyFor 2 = .ok (.iload_n 3, 1) := by decide +kernel
theorem dX5_copyFor_3 : decode cX5_copyFor 3 = .ok (.aload_n 0, 1) := by decide +kernel
theorem dX5_copyFor_4 : decode cX5_copyFor 4 = .ok (.getfield 93, 3) := by decide +kernel
theorem dX5_copyFor_7 : decode cX5_copyFor 7 = .ok (.if_icmp .ge 42, 3) := by decide +kernel
theorem dX5_copyFor_10 : decode cX5_copyFor 10 = .ok (.aload_n 0, 1) := by decide +kernel
theorem dX5_copyFor_11 : decode cX5_copyFor 11 = .ok (.iload_n 3, 1) := by decide +kernel
theorem dX5_copyFor_12 : decode cX5_copyFor 12 = .ok (.invokevirtual 96, 3) := by decide +kernel
theorem dX5_copyFor_15 : decode cX5_copyFor 15 = .ok (.astore 4, 2) := by decide +kernel
theorem dX5_copyFor_17 : decode cX5_copyFor 17 = .ok (.aload 4, 2) := by decide +kernel
theorem dX5_copyFor_19 : decode cX5_copyFor 19 = .ok (.ifnull 24, 3) := by decide +kernel
theorem dX5_copyFor_22 : decode cX5_copyFor 22 = .ok (.aload 4, 2) := by decide +kernel
theorem dX5_copyFor_24 : decode cX5_copyFor 24 = .ok (.getfield 123, 3) := by decide +kernel
theorem dX5_copyFor_27 : decode cX5_copyFor 27 = .ok (.iload_n 1, 1) := by decide +kernel
theorem dX5_copyFor_28 : decode cX5_copyFor 28 = .ok (.if_icmp .ne 15, 3) := by decide +kernel
theorem dX5_copyFor_31 : decode cX5_copyFor 31 = .ok (.aload 4, 2) := by decide +kernel
theorem dX5_copyFor_33 : decode cX5_copyFor 33 = .ok (.getfield 126, 3) := by decide +kernel
theorem dX5_copyFor_36 : decode cX5_copyFor 36 = .ok (.iload_n 2, 1) := by decide +kernel
theorem dX5_copyFor_37 : decode cX5_copyFor 37 = .ok (.if_icmp .ne 6, 3) := by decide +kernel
theorem dX5_copyFor_40 : decode cX5_copyFor 40 = .ok (.aload 4, 2) := by decide +kernel
theorem dX5_copyFor_42 : decode cX5_copyFor 42 = .ok (.areturn, 1) := by decide +kernel
theorem dX5_copyFor_43 : decode cX5_copyFor 43 = .ok (.iinc 3 1, 3) := by decide +kernel
theorem dX5_copyFor_46 : decode cX5_copyFor 46 = .ok (.goto (-44), 3) := by decide +kernel
theorem dX5_copyFor_49 : decode cX5_copyFor 49 = .ok (.aconst_null, 1) := by decide +kernel
theorem dX5_copyFor_50 : decode cX5_copyFor 50 = .ok (.areturn, 1) := by decide +kernel
theorem dX5_passHour_0 : decode cX5_passHour 0 = .ok (.aload_n 0, 1) := by decide +kernel
theorem dX5_passHour_1 : decode cX5_passHour 1 = .ok (.dup, 1) := by decide +kernel
theorem dX5_passHour_2 : decode cX5_passHour 2 = .ok (.getfield 50, 3) := by decide +kernel
theorem dX5_passHour_5 : decode cX5_passHour 5 = .ok (.iconst 1, 1) := by decide +kernel
theorem dX5_passHour_6 : decode cX5_passHour 6 = .ok (.iadd, 1) := by decide +kernel
theorem dX5_passHour_7 : decode cX5_passHour 7 = .ok (.putfield 50, 3) := by decide +kernel
theorem dX5_passHour_10 : decode cX5_passHour 10 = .ok (.aload_n 0, 1) := by decide +kernel
theorem dX5_passHour_11 : decode cX5_passHour 11 = .ok (.getfield 50, 3) := by decide +kernel
theorem dX5_passHour_14 : decode cX5_passHour 14 = .ok (.bipush 24, 2) := by decide +kernel
theorem dX5_passHour_16 : decode cX5_passHour 16 = .ok (.irem, 1) := by decide +kernel
theorem dX5_passHour_17 : decode cX5_passHour 17 = .ok (.ifCond .ne 7, 3) := by decide +kernel
theorem dX5_passHour_20 : decode cX5_passHour 20 = .ok (.aload_n 0, 1) := by decide +kernel
theorem dX5_passHour_21 : decode cX5_passHour 21 = .ok (.invokevirtual 129, 3) := by decide +kernel
theorem dX5_passHour_24 : decode cX5_passHour 24 = .ok (.iconst 0, 1) := by decide +kernel
theorem dX5_passHour_25 : decode cX5_passHour 25 = .ok (.istore_n 1, 1) := by decide +kernel
theorem dX5_passHour_26 : decode cX5_passHour 26 = .ok (.iload_n 1, 1) := by decide +kernel
theorem dX5_passHour_27 : decode cX5_passHour 27 = .ok (.aload_n 0, 1) := by decide +kernel
theorem dX5_passHour_28 : decode cX5_passHour 28 = .ok (.getfield 73, 3) := by decide +kernel
theorem dX5_passHour_31 : decode cX5_passHour 31 = .ok (.if_icmp .ge 44, 3) := by decide +kernel
theorem dX5_passHour_34 : decode cX5_passHour 34 = .ok (.aload_n 0, 1) := by decide +kernel
theorem dX5_passHour_35 : decode cX5_passHour 35 = .ok (.iload_n 1, 1) := by decide +kernel
theorem dX5_passHour_36 : decode cX5_passHour 36 = .ok (.invokevirtual 76, 3) := by decide +kernel
theorem dX5_passHour_39 : decode cX5_passHour 39 = .ok (.astore_n 2, 1) := by decide +kernel
theorem dX5_passHour_40 : decode cX5_passHour 40 = .ok (.aload_n 2, 1) := by decide +kernel
theorem dX5_passHour_41 : decode cX5_passHour 41 = .ok (.ifnull 28, 3) := by decide +kernel
theorem dX5_passHour_44 : decode cX5_passHour 44 = .ok (.aload_n 2, 1) := by decide +kernel
theorem dX5_passHour_45 : decode cX5_passHour 45 = .ok (.getfield 132, 3) := by decide +kernel
theorem dX5_passHour_48 : decode cX5_passHour 48 = .ok (.iconst 1, 1) := by decide +kernel
theorem dX5_passHour_49 : decode cX5_passHour 49 = .ok (.if_icmp .ne 20, 3) := by decide +kernel
theorem dX5_passHour_52 : decode cX5_passHour 52 = .ok (.aload_n 2, 1) := by decide +kernel
theorem dX5_passHour_53 : decode cX5_passHour 53 = .ok (.getfield 135, 3) := by decide +kernel
theorem dX5_passHour_56 : decode cX5_passHour 56 = .ok (.aload_n 0, 1) := by decide +kernel
theorem dX5_passHour_57 : decode cX5_passHour 57 = .ok (.getfield 50, 3) := by decide +kernel
theorem dX5_passHour_60 : decode cX5_passHour 60 = .ok (.if_icmp .gt 9, 3) := by decide +kernel
theorem dX5_passHour_63 : decode cX5_passHour 63 = .ok (.aload_n 0, 1) := by decide +kernel
theorem dX5_passHour_64 : decode cX5_passHour 64 = .ok (.iload_n 1, 1) := by decide +kernel
theorem dX5_passHour_65 : decode cX5_passHour 65 = .ok (.aload_n 2, 1) := by decide +kernel
theorem dX5_passHour_66 : decode cX5_passHour 66 = .ok (.invokevirtual 138, 3) := by decide +kernel
theorem dX5_passHour_69 : decode cX5_passHour 69 = .ok (.iinc 1 1, 3) := by decide +kernel
theorem dX5_passHour_72 : decode cX5_passHour 72 = .ok (.goto (-46), 3) := by decide +kernel
theorem dX5_passHour_75 : decode cX5_passHour 75 = .ok (.iconst 0, 1) := by decide +kernel
theorem dX5_passHour_76 : decode cX5_passHour 76 = .ok (.istore_n 1, 1) := by decide +kernel
theorem dX5_passHour_77 : decode cX5_passHour 77 = .ok (.iload_n 1, 1) := by decide +kernel
theorem dX5_passHour_78 : decode cX5_passHour 78 = .ok (.aload_n 0, 1) := by decide +kernel
theorem dX5_passHour_79 : decode cX5_passHour 79 = .ok (.getfield 93, 3) := by decide +kernel
theorem dX5_passHour_82 : decode cX5_passHour 82 = .ok (.if_icmp .ge 31, 3) := by decide +kernel
theorem dX5_passHour_85 : decode cX5_passHour 85 = .ok (.aload_n 0, 1) := by decide +kernel
theorem dX5_passHour_86 : decode cX5_passHour 86 = .ok (.iload_n 1, 1) := by decide +kernel
theorem dX5_passHour_87 : decode cX5_passHour 87 = .ok (.invokevirtual 96, 3) := by decide +kernel
theorem dX5_passHour_90 : decode cX5_passHour 90 = .ok (.astore_n 2, 1) := by decide +kernel
theorem dX5_passHour_91 : decode cX5_passHour 91 = .ok (.aload_n 2, 1) := by decide +kernel
theorem dX5_passHour_92 : decode cX5_passHour 92 = .ok (.ifnull 15, 3) := by decide +kernel
theorem dX5_passHour_95 : decode cX5_passHour 95 = .ok (.aload_n 2, 1) := by decide +kernel
theorem dX5_passHour_96 : decode cX5_passHour 96 = .ok (.invokevirtual 142, 3) := by decide +kernel
theorem dX5_passHour_99 : decode cX5_passHour 99 = .ok (.ifCond .ne 8, 3) := by decide +kernel
theorem dX5_passHour_102 : decode cX5_passHour 102 = .ok (.aload_n 0, 1) := by decide +kernel
theorem dX5_passHour_103 : decode cX5_passHour 103 = .ok (.aload_n 2, 1) := by decide +kernel
theorem dX5_passHour_104 : decode cX5_passHour 104 = .ok (.invokevirtual 146, 3) := by decide +kernel
theorem dX5_passHour_107 : decode cX5_passHour 107 = .ok (.iinc 1 1, 3) := by decide +kernel
theorem dX5_passHour_110 : decode cX5_passHour 110 = .ok (.goto (-33), 3) := by decide +kernel
theorem dX5_passHour_113 : decode cX5_passHour 113 = .ok (.return_, 1) := by decide +kernel
theorem dX5_startDay_0 : decode cX5_startDay 0 = .ok (.iconst 0, 1) := by decide +kernel
theorem dX5_startDay_1 : decode cX5_startDay 1 = .ok (.istore_n 1, 1) := by decide +kernel
theorem dX5_startDay_2 : decode cX5_startDay 2 = .ok (.iload_n 1, 1) := by decide +kernel
theorem dX5_startDay_3 : decode cX5_startDay 3 = .ok (.aload_n 0, 1) := by decide +kernel
theorem dX5_startDay_4 : decode cX5_startDay 4 = .ok (.getfield 83, 3) := by decide +kernel
theorem dX5_startDay_7 : decode cX5_startDay 7 = .ok (.if_icmp .ge 24, 3) := by decide +kernel
theorem dX5_startDay_10 : decode cX5_startDay 10 = .ok (.aload_n 0, 1) := by decide +kernel
theorem dX5_startDay_11 : decode cX5_startDay 11 = .ok (.iload_n 1, 1) := by decide +kernel
theorem dX5_startDay_12 : decode cX5_startDay 12 = .ok (.invokevirtual 86, 3) := by decide +kernel
theorem dX5_startDay_15 : decode cX5_startDay 15 = .ok (.astore_n 2, 1) := by decide +kernel
theorem dX5_startDay_16 : decode cX5_startDay 16 = .ok (.aload_n 2, 1) := by decide +kernel
theorem dX5_startDay_17 : decode cX5_startDay 17 = .ok (.ifnull 8, 3) := by decide +kernel
theorem dX5_startDay_20 : decode cX5_startDay 20 = .ok (.aload_n 2, 1) := by decide +kernel
theorem dX5_startDay_21 : decode cX5_startDay 21 = .ok (.iconst 0, 1) := by decide +kernel
theorem dX5_startDay_22 : decode cX5_startDay 22 = .ok (.putfield 149, 3) := by decide +kernel
theorem dX5_startDay_25 : decode cX5_startDay 25 = .ok (.iinc 1 1, 3) := by decide +kernel
theorem dX5_startDay_28 : decode cX5_startDay 28 = .ok (.goto (-26), 3) := by decide +kernel
theorem dX5_startDay_31 : decode cX5_startDay 31 = .ok (.return_, 1) := by decide +kernel
theorem dX5_publish_0 : decode cX5_publish 0 = .ok (.aload_n 2, 1) := by decide +kernel
theorem dX5_publish_1 : decode cX5_publish 1 = .ok (.iconst 2, 1) := by decide +kernel
theorem dX5_publish_2 : decode cX5_publish 2 = .ok (.putfield 132, 3) := by decide +kernel
theorem dX5_publish_5 : decode cX5_publish 5 = .ok (.aload_n 2, 1) := by decide +kernel
theorem dX5_publish_6 : decode cX5_publish 6 = .ok (.aload_n 0, 1) := by decide +kernel
theorem dX5_publish_7 : decode cX5_publish 7 = .ok (.getfield 50, 3) := by decide +kernel
theorem dX5_publish_10 : decode cX5_publish 10 = .ok (.putfield 152, 3) := by decide +kernel
theorem dX5_publish_13 : decode cX5_publish 13 = .ok (.aload_n 0, 1) := by decide +kernel
theorem dX5_publish_14 : decode cX5_publish 14 = .ok (.getfield 18, 3) := by decide +kernel
theorem dX5_publish_17 : decode cX5_publish 17 = .ok (.iconst 0, 1) := by decide +kernel
theorem dX5_publish_18 : decode cX5_publish 18 = .ok (.iload_n 1, 1) := by decide +kernel
theorem dX5_publish_19 : decode cX5_publish 19 = .ok (.bipush (-5), 2) := by decide +kernel
theorem dX5_publish_21 : decode cX5_publish 21 = .ok (.aload_n 0, 1) := by decide +kernel
theorem dX5_publish_22 : decode cX5_publish 22 = .ok (.getfield 50, 3) := by decide +kernel
theorem dX5_publish_25 : decode cX5_publish 25 = .ok (.invokevirtual 155, 3) := by decide +kernel
theorem dX5_publish_28 : decode cX5_publish 28 = .ok (.iconst 0, 1) := by decide +kernel
theorem dX5_publish_29 : decode cX5_publish 29 = .ok (.istore_n 3, 1) := by decide +kernel
theorem dX5_publish_30 : decode cX5_publish 30 = .ok (.iload_n 3, 1) := by decide +kernel
theorem dX5_publish_31 : decode cX5_publish 31 = .ok (.aload_n 0, 1) := by decide +kernel
theorem dX5_publish_32 : decode cX5_publish 32 = .ok (.getfield 83, 3) := by decide +kernel
theorem dX5_publish_35 : decode cX5_publish 35 = .ok (.if_icmp .ge 49, 3) := by decide +kernel
theorem dX5_publish_38 : decode cX5_publish 38 = .ok (.aload_n 0, 1) := by decide +kernel
theorem dX5_publish_39 : decode cX5_publish 39 = .ok (.iload_n 3, 1) := by decide +kernel
theorem dX5_publish_40 : decode cX5_publish 40 = .ok (.invokevirtual 86, 3) := by decide +kernel
theorem dX5_publish_43 : decode cX5_publish 43 = .ok (.astore 4, 2) := by decide +kernel
theorem dX5_publish_45 : decode cX5_publish 45 = .ok (.aload 4, 2) := by decide +kernel
theorem dX5_publish_47 : decode cX5_publish 47 = .ok (.ifnull 31, 3) := by decide +kernel
theorem dX5_publish_50 : decode cX5_publish 50 = .ok (.aload 4, 2) := by decide +kernel
theorem dX5_publish_52 : decode cX5_publish 52 = .ok (.aload_n 2, 1) := by decide +kernel
theorem dX5_publish_53 : decode cX5_publish 53 = .ok (.getfield 159, 3) := by decide +kernel
theorem dX5_publish_56 : decode cX5_publish 56 = .ok (.invokevirtual 162, 3) := by decide +kernel
theorem dX5_publish_59 : decode cX5_publish 59 = .ok (.ifCond .eq 19, 3) := by decide +kernel
theorem dX5_publish_62 : decode cX5_publish 62 = .ok (.aload_n 0, 1) := by decide +kernel
theorem dX5_publish_63 : decode cX5_publish 63 = .ok (.iload_n 1, 1) := by decide +kernel
theorem dX5_publish_64 : decode cX5_publish 64 = .ok (.iload_n 3, 1) := by decide +kernel
theorem dX5_publish_65 : decode cX5_publish 65 = .ok (.aload_n 0, 1) := by decide +kernel
theorem dX5_publish_66 : decode cX5_publish 66 = .ok (.getfield 50, 3) := by decide +kernel
theorem dX5_publish_69 : decode cX5_publish 69 = .ok (.aload 4, 2) := by decide +kernel
theorem dX5_publish_71 : decode cX5_publish 71 = .ok (.getfield 166, 3) := by decide +kernel
theorem dX5_publish_74 : decode cX5_publish 74 = .ok (.iadd, 1) := by decide +kernel
theorem dX5_publish_75 : decode cX5_publish 75 = .ok (.invokevirtual 169, 3) := by decide +kernel
theorem dX5_publish_78 : decode cX5_publish 78 = .ok (.iinc 3 1, 3) := by decide +kernel
theorem dX5_publish_81 : decode cX5_publish 81 = .ok (.goto (-51), 3) := by decide +kernel
theorem dX5_publish_84 : decode cX5_publish 84 = .ok (.return_, 1) := by decide +kernel
theorem dX5_planCopy_0 : decode cX5_planCopy 0 = .ok (.aload_n 0, 1) := by decide +kernel
theorem dX5_planCopy_1 : decode cX5_planCopy 1 = .ok (.getfield 93, 3) := by decide +kernel
theorem dX5_planCopy_4 : decode cX5_planCopy 4 = .ok (.sipush 160, 3) := by decide +kernel
theorem dX5_planCopy_7 : decode cX5_planCopy 7 = .ok (.if_icmp .lt 4, 3) := by decide +kernel
theorem dX5_planCopy_10 : decode cX5_planCopy 10 = .ok (.return_, 1) := by decide +kernel
theorem dX5_planCopy_11 : decode cX5_planCopy 11 = .ok (.aload_n 0, 1) := by decide +kernel
theorem dX5_planCopy_12 : decode cX5_planCopy 12 = .ok (.dup, 1) := by decide +kernel
theorem dX5_planCopy_13 : decode cX5_planCopy 13 = .ok (.getfield 93, 3) := by decide +kernel
theorem dX5_planCopy_16 : decode cX5_planCopy 16 = .ok (.iconst 1, 1) := by decide +kernel
theorem dX5_planCopy_17 : decode cX5_planCopy 17 = .ok (.iadd, 1) := by decide +kernel
theorem dX5_planCopy_18 : decode cX5_planCopy 18 = .ok (.putfield 93, 3) := by decide +kernel
theorem dX5_planCopy_21 : decode cX5_planCopy 21 = .ok (.aload_n 0, 1) := by decide +kernel
theorem dX5_planCopy_22 : decode cX5_planCopy 22 = .ok (.aload_n 0, 1) := by decide +kernel
theorem dX5_planCopy_23 : decode cX5_planCopy 23 = .ok (.getfield 93, 3) := by decide +kernel
theorem dX5_planCopy_26 : decode cX5_planCopy 26 = .ok (.iconst 1, 1) := by decide +kernel
theorem dX5_planCopy_27 : decode cX5_planCopy 27 = .ok (.isub, 1) := by decide +kernel
theorem dX5_planCopy_28 : decode cX5_planCopy 28 = .ok (.invokevirtual 96, 3) := by decide +kernel
theorem dX5_planCopy_31 : decode cX5_planCopy 31 = .ok (.astore 4, 2) := by decide +kernel
theorem dX5_planCopy_33 : decode cX5_planCopy 33 = .ok (.aload 4, 2) := by decide +kernel
theorem dX5_planCopy_35 : decode cX5_planCopy 35 = .ok (.ifnull 11, 3) := by decide +kernel
theorem dX5_planCopy_38 : decode cX5_planCopy 38 = .ok (.aload 4, 2) := by decide +kernel
theorem dX5_planCopy_40 : decode cX5_planCopy 40 = .ok (.iload_n 1, 1) := by decide +kernel
theorem dX5_planCopy_41 : decode cX5_planCopy 41 = .ok (.iload_n 2, 1) := by decide +kernel
theorem dX5_planCopy_42 : decode cX5_planCopy 42 = .ok (.iload_n 3, 1) := by decide +kernel
theorem dX5_planCopy_43 : decode cX5_planCopy 43 = .ok (.invokevirtual 173, 3) := by decide +kernel
theorem dX5_planCopy_46 : decode cX5_planCopy 46 = .ok (.return_, 1) := by decide +kernel
theorem dX5_moveOn_0 : decode cX5_moveOn 0 = .ok (.aload_n 0, 1) := by decide +kernel
theorem dX5_moveOn_1 : decode cX5_moveOn 1 = .ok (.aload_n 1, 1) := by decide +kernel
theorem dX5_moveOn_2 : decode cX5_moveOn 2 = .ok (.getfield 123, 3) := by decide +kernel
theorem dX5_moveOn_5 : decode cX5_moveOn 5 = .ok (.invokevirtual 76, 3) := by decide +kernel
theorem dX5_moveOn_8 : decode cX5_moveOn 8 = .ok (.astore_n 2, 1) := by decide +kernel
theorem dX5_moveOn_9 : decode cX5_moveOn 9 = .ok (.aload_n 0, 1) := by decide +kernel
theorem dX5_moveOn_10 : decode cX5_moveOn 10 = .ok (.aload_n 1, 1) := by decide +kernel
theorem dX5_moveOn_11 : decode cX5_moveOn 11 = .ok (.getfield 126, 3) := by decide +kernel
theorem dX5_moveOn_14 : decode cX5_moveOn 14 = .ok (.invokevirtual 86, 3) := by decide +kernel
theorem dX5_moveOn_17 : decode cX5_moveOn 17 = .ok (.astore_n 3, 1) := by decide +kernel
theorem dX5_moveOn_18 : decode cX5_moveOn 18 = .ok (.aload_n 2, 1) := by decide +kernel
theorem dX5_moveOn_19 : decode cX5_moveOn 19 = .ok (.ifnull 7, 3) := by decide +kernel
theorem dX5_moveOn_22 : decode cX5_moveOn 22 = .ok (.aload_n 3, 1) := by decide +kernel
theorem dX5_moveOn_23 : decode cX5_moveOn 23 = .ok (.ifnonnull 4, 3) := by decide +kernel
theorem dX5_moveOn_26 : decode cX5_moveOn 26 = .ok (.return_, 1) := by decide +kernel
theorem dX5_moveOn_27 : decode cX5_moveOn 27 = .ok (.aload_n 1, 1) := by decide +kernel
theorem dX5_moveOn_28 : decode cX5_moveOn 28 = .ok (.getfield 176, 3) := by decide +kernel
theorem dX5_moveOn_31 : decode cX5_moveOn 31 = .ok (.ifCond .ne 44, 3) := by decide +kernel
theorem dX5_moveOn_34 : decode cX5_moveOn 34 = .ok (.aload_n 2, 1) := by decide +kernel
theorem dX5_moveOn_35 : decode cX5_moveOn 35 = .ok (.getfield 132, 3) := by decide +kernel
theorem dX5_moveOn_38 : decode cX5_moveOn 38 = .ok (.iconst 3, 1) := by decide +kernel
theorem dX5_moveOn_39 : decode cX5_moveOn 39 = .ok (.if_icmp .ne 11, 3) := by decide +kernel
theorem dX5_moveOn_42 : decode cX5_moveOn 42 = .ok (.aload_n 1, 1) := by decide +kernel
theorem dX5_moveOn_43 : decode cX5_moveOn 43 = .ok (.iconst 4, 1) := by decide +kernel
theorem dX5_moveOn_44 : decode cX5_moveOn 44 = .ok (.putfield 176, 3) := by decide +kernel
theorem dX5_moveOn_47 : decode cX5_moveOn 47 = .ok (.goto 28, 3) := by decide +kernel
theorem dX5_moveOn_50 : decode cX5_moveOn 50 = .ok (.aload_n 1, 1) := by decide +kernel
theorem dX5_moveOn_51 : decode cX5_moveOn 51 = .ok (.getfield 177, 3) := by decide +kernel
theorem dX5_moveOn_54 : decode cX5_moveOn 54 = .ok (.aload_n 0, 1) := by decide +kernel
theorem dX5_moveOn_55 : decode cX5_moveOn 55 = .ok (.getfield 50, 3) := by decide +kernel
theorem dX5_moveOn_58 : decode cX5_moveOn 58 = .ok (.if_icmp .gt 17, 3) := by decide +kernel
theorem dX5_moveOn_61 : decode cX5_moveOn 61 = .ok (.aload_n 3, 1) := by decide +kernel
theorem dX5_moveOn_62 : decode cX5_moveOn 62 = .ok (.invokevirtual 180, 3) := by decide +kernel
theorem dX5_moveOn_65 : decode cX5_moveOn 65 = .ok (.ifCond .eq 10, 3) := by decide +kernel
theorem dX5_moveOn_68 : decode cX5_moveOn 68 = .ok (.aload_n 0, 1) := by decide +kernel
theorem dX5_moveOn_69 : decode cX5_moveOn 69 = .ok (.aload_n 1, 1) := by decide +kernel
theorem dX5_moveOn_70 : decode cX5_moveOn 70 = .ok (.aload_n 2, 1) := by decide +kernel
theorem dX5_moveOn_71 : decode cX5_moveOn 71 = .ok (.aload_n 3, 1) := by decide +kernel
theorem dX5_moveOn_72 : decode cX5_moveOn 72 = .ok (.invokevirtual 183, 3) := by decide +kernel
theorem dX5_moveOn_75 : decode cX5_moveOn 75 = .ok (.aload_n 1, 1) := by decide +kernel
theorem dX5_moveOn_76 : decode cX5_moveOn 76 = .ok (.getfield 176, 3) := by decide +kernel
theorem dX5_moveOn_79 : decode cX5_moveOn 79 = .ok (.iconst 1, 1) := by decide +kernel
theorem dX5_moveOn_80 : decode cX5_moveOn 80 = .ok (.if_icmp .ne 40, 3) := by decide +kernel
theorem dX5_moveOn_83 : decode cX5_moveOn 83 = .ok (.aload_n 0, 1) := by decide +kernel
theorem dX5_moveOn_84 : decode cX5_moveOn 84 = .ok (.aload_n 1, 1) := by decide +kernel
theorem dX5_moveOn_85 : decode cX5_moveOn 85 = .ok (.invokevirtual 187, 3) := by decide +kernel
theorem dX5_moveOn_88 : decode cX5_moveOn 88 = .ok (.aload_n 0, 1) := by decide +kernel
theorem dX5_moveOn_89 : decode cX5_moveOn 89 = .ok (.getfield 50, 3) := by decide +kernel
theorem dX5_moveOn_92 : decode cX5_moveOn 92 = .ok (.if_icmp .gt 28, 3) := by decide +kernel
theorem dX5_moveOn_95 : decode cX5_moveOn 95 = .ok (.aload_n 1, 1) := by decide +kernel
theorem dX5_moveOn_96 : decode cX5_moveOn 96 = .ok (.iconst 3, 1) := by decide +kernel
theorem dX5_moveOn_97 : decode cX5_moveOn 97 = .ok (.putfield 176, 3) := by decide +kernel
theorem dX5_moveOn_100 : decode cX5_moveOn 100 = .ok (.aload_n 0, 1) := by decide +kernel
theorem dX5_moveOn_101 : decode cX5_moveOn 101 = .ok (.getfield 18, 3) := by decide +kernel
theorem dX5_moveOn_104 : decode cX5_moveOn 104 = .ok (.iconst 4, 1) := by decide +kernel
theorem dX5_moveOn_105 : decode cX5_moveOn 105 = .ok (.aload_n 1, 1) := by decide +kernel
theorem dX5_moveOn_106 : decode cX5_moveOn 106 = .ok (.getfield 123, 3) := by decide +kernel
theorem dX5_moveOn_109 : decode cX5_moveOn 109 = .ok (.aload_n 1, 1) := by decide +kernel
theorem dX5_moveOn_110 : decode cX5_moveOn 110 = .ok (.getfield 126, 3) := by decide +kernel
theorem dX5_moveOn_113 : decode cX5_moveOn 113 = .ok (.aload_n 0, 1) := by decide +kernel
theorem dX5_moveOn_114 : decode cX5_moveOn 114 = .ok (.getfield 50, 3) := by decide +kernel
theorem dX5_moveOn_117 : decode cX5_moveOn 117 = .ok (.invokevirtual 155, 3) := by decide +kernel
theorem dX5_moveOn_120 : decode cX5_moveOn 120 = .ok (.aload_n 1, 1) := by decide +kernel
theorem dX5_moveOn_121 : decode cX5_moveOn 121 = .ok (.getfield 176, 3) := by decide +kernel
theorem dX5_moveOn_124 : decode cX5_moveOn 124 = .ok (.iconst 1, 1) := by decide +kernel
theorem dX5_moveOn_125 : decode cX5_moveOn 125 = .ok (.if_icmp .ne 16, 3) := by decide +kernel
theorem dX5_moveOn_128 : decode cX5_moveOn 128 = .ok (.aload_n 3, 1) := by decide +kernel
theorem dX5_moveOn_129 : decode cX5_moveOn 129 = .ok (.getfield 191, 3) := by decide +kernel
theorem dX5_moveOn_132 : decode cX5_moveOn 132 = .ok (.ifCond .eq 9, 3) := by decide +kernel
theorem dX5_moveOn_135 : decode cX5_moveOn 135 = .ok (.aload_n 0, 1) := by decide +kernel
theorem dX5_moveOn_136 : decode cX5_moveOn 136 = .ok (.aload_n 1, 1) := by decide +kernel
theorem dX5_moveOn_137 : decode cX5_moveOn 137 = .ok (.aload_n 2, 1) := by decide +kernel
theorem dX5_moveOn_138 : decode cX5_moveOn 138 = .ok (.invokevirtual 195, 3) := by decide +kernel
theorem dX5_moveOn_141 : decode cX5_moveOn 141 = .ok (.return_, 1) := by decide +kernel
theorem dX5_startUse_0 : decode cX5_startUse 0 = .ok (.aload_n 1, 1) := by decide +kernel
theorem dX5_startUse_1 : decode cX5_startUse 1 = .ok (.iconst 1, 1) := by decide +kernel
theorem dX5_startUse_2 : decode cX5_startUse 2 = .ok (.putfield 176, 3) := by decide +kernel
theorem dX5_startUse_5 : decode cX5_startUse 5 = .ok (.aload_n 1, 1) := by decide +kernel
theorem dX5_startUse_6 : decode cX5_startUse 6 = .ok (.aload_n 0, 1) := by decide +kernel
theorem dX5_startUse_7 : decode cX5_startUse 7 = .ok (.getfield 50, 3) := by decide +kernel
theorem dX5_startUse_10 : decode cX5_startUse 10 = .ok (.putfield 199, 3) := by decide +kernel
theorem dX5_startUse_13 : decode cX5_startUse 13 = .ok (.aload_n 1, 1) := by decide +kernel
theorem dX5_startUse_14 : decode cX5_startUse 14 = .ok (.aload_n 2, 1) := by decide +kernel
theorem dX5_startUse_15 : decode cX5_startUse 15 = .ok (.getfield 202, 3) := by decide +kernel
theorem dX5_startUse_18 : decode cX5_startUse 18 = .ok (.putfield 205, 3) := by decide +kernel
theorem dX5_startUse_21 : decode cX5_startUse 21 = .ok (.aload_n 3, 1) := by decide +kernel
theorem dX5_startUse_22 : decode cX5_startUse 22 = .ok (.dup, 1) := by decide +kernel
theorem dX5_startUse_23 : decode cX5_startUse 23 = .ok (.getfield 149, 3) := by decide +kernel
theorem dX5_startUse_26 : decode cX5_startUse 26 = .ok (.iconst 1, 1) := by decide +kernel
theorem dX5_startUse_27 : decode cX5_startUse 27 = .ok (.iadd, 1) := by decide +kernel
theorem dX5_startUse_28 : decode cX5_startUse 28 = .ok (.putfield 149, 3) := by decide +kernel
theorem dX5_startUse_31 : decode cX5_startUse 31 = .ok (.aload_n 3, 1) := by decide +kernel
theorem dX5_startUse_32 : decode cX5_startUse 32 = .ok (.dup, 1) := by decide +kernel
theorem dX5_startUse_33 : decode cX5_startUse 33 = .ok (.getfield 206, 3) := by decide +kernel
theorem dX5_startUse_36 : decode cX5_startUse 36 = .ok (.iconst 1, 1) := by decide +kernel
theorem dX5_startUse_37 : decode cX5_startUse 37 = .ok (.iadd, 1) := by decide +kernel
theorem dX5_startUse_38 : decode cX5_startUse 38 = .ok (.putfield 206, 3) := by decide +kernel
theorem dX5_startUse_41 : decode cX5_startUse 41 = .ok (.aload_n 0, 1) := by decide +kernel
theorem dX5_startUse_42 : decode cX5_startUse 42 = .ok (.getfield 18, 3) := by decide +kernel
theorem dX5_startUse_45 : decode cX5_startUse 45 = .ok (.iconst 1, 1) := by decide +kernel
theorem dX5_startUse_46 : decode cX5_startUse 46 = .ok (.aload_n 1, 1) := by decide +kernel
theorem dX5_startUse_47 : decode cX5_startUse 47 = .ok (.getfield 123, 3) := by decide +kernel
theorem dX5_startUse_50 : decode cX5_startUse 50 = .ok (.aload_n 1, 1) := by decide +kernel
theorem dX5_startUse_51 : decode cX5_startUse 51 = .ok (.getfield 126, 3) := by decide +kernel
theorem dX5_startUse_54 : decode cX5_startUse 54 = .ok (.aload_n 0, 1) := by decide +kernel
theorem dX5_startUse_55 : decode cX5_startUse 55 = .ok (.getfield 50, 3) := by decide +kernel
theorem dX5_startUse_58 : decode cX5_startUse 58 = .ok (.invokevirtual 155, 3) := by decide +kernel
theorem dX5_startUse_61 : decode cX5_startUse 61 = .ok (.aload_n 0, 1) := by decide +kernel
theorem dX5_startUse_62 : decode cX5_startUse 62 = .ok (.aload_n 2, 1) := by decide +kernel
theorem dX5_startUse_63 : decode cX5_startUse 63 = .ok (.aload_n 3, 1) := by decide +kernel
theorem dX5_startUse_64 : decode cX5_startUse 64 = .ok (.invokevirtual 209, 3) := by decide +kernel
theorem dX5_startUse_67 : decode cX5_startUse 67 = .ok (.return_, 1) := by decide +kernel
theorem dX5_bill_0 : decode cX5_bill 0 = .ok (.aload_n 2, 1) := by decide +kernel
theorem dX5_bill_1 : decode cX5_bill 1 = .ok (.getfield 213, 3) := by decide +kernel
theorem dX5_bill_4 : decode cX5_bill 4 = .ok (.i2l, 1) := by decide +kernel
theorem dX5_bill_5 : decode cX5_bill 5 = .ok (.aload_n 2, 1) := by decide +kernel
theorem dX5_bill_6 : decode cX5_bill 6 = .ok (.getfield 216, 3) := by decide +kernel
theorem dX5_bill_9 : decode cX5_bill 9 = .ok (.i2l, 1) := by decide +kernel
theorem dX5_bill_10 : decode cX5_bill 10 = .ok (.ladd, 1) := by decide +kernel
theorem dX5_bill_11 : decode cX5_bill 11 = .ok (.ldc2_w 219, 3) := by decide +kernel
theorem dX5_bill_14 : decode cX5_bill 14 = .ok (.lcmp, 1) := by decide +kernel
theorem dX5_bill_15 : decode cX5_bill 15 = .ok (.ifCond .le 14, 3) := by decide +kernel
theorem dX5_bill_18 : decode cX5_bill 18 = .ok (.aload_n 2, 1) := by decide +kernel
theorem dX5_bill_19 : decode cX5_bill 19 = .ok (.dup, 1) := by decide +kernel
theorem dX5_bill_20 : decode cX5_bill 20 = .ok (.getfield 221, 3) := by decide +kernel
theorem dX5_bill_23 : decode cX5_bill 23 = .ok (.iconst 1, 1) := by decide +kernel
theorem dX5_bill_24 : decode cX5_bill 24 = .ok (.iadd, 1) := by decide +kernel
theorem dX5_bill_25 : decode cX5_bill 25 = .ok (.putfield 221, 3) := by decide +kernel
theorem dX5_bill_28 : decode cX5_bill 28 = .ok (.return_, 1) := by decide +kernel
theorem dX5_bill_29 : decode cX5_bill 29 = .ok (.aload_n 2, 1) := by decide +kernel
theorem dX5_bill_30 : decode cX5_bill 30 = .ok (.dup, 1) := by decide +kernel
theorem dX5_bill_31 : decode cX5_bill 31 = .ok (.getfield 213, 3) := by decide +kernel
theorem dX5_bill_34 : decode cX5_bill 34 = .ok (.aload_n 2, 1) := by decide +kernel
theorem dX5_bill_35 : decode cX5_bill 35 = .ok (.getfield 216, 3) := by decide +kernel
theorem dX5_bill_38 : decode cX5_bill 38 = .ok (.iadd, 1) := by decide +kernel
theorem dX5_bill_39 : decode cX5_bill 39 = .ok (.putfield 213, 3) := by decide +kernel
theorem dX5_bill_42 : decode cX5_bill 42 = .ok (.aload_n 1, 1) := by decide +kernel
theorem dX5_bill_43 : decode cX5_bill 43 = .ok (.getfield 224, 3) := by decide +kernel
theorem dX5_bill_46 : decode cX5_bill 46 = .ok (.ifCond .gt 4, 3) := by decide +kernel
theorem dX5_bill_49 : decode cX5_bill 49 = .ok (.return_, 1) := by decide +kernel
theorem dX5_bill_50 : decode cX5_bill 50 = .ok (.aload_n 2, 1) := by decide +kernel
theorem dX5_bill_51 : decode cX5_bill 51 = .ok (.getfield 216, 3) := by decide +kernel
theorem dX5_bill_54 : decode cX5_bill 54 = .ok (.aload_n 1, 1) := by decide +kernel
theorem dX5_bill_55 : decode cX5_bill 55 = .ok (.getfield 224, 3) := by decide +kernel
theorem dX5_bill_58 : decode cX5_bill 58 = .ok (.idiv, 1) := by decide +kernel
theorem dX5_bill_59 : decode cX5_bill 59 = .ok (.istore_n 3, 1) := by decide +kernel
theorem dX5_bill_60 : decode cX5_bill 60 = .ok (.aload_n 2, 1) := by decide +kernel
theorem dX5_bill_61 : decode cX5_bill 61 = .ok (.getfield 216, 3) := by decide +kernel
theorem dX5_bill_64 : decode cX5_bill 64 = .ok (.aload_n 1, 1) := by decide +kernel
theorem dX5_bill_65 : decode cX5_bill 65 = .ok (.getfield 224, 3) := by decide +kernel
theorem dX5_bill_68 : decode cX5_bill 68 = .ok (.irem, 1) := by decide +kernel
theorem dX5_bill_69 : decode cX5_bill 69 = .ok (.istore 4, 2) := by decide +kernel
theorem dX5_bill_71 : decode cX5_bill 71 = .ok (.iconst 0, 1) := by decide +kernel
theorem dX5_bill_72 : decode cX5_bill 72 = .ok (.istore 5, 2) := by decide +kernel
theorem dX5_bill_74 : decode cX5_bill 74 = .ok (.iload 5, 2) := by decide +kernel
theorem dX5_bill_76 : decode cX5_bill 76 = .ok (.aload_n 1, 1) := by decide +kernel
theorem dX5_bill_77 : decode cX5_bill 77 = .ok (.getfield 224, 3) := by decide +kernel
theorem dX5_bill_80 : decode cX5_bill 80 = .ok (.if_icmp .ge 44, 3) := by decide +kernel
theorem dX5_bill_83 : decode cX5_bill 83 = .ok (.aload_n 0, 1) := by decide +kernel
theorem dX5_bill_84 : decode cX5_bill 84 = .ok (.aload_n 1, 1) := by decide +kernel
theorem dX5_bill_85 : decode cX5_bill 85 = .ok (.iload 5, 2) := by decide +kernel
theorem dX5_bill_87 : decode cX5_bill 87 = .ok (.invokevirtual 227, 3) := by decide +kernel
theorem dX5_bill_90 : decode cX5_bill 90 = .ok (.invokevirtual 103, 3) := by decide +kernel
theorem dX5_bill_93 : decode cX5_bill 93 = .ok (.astore 6, 2) := by decide +kernel
theorem dX5_bill_95 : decode cX5_bill 95 = .ok (.aload 6, 2) := by decide +kernel
theorem dX5_bill_97 : decode cX5_bill 97 = .ok (.ifnull 21, 3) := by decide +kernel
theorem dX5_bill_100 : decode cX5_bill 100 = .ok (.aload 6, 2) := by decide +kernel
theorem dX5_bill_102 : decode cX5_bill 102 = .ok (.iload 5, 2) := by decide +kernel
theorem dX5_bill_104 : decode cX5_bill 104 = .ok (.ifCond .ne 10, 3) := by decide +kernel
theorem dX5_bill_107 : decode cX5_bill 107 = .ok (.iload_n 3, 1) := by decide +kernel
theorem dX5_bill_108 : decode cX5_bill 108 = .ok (.iload 4, 2) := by decide +kernel
theorem dX5_bill_110 : decode cX5_bill 110 = .ok (.iadd, 1) := by decide +kernel
theorem dX5_bill_111 : decode cX5_bill 111 = .ok (.goto 4, 3) := by decide +kernel
theorem dX5_bill_114 : decode cX5_bill 114 = .ok (.iload_n 3, 1) := by decide +kernel
theorem dX5_bill_115 : decode cX5_bill 115 = .ok (.invokevirtual 231, 3) := by decide +kernel
theorem dX5_bill_118 : decode cX5_bill 118 = .ok (.iinc 5 1, 3) := by decide +kernel
theorem dX5_bill_121 : decode cX5_bill 121 = .ok (.goto (-47), 3) := by decide +kernel
theorem dX5_bill_124 : decode cX5_bill 124 = .ok (.return_, 1) := by decide +kernel
theorem dX5_reach_0 : decode cX5_reach 0 = .ok (.aload_n 2, 1) := by decide +kernel
theorem dX5_reach_1 : decode cX5_reach 1 = .ok (.getfield 132, 3) := by decide +kernel
theorem dX5_reach_4 : decode cX5_reach 4 = .ok (.iconst 3, 1) := by decide +kernel
theorem dX5_reach_5 : decode cX5_reach 5 = .ok (.if_icmp .ne 41, 3) := by decide +kernel
theorem dX5_reach_8 : decode cX5_reach 8 = .ok (.aload_n 0, 1) := by decide +kernel
theorem dX5_reach_9 : decode cX5_reach 9 = .ok (.aload_n 1, 1) := by decide +kernel
theorem dX5_reach_10 : decode cX5_reach 10 = .ok (.invokevirtual 235, 3) := by decide +kernel
theorem dX5_reach_13 : decode cX5_reach 13 = .ok (.aload_n 0, 1) := by decide +kernel
theorem dX5_reach_14 : decode cX5_reach 14 = .ok (.getfield 50, 3) := by decide +kernel
theorem dX5_reach_17 : decode cX5_reach 17 = .ok (.if_icmp .gt 29, 3) := by decide +kernel
theorem dX5_reach_20 : decode cX5_reach 20 = .ok (.aload_n 1, 1) := by decide +kernel
theorem dX5_reach_21 : decode cX5_reach 21 = .ok (.iconst 2, 1) := by decide +kernel
theorem dX5_reach_22 : decode cX5_reach 22 = .ok (.putfield 176, 3) := by decide +kernel
theorem dX5_reach_25 : decode cX5_reach 25 = .ok (.aload_n 0, 1) := by decide +kernel
theorem dX5_reach_26 : decode cX5_reach 26 = .ok (.getfield 18, 3) := by decide +kernel
theorem dX5_reach_29 : decode cX5_reach 29 = .ok (.iconst 3, 1) := by decide +kernel
theorem dX5_reach_30 : decode cX5_reach 30 = .ok (.aload_n 1, 1) := by decide +kernel
theorem dX5_reach_31 : decode cX5_reach 31 = .ok (.getfield 123, 3) := by decide +kernel
theorem dX5_reach_34 : decode cX5_reach 34 = .ok (.aload_n 1, 1) := by decide +kernel
theorem dX5_reach_35 : decode cX5_reach 35 = .ok (.getfield 126, 3) := by decide +kernel
theorem dX5_reach_38 : decode cX5_reach 38 = .ok (.aload_n 0, 1) := by decide +kernel
theorem dX5_reach_39 : decode cX5_reach 39 = .ok (.getfield 50, 3) := by decide +kernel
theorem dX5_reach_42 : decode cX5_reach 42 = .ok (.invokevirtual 155, 3) := by decide +kernel
theorem dX5_reach_45 : decode cX5_reach 45 = .ok (.return_, 1) := by decide +kernel
theorem dX5_reach_46 : decode cX5_reach 46 = .ok (.aload_n 0, 1) := by decide +kernel
theorem dX5_reach_47 : decode cX5_reach 47 = .ok (.aload_n 1, 1) := by decide +kernel
theorem dX5_reach_48 : decode cX5_reach 48 = .ok (.invokevirtual 238, 3) := by decide +kernel
theorem dX5_reach_51 : decode cX5_reach 51 = .ok (.istore_n 3, 1) := by decide +kernel
theorem dX5_reach_52 : decode cX5_reach 52 = .ok (.iconst 0, 1) := by decide +kernel
theorem dX5_reach_53 : decode cX5_reach 53 = .ok (.istore 4, 2) := by decide +kernel
theorem dX5_reach_55 : decode cX5_reach 55 = .ok (.iload 4, 2) := by decide +kernel
theorem dX5_reach_57 : decode cX5_reach 57 = .ok (.iload_n 3, 1) := by decide +kernel
theorem dX5_reach_58 : decode cX5_reach 58 = .ok (.if_icmp .ge 49, 3) := by decide +kernel
theorem dX5_reach_61 : decode cX5_reach 61 = .ok (.aload_n 1, 1) := by decide +kernel
theorem dX5_reach_62 : decode cX5_reach 62 = .ok (.dup, 1) := by decide +kernel
theorem dX5_reach_63 : decode cX5_reach 63 = .ok (.getfield 205, 3) := by decide +kernel
theorem dX5_reach_66 : decode cX5_reach 66 = .ok (.iconst 1, 1) := by decide +kernel
theorem dX5_reach_67 : decode cX5_reach 67 = .ok (.iadd, 1) := by decide +kernel
theorem dX5_reach_68 : decode cX5_reach 68 = .ok (.putfield 205, 3) := by decide +kernel
theorem dX5_reach_71 : decode cX5_reach 71 = .ok (.aload_n 0, 1) := by decide +kernel
theorem dX5_reach_72 : decode cX5_reach 72 = .ok (.dup, 1) := by decide +kernel
theorem dX5_reach_73 : decode cX5_reach 73 = .ok (.getfield 53, 3) := by decide +kernel
theorem dX5_reach_76 : decode cX5_reach 76 = .ok (.iconst 1, 1) := by decide +kernel
theorem dX5_reach_77 : decode cX5_reach 77 = .ok (.iadd, 1) := by decide +kernel
theorem dX5_reach_78 : decode cX5_reach 78 = .ok (.putfield 53, 3) := by decide +kernel
theorem dX5_reach_81 : decode cX5_reach 81 = .ok (.aload_n 0, 1) := by decide +kernel
theorem dX5_reach_82 : decode cX5_reach 82 = .ok (.getfield 18, 3) := by decide +kernel
theorem dX5_reach_85 : decode cX5_reach 85 = .ok (.iconst 2, 1) := by decide +kernel
theorem dX5_reach_86 : decode cX5_reach 86 = .ok (.aload_n 1, 1) := by decide +kernel
theorem dX5_reach_87 : decode cX5_reach 87 = .ok (.getfield 123, 3) := by decide +kernel
theorem dX5_reach_90 : decode cX5_reach 90 = .ok (.aload_n 1, 1) := by decide +kernel
theorem dX5_reach_91 : decode cX5_reach 91 = .ok (.getfield 126, 3) := by decide +kernel
theorem dX5_reach_94 : decode cX5_reach 94 = .ok (.aload_n 0, 1) := by decide +kernel
theorem dX5_reach_95 : decode cX5_reach 95 = .ok (.getfield 50, 3) := by decide +kernel
theorem dX5_reach_98 : decode cX5_reach 98 = .ok (.invokevirtual 155, 3) := by decide +kernel
theorem dX5_reach_101 : decode cX5_reach 101 = .ok (.iinc 4 1, 3) := by decide +kernel
theorem dX5_reach_104 : decode cX5_reach 104 = .ok (.goto (-49), 3) := by decide +kernel
theorem dX5_reach_107 : decode cX5_reach 107 = .ok (.return_, 1) := by decide +kernel
theorem dX5_correctionsMissing_0 : decode cX5_correctionsMissing 0 = .ok (.aload_n 0, 1) := by decide +kernel
theorem dX5_correctionsMissing_1 : decode cX5_correctionsMissing 1 = .ok (.aload_n 1, 1) := by decide +kernel
theorem dX5_correctionsMissing_2 : decode cX5_correctionsMissing 2 = .ok (.getfield 123, 3) := by decide +kernel
theorem dX5_correctionsMissing_5 : decode cX5_correctionsMissing 5 = .ok (.invokevirtual 76, 3) := by decide +kernel
theorem dX5_correctionsMissing_8 : decode cX5_correctionsMissing 8 = .ok (.astore_n 2, 1) := by decide +kernel
theorem dX5_correctionsMissing_9 : decode cX5_correctionsMissing 9 = .ok (.aload_n 2, 1) := by decide +kernel
theorem dX5_correctionsMissing_10 : decode cX5_correctionsMissing 10 = .ok (.ifnull 11, 3) := by decide +kernel
theorem dX5_correctionsMissing_13 : decode cX5_correctionsMissing 13 = .ok (.aload_n 1, 1) := by decide +kernel
theorem dX5_correctionsMissing_14 : decode cX5_correctionsMissing 14 = .ok (.getfield 176, 3) := by decide +kernel
theorem dX5_correctionsMissing_17 : decode cX5_correctionsMissing 17 = .ok (.iconst 1, 1) := by decide +kernel
theorem dX5_correctionsMissing_18 : decode cX5_correctionsMissing 18 = .ok (.if_icmp .eq 7, 3) := by decide +kernel
theorem dX5_correctionsMissing_21 : decode cX5_correctionsMissing 21 = .ok (.iconst 0, 1) := by decide +kernel
theorem dX5_correctionsMissing_22 : decode cX5_correctionsMissing 22 = .ok (.goto 12, 3) := by decide +kernel
theorem dX5_correctionsMissing_25 : decode cX5_correctionsMissing 25 = .ok (.aload_n 2, 1) := by decide +kernel
theorem dX5_correctionsMissing_26 : decode cX5_correctionsMissing 26 = .ok (.getfield 202, 3) := by decide +kernel
theorem dX5_correctionsMissing_29 : decode cX5_correctionsMissing 29 = .ok (.aload_n 1, 1) := by decide +kernel
theorem dX5_correctionsMissing_30 : decode cX5_correctionsMissing 30 = .ok (.getfield 205, 3) := by decide +kernel
theorem dX5_correctionsMissing_33 : decode cX5_correctionsMissing 33 = .ok (.isub, 1) := by decide +kernel
theorem dX5_correctionsMissing_34 : decode cX5_correctionsMissing 34 = .ok (.ireturn, 1) := by decide +kernel
theorem dX5_correctionsDue_0 : decode cX5_correctionsDue 0 = .ok (.aload_n 0, 1) := by decide +kernel
theorem dX5_correctionsDue_1 : decode cX5_correctionsDue 1 = .ok (.aload_n 1, 1) := by decide +kernel
theorem dX5_correctionsDue_2 : decode cX5_correctionsDue 2 = .ok (.getfield 123, 3) := by decide +kernel
theorem dX5_correctionsDue_5 : decode cX5_correctionsDue 5 = .ok (.invokevirtual 76, 3) := by decide +kernel
theorem dX5_correctionsDue_8 : decode cX5_correctionsDue 8 = .ok (.astore_n 2, 1) := by decide +kernel
theorem dX5_correctionsDue_9 : decode cX5_correctionsDue 9 = .ok (.aload_n 0, 1) := by decide +kernel
theorem dX5_correctionsDue_10 : decode cX5_correctionsDue 10 = .ok (.aload_n 1, 1) := by decide +kernel
theorem dX5_correctionsDue_11 : decode cX5_correctionsDue 11 = .ok (.getfield 126, 3) := by decide +kernel
theorem dX5_correctionsDue_14 : decode cX5_correctionsDue 14 = .ok (.invokevirtual 86, 3) := by decide +kernel
theorem dX5_correctionsDue_17 : decode cX5_correctionsDue 17 = .ok (.astore_n 3, 1) := by decide +kernel
theorem dX5_correctionsDue_18 : decode cX5_correctionsDue 18 = .ok (.aload_n 2, 1) := by decide +kernel
theorem dX5_correctionsDue_19 : decode cX5_correctionsDue 19 = .ok (.ifnull 15, 3) := by decide +kernel
theorem dX5_correctionsDue_22 : decode cX5_correctionsDue 22 = .ok (.aload_n 3, 1) := by decide +kernel
theorem dX5_correctionsDue_23 : decode cX5_correctionsDue 23 = .ok (.ifnull 11, 3) := by decide +kernel
theorem dX5_correctionsDue_26 : decode cX5_correctionsDue 26 = .ok (.aload_n 1, 1) := by decide +kernel
theorem dX5_correctionsDue_27 : decode cX5_correctionsDue 27 = .ok (.getfield 176, 3) := by decide +kernel
theorem dX5_correctionsDue_30 : decode cX5_correctionsDue 30 = .ok (.iconst 1, 1) := by decide +kernel
theorem dX5_correctionsDue_31 : decode cX5_correctionsDue 31 = .ok (.if_icmp .eq 5, 3) := by decide +kernel
theorem dX5_correctionsDue_34 : decode cX5_correctionsDue 34 = .ok (.iconst 0, 1) := by decide +kernel
theorem dX5_correctionsDue_35 : decode cX5_correctionsDue 35 = .ok (.ireturn, 1) := by decide +kernel
theorem dX5_correctionsDue_36 : decode cX5_correctionsDue 36 = .ok (.iconst 0, 1) := by decide +kernel
theorem dX5_correctionsDue_37 : decode cX5_correctionsDue 37 = .ok (.istore 4, 2) := by decide +kernel
theorem dX5_correctionsDue_39 : decode cX5_correctionsDue 39 = .ok (.aload_n 1, 1) := by decide +kernel
theorem dX5_correctionsDue_40 : decode cX5_correctionsDue 40 = .ok (.getfield 205, 3) := by decide +kernel
theorem dX5_correctionsDue_43 : decode cX5_correctionsDue 43 = .ok (.istore 5, 2) := by decide +kernel
theorem dX5_correctionsDue_45 : decode cX5_correctionsDue 45 = .ok (.iload 5, 2) := by decide +kernel
theorem dX5_correctionsDue_47 : decode cX5_correctionsDue 47 = .ok (.aload_n 2, 1) := by decide +kernel
theorem dX5_correctionsDue_48 : decode cX5_correctionsDue 48 = .ok (.getfield 202, 3) := by decide +kernel
theorem dX5_correctionsDue_51 : decode cX5_correctionsDue 51 = .ok (.if_icmp .ge 30, 3) := by decide +kernel
theorem dX5_correctionsDue_54 : decode cX5_correctionsDue 54 = .ok (.aload_n 2, 1) := by decide +kernel
theorem dX5_correctionsDue_55 : decode cX5_correctionsDue 55 = .ok (.iload 5, 2) := by decide +kernel
theorem dX5_correctionsDue_57 : decode cX5_correctionsDue 57 = .ok (.invokevirtual 241, 3) := by decide +kernel
theorem dX5_correctionsDue_60 : decode cX5_correctionsDue 60 = .ok (.aload_n 3, 1) := by decide +kernel
theorem dX5_correctionsDue_61 : decode cX5_correctionsDue 61 = .ok (.getfield 244, 3) := by decide +kernel
theorem dX5_correctionsDue_64 : decode cX5_correctionsDue 64 = .ok (.iadd, 1) := by decide +kernel
theorem dX5_correctionsDue_65 : decode cX5_correctionsDue 65 = .ok (.aload_n 0, 1) := by decide +kernel
theorem dX5_correctionsDue_66 : decode cX5_correctionsDue 66 = .ok (.getfield 50, 3) := by decide +kernel
theorem dX5_correctionsDue_69 : decode cX5_correctionsDue 69 = .ok (.if_icmp .gt 6, 3) := by decide +kernel
theorem dX5_correctionsDue_72 : decode cX5_correctionsDue 72 = .ok (.iinc 4 1, 3) := by decide +kernel
theorem dX5_correctionsDue_75 : decode cX5_correctionsDue 75 = .ok (.iinc 5 1, 3) := by decide +kernel
theorem dX5_correctionsDue_78 : decode cX5_correctionsDue 78 = .ok (.goto (-33), 3) := by decide +kernel
theorem dX5_correctionsDue_81 : decode cX5_correctionsDue 81 = .ok (.iload 4, 2) := by decide +kernel
theorem dX5_correctionsDue_83 : decode cX5_correctionsDue 83 = .ok (.ireturn, 1) := by decide +kernel
theorem dX5_nextCorrectionAt_0 : decode cX5_nextCorrectionAt 0 = .ok (.aload_n 0, 1) := by decide +kernel
theorem dX5_nextCorrectionAt_1 : decode cX5_nextCorrectionAt 1 = .ok (.aload_n 1, 1) := by decide +kernel
theorem dX5_nextCorrectionAt_2 : decode cX5_nextCorrectionAt 2 = .ok (.getfield 123, 3) := by decide +kernel
theorem dX5_nextCorrectionAt_5 : decode cX5_nextCorrectionAt 5 = .ok (.invokevirtual 76, 3) := by decide +kernel
theorem dX5_nextCorrectionAt_8 : decode cX5_nextCorrectionAt 8 = .ok (.astore_n 2, 1) := by decide +kernel
theorem dX5_nextCorrectionAt_9 : decode cX5_nextCorrectionAt 9 = .ok (.aload_n 0, 1) := by decide +kernel
theorem dX5_nextCorrectionAt_10 : decode cX5_nextCorrectionAt 10 = .ok (.aload_n 1, 1) := by decide +kernel
theorem dX5_nextCorrectionAt_11 : decode cX5_nextCorrectionAt 11 = .ok (.getfield 126, 3) := by decide +kernel
theorem dX5_nextCorrectionAt_14 : decode cX5_nextCorrectionAt 14 = .ok (.invokevirtual 86, 3) := by decide +kernel
theorem dX5_nextCorrectionAt_17 : decode cX5_nextCorrectionAt 17 = .ok (.astore_n 3, 1) := by decide +kernel
theorem dX5_nextCorrectionAt_18 : decode cX5_nextCorrectionAt 18 = .ok (.aload_n 2, 1) := by decide +kernel
theorem dX5_nextCorrectionAt_19 : decode cX5_nextCorrectionAt 19 = .ok (.ifnull 15, 3) := by decide +kernel
theorem dX5_nextCorrectionAt_22 : decode cX5_nextCorrectionAt 22 = .ok (.aload_n 3, 1) := by decide +kernel
theorem dX5_nextCorrectionAt_23 : decode cX5_nextCorrectionAt 23 = .ok (.ifnull 11, 3) := by decide +kernel
theorem dX5_nextCorrectionAt_26 : decode cX5_nextCorrectionAt 26 = .ok (.aload_n 0, 1) := by decide +kernel
theorem dX5_nextCorrectionAt_27 : decode cX5_nextCorrectionAt 27 = .ok (.aload_n 1, 1) := by decide +kernel
theorem dX5_nextCorrectionAt_28 : decode cX5_nextCorrectionAt 28 = .ok (.invokevirtual 247, 3) := by decide +kernel
theorem dX5_nextCorrectionAt_31 : decode cX5_nextCorrectionAt 31 = .ok (.ifCond .ne 6, 3) := by decide +kernel
theorem dX5_nextCorrectionAt_34 : decode cX5_nextCorrectionAt 34 = .ok (.bipush (-5), 2) := by decide +kernel
theorem dX5_nextCorrectionAt_36 : decode cX5_nextCorrectionAt 36 = .ok (.ireturn, 1) := by decide +kernel
theorem dX5_nextCorrectionAt_37 : decode cX5_nextCorrectionAt 37 = .ok (.aload_n 2, 1) := by decide +kernel
theorem dX5_nextCorrectionAt_38 : decode cX5_nextCorrectionAt 38 = .ok (.aload_n 1, 1) := by decide +kernel
theorem dX5_nextCorrectionAt_39 : decode cX5_nextCorrectionAt 39 = .ok (.getfield 205, 3) := by decide +kernel
theorem dX5_nextCorrectionAt_42 : decode cX5_nextCorrectionAt 42 = .ok (.invokevirtual 241, 3) := by decide +kernel
theorem dX5_nextCorrectionAt_45 : decode cX5_nextCorrectionAt 45 = .ok (.aload_n 3, 1) := by decide +kernel
theorem dX5_nextCorrectionAt_46 : decode cX5_nextCorrectionAt 46 = .ok (.getfield 244, 3) := by decide +kernel
theorem dX5_nextCorrectionAt_49 : decode cX5_nextCorrectionAt 49 = .ok (.iadd, 1) := by decide +kernel
theorem dX5_nextCorrectionAt_50 : decode cX5_nextCorrectionAt 50 = .ok (.ireturn, 1) := by decide +kernel
theorem dX5_killNoticeAt_0 : decode cX5_killNoticeAt 0 = .ok (.aload_n 0, 1) := by decide +kernel
theorem dX5_killNoticeAt_1 : decode cX5_killNoticeAt 1 = .ok (.aload_n 1, 1) := by decide +kernel
theorem dX5_killNoticeAt_2 : decode cX5_killNoticeAt 2 = .ok (.getfield 123, 3) := by decide +kernel
theorem dX5_killNoticeAt_5 : decode cX5_killNoticeAt 5 = .ok (.invokevirtual 76, 3) := by decide +kernel
theorem dX5_killNoticeAt_8 : decode cX5_killNoticeAt 8 = .ok (.astore_n 2, 1) := by decide +kernel
theorem dX5_killNoticeAt_9 : decode cX5_killNoticeAt 9 = .ok (.aload_n 0, 1) := by decide +kernel
theorem dX5_killNoticeAt_10 : decode cX5_killNoticeAt 10 = .ok (.aload_n 1, 1) := by decide +kernel
theorem dX5_killNoticeAt_11 : decode cX5_killNoticeAt 11 = .ok (.getfield 126, 3) := by decide +kernel
theorem dX5_killNoticeAt_14 : decode cX5_killNoticeAt 14 = .ok (.invokevirtual 86, 3) := by decide +kernel
theorem dX5_killNoticeAt_17 : decode cX5_killNoticeAt 17 = .ok (.astore_n 3, 1) := by decide +kernel
theorem dX5_killNoticeAt_18 : decode cX5_killNoticeAt 18 = .ok (.aload_n 2, 1) := by decide +kernel
theorem dX5_killNoticeAt_19 : decode cX5_killNoticeAt 19 = .ok (.ifnull 23, 3) := by decide +kernel
theorem dX5_killNoticeAt_22 : decode cX5_killNoticeAt 22 = .ok (.aload_n 3, 1) := by decide +kernel
theorem dX5_killNoticeAt_23 : decode cX5_killNoticeAt 23 = .ok (.ifnull 19, 3) := by decide +kernel
theorem dX5_killNoticeAt_26 : decode cX5_killNoticeAt 26 = .ok (.aload_n 2, 1) := by decide +kernel
theorem dX5_killNoticeAt_27 : decode cX5_killNoticeAt 27 = .ok (.getfield 132, 3) := by decide +kernel
theorem dX5_killNoticeAt_30 : decode cX5_killNoticeAt 30 = .ok (.iconst 3, 1) := by decide +kernel
theorem dX5_killNoticeAt_31 : decode cX5_killNoticeAt 31 = .ok (.if_icmp .ne 11, 3) := by decide +kernel
theorem dX5_killNoticeAt_34 : decode cX5_killNoticeAt 34 = .ok (.aload_n 1, 1) := by decide +kernel
theorem dX5_killNoticeAt_35 : decode cX5_killNoticeAt 35 = .ok (.getfield 176, 3) := by decide +kernel
theorem dX5_killNoticeAt_38 : decode cX5_killNoticeAt 38 = .ok (.iconst 1, 1) := by decide +kernel
theorem dX5_killNoticeAt_39 : decode cX5_killNoticeAt 39 = .ok (.if_icmp .eq 6, 3) := by decide +kernel
theorem dX5_killNoticeAt_42 : decode cX5_killNoticeAt 42 = .ok (.bipush (-5), 2) := by decide +kernel
theorem dX5_killNoticeAt_44 : decode cX5_killNoticeAt 44 = .ok (.ireturn, 1) := by decide +kernel
theorem dX5_killNoticeAt_45 : decode cX5_killNoticeAt 45 = .ok (.aload_n 2, 1) := by decide +kernel
theorem dX5_killNoticeAt_46 : decode cX5_killNoticeAt 46 = .ok (.getfield 250, 3) := by decide +kernel
theorem dX5_killNoticeAt_49 : decode cX5_killNoticeAt 49 = .ok (.aload_n 3, 1) := by decide +kernel
theorem dX5_killNoticeAt_50 : decode cX5_killNoticeAt 50 = .ok (.getfield 244, 3) := by decide +kernel
theorem dX5_killNoticeAt_53 : decode cX5_killNoticeAt 53 = .ok (.iconst 2, 1) := by decide +kernel
theorem dX5_killNoticeAt_54 : decode cX5_killNoticeAt 54 = .ok (.idiv, 1) := by decide +kernel
theorem dX5_killNoticeAt_55 : decode cX5_killNoticeAt 55 = .ok (.iadd, 1) := by decide +kernel
theorem dX5_killNoticeAt_56 : decode cX5_killNoticeAt 56 = .ok (.ireturn, 1) := by decide +kernel
theorem dX5_useEndsAt_0 : decode cX5_useEndsAt 0 = .ok (.aload_n 1, 1) := by decide +kernel
theorem dX5_useEndsAt_1 : decode cX5_useEndsAt 1 = .ok (.getfield 176, 3) := by decide +kernel
theorem dX5_useEndsAt_4 : decode cX5_useEndsAt 4 = .ok (.iconst 1, 1) := by decide +kernel
theorem dX5_useEndsAt_5 : decode cX5_useEndsAt 5 = .ok (.if_icmp .ne 18, 3) := by decide +kernel
theorem dX5_useEndsAt_8 : decode cX5_useEndsAt 8 = .ok (.aload_n 1, 1) := by decide +kernel
theorem dX5_useEndsAt_9 : decode cX5_useEndsAt 9 = .ok (.getfield 199, 3) := by decide +kernel
theorem dX5_useEndsAt_12 : decode cX5_useEndsAt 12 = .ok (.aload_n 0, 1) := by decide +kernel
theorem dX5_useEndsAt_13 : decode cX5_useEndsAt 13 = .ok (.getfield 9, 3) := by decide +kernel
theorem dX5_useEndsAt_16 : decode cX5_useEndsAt 16 = .ok (.bipush 24, 2) := by decide +kernel
theorem dX5_useEndsAt_18 : decode cX5_useEndsAt 18 = .ok (.imul, 1) := by decide +kernel
theorem dX5_useEndsAt_19 : decode cX5_useEndsAt 19 = .ok (.iadd, 1) := by decide +kernel
theorem dX5_useEndsAt_20 : decode cX5_useEndsAt 20 = .ok (.goto 5, 3) := by decide +kernel
theorem dX5_useEndsAt_23 : decode cX5_useEndsAt 23 = .ok (.bipush (-5), 2) := by decide +kernel
theorem dX5_useEndsAt_25 : decode cX5_useEndsAt 25 = .ok (.ireturn, 1) := by decide +kernel
theorem dX5_clientsFor_0 : decode cX5_clientsFor 0 = .ok (.iconst 0, 1) := by decide +kernel
theorem dX5_clientsFor_1 : decode cX5_clientsFor 1 = .ok (.istore_n 2, 1) := by decide +kernel
theorem dX5_clientsFor_2 : decode cX5_clientsFor 2 = .ok (.iconst 0, 1) := by decide +kernel
theorem dX5_clientsFor_3 : decode cX5_clientsFor 3 = .ok (.istore_n 3, 1) := by decide +kernel
theorem dX5_clientsFor_4 : decode cX5_clientsFor 4 = .ok (.iload_n 3, 1) := by decide +kernel
theorem dX5_clientsFor_5 : decode cX5_clientsFor 5 = .ok (.aload_n 0, 1) := by decide +kernel
theorem dX5_clientsFor_6 : decode cX5_clientsFor 6 = .ok (.getfield 83, 3) := by decide +kernel
theorem dX5_clientsFor_9 : decode cX5_clientsFor 9 = .ok (.if_icmp .ge 33, 3) := by decide +kernel
theorem dX5_clientsFor_12 : decode cX5_clientsFor 12 = .ok (.aload_n 0, 1) := by decide +kernel
theorem dX5_clientsFor_13 : decode cX5_clientsFor 13 = .ok (.iload_n 3, 1) := by decide +kernel
theorem dX5_clientsFor_14 : decode cX5_clientsFor 14 = .ok (.invokevirtual 86, 3) := by decide +kernel
theorem dX5_clientsFor_17 : decode cX5_clientsFor 17 = .ok (.astore 4, 2) := by decide +kernel
theorem dX5_clientsFor_19 : decode cX5_clientsFor 19 = .ok (.aload 4, 2) := by decide +kernel
theorem dX5_clientsFor_21 : decode cX5_clientsFor 21 = .ok (.ifnull 15, 3) := by decide +kernel
theorem dX5_clientsFor_24 : decode cX5_clientsFor 24 = .ok (.aload 4, 2) := by decide +kernel
theorem dX5_clientsFor_26 : decode cX5_clientsFor 26 = .ok (.iload_n 1, 1) := by decide +kernel
theorem dX5_clientsFor_27 : decode cX5_clientsFor 27 = .ok (.invokevirtual 162, 3) := by decide +kernel
theorem dX5_clientsFor_30 : decode cX5_clientsFor 30 = .ok (.ifCond .eq 6, 3) := by decide +kernel
theorem dX5_clientsFor_33 : decode cX5_clientsFor 33 = .ok (.iinc 2 1, 3) := by decide +kernel
theorem dX5_clientsFor_36 : decode cX5_clientsFor 36 = .ok (.iinc 3 1, 3) := by decide +kernel
theorem dX5_clientsFor_39 : decode cX5_clientsFor 39 = .ok (.goto (-35), 3) := by decide +kernel
theorem dX5_clientsFor_42 : decode cX5_clientsFor 42 = .ok (.iload_n 2, 1) := by decide +kernel
theorem dX5_clientsFor_43 : decode cX5_clientsFor 43 = .ok (.ireturn, 1) := by decide +kernel
theorem dX5_copiesThatCame_0 : decode cX5_copiesThatCame 0 = .ok (.iconst 0, 1) := by decide +kernel
theorem dX5_copiesThatCame_1 : decode cX5_copiesThatCame 1 = .ok (.istore_n 1, 1) := by decide +kernel
theorem dX5_copiesThatCame_2 : decode cX5_copiesThatCame 2 = .ok (.iconst 0, 1) := by decide +kernel
theorem dX5_copiesThatCame_3 : decode cX5_copiesThatCame 3 = .ok (.istore_n 2, 1) := by decide +kernel
theorem dX5_copiesThatCame_4 : decode cX5_copiesThatCame 4 = .ok (.iload_n 2, 1) := by decide +kernel
theorem dX5_copiesThatCame_5 : decode cX5_copiesThatCame 5 = .ok (.aload_n 0, 1) := by decide +kernel
theorem dX5_copiesThatCame_6 : decode cX5_copiesThatCame 6 = .ok (.getfield 83, 3) := by decide +kernel
theorem dX5_copiesThatCame_9 : decode cX5_copiesThatCame 9 = .ok (.if_icmp .ge 26, 3) := by decide +kernel
theorem dX5_copiesThatCame_12 : decode cX5_copiesThatCame 12 = .ok (.aload_n 0, 1) := by decide +kernel
theorem dX5_copiesThatCame_13 : decode cX5_copiesThatCame 13 = .ok (.iload_n 2, 1) := by decide +kernel
theorem dX5_copiesThatCame_14 : decode cX5_copiesThatCame 14 = .ok (.invokevirtual 86, 3) := by decide +kernel
theorem dX5_copiesThatCame_17 : decode cX5_copiesThatCame 17 = .ok (.astore_n 3, 1) := by decide +kernel
theorem dX5_copiesThatCame_18 : decode cX5_copiesThatCame 18 = .ok (.aload_n 3, 1) := by decide +kernel
theorem dX5_copiesThatCame_19 : decode cX5_copiesThatCame 19 = .ok (.ifnull 10, 3) := by decide +kernel
theorem dX5_copiesThatCame_22 : decode cX5_copiesThatCame 22 = .ok (.iload_n 1, 1) := by decide +kernel
theorem dX5_copiesThatCame_23 : decode cX5_copiesThatCame 23 = .ok (.aload_n 3, 1) := by decide +kernel
theorem dX5_copiesThatCame_24 : decode cX5_copiesThatCame 24 = .ok (.getfield 206, 3) := by decide +kernel
theorem dX5_copiesThatCame_27 : decode cX5_copiesThatCame 27 = .ok (.iadd, 1) := by decide +kernel
theorem dX5_copiesThatCame_28 : decode cX5_copiesThatCame 28 = .ok (.istore_n 1, 1) := by decide +kernel
theorem dX5_copiesThatCame_29 : decode cX5_copiesThatCame 29 = .ok (.iinc 2 1, 3) := by decide +kernel
theorem dX5_copiesThatCame_32 : decode cX5_copiesThatCame 32 = .ok (.goto (-28), 3) := by decide +kernel
theorem dX5_copiesThatCame_35 : decode cX5_copiesThatCame 35 = .ok (.iload_n 1, 1) := by decide +kernel
theorem dX5_copiesThatCame_36 : decode cX5_copiesThatCame 36 = .ok (.ireturn, 1) := by decide +kernel
theorem dX5_copiesOf_0 : decode cX5_copiesOf 0 = .ok (.iconst 0, 1) := by decide +kernel
theorem dX5_copiesOf_1 : decode cX5_copiesOf 1 = .ok (.istore 4, 2) := by decide +kernel
theorem dX5_copiesOf_3 : decode cX5_copiesOf 3 = .ok (.iconst 0, 1) := by decide +kernel
theorem dX5_copiesOf_4 : decode cX5_copiesOf 4 = .ok (.istore 5, 2) := by decide +kernel
theorem dX5_copiesOf_6 : decode cX5_copiesOf 6 = .ok (.iload 5, 2) := by decide +kernel
theorem dX5_copiesOf_8 : decode cX5_copiesOf 8 = .ok (.aload_n 0, 1) := by decide +kernel
theorem dX5_copiesOf_9 : decode cX5_copiesOf 9 = .ok (.getfield 93, 3) := by decide +kernel
theorem dX5_copiesOf_12 : decode cX5_copiesOf 12 = .ok (.if_icmp .ge 61, 3) := by decide +kernel
theorem dX5_copiesOf_15 : decode cX5_copiesOf 15 = .ok (.aload_n 0, 1) := by decide +kernel
theorem dX5_copiesOf_16 : decode cX5_copiesOf 16 = .ok (.iload 5, 2) := by decide +kernel
theorem dX5_copiesOf_18 : decode cX5_copiesOf 18 = .ok (.invokevirtual 96, 3) := by decide +kernel
theorem dX5_copiesOf_21 : decode cX5_copiesOf 21 = .ok (.astore 6, 2) := by decide +kernel
theorem dX5_copiesOf_23 : decode cX5_copiesOf 23 = .ok (.aload 6, 2) := by decide +kernel
theorem dX5_copiesOf_25 : decode cX5_copiesOf 25 = .ok (.ifnull 42, 3) := by decide +kernel
theorem dX5_copiesOf_28 : decode cX5_copiesOf 28 = .ok (.iload_n 1, 1) := by decide +kernel
theorem dX5_copiesOf_29 : decode cX5_copiesOf 29 = .ok (.aload 6, 2) := by decide +kernel
theorem dX5_copiesOf_31 : decode cX5_copiesOf 31 = .ok (.getfield 123, 3) := by decide +kernel
theorem dX5_copiesOf_34 : decode cX5_copiesOf 34 = .ok (.invokestatic 253, 3) := by decide +kernel
theorem dX5_copiesOf_37 : decode cX5_copiesOf 37 = .ok (.ifCond .eq 30, 3) := by decide +kernel
theorem dX5_copiesOf_40 : decode cX5_copiesOf 40 = .ok (.iload_n 2, 1) := by decide +kernel
theorem dX5_copiesOf_41 : decode cX5_copiesOf 41 = .ok (.aload 6, 2) := by decide +kernel
theorem dX5_copiesOf_43 : decode cX5_copiesOf 43 = .ok (.getfield 126, 3) := by decide +kernel
theorem dX5_copiesOf_46 : decode cX5_copiesOf 46 = .ok (.invokestatic 253, 3) := by decide +kernel
theorem dX5_copiesOf_49 : decode cX5_copiesOf 49 = .ok (.ifCond .eq 18, 3) := by decide +kernel
theorem dX5_copiesOf_52 : decode cX5_copiesOf 52 = .ok (.iload_n 3, 1) := by decide +kernel
theorem dX5_copiesOf_53 : decode cX5_copiesOf 53 = .ok (.aload 6, 2) := by decide +kernel
theorem dX5_copiesOf_55 : decode cX5_copiesOf 55 = .ok (.getfield 176, 3) := by decide +kernel
theorem dX5_copiesOf_58 : decode cX5_copiesOf 58 = .ok (.invokestatic 253, 3) := by decide +kernel
theorem dX5_copiesOf_61 : decode cX5_copiesOf 61 = .ok (.ifCond .eq 6, 3) := by decide +kernel
theorem dX5_copiesOf_64 : decode cX5_copiesOf 64 = .ok (.iinc 4 1, 3) := by decide +kernel
theorem dX5_copiesOf_67 : decode cX5_copiesOf 67 = .ok (.iinc 5 1, 3) := by decide +kernel
theorem dX5_copiesOf_70 : decode cX5_copiesOf 70 = .ok (.goto (-64), 3) := by decide +kernel
theorem dX5_copiesOf_73 : decode cX5_copiesOf 73 = .ok (.iload 4, 2) := by decide +kernel
theorem dX5_copiesOf_75 : decode cX5_copiesOf 75 = .ok (.ireturn, 1) := by decide +kernel
theorem dX5_fits_0 : decode cX5_fits 0 = .ok (.iload_n 0, 1) := by decide +kernel
theorem dX5_fits_1 : decode cX5_fits 1 = .ok (.iconst (-1), 1) := by decide +kernel
theorem dX5_fits_2 : decode cX5_fits 2 = .ok (.if_icmp .eq 8, 3) := by decide +kernel
theorem dX5_fits_5 : decode cX5_fits 5 = .ok (.iload_n 0, 1) := by decide +kernel
theorem dX5_fits_6 : decode cX5_fits 6 = .ok (.iload_n 1, 1) := by decide +kernel
theorem dX5_fits_7 : decode cX5_fits 7 = .ok (.if_icmp .ne 7, 3) := by decide +kernel
theorem dX5_fits_10 : decode cX5_fits 10 = .ok (.iconst 1, 1) := by decide +kernel
theorem dX5_fits_11 : decode cX5_fits 11 = .ok (.goto 4, 3) := by decide +kernel
theorem dX5_fits_14 : decode cX5_fits 14 = .ok (.iconst 0, 1) := by decide +kernel
theorem dX5_fits_15 : decode cX5_fits 15 = .ok (.ireturn, 1) := by decide +kernel
theorem dX5_upToDateCopies_0 : decode cX5_upToDateCopies 0 = .ok (.iconst 0, 1) := by decide +kernel
theorem dX5_upToDateCopies_1 : decode cX5_upToDateCopies 1 = .ok (.istore_n 2, 1) := by decide +kernel
theorem dX5_upToDateCopies_2 : decode cX5_upToDateCopies 2 = .ok (.iconst 0, 1) := by decide +kernel
theorem dX5_upToDateCopies_3 : decode cX5_upToDateCopies 3 = .ok (.istore_n 3, 1) := by decide +kernel
theorem dX5_upToDateCopies_4 : decode cX5_upToDateCopies 4 = .ok (.iload_n 3, 1) := by decide +kernel
theorem dX5_upToDateCopies_5 : decode cX5_upToDateCopies 5 = .ok (.aload_n 0, 1) := by decide +kernel
theorem dX5_upToDateCopies_6 : decode cX5_upToDateCopies 6 = .ok (.getfield 93, 3) := by decide +kernel
theorem dX5_upToDateCopies_9 : decode cX5_upToDateCopies 9 = .ok (.if_icmp .ge 51, 3) := by decide +kernel
theorem dX5_upToDateCopies_12 : decode cX5_upToDateCopies 12 = .ok (.aload_n 0, 1) := by decide +kernel
theorem dX5_upToDateCopies_13 : decode cX5_upToDateCopies 13 = .ok (.iload_n 3, 1) := by decide +kernel
theorem dX5_upToDateCopies_14 : decode cX5_upToDateCopies 14 = .ok (.invokevirtual 96, 3) := by decide +kernel
theorem dX5_upToDateCopies_17 : decode cX5_upToDateCopies 17 = .ok (.astore 4, 2) := by decide +kernel
theorem dX5_upToDateCopies_19 : decode cX5_upToDateCopies 19 = .ok (.aload 4, 2) := by decide +kernel
theorem dX5_upToDateCopies_21 : decode cX5_upToDateCopies 21 = .ok (.ifnull 33, 3) := by decide +kernel
theorem dX5_upToDateCopies_24 : decode cX5_upToDateCopies 24 = .ok (.aload 4, 2) := by decide +kernel
theorem dX5_upToDateCopies_26 : decode cX5_upToDateCopies 26 = .ok (.getfield 123, 3) := by decide +kernel
theorem dX5_upToDateCopies_29 : decode cX5_upToDateCopies 29 = .ok (.iload_n 1, 1) := by decide +kernel
theorem dX5_upToDateCopies_30 : decode cX5_upToDateCopies 30 = .ok (.if_icmp .ne 24, 3) := by decide +kernel
theorem dX5_upToDateCopies_33 : decode cX5_upToDateCopies 33 = .ok (.aload 4, 2) := by decide +kernel
theorem dX5_upToDateCopies_35 : decode cX5_upToDateCopies 35 = .ok (.getfield 176, 3) := by decide +kernel
theorem dX5_upToDateCopies_38 : decode cX5_upToDateCopies 38 = .ok (.iconst 1, 1) := by decide +kernel
theorem dX5_upToDateCopies_39 : decode cX5_upToDateCopies 39 = .ok (.if_icmp .ne 15, 3) := by decide +kernel
theorem dX5_upToDateCopies_42 : decode cX5_upToDateCopies 42 = .ok (.aload_n 0, 1) := by decide +kernel
theorem dX5_upToDateCopies_43 : decode cX5_upToDateCopies 43 = .ok (.aload 4, 2) := by decide +kernel
theorem dX5_upToDateCopies_45 : decode cX5_upToDateCopies 45 = .ok (.invokevirtual 247, 3) := by decide +kernel
theorem dX5_upToDateCopies_48 : decode cX5_upToDateCopies 48 = .ok (.ifCond .ne 6, 3) := by decide +kernel
theorem dX5_upToDateCopies_51 : decode cX5_upToDateCopies 51 = .ok (.iinc 2 1, 3) := by decide +kernel
theorem dX5_upToDateCopies_54 : decode cX5_upToDateCopies 54 = .ok (.iinc 3 1, 3) := by decide +kernel
theorem dX5_upToDateCopies_57 : decode cX5_upToDateCopies 57 = .ok (.goto (-53), 3) := by decide +kernel
theorem dX5_upToDateCopies_60 : decode cX5_upToDateCopies 60 = .ok (.iload_n 2, 1) := by decide +kernel
theorem dX5_upToDateCopies_61 : decode cX5_upToDateCopies 61 = .ok (.ireturn, 1) := by decide +kernel
theorem dX5_copiesWithCorrectionsDue_0 : decode cX5_copiesWithCorrectionsDue 0 = .ok (.iconst 0, 1) := by decide +kernel
theorem dX5_copiesWithCorrectionsDue_1 : decode cX5_copiesWithCorrectionsDue 1 = .ok (.istore_n 1, 1) := by decide +kernel
theorem dX5_copiesWithCorrectionsDue_2 : decode cX5_copiesWithCorrectionsDue 2 = .ok (.iconst 0, 1) := by decide +kernel
theorem dX5_copiesWithCorrectionsDue_3 : decode cX5_copiesWithCorrectionsDue 3 = .ok (.istore_n 2, 1) := by decide +kernel
theorem dX5_copiesWithCorrectionsDue_4 : decode cX5_copiesWithCorrectionsDue 4 = .ok (.iload_n 2, 1) := by decide +kernel
theorem dX5_copiesWithCorrectionsDue_5 : decode cX5_copiesWithCorrectionsDue 5 = .ok (.aload_n 0, 1) := by decide +kernel
theorem dX5_copiesWithCorrectionsDue_6 : decode cX5_copiesWithCorrectionsDue 6 = .ok (.getfield 93, 3) := by decide +kernel
theorem dX5_copiesWithCorrectionsDue_9 : decode cX5_copiesWithCorrectionsDue 9 = .ok (.if_icmp .ge 30, 3) := by decide +kernel
theorem dX5_copiesWithCorrectionsDue_12 : decode cX5_copiesWithCorrectionsDue 12 = .ok (.aload_n 0, 1) := by decide +kernel
theorem dX5_copiesWithCorrectionsDue_13 : decode cX5_copiesWithCorrectionsDue 13 = .ok (.iload_n 2, 1) := by decide +kernel
theorem dX5_copiesWithCorrectionsDue_14 : decode cX5_copiesWithCorrectionsDue 14 = .ok (.invokevirtual 96, 3) := by decide +kernel
theorem dX5_copiesWithCorrectionsDue_17 : decode cX5_copiesWithCorrectionsDue 17 = .ok (.astore_n 3, 1) := by decide +kernel
theorem dX5_copiesWithCorrectionsDue_18 : decode cX5_copiesWithCorrectionsDue 18 = .ok (.aload_n 3, 1) := by decide +kernel
theorem dX5_copiesWithCorrectionsDue_19 : decode cX5_copiesWithCorrectionsDue 19 = .ok (.ifnull 14, 3) := by decide +kernel
theorem dX5_copiesWithCorrectionsDue_22 : decode cX5_copiesWithCorrectionsDue 22 = .ok (.aload_n 0, 1) := by decide +kernel
theorem dX5_copiesWithCorrectionsDue_23 : decode cX5_copiesWithCorrectionsDue 23 = .ok (.aload_n 3, 1) := by decide +kernel
theorem dX5_copiesWithCorrectionsDue_24 : decode cX5_copiesWithCorrectionsDue 24 = .ok (.invokevirtual 238, 3) := by decide +kernel
theorem dX5_copiesWithCorrectionsDue_27 : decode cX5_copiesWithCorrectionsDue 27 = .ok (.ifCond .le 6, 3) := by decide +kernel
theorem dX5_copiesWithCorrectionsDue_30 : decode cX5_copiesWithCorrectionsDue 30 = .ok (.iinc 1 1, 3) := by decide +kernel
theorem dX5_copiesWithCorrectionsDue_33 : decode cX5_copiesWithCorrectionsDue 33 = .ok (.iinc 2 1, 3) := by decide +kernel
theorem dX5_copiesWithCorrectionsDue_36 : decode cX5_copiesWithCorrectionsDue 36 = .ok (.goto (-32), 3) := by decide +kernel
theorem dX5_copiesWithCorrectionsDue_39 : decode cX5_copiesWithCorrectionsDue 39 = .ok (.iload_n 1, 1) := by decide +kernel
theorem dX5_copiesWithCorrectionsDue_40 : decode cX5_copiesWithCorrectionsDue 40 = .ok (.ireturn, 1) := by decide +kernel
theorem dX5_storiesBy_0 : decode cX5_storiesBy 0 = .ok (.iconst 0, 1) := by decide +kernel
theorem dX5_storiesBy_1 : decode cX5_storiesBy 1 = .ok (.istore_n 2, 1) := by decide +kernel
theorem dX5_storiesBy_2 : decode cX5_storiesBy 2 = .ok (.iconst 0, 1) := by decide +kernel
theorem dX5_storiesBy_3 : decode cX5_storiesBy 3 = .ok (.istore_n 3, 1) := by decide +kernel
theorem dX5_storiesBy_4 : decode cX5_storiesBy 4 = .ok (.iload_n 3, 1) := by decide +kernel
theorem dX5_storiesBy_5 : decode cX5_storiesBy 5 = .ok (.aload_n 0, 1) := by decide +kernel
theorem dX5_storiesBy_6 : decode cX5_storiesBy 6 = .ok (.getfield 73, 3) := by decide +kernel
theorem dX5_storiesBy_9 : decode cX5_storiesBy 9 = .ok (.if_icmp .ge 33, 3) := by decide +kernel
theorem dX5_storiesBy_12 : decode cX5_storiesBy 12 = .ok (.aload_n 0, 1) := by decide +kernel
theorem dX5_storiesBy_13 : decode cX5_storiesBy 13 = .ok (.iload_n 3, 1) := by decide +kernel
theorem dX5_storiesBy_14 : decode cX5_storiesBy 14 = .ok (.invokevirtual 76, 3) := by decide +kernel
theorem dX5_storiesBy_17 : decode cX5_storiesBy 17 = .ok (.astore 4, 2) := by decide +kernel
theorem dX5_storiesBy_19 : decode cX5_storiesBy 19 = .ok (.aload 4, 2) := by decide +kernel
theorem dX5_storiesBy_21 : decode cX5_storiesBy 21 = .ok (.ifnull 15, 3) := by decide +kernel
theorem dX5_storiesBy_24 : decode cX5_storiesBy 24 = .ok (.aload 4, 2) := by decide +kernel
theorem dX5_storiesBy_26 : decode cX5_storiesBy 26 = .ok (.iload_n 1, 1) := by decide +kernel
theorem dX5_storiesBy_27 : decode cX5_storiesBy 27 = .ok (.invokevirtual 256, 3) := by decide +kernel
theorem dX5_storiesBy_30 : decode cX5_storiesBy 30 = .ok (.ifCond .eq 6, 3) := by decide +kernel
theorem dX5_storiesBy_33 : decode cX5_storiesBy 33 = .ok (.iinc 2 1, 3) := by decide +kernel
theorem dX5_storiesBy_36 : decode cX5_storiesBy 36 = .ok (.iinc 3 1, 3) := by decide +kernel
theorem dX5_storiesBy_39 : decode cX5_storiesBy 39 = .ok (.goto (-35), 3) := by decide +kernel
theorem dX5_storiesBy_42 : decode cX5_storiesBy 42 = .ok (.iload_n 2, 1) := by decide +kernel
theorem dX5_storiesBy_43 : decode cX5_storiesBy 43 = .ok (.ireturn, 1) := by decide +kernel
theorem dX5_copiesInUseBy_0 : decode cX5_copiesInUseBy 0 = .ok (.iconst 0, 1) := by decide +kernel
theorem dX5_copiesInUseBy_1 : decode cX5_copiesInUseBy 1 = .ok (.istore_n 2, 1) := by decide +kernel
theorem dX5_copiesInUseBy_2 : decode cX5_copiesInUseBy 2 = .ok (.iconst 0, 1) := by decide +kernel
theorem dX5_copiesInUseBy_3 : decode cX5_copiesInUseBy 3 = .ok (.istore_n 3, 1) := by decide +kernel
theorem dX5_copiesInUseBy_4 : decode cX5_copiesInUseBy 4 = .ok (.iload_n 3, 1) := by decide +kernel
theorem dX5_copiesInUseBy_5 : decode cX5_copiesInUseBy 5 = .ok (.aload_n 0, 1) := by decide +kernel
theorem dX5_copiesInUseBy_6 : decode cX5_copiesInUseBy 6 = .ok (.getfield 73, 3) := by decide +kernel
theorem dX5_copiesInUseBy_9 : decode cX5_copiesInUseBy 9 = .ok (.if_icmp .ge 40, 3) := by decide +kernel
theorem dX5_copiesInUseBy_12 : decode cX5_copiesInUseBy 12 = .ok (.aload_n 0, 1) := by decide +kernel
theorem dX5_copiesInUseBy_13 : decode cX5_copiesInUseBy 13 = .ok (.iload_n 3, 1) := by decide +kernel
theorem dX5_copiesInUseBy_14 : decode cX5_copiesInUseBy 14 = .ok (.invokevirtual 76, 3) := by decide +kernel
theorem dX5_copiesInUseBy_17 : decode cX5_copiesInUseBy 17 = .ok (.astore 4, 2) := by decide +kernel
theorem dX5_copiesInUseBy_19 : decode cX5_copiesInUseBy 19 = .ok (.aload 4, 2) := by decide +kernel
theorem dX5_copiesInUseBy_21 : decode cX5_copiesInUseBy 21 = .ok (.ifnull 22, 3) := by decide +kernel
theorem dX5_copiesInUseBy_24 : decode cX5_copiesInUseBy 24 = .ok (.aload 4, 2) := by decide +kernel
theorem dX5_copiesInUseBy_26 : decode cX5_copiesInUseBy 26 = .ok (.iload_n 1, 1) := by decide +kernel
theorem dX5_copiesInUseBy_27 : decode cX5_copiesInUseBy 27 = .ok (.invokevirtual 256, 3) := by decide +kernel
theorem dX5_copiesInUseBy_30 : decode cX5_copiesInUseBy 30 = .ok (.ifCond .eq 13, 3) := by decide +kernel
theorem dX5_copiesInUseBy_33 : decode cX5_copiesInUseBy 33 = .ok (.iload_n 2, 1) := by decide +kernel
theorem dX5_copiesInUseBy_34 : decode cX5_copiesInUseBy 34 = .ok (.aload_n 0, 1) := by decide +kernel
theorem dX5_copiesInUseBy_35 : decode cX5_copiesInUseBy 35 = .ok (.iload_n 3, 1) := by decide +kernel
theorem dX5_copiesInUseBy_36 : decode cX5_copiesInUseBy 36 = .ok (.iconst (-1), 1) := by decide +kernel
theorem dX5_copiesInUseBy_37 : decode cX5_copiesInUseBy 37 = .ok (.iconst 1, 1) := by decide +kernel
theorem dX5_copiesInUseBy_38 : decode cX5_copiesInUseBy 38 = .ok (.invokevirtual 259, 3) := by decide +kernel
theorem dX5_copiesInUseBy_41 : decode cX5_copiesInUseBy 41 = .ok (.iadd, 1) := by decide +kernel
theorem dX5_copiesInUseBy_42 : decode cX5_copiesInUseBy 42 = .ok (.istore_n 2, 1) := by decide +kernel
theorem dX5_copiesInUseBy_43 : decode cX5_copiesInUseBy 43 = .ok (.iinc 3 1, 3) := by decide +kernel
theorem dX5_copiesInUseBy_46 : decode cX5_copiesInUseBy 46 = .ok (.goto (-42), 3) := by decide +kernel
theorem dX5_copiesInUseBy_49 : decode cX5_copiesInUseBy 49 = .ok (.iload_n 2, 1) := by decide +kernel
theorem dX5_copiesInUseBy_50 : decode cX5_copiesInUseBy 50 = .ok (.ireturn, 1) := by decide +kernel
theorem dX5_authors_0 : decode cX5_authors 0 = .ok (.iconst 0, 1) := by decide +kernel
theorem dX5_authors_1 : decode cX5_authors 1 = .ok (.istore_n 1, 1) := by decide +kernel
theorem dX5_authors_2 : decode cX5_authors 2 = .ok (.iconst 0, 1) := by decide +kernel
theorem dX5_authors_3 : decode cX5_authors 3 = .ok (.istore_n 2, 1) := by decide +kernel
theorem dX5_authors_4 : decode cX5_authors 4 = .ok (.iload_n 2, 1) := by decide +kernel
theorem dX5_authors_5 : decode cX5_authors 5 = .ok (.bipush 10, 2) := by decide +kernel
theorem dX5_authors_7 : decode cX5_authors 7 = .ok (.if_icmp .ge 20, 3) := by decide +kernel
theorem dX5_authors_10 : decode cX5_authors 10 = .ok (.aload_n 0, 1) := by decide +kernel
theorem dX5_authors_11 : decode cX5_authors 11 = .ok (.iload_n 2, 1) := by decide +kernel
theorem dX5_authors_12 : decode cX5_authors 12 = .ok (.invokevirtual 263, 3) := by decide +kernel
theorem dX5_authors_15 : decode cX5_authors 15 = .ok (.ifCond .le 6, 3) := by decide +kernel
theorem dX5_authors_18 : decode cX5_authors 18 = .ok (.iinc 1 1, 3) := by decide +kernel
theorem dX5_authors_21 : decode cX5_authors 21 = .ok (.iinc 2 1, 3) := by decide +kernel
theorem dX5_authors_24 : decode cX5_authors 24 = .ok (.goto (-20), 3) := by decide +kernel
theorem dX5_authors_27 : decode cX5_authors 27 = .ok (.iload_n 1, 1) := by decide +kernel
theorem dX5_authors_28 : decode cX5_authors 28 = .ok (.ireturn, 1) := by decide +kernel
theorem dX6_init_0 : decode cX6_init 0 = .ok (.aload_n 0, 1) := by decide +kernel
theorem dX6_init_1 : decode cX6_init 1 = .ok (.invokespecial 3, 3) := by decide +kernel
theorem dX6_init_4 : decode cX6_init 4 = .ok (.aload_n 0, 1) := by decide +kernel
theorem dX6_init_5 : decode cX6_init 5 = .ok (.iconst 3, 1) := by decide +kernel
theorem dX6_init_6 : decode cX6_init 6 = .ok (.newarray .int, 2) := by decide +kernel
theorem dX6_init_8 : decode cX6_init 8 = .ok (.putfield 9, 3) := by decide +kernel
theorem dX6_init_11 : decode cX6_init 11 = .ok (.aload_n 0, 1) := by decide +kernel
theorem dX6_init_12 : decode cX6_init 12 = .ok (.bipush 12, 2) := by decide +kernel
theorem dX6_init_14 : decode cX6_init 14 = .ok (.newarray .int, 2) := by decide +kernel
theorem dX6_init_16 : decode cX6_init 16 = .ok (.putfield 15, 3) := by decide +kernel
theorem dX6_init_19 : decode cX6_init 19 = .ok (.aload_n 0, 1) := by decide +kernel
theorem dX6_init_20 : decode cX6_init 20 = .ok (.bipush 6, 2) := by decide +kernel
theorem dX6_init_22 : decode cX6_init 22 = .ok (.newarray .int, 2) := by decide +kernel
theorem dX6_init_24 : decode cX6_init 24 = .ok (.putfield 18, 3) := by decide +kernel
theorem dX6_init_27 : decode cX6_init 27 = .ok (.return_, 1) := by decide +kernel
theorem dX6_begin_0 : decode cX6_begin 0 = .ok (.aload_n 0, 1) := by decide +kernel
theorem dX6_begin_1 : decode cX6_begin 1 = .ok (.aload_n 1, 1) := by decide +kernel
theorem dX6_begin_2 : decode cX6_begin 2 = .ok (.getfield 21, 3) := by decide +kernel
theorem dX6_begin_5 : decode cX6_begin 5 = .ok (.putfield 27, 3) := by decide +kernel
theorem dX6_begin_8 : decode cX6_begin 8 = .ok (.aload_n 0, 1) := by decide +kernel
theorem dX6_begin_9 : decode cX6_begin 9 = .ok (.aload_n 1, 1) := by decide +kernel
theorem dX6_begin_10 : decode cX6_begin 10 = .ok (.getfield 28, 3) := by decide +kernel
theorem dX6_begin_13 : decode cX6_begin 13 = .ok (.putfield 31, 3) := by decide +kernel
theorem dX6_begin_16 : decode cX6_begin 16 = .ok (.aload_n 1, 1) := by decide +kernel
theorem dX6_begin_17 : decode cX6_begin 17 = .ok (.getfield 32, 3) := by decide +kernel
theorem dX6_begin_20 : decode cX6_begin 20 = .ok (.aload_n 0, 1) := by decide +kernel
theorem dX6_begin_21 : decode cX6_begin 21 = .ok (.getfield 9, 3) := by decide +kernel
theorem dX6_begin_24 : decode cX6_begin 24 = .ok (.invokestatic 33, 3) := by decide +kernel
theorem dX6_begin_27 : decode cX6_begin 27 = .ok (.aload_n 0, 1) := by decide +kernel
theorem dX6_begin_28 : decode cX6_begin 28 = .ok (.aload_n 1, 1) := by decide +kernel
theorem dX6_begin_29 : decode cX6_begin 29 = .ok (.getfield 37, 3) := by decide +kernel
theorem dX6_begin_32 : decode cX6_begin 32 = .ok (.putfield 40, 3) := by decide +kernel
theorem dX6_begin_35 : decode cX6_begin 35 = .ok (.aload_n 0, 1) := by decide +kernel
theorem dX6_begin_36 : decode cX6_begin 36 = .ok (.aload_n 1, 1) := by decide +kernel
theorem dX6_begin_37 : decode cX6_begin 37 = .ok (.getfield 41, 3) := by decide +kernel
theorem dX6_begin_40 : decode cX6_begin 40 = .ok (.putfield 44, 3) := by decide +kernel
theorem dX6_begin_43 : decode cX6_begin 43 = .ok (.aload_n 1, 1) := by decide +kernel
theorem dX6_begin_44 : decode cX6_begin 44 = .ok (.getfield 45, 3) := by decide +kernel
theorem dX6_begin_47 : decode cX6_begin 47 = .ok (.aload_n 0, 1) := by decide +kernel
theorem dX6_begin_48 : decode cX6_begin 48 = .ok (.getfield 15, 3) := by decide +kernel
theorem dX6_begin_51 : decode cX6_begin 51 = .ok (.invokestatic 33, 3) := by decide +kernel
theorem dX6_begin_54 : decode cX6_begin 54 = .ok (.aload_n 0, 1) := by decide +kernel
theorem dX6_begin_55 : decode cX6_begin 55 = .ok (.iconst 0, 1) := by decide +kernel
theorem dX6_begin_56 : decode cX6_begin 56 = .ok (.putfield 46, 3) := by decide +kernel
theorem dX6_begin_59 : decode cX6_begin 59 = .ok (.aload_n 0, 1) := by decide +kernel
theorem dX6_begin_60 : decode cX6_begin 60 = .ok (.iconst 0, 1) := by decide +kernel
theorem dX6_begin_61 : decode cX6_begin 61 = .ok (.putfield 49, 3) := by decide +kernel
theorem dX6_begin_64 : decode cX6_begin 64 = .ok (.aload_n 0, 1) := by decide +kernel
theorem dX6_begin_65 : decode cX6_begin 65 = .ok (.bipush (-5), 2) := by decide +kernel
theorem dX6_begin_67 : decode cX6_begin 67 = .ok (.putfield 52, 3) := by decide +kernel
theorem dX6_begin_70 : decode cX6_begin 70 = .ok (.aload_n 0, 1) := by decide +kernel
theorem dX6_begin_71 : decode cX6_begin 71 = .ok (.bipush (-5), 2) := by decide +kernel
theorem dX6_begin_73 : decode cX6_begin 73 = .ok (.putfield 55, 3) := by decide +kernel
theorem dX6_begin_76 : decode cX6_begin 76 = .ok (.return_, 1) := by decide +kernel
theorem dX6_copyFrom_0 : decode cX6_copyFrom 0 = .ok (.aload_n 0, 1) := by decide +kernel
theorem dX6_copyFrom_1 : decode cX6_copyFrom 1 = .ok (.aload_n 1, 1) := by decide +kernel
theorem dX6_copyFrom_2 : decode cX6_copyFrom 2 = .ok (.getfield 27, 3) := by decide +kernel
theorem dX6_copyFrom_5 : decode cX6_copyFrom 5 = .ok (.putfield 27, 3) := by decide +kernel
theorem dX6_copyFrom_8 : decode cX6_copyFrom 8 = .ok (.aload_n 0, 1) := by decide +kernel
theorem dX6_copyFrom_9 : decode cX6_copyFrom 9 = .ok (.aload_n 1, 1) := by decide +kernel
theorem dX6_copyFrom_10 : decode cX6_copyFrom 10 = .ok (.getfield 31, 3) := by decide +kernel
theorem dX6_copyFrom_13 : decode cX6_copyFrom 13 = .ok (.putfield 31, 3) := by decide +kernel
theorem dX6_copyFrom_16 : decode cX6_copyFrom 16 = .ok (.aload_n 1, 1) := by decide +kernel
theorem dX6_copyFrom_17 : decode cX6_copyFrom 17 = .ok (.getfield 9, 3) := by decide +kernel
theorem dX6_copyFrom_20 : decode cX6_copyFrom 20 = .ok (.aload_n 0, 1) := by decide +kernel
theorem dX6_copyFrom_21 : decode cX6_copyFrom 21 = .ok (.getfield 9, 3) := by decide +kernel
theorem dX6_copyFrom_24 : decode cX6_copyFrom 24 = .ok (.invokestatic 33, 3) := by decide +kernel
theorem dX6_copyFrom_27 : decode cX6_copyFrom 27 = .ok (.aload_n 0, 1) := by decide +kernel
theorem dX6_copyFrom_28 : decode cX6_copyFrom 28 = .ok (.aload_n 1, 1) := by decide +kernel
theorem dX6_copyFrom_29 : decode cX6_copyFrom 29 = .ok (.getfield 40, 3) := by decide +kernel
theorem dX6_copyFrom_32 : decode cX6_copyFrom 32 = .ok (.putfield 40, 3) := by decide +kernel
theorem dX6_copyFrom_35 : decode cX6_copyFrom 35 = .ok (.aload_n 0, 1) := by decide +kernel
theorem dX6_copyFrom_36 : decode cX6_copyFrom 36 = .ok (.aload_n 1, 1) := by decide +kernel
theorem dX6_copyFrom_37 : decode cX6_copyFrom 37 = .ok (.getfield 44, 3) := by decide +kernel
theorem dX6_copyFrom_40 : decode cX6_copyFrom 40 = .ok (.putfield 44, 3) := by decide +kernel
theorem dX6_copyFrom_43 : decode cX6_copyFrom 43 = .ok (.aload_n 1, 1) := by decide +kernel
theorem dX6_copyFrom_44 : decode cX6_copyFrom 44 = .ok (.getfield 15, 3) := by decide +kernel
theorem dX6_copyFrom_47 : decode cX6_copyFrom 47 = .ok (.aload_n 0, 1) := by decide +kernel
theorem dX6_copyFrom_48 : decode cX6_copyFrom 48 = .ok (.getfield 15, 3) := by decide +kernel
theorem dX6_copyFrom_51 : decode cX6_copyFrom 51 = .ok (.invokestatic 33, 3) := by decide +kernel
theorem dX6_copyFrom_54 : decode cX6_copyFrom 54 = .ok (.aload_n 0, 1) := by decide +kernel
theorem dX6_copyFrom_55 : decode cX6_copyFrom 55 = .ok (.aload_n 1, 1) := by decide +kernel
theorem dX6_copyFrom_56 : decode cX6_copyFrom 56 = .ok (.getfield 46, 3) := by decide +kernel
theorem dX6_copyFrom_59 : decode cX6_copyFrom 59 = .ok (.putfield 46, 3) := by decide +kernel
theorem dX6_copyFrom_62 : decode cX6_copyFrom 62 = .ok (.aload_n 0, 1) := by decide +kernel
theorem dX6_copyFrom_63 : decode cX6_copyFrom 63 = .ok (.aload_n 1, 1) := by decide +kernel
theorem dX6_copyFrom_64 : decode cX6_copyFrom 64 = .ok (.getfield 49, 3) := by decide +kernel
theorem dX6_copyFrom_67 : decode cX6_copyFrom 67 = .ok (.putfield 49, 3) := by decide +kernel
theorem dX6_copyFrom_70 : decode cX6_copyFrom 70 = .ok (.aload_n 1, 1) := by decide +kernel
theorem dX6_copyFrom_71 : decode cX6_copyFrom 71 = .ok (.getfield 18, 3) := by decide +kernel
theorem dX6_copyFrom_74 : decode cX6_copyFrom 74 = .ok (.aload_n 0, 1) := by decide +kernel
theorem dX6_copyFrom_75 : decode cX6_copyFrom 75 = .ok (.getfield 18, 3) := by decide +kernel
theorem dX6_copyFrom_78 : decode cX6_copyFrom 78 = .ok (.invokestatic 33, 3) := by decide +kernel
theorem dX6_copyFrom_81 : decode cX6_copyFrom 81 = .ok (.aload_n 0, 1) := by decide +kernel
theorem dX6_copyFrom_82 : decode cX6_copyFrom 82 = .ok (.aload_n 1, 1) := by decide +kernel
theorem dX6_copyFrom_83 : decode cX6_copyFrom 83 = .ok (.getfield 52, 3) := by decide +kernel
theorem dX6_copyFrom_86 : decode cX6_copyFrom 86 = .ok (.putfield 52, 3) := by decide +kernel
theorem dX6_copyFrom_89 : decode cX6_copyFrom 89 = .ok (.aload_n 0, 1) := by decide +kernel
theorem dX6_copyFrom_90 : decode cX6_copyFrom 90 = .ok (.aload_n 1, 1) := by decide +kernel
theorem dX6_copyFrom_91 : decode cX6_copyFrom 91 = .ok (.getfield 55, 3) := by decide +kernel
theorem dX6_copyFrom_94 : decode cX6_copyFrom 94 = .ok (.putfield 55, 3) := by decide +kernel
theorem dX6_copyFrom_97 : decode cX6_copyFrom 97 = .ok (.return_, 1) := by decide +kernel
theorem dX6_addCorrection_0 : decode cX6_addCorrection 0 = .ok (.aload_n 0, 1) := by decide +kernel
theorem dX6_addCorrection_1 : decode cX6_addCorrection 1 = .ok (.getfield 49, 3) := by decide +kernel
theorem dX6_addCorrection_4 : decode cX6_addCorrection 4 = .ok (.aload_n 0, 1) := by decide +kernel
theorem dX6_addCorrection_5 : decode cX6_addCorrection 5 = .ok (.getfield 18, 3) := by decide +kernel
theorem dX6_addCorrection_8 : decode cX6_addCorrection 8 = .ok (.arraylength, 1) := by decide +kernel
theorem dX6_addCorrection_9 : decode cX6_addCorrection 9 = .ok (.invokestatic 58, 3) := by decide +kernel
theorem dX6_addCorrection_12 : decode cX6_addCorrection 12 = .ok (.ifCond .eq 23, 3) := by decide +kernel
theorem dX6_addCorrection_15 : decode cX6_addCorrection 15 = .ok (.aload_n 0, 1) := by decide +kernel
theorem dX6_addCorrection_16 : decode cX6_addCorrection 16 = .ok (.getfield 18, 3) := by decide +kernel
theorem dX6_addCorrection_19 : decode cX6_addCorrection 19 = .ok (.aload_n 0, 1) := by decide +kernel
theorem dX6_addCorrection_20 : decode cX6_addCorrection 20 = .ok (.getfield 49, 3) := by decide +kernel
theorem dX6_addCorrection_23 : decode cX6_addCorrection 23 = .ok (.iload_n 1, 1) := by decide +kernel
theorem dX6_addCorrection_24 : decode cX6_addCorrection 24 = .ok (.iastore, 1) := by decide +kernel
theorem dX6_addCorrection_25 : decode cX6_addCorrection 25 = .ok (.aload_n 0, 1) := by decide +kernel
theorem dX6_addCorrection_26 : decode cX6_addCorrection 26 = .ok (.dup, 1) := by decide +kernel
theorem dX6_addCorrection_27 : decode cX6_addCorrection 27 = .ok (.getfield 49, 3) := by decide +kernel
theorem dX6_addCorrection_30 : decode cX6_addCorrection 30 = .ok (.iconst 1, 1) := by decide +kernel
theorem dX6_addCorrection_31 : decode cX6_addCorrection 31 = .ok (.iadd, 1) := by decide +kernel
theorem dX6_addCorrection_32 : decode cX6_addCorrection 32 = .ok (.putfield 49, 3) := by decide +kernel
theorem dX6_addCorrection_35 : decode cX6_addCorrection 35 = .ok (.return_, 1) := by decide +kernel
theorem dX6_authorAt_0 : decode cX6_authorAt 0 = .ok (.iload_n 1, 1) := by decide +kernel
theorem dX6_authorAt_1 : decode cX6_authorAt 1 = .ok (.aload_n 0, 1) := by decide +kernel
theorem dX6_authorAt_2 : decode cX6_authorAt 2 = .ok (.getfield 31, 3) := by decide +kernel
theorem dX6_authorAt_5 : decode cX6_authorAt 5 = .ok (.aload_n 0, 1) := by decide +kernel
theorem dX6_authorAt_6 : decode cX6_authorAt 6 = .ok (.getfield 9, 3) := by decide +kernel
theorem dX6_authorAt_9 : decode cX6_authorAt 9 = .ok (.arraylength, 1) := by decide +kernel
theorem dX6_authorAt_10 : decode cX6_authorAt 10 = .ok (.invokestatic 62, 3) := by decide +kernel
theorem dX6_authorAt_13 : decode cX6_authorAt 13 = .ok (.invokestatic 58, 3) := by decide +kernel
theorem dX6_authorAt_16 : decode cX6_authorAt 16 = .ok (.ifCond .eq 12, 3) := by decide +kernel
theorem dX6_authorAt_19 : decode cX6_authorAt 19 = .ok (.aload_n 0, 1) := by decide +kernel
theorem dX6_authorAt_20 : decode cX6_authorAt 20 = .ok (.getfield 9, 3) := by decide +kernel
theorem dX6_authorAt_23 : decode cX6_authorAt 23 = .ok (.iload_n 1, 1) := by decide +kernel
theorem dX6_authorAt_24 : decode cX6_authorAt 24 = .ok (.iaload, 1) := by decide +kernel
theorem dX6_authorAt_25 : decode cX6_authorAt 25 = .ok (.goto 5, 3) := by decide +kernel
theorem dX6_authorAt_28 : decode cX6_authorAt 28 = .ok (.bipush (-5), 2) := by decide +kernel
theorem dX6_authorAt_30 : decode cX6_authorAt 30 = .ok (.ireturn, 1) := by decide +kernel
theorem dX6_letterAt_0 : decode cX6_letterAt 0 = .ok (.iload_n 1, 1) := by decide +kernel
theorem dX6_letterAt_1 : decode cX6_letterAt 1 = .ok (.aload_n 0, 1) := by decide +kernel
theorem dX6_letterAt_2 : decode cX6_letterAt 2 = .ok (.getfield 44, 3) := by decide +kernel
theorem dX6_letterAt_5 : decode cX6_letterAt 5 = .ok (.aload_n 0, 1) := by decide +kernel
theorem dX6_letterAt_6 : decode cX6_letterAt 6 = .ok (.getfield 15, 3) := by decide +kernel
theorem dX6_letterAt_9 : decode cX6_letterAt 9 = .ok (.arraylength, 1) := by decide +kernel
theorem dX6_letterAt_10 : decode cX6_letterAt 10 = .ok (.invokestatic 62, 3) := by decide +kernel
theorem dX6_letterAt_13 : decode cX6_letterAt 13 = .ok (.invokestatic 58, 3) := by decide +kernel
theorem dX6_letterAt_16 : decode cX6_letterAt 16 = .ok (.ifCond .eq 12, 3) := by decide +kernel
theorem dX6_letterAt_19 : decode cX6_letterAt 19 = .ok (.aload_n 0, 1) := by decide +kernel
theorem dX6_letterAt_20 : decode cX6_letterAt 20 = .ok (.getfield 15, 3) := by decide +kernel
theorem dX6_letterAt_23 : decode cX6_letterAt 23 = .ok (.iload_n 1, 1) := by decide +kernel
theorem dX6_letterAt_24 : decode cX6_letterAt 24 = .ok (.iaload, 1) := by decide +kernel
theorem dX6_letterAt_25 : decode cX6_letterAt 25 = .ok (.goto 5, 3) := by decide +kernel
theorem dX6_letterAt_28 : decode cX6_letterAt 28 = .ok (.bipush (-5), 2) := by decide +kernel
theorem dX6_letterAt_30 : decode cX6_letterAt 30 = .ok (.ireturn, 1) := by decide +kernel
theorem dX6_correctedAt_0 : decode cX6_correctedAt 0 = .ok (.iload_n 1, 1) := by decide +kernel
theorem dX6_correctedAt_1 : decode cX6_correctedAt 1 = .ok (.aload_n 0, 1) := by decide +kernel
theorem dX6_correctedAt_2 : decode cX6_correctedAt 2 = .ok (.getfield 49, 3) := by decide +kernel
theorem dX6_correctedAt_5 : decode cX6_correctedAt 5 = .ok (.aload_n 0, 1) := by decide +kernel
theorem dX6_correctedAt_6 : decode cX6_correctedAt 6 = .ok (.getfield 18, 3) := by decide +kernel
theorem dX6_correctedAt_9 : decode cX6_correctedAt 9 = .ok (.arraylength, 1) := by decide +kernel
theorem dX6_correctedAt_10 : decode cX6_correctedAt 10 = .ok (.invokestatic 62, 3) := by decide +kernel
theorem dX6_correctedAt_13 : decode cX6_correctedAt 13 = .ok (.invokestatic 58, 3) := by decide +kernel
theorem dX6_correctedAt_16 : decode cX6_correctedAt 16 = .ok (.ifCond .eq 12, 3) := by decide +kernel
theorem dX6_correctedAt_19 : decode cX6_correctedAt 19 = .ok (.aload_n 0, 1) := by decide +kernel
theorem dX6_correctedAt_20 : decode cX6_correctedAt 20 = .ok (.getfield 18, 3) := by decide +kernel
theorem dX6_correctedAt_23 : decode cX6_correctedAt 23 = .ok (.iload_n 1, 1) := by decide +kernel
theorem dX6_correctedAt_24 : decode cX6_correctedAt 24 = .ok (.iaload, 1) := by decide +kernel
theorem dX6_correctedAt_25 : decode cX6_correctedAt 25 = .ok (.goto 5, 3) := by decide +kernel
theorem dX6_correctedAt_28 : decode cX6_correctedAt 28 = .ok (.bipush (-5), 2) := by decide +kernel
theorem dX6_correctedAt_30 : decode cX6_correctedAt 30 = .ok (.ireturn, 1) := by decide +kernel
theorem dX6_isBy_0 : decode cX6_isBy 0 = .ok (.iconst 0, 1) := by decide +kernel
theorem dX6_isBy_1 : decode cX6_isBy 1 = .ok (.istore_n 2, 1) := by decide +kernel
theorem dX6_isBy_2 : decode cX6_isBy 2 = .ok (.iload_n 2, 1) := by decide +kernel
theorem dX6_isBy_3 : decode cX6_isBy 3 = .ok (.aload_n 0, 1) := by decide +kernel
theorem dX6_isBy_4 : decode cX6_isBy 4 = .ok (.getfield 31, 3) := by decide +kernel
theorem dX6_isBy_7 : decode cX6_isBy 7 = .ok (.if_icmp .ge 20, 3) := by decide +kernel
theorem dX6_isBy_10 : decode cX6_isBy 10 = .ok (.aload_n 0, 1) := by decide +kernel
theorem dX6_isBy_11 : decode cX6_isBy 11 = .ok (.iload_n 2, 1) := by decide +kernel
theorem dX6_isBy_12 : decode cX6_isBy 12 = .ok (.invokevirtual 68, 3) := by decide +kernel
theorem dX6_isBy_15 : decode cX6_isBy 15 = .ok (.iload_n 1, 1) := by decide +kernel
theorem dX6_isBy_16 : decode cX6_isBy 16 = .ok (.if_icmp .ne 5, 3) := by decide +kernel
theorem dX6_isBy_19 : decode cX6_isBy 19 = .ok (.iconst 1, 1) := by decide +kernel
theorem dX6_isBy_20 : decode cX6_isBy 20 = .ok (.ireturn, 1) := by decide +kernel
theorem dX6_isBy_21 : decode cX6_isBy 21 = .ok (.iinc 2 1, 3) := by decide +kernel
theorem dX6_isBy_24 : decode cX6_isBy 24 = .ok (.goto (-22), 3) := by decide +kernel
theorem dX6_isBy_27 : decode cX6_isBy 27 = .ok (.iconst 0, 1) := by decide +kernel
theorem dX6_isBy_28 : decode cX6_isBy 28 = .ok (.ireturn, 1) := by decide +kernel
theorem dX7_init_0 : decode cX7_init 0 = .ok (.aload_n 0, 1) := by decide +kernel
theorem dX7_init_1 : decode cX7_init 1 = .ok (.invokespecial 3, 3) := by decide +kernel
theorem dX7_init_4 : decode cX7_init 4 = .ok (.aload_n 0, 1) := by decide +kernel
theorem dX7_init_5 : decode cX7_init 5 = .ok (.bipush 40, 2) := by decide +kernel
theorem dX7_init_7 : decode cX7_init 7 = .ok (.newarray .int, 2) := by decide +kernel
theorem dX7_init_9 : decode cX7_init 9 = .ok (.putfield 9, 3) := by decide +kernel
theorem dX7_init_12 : decode cX7_init 12 = .ok (.aload_n 0, 1) := by decide +kernel
theorem dX7_init_13 : decode cX7_init 13 = .ok (.iconst 3, 1) := by decide +kernel
theorem dX7_init_14 : decode cX7_init 14 = .ok (.newarray .int, 2) := by decide +kernel
theorem dX7_init_16 : decode cX7_init 16 = .ok (.putfield 15, 3) := by decide +kernel
theorem dX7_init_19 : decode cX7_init 19 = .ok (.aload_n 0, 1) := by decide +kernel
theorem dX7_init_20 : decode cX7_init 20 = .ok (.bipush 12, 2) := by decide +kernel
theorem dX7_init_22 : decode cX7_init 22 = .ok (.newarray .int, 2) := by decide +kernel
theorem dX7_init_24 : decode cX7_init 24 = .ok (.putfield 18, 3) := by decide +kernel
theorem dX7_init_27 : decode cX7_init 27 = .ok (.return_, 1) := by decide +kernel
theorem dX7_add_0 : decode cX7_add 0 = .ok (.aload_n 0, 1) := by decide +kernel
theorem dX7_add_1 : decode cX7_add 1 = .ok (.getfield 21, 3) := by decide +kernel
theorem dX7_add_4 : decode cX7_add 4 = .ok (.aload_n 0, 1) := by decide +kernel
theorem dX7_add_5 : decode cX7_add 5 = .ok (.getfield 9, 3) := by decide +kernel
theorem dX7_add_8 : decode cX7_add 8 = .ok (.arraylength, 1) := by decide +kernel
theorem dX7_add_9 : decode cX7_add 9 = .ok (.invokestatic 25, 3) := by decide +kernel
theorem dX7_add_12 : decode cX7_add 12 = .ok (.ifCond .eq 23, 3) := by decide +kernel
theorem dX7_add_15 : decode cX7_add 15 = .ok (.aload_n 0, 1) := by decide +kernel
theorem dX7_add_16 : decode cX7_add 16 = .ok (.getfield 9, 3) := by decide +kernel
theorem dX7_add_19 : decode cX7_add 19 = .ok (.aload_n 0, 1) := by decide +kernel
theorem dX7_add_20 : decode cX7_add 20 = .ok (.getfield 21, 3) := by decide +kernel
theorem dX7_add_23 : decode cX7_add 23 = .ok (.iload_n 1, 1) := by decide +kernel
theorem dX7_add_24 : decode cX7_add 24 = .ok (.iastore, 1) := by decide +kernel
theorem dX7_add_25 : decode cX7_add 25 = .ok (.aload_n 0, 1) := by decide +kernel
theorem dX7_add_26 : decode cX7_add 26 = .ok (.dup, 1) := by decide +kernel
theorem dX7_add_27 : decode cX7_add 27 = .ok (.getfield 21, 3) := by decide +kernel
theorem dX7_add_30 : decode cX7_add 30 = .ok (.iconst 1, 1) := by decide +kernel
theorem dX7_add_31 : decode cX7_add 31 = .ok (.iadd, 1) := by decide +kernel
theorem dX7_add_32 : decode cX7_add 32 = .ok (.putfield 21, 3) := by decide +kernel
theorem dX7_add_35 : decode cX7_add 35 = .ok (.return_, 1) := by decide +kernel
theorem dX7_parse_0 : decode cX7_parse 0 = .ok (.aload_n 0, 1) := by decide +kernel
theorem dX7_parse_1 : decode cX7_parse 1 = .ok (.iconst 0, 1) := by decide +kernel
theorem dX7_parse_2 : decode cX7_parse 2 = .ok (.putfield 29, 3) := by decide +kernel
theorem dX7_parse_5 : decode cX7_parse 5 = .ok (.aload_n 0, 1) := by decide +kernel
theorem dX7_parse_6 : decode cX7_parse 6 = .ok (.invokevirtual 32, 3) := by decide +kernel
theorem dX7_parse_9 : decode cX7_parse 9 = .ok (.ifCond .eq 64, 3) := by decide +kernel
theorem dX7_parse_12 : decode cX7_parse 12 = .ok (.aload_n 0, 1) := by decide +kernel
theorem dX7_parse_13 : decode cX7_parse 13 = .ok (.bipush 32, 2) := by decide +kernel
theorem dX7_parse_15 : decode cX7_parse 15 = .ok (.invokevirtual 36, 3) := by decide +kernel
theorem dX7_parse_18 : decode cX7_parse 18 = .ok (.ifCond .eq 55, 3) := by decide +kernel
theorem dX7_parse_21 : decode cX7_parse 21 = .ok (.aload_n 0, 1) := by decide +kernel
theorem dX7_parse_22 : decode cX7_parse 22 = .ok (.invokevirtual 40, 3) := by decide +kernel
theorem dX7_parse_25 : decode cX7_parse 25 = .ok (.ifCond .eq 48, 3) := by decide +kernel
theorem dX7_parse_28 : decode cX7_parse 28 = .ok (.aload_n 0, 1) := by decide +kernel
theorem dX7_parse_29 : decode cX7_parse 29 = .ok (.bipush 32, 2) := by decide +kernel
theorem dX7_parse_31 : decode cX7_parse 31 = .ok (.invokevirtual 36, 3) := by decide +kernel
theorem dX7_parse_34 : decode cX7_parse 34 = .ok (.ifCond .eq 39, 3) := by decide +kernel
theorem dX7_parse_37 : decode cX7_parse 37 = .ok (.aload_n 0, 1) := by decide +kernel
theorem dX7_parse_38 : decode cX7_parse 38 = .ok (.bipush 64, 2) := by decide +kernel
theorem dX7_parse_40 : decode cX7_parse 40 = .ok (.invokevirtual 36, 3) := by decide +kernel
theorem dX7_parse_43 : decode cX7_parse 43 = .ok (.ifCond .eq 30, 3) := by decide +kernel
theorem dX7_parse_46 : decode cX7_parse 46 = .ok (.aload_n 0, 1) := by decide +kernel
theorem dX7_parse_47 : decode cX7_parse 47 = .ok (.invokevirtual 43, 3) := by decide +kernel
theorem dX7_parse_50 : decode cX7_parse 50 = .ok (.ifCond .eq 23, 3) := by decide +kernel
theorem dX7_parse_53 : decode cX7_parse 53 = .ok (.aload_n 0, 1) := by decide +kernel
theorem dX7_parse_54 : decode cX7_parse 54 = .ok (.bipush 32, 2) := by decide +kernel
theorem dX7_parse_56 : decode cX7_parse 56 = .ok (.invokevirtual 36, 3) := by decide +kernel
theorem dX7_parse_59 : decode cX7_parse 59 = .ok (.ifCond .eq 14, 3) := by decide +kernel
theorem dX7_parse_62 : decode cX7_parse 62 = .ok (.aload_n 0, 1) := by decide +kernel
theorem dX7_parse_63 : decode cX7_parse 63 = .ok (.invokevirtual 46, 3) := by decide +kernel
theorem dX7_parse_66 : decode cX7_parse 66 = .ok (.ifCond .eq 7, 3) := by decide +kernel
theorem dX7_parse_69 : decode cX7_parse 69 = .ok (.iconst 1, 1) := by decide +kernel
theorem dX7_parse_70 : decode cX7_parse 70 = .ok (.goto 4, 3) := by decide +kernel
theorem dX7_parse_73 : decode cX7_parse 73 = .ok (.iconst 0, 1) := by decide +kernel
theorem dX7_parse_74 : decode cX7_parse 74 = .ok (.istore_n 1, 1) := by decide +kernel
theorem dX7_parse_75 : decode cX7_parse 75 = .ok (.iload_n 1, 1) := by decide +kernel
theorem dX7_parse_76 : decode cX7_parse 76 = .ok (.ifCond .eq 7, 3) := by decide +kernel
theorem dX7_parse_79 : decode cX7_parse 79 = .ok (.iconst (-1), 1) := by decide +kernel
theorem dX7_parse_80 : decode cX7_parse 80 = .ok (.goto 7, 3) := by decide +kernel
theorem dX7_parse_83 : decode cX7_parse 83 = .ok (.aload_n 0, 1) := by decide +kernel
theorem dX7_parse_84 : decode cX7_parse 84 = .ok (.getfield 29, 3) := by decide +kernel
theorem dX7_parse_87 : decode cX7_parse 87 = .ok (.ireturn, 1) := by decide +kernel
theorem dX7_sign_0 : decode cX7_sign 0 = .ok (.aload_n 0, 1) := by decide +kernel
theorem dX7_sign_1 : decode cX7_sign 1 = .ok (.getfield 29, 3) := by decide +kernel
theorem dX7_sign_4 : decode cX7_sign 4 = .ok (.aload_n 0, 1) := by decide +kernel
theorem dX7_sign_5 : decode cX7_sign 5 = .ok (.getfield 21, 3) := by decide +kernel
theorem dX7_sign_8 : decode cX7_sign 8 = .ok (.aload_n 0, 1) := by decide +kernel
theorem dX7_sign_9 : decode cX7_sign 9 = .ok (.getfield 9, 3) := by decide +kernel
theorem dX7_sign_12 : decode cX7_sign 12 = .ok (.arraylength, 1) := by decide +kernel
theorem dX7_sign_13 : decode cX7_sign 13 = .ok (.invokestatic 49, 3) := by decide +kernel
theorem dX7_sign_16 : decode cX7_sign 16 = .ok (.invokestatic 25, 3) := by decide +kernel
theorem dX7_sign_19 : decode cX7_sign 19 = .ok (.ifCond .eq 15, 3) := by decide +kernel
theorem dX7_sign_22 : decode cX7_sign 22 = .ok (.aload_n 0, 1) := by decide +kernel
theorem dX7_sign_23 : decode cX7_sign 23 = .ok (.getfield 9, 3) := by decide +kernel
theorem dX7_sign_26 : decode cX7_sign 26 = .ok (.aload_n 0, 1) := by decide +kernel
theorem dX7_sign_27 : decode cX7_sign 27 = .ok (.getfield 29, 3) := by decide +kernel
theorem dX7_sign_30 : decode cX7_sign 30 = .ok (.iaload, 1) := by decide +kernel
theorem dX7_sign_31 : decode cX7_sign 31 = .ok (.goto 4, 3) := by decide +kernel
theorem dX7_sign_34 : decode cX7_sign 34 = .ok (.iconst (-1), 1) := by decide +kernel
theorem dX7_sign_35 : decode cX7_sign 35 = .ok (.ireturn, 1) := by decide +kernel
theorem dX7_digit_0 : decode cX7_digit 0 = .ok (.aload_n 0, 1) := by decide +kernel
theorem dX7_digit_1 : decode cX7_digit 1 = .ok (.invokevirtual 55, 3) := by decide +kernel
theorem dX7_digit_4 : decode cX7_digit 4 = .ok (.bipush 48, 2) := by decide +kernel
theorem dX7_digit_6 : decode cX7_digit 6 = .ok (.bipush 57, 2) := by decide +kernel
theorem dX7_digit_8 : decode cX7_digit 8 = .ok (.invokestatic 59, 3) := by decide +kernel
theorem dX7_digit_11 : decode cX7_digit 11 = .ok (.ifCond .eq 13, 3) := by decide +kernel
theorem dX7_digit_14 : decode cX7_digit 14 = .ok (.aload_n 0, 1) := by decide +kernel
theorem dX7_digit_15 : decode cX7_digit 15 = .ok (.invokevirtual 55, 3) := by decide +kernel
theorem dX7_digit_18 : decode cX7_digit 18 = .ok (.bipush 48, 2) := by decide +kernel
theorem dX7_digit_20 : decode cX7_digit 20 = .ok (.isub, 1) := by decide +kernel
theorem dX7_digit_21 : decode cX7_digit 21 = .ok (.goto 4, 3) := by decide +kernel
theorem dX7_digit_24 : decode cX7_digit 24 = .ok (.iconst (-1), 1) := by decide +kernel
theorem dX7_digit_25 : decode cX7_digit 25 = .ok (.ireturn, 1) := by decide +kernel
theorem dX7_readSign_0 : decode cX7_readSign 0 = .ok (.aload_n 0, 1) := by decide +kernel
theorem dX7_readSign_1 : decode cX7_readSign 1 = .ok (.invokevirtual 55, 3) := by decide +kernel
theorem dX7_readSign_4 : decode cX7_readSign 4 = .ok (.iload_n 1, 1) := by decide +kernel
theorem dX7_readSign_5 : decode cX7_readSign 5 = .ok (.if_icmp .eq 5, 3) := by decide +kernel
theorem dX7_readSign_8 : decode cX7_readSign 8 = .ok (.iconst 0, 1) := by decide +kernel
theorem dX7_readSign_9 : decode cX7_readSign 9 = .ok (.ireturn, 1) := by decide +kernel
theorem dX7_readSign_10 : decode cX7_readSign 10 = .ok (.aload_n 0, 1) := by decide +kernel
theorem dX7_readSign_11 : decode cX7_readSign 11 = .ok (.dup, 1) := by decide +kernel
theorem dX7_readSign_12 : decode cX7_readSign 12 = .ok (.getfield 29, 3) := by decide +kernel
theorem dX7_readSign_15 : decode cX7_readSign 15 = .ok (.iconst 1, 1) := by decide +kernel
theorem dX7_readSign_16 : decode cX7_readSign 16 = .ok (.iadd, 1) := by decide +kernel
theorem dX7_readSign_17 : decode cX7_readSign 17 = .ok (.putfield 29, 3) := by decide +kernel
theorem dX7_readSign_20 : decode cX7_readSign 20 = .ok (.iconst 1, 1) := by decide +kernel
theorem dX7_readSign_21 : decode cX7_readSign 21 = .ok (.ireturn, 1) := by decide +kernel
theorem dX7_readTopic_0 : decode cX7_readTopic 0 = .ok (.aload_n 0, 1) := by decide +kernel
theorem dX7_readTopic_1 : decode cX7_readTopic 1 = .ok (.aload_n 0, 1) := by decide +kernel
theorem dX7_readTopic_2 : decode cX7_readTopic 2 = .ok (.invokevirtual 63, 3) := by decide +kernel
theorem dX7_readTopic_5 : decode cX7_readTopic 5 = .ok (.putfield 66, 3) := by decide +kernel
theorem dX7_readTopic_8 : decode cX7_readTopic 8 = .ok (.aload_n 0, 1) := by decide +kernel
theorem dX7_readTopic_9 : decode cX7_readTopic 9 = .ok (.getfield 66, 3) := by decide +kernel
theorem dX7_readTopic_12 : decode cX7_readTopic 12 = .ok (.iconst 0, 1) := by decide +kernel
theorem dX7_readTopic_13 : decode cX7_readTopic 13 = .ok (.bipush 7, 2) := by decide +kernel
theorem dX7_readTopic_15 : decode cX7_readTopic 15 = .ok (.invokestatic 59, 3) := by decide +kernel
theorem dX7_readTopic_18 : decode cX7_readTopic 18 = .ok (.ifCond .ne 5, 3) := by decide +kernel
theorem dX7_readTopic_21 : decode cX7_readTopic 21 = .ok (.iconst 0, 1) := by decide +kernel
theorem dX7_readTopic_22 : decode cX7_readTopic 22 = .ok (.ireturn, 1) := by decide +kernel
theorem dX7_readTopic_23 : decode cX7_readTopic 23 = .ok (.aload_n 0, 1) := by decide +kernel
theorem dX7_readTopic_24 : decode cX7_readTopic 24 = .ok (.dup, 1) := by decide +kernel
theorem dX7_readTopic_25 : decode cX7_readTopic 25 = .ok (.getfield 29, 3) := by decide +kernel
theorem dX7_readTopic_28 : decode cX7_readTopic 28 = .ok (.iconst 1, 1) := by decide +kernel
theorem dX7_readTopic_29 : decode cX7_readTopic 29 = .ok (.iadd, 1) := by decide +kernel
theorem dX7_readTopic_30 : decode cX7_readTopic 30 = .ok (.putfield 29, 3) := by decide +kernel
theorem dX7_readTopic_33 : decode cX7_readTopic 33 = .ok (.iconst 1, 1) := by decide +kernel
theorem dX7_readTopic_34 : decode cX7_readTopic 34 = .ok (.ireturn, 1) := by decide +kernel
theorem dX7_readByline_0 : decode cX7_readByline 0 = .ok (.aload_n 0, 1) := by decide +kernel
theorem dX7_readByline_1 : decode cX7_readByline 1 = .ok (.iconst 0, 1) := by decide +kernel
theorem dX7_readByline_2 : decode cX7_readByline 2 = .ok (.putfield 69, 3) := by decide +kernel
theorem dX7_readByline_5 : decode cX7_readByline 5 = .ok (.iconst 0, 1) := by decide +kernel
theorem dX7_readByline_6 : decode cX7_readByline 6 = .ok (.istore_n 1, 1) := by decide +kernel
theorem dX7_readByline_7 : decode cX7_readByline 7 = .ok (.iload_n 1, 1) := by decide +kernel
theorem dX7_readByline_8 : decode cX7_readByline 8 = .ok (.iconst 3, 1) := by decide +kernel
theorem dX7_readByline_9 : decode cX7_readByline 9 = .ok (.if_icmp .ge 33, 3) := by decide +kernel
theorem dX7_readByline_12 : decode cX7_readByline 12 = .ok (.iload_n 1, 1) := by decide +kernel
theorem dX7_readByline_13 : decode cX7_readByline 13 = .ok (.ifCond .le 14, 3) := by decide +kernel
theorem dX7_readByline_16 : decode cX7_readByline 16 = .ok (.aload_n 0, 1) := by decide +kernel
theorem dX7_readByline_17 : decode cX7_readByline 17 = .ok (.bipush 44, 2) := by decide +kernel
theorem dX7_readByline_19 : decode cX7_readByline 19 = .ok (.invokevirtual 36, 3) := by decide +kernel
theorem dX7_readByline_22 : decode cX7_readByline 22 = .ok (.ifCond .ne 5, 3) := by decide +kernel
theorem dX7_readByline_25 : decode cX7_readByline 25 = .ok (.iconst 1, 1) := by decide +kernel
theorem dX7_readByline_26 : decode cX7_readByline 26 = .ok (.ireturn, 1) := by decide +kernel
theorem dX7_readByline_27 : decode cX7_readByline 27 = .ok (.aload_n 0, 1) := by decide +kernel
theorem dX7_readByline_28 : decode cX7_readByline 28 = .ok (.invokevirtual 72, 3) := by decide +kernel
theorem dX7_readByline_31 : decode cX7_readByline 31 = .ok (.ifCond .ne 5, 3) := by decide +kernel
theorem dX7_readByline_34 : decode cX7_readByline 34 = .ok (.iconst 0, 1) := by decide +kernel
theorem dX7_readByline_35 : decode cX7_readByline 35 = .ok (.ireturn, 1) := by decide +kernel
theorem dX7_readByline_36 : decode cX7_readByline 36 = .ok (.iinc 1 1, 3) := by decide +kernel
theorem dX7_readByline_39 : decode cX7_readByline 39 = .ok (.goto (-32), 3) := by decide +kernel
theorem dX7_readByline_42 : decode cX7_readByline 42 = .ok (.iconst 1, 1) := by decide +kernel
theorem dX7_readByline_43 : decode cX7_readByline 43 = .ok (.ireturn, 1) := by decide +kernel
theorem dX7_readPerson_0 : decode cX7_readPerson 0 = .ok (.aload_n 0, 1) := by decide +kernel
theorem dX7_readPerson_1 : decode cX7_readPerson 1 = .ok (.invokevirtual 63, 3) := by decide +kernel
theorem dX7_readPerson_4 : decode cX7_readPerson 4 = .ok (.istore_n 1, 1) := by decide +kernel
theorem dX7_readPerson_5 : decode cX7_readPerson 5 = .ok (.iload_n 1, 1) := by decide +kernel
theorem dX7_readPerson_6 : decode cX7_readPerson 6 = .ok (.iconst (-1), 1) := by decide +kernel
theorem dX7_readPerson_7 : decode cX7_readPerson 7 = .ok (.if_icmp .eq 26, 3) := by decide +kernel
theorem dX7_readPerson_10 : decode cX7_readPerson 10 = .ok (.aload_n 0, 1) := by decide +kernel
theorem dX7_readPerson_11 : decode cX7_readPerson 11 = .ok (.iload_n 1, 1) := by decide +kernel
theorem dX7_readPerson_12 : decode cX7_readPerson 12 = .ok (.invokevirtual 75, 3) := by decide +kernel
theorem dX7_readPerson_15 : decode cX7_readPerson 15 = .ok (.ifCond .ne 18, 3) := by decide +kernel
theorem dX7_readPerson_18 : decode cX7_readPerson 18 = .ok (.aload_n 0, 1) := by decide +kernel
theorem dX7_readPerson_19 : decode cX7_readPerson 19 = .ok (.getfield 69, 3) := by decide +kernel
theorem dX7_readPerson_22 : decode cX7_readPerson 22 = .ok (.aload_n 0, 1) := by decide +kernel
theorem dX7_readPerson_23 : decode cX7_readPerson 23 = .ok (.getfield 15, 3) := by decide +kernel
theorem dX7_readPerson_26 : decode cX7_readPerson 26 = .ok (.arraylength, 1) := by decide +kernel
theorem dX7_readPerson_27 : decode cX7_readPerson 27 = .ok (.invokestatic 25, 3) := by decide +kernel
theorem dX7_readPerson_30 : decode cX7_readPerson 30 = .ok (.ifCond .ne 5, 3) := by decide +kernel
theorem dX7_readPerson_33 : decode cX7_readPerson 33 = .ok (.iconst 0, 1) := by decide +kernel
theorem dX7_readPerson_34 : decode cX7_readPerson 34 = .ok (.ireturn, 1) := by decide +kernel
theorem dX7_readPerson_35 : decode cX7_readPerson 35 = .ok (.aload_n 0, 1) := by decide +kernel
theorem dX7_readPerson_36 : decode cX7_readPerson 36 = .ok (.getfield 15, 3) := by decide +kernel
theorem dX7_readPerson_39 : decode cX7_readPerson 39 = .ok (.aload_n 0, 1) := by decide +kernel
theorem dX7_readPerson_40 : decode cX7_readPerson 40 = .ok (.getfield 69, 3) := by decide +kernel
theorem dX7_readPerson_43 : decode cX7_readPerson 43 = .ok (.iload_n 1, 1) := by decide +kernel
theorem dX7_readPerson_44 : decode cX7_readPerson 44 = .ok (.iastore, 1) := by decide +kernel
theorem dX7_readPerson_45 : decode cX7_readPerson 45 = .ok (.aload_n 0, 1) := by decide +kernel
theorem dX7_readPerson_46 : decode cX7_readPerson 46 = .ok (.dup, 1) := by decide +kernel
theorem dX7_readPerson_47 : decode cX7_readPerson 47 = .ok (.getfield 69, 3) := by decide +kernel
theorem dX7_readPerson_50 : decode cX7_readPerson 50 = .ok (.iconst 1, 1) := by decide +kernel
theorem dX7_readPerson_51 : decode cX7_readPerson 51 = .ok (.iadd, 1) := by decide +kernel
theorem dX7_readPerson_52 : decode cX7_readPerson 52 = .ok (.putfield 69, 3) := by decide +kernel
theorem dX7_readPerson_55 : decode cX7_readPerson 55 = .ok (.aload_n 0, 1) := by decide +kernel
theorem dX7_readPerson_56 : decode cX7_readPerson 56 = .ok (.dup, 1) := by decide +kernel
theorem dX7_readPerson_57 : decode cX7_readPerson 57 = .ok (.getfield 29, 3) := by decide +kernel
theorem dX7_readPerson_60 : decode cX7_readPerson 60 = .ok (.iconst 1, 1) := by decide +kernel
theorem dX7_readPerson_61 : decode cX7_readPerson 61 = .ok (.iadd, 1) := by decide +kernel
theorem dX7_readPerson_62 : decode cX7_readPerson 62 = .ok (.putfield 29, 3) := by decide +kernel
theorem dX7_readPerson_65 : decode cX7_readPerson 65 = .ok (.iconst 1, 1) := by decide +kernel
theorem dX7_readPerson_66 : decode cX7_readPerson 66 = .ok (.ireturn, 1) := by decide +kernel
theorem dX7_isInByline_0 : decode cX7_isInByline 0 = .ok (.iconst 0, 1) := by decide +kernel
theorem dX7_isInByline_1 : decode cX7_isInByline 1 = .ok (.istore_n 2, 1) := by decide +kernel
theorem dX7_isInByline_2 : decode cX7_isInByline 2 = .ok (.iload_n 2, 1) := by decide +kernel
theorem dX7_isInByline_3 : decode cX7_isInByline 3 = .ok (.aload_n 0, 1) := by decide +kernel
theorem dX7_isInByline_4 : decode cX7_isInByline 4 = .ok (.getfield 69, 3) := by decide +kernel
theorem dX7_isInByline_7 : decode cX7_isInByline 7 = .ok (.if_icmp .ge 30, 3) := by decide +kernel
theorem dX7_isInByline_10 : decode cX7_isInByline 10 = .ok (.iload_n 2, 1) := by decide +kernel
theorem dX7_isInByline_11 : decode cX7_isInByline 11 = .ok (.aload_n 0, 1) := by decide +kernel
theorem dX7_isInByline_12 : decode cX7_isInByline 12 = .ok (.getfield 15, 3) := by decide +kernel
theorem dX7_isInByline_15 : decode cX7_isInByline 15 = .ok (.arraylength, 1) := by decide +kernel
theorem dX7_isInByline_16 : decode cX7_isInByline 16 = .ok (.if_icmp .ge 21, 3) := by decide +kernel
theorem dX7_isInByline_19 : decode cX7_isInByline 19 = .ok (.aload_n 0, 1) := by decide +kernel
theorem dX7_isInByline_20 : decode cX7_isInByline 20 = .ok (.getfield 15, 3) := by decide +kernel
theorem dX7_isInByline_23 : decode cX7_isInByline 23 = .ok (.iload_n 2, 1) := by decide +kernel
theorem dX7_isInByline_24 : decode cX7_isInByline 24 = .ok (.iaload, 1) := by decide +kernel
theorem dX7_isInByline_25 : decode cX7_isInByline 25 = .ok (.iload_n 1, 1) := by decide +kernel
theorem dX7_isInByline_26 : decode cX7_isInByline 26 = .ok (.if_icmp .ne 5, 3) := by decide +kernel
theorem dX7_isInByline_29 : decode cX7_isInByline 29 = .ok (.iconst 1, 1) := by decide +kernel
theorem dX7_isInByline_30 : decode cX7_isInByline 30 = .ok (.ireturn, 1) := by decide +kernel
theorem dX7_isInByline_31 : decode cX7_isInByline 31 = .ok (.iinc 2 1, 3) := by decide +kernel
theorem dX7_isInByline_34 : decode cX7_isInByline 34 = .ok (.goto (-32), 3) := by decide +kernel
theorem dX7_isInByline_37 : decode cX7_isInByline 37 = .ok (.iconst 0, 1) := by decide +kernel
theorem dX7_isInByline_38 : decode cX7_isInByline 38 = .ok (.ireturn, 1) := by decide +kernel
theorem dX7_readEmbargo_0 : decode cX7_readEmbargo 0 = .ok (.aload_n 0, 1) := by decide +kernel
theorem dX7_readEmbargo_1 : decode cX7_readEmbargo 1 = .ok (.aload_n 0, 1) := by decide +kernel
theorem dX7_readEmbargo_2 : decode cX7_readEmbargo 2 = .ok (.invokevirtual 63, 3) := by decide +kernel
theorem dX7_readEmbargo_5 : decode cX7_readEmbargo 5 = .ok (.putfield 79, 3) := by decide +kernel
theorem dX7_readEmbargo_8 : decode cX7_readEmbargo 8 = .ok (.aload_n 0, 1) := by decide +kernel
theorem dX7_readEmbargo_9 : decode cX7_readEmbargo 9 = .ok (.getfield 79, 3) := by decide +kernel
theorem dX7_readEmbargo_12 : decode cX7_readEmbargo 12 = .ok (.iconst (-1), 1) := by decide +kernel
theorem dX7_readEmbargo_13 : decode cX7_readEmbargo 13 = .ok (.if_icmp .ne 5, 3) := by decide +kernel
theorem dX7_readEmbargo_16 : decode cX7_readEmbargo 16 = .ok (.iconst 0, 1) := by decide +kernel
theorem dX7_readEmbargo_17 : decode cX7_readEmbargo 17 = .ok (.ireturn, 1) := by decide +kernel
theorem dX7_readEmbargo_18 : decode cX7_readEmbargo 18 = .ok (.aload_n 0, 1) := by decide +kernel
theorem dX7_readEmbargo_19 : decode cX7_readEmbargo 19 = .ok (.dup, 1) := by decide +kernel
theorem dX7_readEmbargo_20 : decode cX7_readEmbargo 20 = .ok (.getfield 29, 3) := by decide +kernel
theorem dX7_readEmbargo_23 : decode cX7_readEmbargo 23 = .ok (.iconst 1, 1) := by decide +kernel
theorem dX7_readEmbargo_24 : decode cX7_readEmbargo 24 = .ok (.iadd, 1) := by decide +kernel
theorem dX7_readEmbargo_25 : decode cX7_readEmbargo 25 = .ok (.putfield 29, 3) := by decide +kernel
theorem dX7_readEmbargo_28 : decode cX7_readEmbargo 28 = .ok (.iconst 1, 1) := by decide +kernel
theorem dX7_readEmbargo_29 : decode cX7_readEmbargo 29 = .ok (.istore_n 1, 1) := by decide +kernel
theorem dX7_readEmbargo_30 : decode cX7_readEmbargo 30 = .ok (.iload_n 1, 1) := by decide +kernel
theorem dX7_readEmbargo_31 : decode cX7_readEmbargo 31 = .ok (.iconst 3, 1) := by decide +kernel
theorem dX7_readEmbargo_32 : decode cX7_readEmbargo 32 = .ok (.if_icmp .ge 50, 3) := by decide +kernel
theorem dX7_readEmbargo_35 : decode cX7_readEmbargo 35 = .ok (.aload_n 0, 1) := by decide +kernel
theorem dX7_readEmbargo_36 : decode cX7_readEmbargo 36 = .ok (.getfield 79, 3) := by decide +kernel
theorem dX7_readEmbargo_39 : decode cX7_readEmbargo 39 = .ok (.ifCond .eq 43, 3) := by decide +kernel
theorem dX7_readEmbargo_42 : decode cX7_readEmbargo 42 = .ok (.aload_n 0, 1) := by decide +kernel
theorem dX7_readEmbargo_43 : decode cX7_readEmbargo 43 = .ok (.invokevirtual 63, 3) := by decide +kernel
theorem dX7_readEmbargo_46 : decode cX7_readEmbargo 46 = .ok (.iconst (-1), 1) := by decide +kernel
theorem dX7_readEmbargo_47 : decode cX7_readEmbargo 47 = .ok (.if_icmp .eq 35, 3) := by decide +kernel
theorem dX7_readEmbargo_50 : decode cX7_readEmbargo 50 = .ok (.aload_n 0, 1) := by decide +kernel
theorem dX7_readEmbargo_51 : decode cX7_readEmbargo 51 = .ok (.aload_n 0, 1) := by decide +kernel
theorem dX7_readEmbargo_52 : decode cX7_readEmbargo 52 = .ok (.getfield 79, 3) := by decide +kernel
theorem dX7_readEmbargo_55 : decode cX7_readEmbargo 55 = .ok (.bipush 10, 2) := by decide +kernel
theorem dX7_readEmbargo_57 : decode cX7_readEmbargo 57 = .ok (.imul, 1) := by decide +kernel
theorem dX7_readEmbargo_58 : decode cX7_readEmbargo 58 = .ok (.aload_n 0, 1) := by decide +kernel
theorem dX7_readEmbargo_59 : decode cX7_readEmbargo 59 = .ok (.invokevirtual 63, 3) := by decide +kernel
theorem dX7_readEmbargo_62 : decode cX7_readEmbargo 62 = .ok (.iadd, 1) := by decide +kernel
theorem dX7_readEmbargo_63 : decode cX7_readEmbargo 63 = .ok (.putfield 79, 3) := by decide +kernel
theorem dX7_readEmbargo_66 : decode cX7_readEmbargo 66 = .ok (.aload_n 0, 1) := by decide +kernel
theorem dX7_readEmbargo_67 : decode cX7_readEmbargo 67 = .ok (.dup, 1) := by decide +kernel
theorem dX7_readEmbargo_68 : decode cX7_readEmbargo 68 = .ok (.getfield 29, 3) := by decide +kernel
theorem dX7_readEmbargo_71 : decode cX7_readEmbargo 71 = .ok (.iconst 1, 1) := by decide +kernel
theorem dX7_readEmbargo_72 : decode cX7_readEmbargo 72 = .ok (.iadd, 1) := by decide +kernel
theorem dX7_readEmbargo_73 : decode cX7_readEmbargo 73 = .ok (.putfield 29, 3) := by decide +kernel
theorem dX7_readEmbargo_76 : decode cX7_readEmbargo 76 = .ok (.iinc 1 1, 3) := by decide +kernel
theorem dX7_readEmbargo_79 : decode cX7_readEmbargo 79 = .ok (.goto (-49), 3) := by decide +kernel
theorem dX7_readEmbargo_82 : decode cX7_readEmbargo 82 = .ok (.iconst 1, 1) := by decide +kernel
theorem dX7_readEmbargo_83 : decode cX7_readEmbargo 83 = .ok (.ireturn, 1) := by decide +kernel
theorem dX7_readSlug_0 : decode cX7_readSlug 0 = .ok (.aload_n 0, 1) := by decide +kernel
theorem dX7_readSlug_1 : decode cX7_readSlug 1 = .ok (.iconst 0, 1) := by decide +kernel
theorem dX7_readSlug_2 : decode cX7_readSlug 2 = .ok (.putfield 82, 3) := by decide +kernel
theorem dX7_readSlug_5 : decode cX7_readSlug 5 = .ok (.iconst 0, 1) := by decide +kernel
theorem dX7_readSlug_6 : decode cX7_readSlug 6 = .ok (.istore_n 1, 1) := by decide +kernel
theorem dX7_readSlug_7 : decode cX7_readSlug 7 = .ok (.iload_n 1, 1) := by decide +kernel
theorem dX7_readSlug_8 : decode cX7_readSlug 8 = .ok (.aload_n 0, 1) := by decide +kernel
theorem dX7_readSlug_9 : decode cX7_readSlug 9 = .ok (.getfield 18, 3) := by decide +kernel
theorem dX7_readSlug_12 : decode cX7_readSlug 12 = .ok (.arraylength, 1) := by decide +kernel
theorem dX7_readSlug_13 : decode cX7_readSlug 13 = .ok (.if_icmp .ge 53, 3) := by decide +kernel
theorem dX7_readSlug_16 : decode cX7_readSlug 16 = .ok (.aload_n 0, 1) := by decide +kernel
theorem dX7_readSlug_17 : decode cX7_readSlug 17 = .ok (.invokevirtual 55, 3) := by decide +kernel
theorem dX7_readSlug_20 : decode cX7_readSlug 20 = .ok (.bipush 97, 2) := by decide +kernel
theorem dX7_readSlug_22 : decode cX7_readSlug 22 = .ok (.bipush 122, 2) := by decide +kernel
theorem dX7_readSlug_24 : decode cX7_readSlug 24 = .ok (.invokestatic 59, 3) := by decide +kernel
theorem dX7_readSlug_27 : decode cX7_readSlug 27 = .ok (.ifCond .eq 39, 3) := by decide +kernel
theorem dX7_readSlug_30 : decode cX7_readSlug 30 = .ok (.aload_n 0, 1) := by decide +kernel
theorem dX7_readSlug_31 : decode cX7_readSlug 31 = .ok (.getfield 18, 3) := by decide +kernel
theorem dX7_readSlug_34 : decode cX7_readSlug 34 = .ok (.iload_n 1, 1) := by decide +kernel
theorem dX7_readSlug_35 : decode cX7_readSlug 35 = .ok (.aload_n 0, 1) := by decide +kernel
theorem dX7_readSlug_36 : decode cX7_readSlug 36 = .ok (.invokevirtual 55, 3) := by decide +kernel
theorem dX7_readSlug_39 : decode cX7_readSlug 39 = .ok (.iastore, 1) := by decide +kernel
theorem dX7_readSlug_40 : decode cX7_readSlug 40 = .ok (.aload_n 0, 1) := by decide +kernel
theorem dX7_readSlug_41 : decode cX7_readSlug 41 = .ok (.dup, 1) := by decide +kernel
theorem dX7_readSlug_42 : decode cX7_readSlug 42 = .ok (.getfield 82, 3) := by decide +kernel
theorem dX7_readSlug_45 : decode cX7_readSlug 45 = .ok (.iconst 1, 1) := by decide +kernel
theorem dX7_readSlug_46 : decode cX7_readSlug 46 = .ok (.iadd, 1) := by decide +kernel
theorem dX7_readSlug_47 : decode cX7_readSlug 47 = .ok (.putfield 82, 3) := by decide +kernel
theorem dX7_readSlug_50 : decode cX7_readSlug 50 = .ok (.aload_n 0, 1) := by decide +kernel
theorem dX7_readSlug_51 : decode cX7_readSlug 51 = .ok (.dup, 1) := by decide +kernel
theorem dX7_readSlug_52 : decode cX7_readSlug 52 = .ok (.getfield 29, 3) := by decide +kernel
theorem dX7_readSlug_55 : decode cX7_readSlug 55 = .ok (.iconst 1, 1) := by decide +kernel
theorem dX7_readSlug_56 : decode cX7_readSlug 56 = .ok (.iadd, 1) := by decide +kernel
theorem dX7_readSlug_57 : decode cX7_readSlug 57 = .ok (.putfield 29, 3) := by decide +kernel
theorem dX7_readSlug_60 : decode cX7_readSlug 60 = .ok (.iinc 1 1, 3) := by decide +kernel
theorem dX7_readSlug_63 : decode cX7_readSlug 63 = .ok (.goto (-56), 3) := by decide +kernel
theorem dX7_readSlug_66 : decode cX7_readSlug 66 = .ok (.aload_n 0, 1) := by decide +kernel
theorem dX7_readSlug_67 : decode cX7_readSlug 67 = .ok (.getfield 82, 3) := by decide +kernel
theorem dX7_readSlug_70 : decode cX7_readSlug 70 = .ok (.ifCond .le 18, 3) := by decide +kernel
theorem dX7_readSlug_73 : decode cX7_readSlug 73 = .ok (.aload_n 0, 1) := by decide +kernel
theorem dX7_readSlug_74 : decode cX7_readSlug 74 = .ok (.getfield 29, 3) := by decide +kernel
theorem dX7_readSlug_77 : decode cX7_readSlug 77 = .ok (.aload_n 0, 1) := by decide +kernel
theorem dX7_readSlug_78 : decode cX7_readSlug 78 = .ok (.getfield 21, 3) := by decide +kernel
theorem dX7_readSlug_81 : decode cX7_readSlug 81 = .ok (.if_icmp .ne 7, 3) := by decide +kernel
theorem dX7_readSlug_84 : decode cX7_readSlug 84 = .ok (.iconst 1, 1) := by decide +kernel
theorem dX7_readSlug_85 : decode cX7_readSlug 85 = .ok (.goto 4, 3) := by decide +kernel
theorem dX7_readSlug_88 : decode cX7_readSlug 88 = .ok (.iconst 0, 1) := by decide +kernel
theorem dX7_readSlug_89 : decode cX7_readSlug 89 = .ok (.ireturn, 1) := by decide +kernel
theorem dX8_isBetween_0 : decode cX8_isBetween 0 = .ok (.iload_n 0, 1) := by decide +kernel
theorem dX8_isBetween_1 : decode cX8_isBetween 1 = .ok (.iload_n 1, 1) := by decide +kernel
theorem dX8_isBetween_2 : decode cX8_isBetween 2 = .ok (.if_icmp .lt 12, 3) := by decide +kernel
theorem dX8_isBetween_5 : decode cX8_isBetween 5 = .ok (.iload_n 0, 1) := by decide +kernel
theorem dX8_isBetween_6 : decode cX8_isBetween 6 = .ok (.iload_n 2, 1) := by decide +kernel
theorem dX8_isBetween_7 : decode cX8_isBetween 7 = .ok (.if_icmp .gt 7, 3) := by decide +kernel
theorem dX8_isBetween_10 : decode cX8_isBetween 10 = .ok (.iconst 1, 1) := by decide +kernel
theorem dX8_isBetween_11 : decode cX8_isBetween 11 = .ok (.goto 4, 3) := by decide +kernel
theorem dX8_isBetween_14 : decode cX8_isBetween 14 = .ok (.iconst 0, 1) := by decide +kernel
theorem dX8_isBetween_15 : decode cX8_isBetween 15 = .ok (.ireturn, 1) := by decide +kernel
theorem dX8_isPlace_0 : decode cX8_isPlace 0 = .ok (.iload_n 0, 1) := by decide +kernel
theorem dX8_isPlace_1 : decode cX8_isPlace 1 = .ok (.ifCond .lt 12, 3) := by decide +kernel
theorem dX8_isPlace_4 : decode cX8_isPlace 4 = .ok (.iload_n 0, 1) := by decide +kernel
theorem dX8_isPlace_5 : decode cX8_isPlace 5 = .ok (.iload_n 1, 1) := by decide +kernel
theorem dX8_isPlace_6 : decode cX8_isPlace 6 = .ok (.if_icmp .ge 7, 3) := by decide +kernel
theorem dX8_isPlace_9 : decode cX8_isPlace 9 = .ok (.iconst 1, 1) := by decide +kernel
theorem dX8_isPlace_10 : decode cX8_isPlace 10 = .ok (.goto 4, 3) := by decide +kernel
theorem dX8_isPlace_13 : decode cX8_isPlace 13 = .ok (.iconst 0, 1) := by decide +kernel
theorem dX8_isPlace_14 : decode cX8_isPlace 14 = .ok (.ireturn, 1) := by decide +kernel
theorem dX8_copyRow_0 : decode cX8_copyRow 0 = .ok (.aload_n 0, 1) := by decide +kernel
theorem dX8_copyRow_1 : decode cX8_copyRow 1 = .ok (.iconst 0, 1) := by decide +kernel
theorem dX8_copyRow_2 : decode cX8_copyRow 2 = .ok (.aload_n 1, 1) := by decide +kernel
theorem dX8_copyRow_3 : decode cX8_copyRow 3 = .ok (.iconst 0, 1) := by decide +kernel
theorem dX8_copyRow_4 : decode cX8_copyRow 4 = .ok (.aload_n 0, 1) := by decide +kernel
theorem dX8_copyRow_5 : decode cX8_copyRow 5 = .ok (.arraylength, 1) := by decide +kernel
theorem dX8_copyRow_6 : decode cX8_copyRow 6 = .ok (.aload_n 1, 1) := by decide +kernel
theorem dX8_copyRow_7 : decode cX8_copyRow 7 = .ok (.arraylength, 1) := by decide +kernel
theorem dX8_copyRow_8 : decode cX8_copyRow 8 = .ok (.invokestatic 272, 3) := by decide +kernel
theorem dX8_copyRow_11 : decode cX8_copyRow 11 = .ok (.invokestatic 275, 3) := by decide +kernel
theorem dX8_copyRow_14 : decode cX8_copyRow 14 = .ok (.return_, 1) := by decide +kernel
end
section
/-! the methods, lifted by program (wip/whole/gen/gen.py) out of their bytecode: functions of ints and of the memory; none: a step that is not allowed, or no end within ed_N rounds of a loop -/
abbrev rmX0_begin : Room := { frames := 0, cells := 0, slots := 0, locals := 0 }
abbrev rmX0_copyFrom : Room := { frames := 0, cells := 0, slots := 0, locals := 0 }
abbrev rmX0_hasTopic : Room := { frames := 0, cells := 0, slots := 0, locals := 0 }
abbrev rmX0_canGetCopy : Room := { frames := 0, cells := 0, slots := 0, locals := 0 }
abbrev rmX1_begin : Room := { frames := 0, cells := 0, slots := 0, locals := 0 }
abbrev rmX1_isOver : Room := { frames := 0, cells := 0, slots := 0, locals := 0 }
abbrev rmX1_copyFrom : Room := { frames := 0, cells := 0, slots := 0, locals := 0 }
abbrev rmX2_dropOldest : Room := { frames := 0, cells := 0, slots := 0, locals := 0 }
abbrev rmX8_isPlace : Room := { frames := 0, cells := 0, slots := 0, locals := 0 }
abbrev rmX3_copyFrom : Room := { frames := 2, cells := 0, slots := 0, locals := 51 }
abbrev rmX5_storyAt : Room := { frames := 1, cells := 0, slots := 0, locals := 21 }
abbrev rmX6_copyFrom : Room := { frames := 2, cells := 0, slots := 0, locals := 51 }
abbrev rmX5_copyStories : Room := { frames := 3, cells := 0, slots := 0, locals := 72 }
abbrev rmX5_clientAt : Room := { frames := 1, cells := 0, slots := 0, locals := 21 }
abbrev rmX5_copyClients : Room := { frames := 2, cells := 0, slots := 0, locals := 42 }
abbrev rmX5_copyMade : Room := { frames := 1, cells := 0, slots := 0, locals := 21 }
abbrev rmX5_copyCopies : Room := { frames := 2, cells := 0, slots := 0, locals := 42 }
abbrev rmX5_personAt : Room := { frames := 1, cells := 0, slots := 0, locals := 21 }
abbrev rmX5_copyPersons : Room := { frames := 2, cells := 0, slots := 0, locals := 42 }
abbrev rmX5_copyFrom : Room := { frames := 4, cells := 0, slots := 0, locals := 96 }
abbrev rmX2_remember : Room := { frames := 5, cells := 0, slots := 0, locals := 117 }
abbrev rmX2_takeLatest : Room := { frames := 5, cells := 0, slots := 0, locals := 117 }
abbrev rmX3_add : Room := { frames := 1, cells := 0, slots := 0, locals := 21 }
abbrev rmX3_part : Room := { frames := 1, cells := 0, slots := 0, locals := 21 }
abbrev rmX4_addShare : Room := { frames := 0, cells := 0, slots := 0, locals := 0 }
abbrev rmX5_copyFor : Room := { frames := 2, cells := 0, slots := 0, locals := 42 }
abbrev rmX5_startDay : Room := { frames := 2, cells := 0, slots := 0, locals := 42 }
abbrev rmX5_planCopy : Room := { frames := 2, cells := 0, slots := 0, locals := 42 }
abbrev rmX5_publish : Room := { frames := 3, cells := 0, slots := 0, locals := 66 }
abbrev rmX6_authorAt : Room := { frames := 1, cells := 0, slots := 0, locals := 21 }
abbrev rmX5_bill : Room := { frames := 2, cells := 0, slots := 0, locals := 42 }
abbrev rmX5_startUse : Room := { frames := 3, cells := 0, slots := 0, locals := 68 }
abbrev rmX5_useEndsAt : Room := { frames := 0, cells := 0, slots := 0, locals := 0 }
abbrev rmX5_killNoticeAt : Room := { frames := 2, cells := 0, slots := 0, locals := 42 }
abbrev rmX6_correctedAt : Room := { frames := 1, cells := 0, slots := 0, locals := 21 }
abbrev rmX5_correctionsDue : Room := { frames := 2, cells := 0, slots := 0, locals := 42 }
abbrev rmX5_reach : Room := { frames := 3, cells := 0, slots := 0, locals := 67 }
abbrev rmX5_moveOn : Room := { frames := 4, cells := 0, slots := 0, locals := 91 }
abbrev rmX5_passHour : Room := { frames := 5, cells := 0, slots := 0, locals := 114 }
abbrev rmX5_correctionsMissing : Room := { frames := 2, cells := 0, slots := 0, locals := 42 }
abbrev rmX5_nextCorrectionAt : Room := { frames := 3, cells := 0, slots := 0, locals := 64 }
abbrev rmX5_clientsFor : Room := { frames := 2, cells := 0, slots := 0, locals := 42 }
abbrev rmX5_copiesThatCame : Room := { frames := 2, cells := 0, slots := 0, locals := 42 }
abbrev rmX5_fits : Room := { frames := 0, cells := 0, slots := 0, locals := 0 }
abbrev rmX5_copiesOf : Room := { frames := 2, cells := 0, slots := 0, locals := 42 }
abbrev rmX5_upToDateCopies : Room := { frames := 3, cells := 0, slots := 0, locals := 64 }
abbrev rmX5_copiesWithCorrectionsDue : Room := { frames := 3, cells := 0, slots := 0, locals := 67 }
abbrev rmX6_isBy : Room := { frames := 2, cells := 0, slots := 0, locals := 42 }
abbrev rmX5_storiesBy : Room := { frames := 3, cells := 0, slots := 0, locals := 64 }
abbrev rmX5_copiesInUseBy : Room := { frames := 3, cells := 0, slots := 0, locals := 68 }
abbrev rmX5_authors : Room := { frames := 4, cells := 0, slots := 0, locals := 88 }
abbrev rmX6_begin : Room := { frames := 2, cells := 0, slots := 0, locals := 51 }
abbrev rmX6_addCorrection : Room := { frames := 1, cells := 0, slots := 0, locals := 21 }
abbrev rmX6_letterAt : Room := { frames := 1, cells := 0, slots := 0, locals := 21 }
abbrev rmX7_add : Room := { frames := 1, cells := 0, slots := 0, locals := 21 }
abbrev rmX7_sign : Room := { frames := 1, cells := 0, slots := 0, locals := 21 }
abbrev rmX8_isBetween : Room := { frames := 0, cells := 0, slots := 0, locals := 0 }
abbrev rmX7_digit : Room := { frames := 2, cells := 0, slots := 0, locals := 41 }
abbrev rmX7_readTopic : Room := { frames := 3, cells := 0, slots := 0, locals := 61 }
abbrev rmX7_readSign : Room := { frames := 2, cells := 0, slots := 0, locals := 41 }
abbrev rmX7_isInByline : Room := { frames := 0, cells := 0, slots := 0, locals := 0 }
abbrev rmX7_readPerson : Room := { frames := 3, cells := 0, slots := 0, locals := 61 }
abbrev rmX7_readByline : Room := { frames := 4, cells := 0, slots := 0, locals := 82 }
abbrev rmX7_readEmbargo : Room := { frames := 3, cells := 0, slots := 0, locals := 61 }
abbrev rmX7_readSlug : Room := { frames := 2, cells := 0, slots := 0, locals := 41 }
abbrev rmX7_parse : Room := { frames := 5, cells := 0, slots := 0, locals := 103 }
abbrev rmX8_addClient : Room := { frames := 6, cells := 0, slots := 0, locals := 139 }
abbrev rmX8_setTopics : Room := { frames := 6, cells := 0, slots := 0, locals := 139 }
abbrev rmX8_setUp : Room := { frames := 6, cells := 0, slots := 0, locals := 139 }
abbrev rmX8_setUse : Room := { frames := 6, cells := 0, slots := 0, locals := 139 }
abbrev rmX8_pay : Room := { frames := 6, cells := 0, slots := 0, locals := 139 }
abbrev rmX8_readStory : Room := { frames := 6, cells := 0, slots := 0, locals := 139 }
abbrev rmX8_release : Room := { frames := 6, cells := 0, slots := 0, locals := 139 }
abbrev rmX8_hold : Room := { frames := 6, cells := 0, slots := 0, locals := 139 }
abbrev rmX8_setEmbargo : Room := { frames := 6, cells := 0, slots := 0, locals := 139 }
abbrev rmX8_correct : Room := { frames := 6, cells := 0, slots := 0, locals := 139 }
abbrev rmX8_kill : Room := { frames := 6, cells := 0, slots := 0, locals := 139 }
abbrev rmX8_pass : Room := { frames := 6, cells := 0, slots := 0, locals := 139 }
abbrev rmX8_type : Room := { frames := 2, cells := 0, slots := 0, locals := 42 }
abbrev rmX8_clearText : Room := { frames := 0, cells := 0, slots := 0, locals := 0 }
abbrev rmX8_undo : Room := { frames := 6, cells := 0, slots := 0, locals := 139 }
abbrev rmX8_keep : Room := { frames := 5, cells := 0, slots := 0, locals := 117 }
abbrev rmX8_restore : Room := { frames := 6, cells := 0, slots := 0, locals := 139 }
abbrev rmX8_story : Room := { frames := 4, cells := 0, slots := 0, locals := 88 }
abbrev rmX8_byline : Room := { frames := 2, cells := 0, slots := 0, locals := 42 }
abbrev rmX8_slugChar : Room := { frames := 2, cells := 0, slots := 0, locals := 42 }
abbrev rmX8_correction : Room := { frames := 2, cells := 0, slots := 0, locals := 42 }
abbrev rmX8_client : Room := { frames := 3, cells := 0, slots := 0, locals := 68 }
abbrev rmX8_person : Room := { frames := 4, cells := 0, slots := 0, locals := 92 }
abbrev rmX8_copy : Room := { frames := 4, cells := 0, slots := 0, locals := 87 }
abbrev rmX8_copyAt : Room := { frames := 2, cells := 0, slots := 0, locals := 42 }
abbrev rmX8_carriedIn : Room := { frames := 6, cells := 0, slots := 0, locals := 136 }
abbrev rmX8_wouldCome : Room := { frames := 6, cells := 0, slots := 0, locals := 136 }
abbrev rmX8_event : Room := { frames := 2, cells := 0, slots := 0, locals := 44 }
abbrev rmX8_count : Room := { frames := 5, cells := 0, slots := 0, locals := 110 }
abbrev rmX9_in : Room := { frames := 0, cells := 0, slots := 0, locals := 0 }
abbrev rmX9_record : Room := { frames := 0, cells := 0, slots := 0, locals := 0 }
abbrev rmX9_isClient : Room := { frames := 1, cells := 0, slots := 0, locals := 22 }
abbrev rmX9_isStory : Room := { frames := 1, cells := 0, slots := 0, locals := 22 }
abbrev rmX9_clientAt : Room := { frames := 0, cells := 0, slots := 0, locals := 0 }
abbrev rmX9_storyAt : Room := { frames := 0, cells := 0, slots := 0, locals := 0 }
abbrev rmX9_atCopy : Room := { frames := 0, cells := 0, slots := 0, locals := 0 }
abbrev rmX9_ofClient : Room := { frames := 1, cells := 0, slots := 0, locals := 21 }
abbrev rmX9_ofStory : Room := { frames := 1, cells := 0, slots := 0, locals := 21 }
abbrev rmX9_ofCopy : Room := { frames := 1, cells := 0, slots := 0, locals := 21 }
abbrev rmX9_log : Room := { frames := 0, cells := 0, slots := 0, locals := 0 }
abbrev rmX9_wants : Room := { frames := 2, cells := 0, slots := 0, locals := 43 }
abbrev rmX9_publish : Room := { frames := 3, cells := 0, slots := 0, locals := 65 }
abbrev rmX9_share : Room := { frames := 0, cells := 0, slots := 0, locals := 0 }
abbrev rmX9_bill : Room := { frames := 2, cells := 0, slots := 0, locals := 43 }
abbrev rmX9_useEnds : Room := { frames := 2, cells := 0, slots := 0, locals := 43 }
abbrev rmX9_killDue : Room := { frames := 2, cells := 0, slots := 0, locals := 43 }
abbrev rmX9_correctionDue : Room := { frames := 2, cells := 0, slots := 0, locals := 43 }
abbrev rmX9_goOn : Room := { frames := 3, cells := 0, slots := 0, locals := 68 }
abbrev rmX9_oneHour : Room := { frames := 4, cells := 0, slots := 0, locals := 93 }
abbrev rmX9_addClient : Room := { frames := 1, cells := 0, slots := 0, locals := 22 }
abbrev rmX9_becomes : Room := { frames := 1, cells := 0, slots := 0, locals := 21 }
abbrev rmX9_setTopics : Room := { frames := 2, cells := 0, slots := 0, locals := 44 }
abbrev rmX9_setUp : Room := { frames := 2, cells := 0, slots := 0, locals := 44 }
abbrev rmX9_setUse : Room := { frames := 2, cells := 0, slots := 0, locals := 44 }
abbrev rmX9_pay : Room := { frames := 2, cells := 0, slots := 0, locals := 43 }
abbrev rmX9_type : Room := { frames := 0, cells := 0, slots := 0, locals := 0 }
abbrev rmX9_clearText : Room := { frames := 0, cells := 0, slots := 0, locals := 0 }
abbrev rmX9_sign : Room := { frames := 0, cells := 0, slots := 0, locals := 0 }
abbrev rmX9_digitTo : Room := { frames := 1, cells := 0, slots := 0, locals := 22 }
abbrev rmX9_readPersons : Room := { frames := 2, cells := 0, slots := 0, locals := 44 }
abbrev rmX9_readHour : Room := { frames := 2, cells := 0, slots := 0, locals := 44 }
abbrev rmX9_readSlug : Room := { frames := 1, cells := 0, slots := 0, locals := 22 }
abbrev rmX9_readText : Room := { frames := 3, cells := 0, slots := 0, locals := 68 }
abbrev rmX9_readStory : Room := { frames := 4, cells := 0, slots := 0, locals := 89 }
abbrev rmX9_release : Room := { frames := 3, cells := 0, slots := 0, locals := 65 }
abbrev rmX9_hold : Room := { frames := 2, cells := 0, slots := 0, locals := 43 }
abbrev rmX9_setEmbargo : Room := { frames := 2, cells := 0, slots := 0, locals := 44 }
abbrev rmX9_correct : Room := { frames := 2, cells := 0, slots := 0, locals := 43 }
abbrev rmX9_inUse : Room := { frames := 2, cells := 0, slots := 0, locals := 43 }
abbrev rmX9_kill : Room := { frames := 3, cells := 0, slots := 0, locals := 67 }
abbrev rmX9_pass : Room := { frames := 5, cells := 0, slots := 0, locals := 115 }
abbrev rmX9_undo : Room := { frames := 0, cells := 0, slots := 0, locals := 0 }
abbrev rmX9_keep : Room := { frames := 0, cells := 0, slots := 0, locals := 0 }
abbrev rmX9_restore : Room := { frames := 1, cells := 0, slots := 0, locals := 21 }
abbrev rmX9_story : Room := { frames := 3, cells := 0, slots := 0, locals := 67 }
abbrev rmX9_rowOf : Room := { frames := 2, cells := 0, slots := 0, locals := 43 }
abbrev rmX9_byline : Room := { frames := 3, cells := 0, slots := 0, locals := 67 }
abbrev rmX9_slugChar : Room := { frames := 3, cells := 0, slots := 0, locals := 67 }
abbrev rmX9_correction : Room := { frames := 3, cells := 0, slots := 0, locals := 67 }
abbrev rmX9_inUseFor : Room := { frames := 2, cells := 0, slots := 0, locals := 43 }
abbrev rmX9_client : Room := { frames := 3, cells := 0, slots := 0, locals := 66 }
abbrev rmX9_wrote : Room := { frames := 2, cells := 0, slots := 0, locals := 43 }
abbrev rmX9_person : Room := { frames := 3, cells := 0, slots := 0, locals := 67 }
abbrev rmX9_copyOf : Room := { frames := 2, cells := 0, slots := 0, locals := 43 }
abbrev rmX9_dueNow : Room := { frames := 3, cells := 0, slots := 0, locals := 65 }
abbrev rmX9_copy : Room := { frames := 4, cells := 0, slots := 0, locals := 88 }
abbrev rmX9_copyAt : Room := { frames := 2, cells := 0, slots := 0, locals := 43 }
abbrev rmX9_bringBack : Room := { frames := 0, cells := 0, slots := 0, locals := 0 }
abbrev rmX9_setAside : Room := { frames := 0, cells := 0, slots := 0, locals := 0 }
abbrev rmX9_carriedIn : Room := { frames := 5, cells := 0, slots := 0, locals := 115 }
abbrev rmX9_wouldCome : Room := { frames := 5, cells := 0, slots := 0, locals := 115 }
abbrev rmX9_event : Room := { frames := 1, cells := 0, slots := 0, locals := 22 }
abbrev rmX9_personsOfAll : Room := { frames := 3, cells := 0, slots := 0, locals := 67 }
abbrev rmX9_count : Room := { frames := 4, cells := 0, slots := 0, locals := 91 }
abbrev rmX8_copyRow : Room := { frames := 1, cells := 0, slots := 0, locals := 30 }
def f_X0_begin (n0 : Nat) (x1 x2 x3 x4 x5 : Int32) (σ : ed_SM) : Option ed_SM :=
  ed_t (ed_up σ 11 n0 0 x1) (fun σ1 => ed_t (ed_up σ1 11 n0 1 x2) (fun σ2 => ed_t (ed_up σ2 11 n0 2 x3) (fun σ3 => ed_t (ed_up σ3 11 n0 3 x4) (fun σ4 => ed_t (ed_up σ4 11 n0 4 x5) (fun σ5 => ed_t (ed_up σ5 11 n0 5 1) (fun σ6 => ed_t (ed_up σ6 11 n0 6 0) (fun σ7 => ed_t (ed_up σ7 11 n0 7 0) (fun σ8 => ed_t (ed_up σ8 11 n0 8 0) (fun σ9 => ed_t (ed_up σ9 11 n0 9 0) (fun σ10 => (some σ10)))))))))))
def f_X0_copyFrom (n0 n1 : Nat) (τ : ed_SM) (σ : ed_SM) : Option ed_SM :=
  ed_t (ed_up σ 11 n0 0 (τ 11 n1 0)) (fun σ1 => ed_t (ed_up σ1 11 n0 1 (τ 11 n1 1)) (fun σ2 => ed_t (ed_up σ2 11 n0 2 (τ 11 n1 2)) (fun σ3 => ed_t (ed_up σ3 11 n0 3 (τ 11 n1 3)) (fun σ4 => ed_t (ed_up σ4 11 n0 4 (τ 11 n1 4)) (fun σ5 => ed_g (ed_bo (τ 11 n1 5)) ( ed_t (ed_up σ5 11 n0 5 (τ 11 n1 5)) (fun σ7 => ed_t (ed_up σ7 11 n0 6 (τ 11 n1 6)) (fun σ8 => ed_t (ed_up σ8 11 n0 7 (τ 11 n1 7)) (fun σ9 => ed_t (ed_up σ9 11 n0 8 (τ 11 n1 8)) (fun σ10 => ed_t (ed_up σ10 11 n0 9 (τ 11 n1 9)) (fun σ11 => (some σ11))))))))))))
def f_X0_hasTopic (n0 : Nat) (x1 : Int32) (σ : ed_SM) : Int32 :=
  (if (((σ 11 n0 0) >>> (x1 &&& 31)) &&& 1) = 1 then 1 else 0)
def f_X0_canGetCopy (n0 : Nat) (σ : ed_SM) : Int32 :=
  (if (σ 11 n0 5) = 0 then 0 else (if (σ 11 n0 3) ≤ (σ 11 n0 7) then 0 else 1))
def f_X1_begin (n0 : Nat) (x1 x2 x3 : Int32) (σ : ed_SM) : Option ed_SM :=
  ed_t (ed_up σ 12 n0 0 x1) (fun σ1 => ed_t (ed_up σ1 12 n0 1 x2) (fun σ2 => ed_t (ed_up σ2 12 n0 2 0) (fun σ3 => ed_t (ed_up σ3 12 n0 3 x3) (fun σ4 => ed_t (ed_up σ4 12 n0 4 (-5)) (fun σ5 => ed_t (ed_up σ5 12 n0 5 (-5)) (fun σ6 => (some σ6)))))))
def f_X1_isOver (n0 : Nat) (σ : ed_SM) : Int32 :=
  (if (σ 12 n0 2) = 0 then 0 else (if (σ 12 n0 2) = 1 then 0 else 1))
def f_X1_copyFrom (n0 n1 : Nat) (τ : ed_SM) (σ : ed_SM) : Option ed_SM :=
  ed_t (ed_up σ 12 n0 0 (τ 12 n1 0)) (fun σ1 => ed_t (ed_up σ1 12 n0 1 (τ 12 n1 1)) (fun σ2 => ed_t (ed_up σ2 12 n0 2 (τ 12 n1 2)) (fun σ3 => ed_t (ed_up σ3 12 n0 3 (τ 12 n1 3)) (fun σ4 => ed_t (ed_up σ4 12 n0 4 (τ 12 n1 4)) (fun σ5 => ed_t (ed_up σ5 12 n0 5 (τ 12 n1 5)) (fun σ6 => (some σ6)))))))
def f_X2_dropOldest_2  : Nat → Int32 → ed_CM → Option ed_CM
  | 0, _, _ => none
  | n + 1, x1, μ =>
    (if 4 ≤ (x1 + 1) then ed_t (ed_sJ μ 7 (ed_up (μ 7) 15 0 1 ((μ 7 15 0 1) - 1))) (fun μ2 => (some μ2)) else ed_g (ed_in x1 4) ( ed_t ((μ 7 16 0 x1.toNatClampNeg).toNatClampNeg % 7) (fun j4q => ed_g (ed_in (x1 + 1) 4) ( ed_t ((μ 7 16 0 ((x1 + 1).toNatClampNeg)).toNatClampNeg % 7) (fun j6q => ed_g (ed_in x1 4) ( ed_t (ed_sJ μ 7 (ed_up (μ 7) 16 0 x1.toNatClampNeg (nI j6q))) (fun μ8 => ed_g (ed_in (x1 + 1) 4) ( ed_t (ed_sJ μ8 7 (ed_up (μ8 7) 16 0 (x1 + 1).toNatClampNeg (nI j4q))) (fun μ10 => (f_X2_dropOldest_2  n (x1 + 1) μ10))))))))))
def f_X2_dropOldest  (μ : ed_CM) : Option ed_CM :=
  f_X2_dropOldest_2 ed_N 0 μ
def f_X8_isPlace (x0 x1 : Int32) : Int32 :=
  (if x0 < 0 then 0 else (if x1 ≤ x0 then 0 else 1))
def f_X3_copyFrom (τ : ed_SM) (σ : ed_SM) : Option ed_SM :=
  ed_t (ed_sR σ 2 0 (va_cpy (τ 2 0) (σ 2 0) 0 0 48)) (fun σ1 => ed_t (ed_up σ1 1 0 1 (τ 1 0 1)) (fun σ2 => ed_t (ed_up σ2 1 0 2 (τ 1 0 2)) (fun σ3 => (some σ3))))
def f_X5_storyAt (x1 : Int32) (σ : ed_SM) : Option (Option Nat) :=
  (if (f_X8_isPlace x1 (if 20 < (σ 0 0 3) then 20 else (σ 0 0 3))) = 0 then some none else ed_g (ed_in x1 20) ( (some (some x1.toNatClampNeg))))
def f_X6_copyFrom (n0 n1 : Nat) (τ : ed_SM) (σ : ed_SM) : Option ed_SM :=
  ed_t (ed_up σ 7 n0 0 (τ 7 n1 0)) (fun σ1 => ed_t (ed_up σ1 7 n0 1 (τ 7 n1 1)) (fun σ2 => ed_t (ed_sR σ2 8 n0 (va_cpy (τ 8 n1) (σ2 8 n0) 0 0 3)) (fun σ3 => ed_t (ed_up σ3 7 n0 3 (τ 7 n1 3)) (fun σ4 => ed_t (ed_up σ4 7 n0 4 (τ 7 n1 4)) (fun σ5 => ed_t (ed_sR σ5 9 n0 (va_cpy (τ 9 n1) (σ5 9 n0) 0 0 12)) (fun σ6 => ed_t (ed_up σ6 7 n0 6 (τ 7 n1 6)) (fun σ7 => ed_t (ed_up σ7 7 n0 7 (τ 7 n1 7)) (fun σ8 => ed_t (ed_sR σ8 10 n0 (va_cpy (τ 10 n1) (σ8 10 n0) 0 0 6)) (fun σ9 => ed_t (ed_up σ9 7 n0 9 (τ 7 n1 9)) (fun σ10 => ed_t (ed_up σ10 7 n0 10 (τ 7 n1 10)) (fun σ11 => (some σ11))))))))))))
def f_X5_copyStories_10 (τ : ed_SM) : Nat → Int32 → ed_SM → Option ed_SM
  | 0, _, _ => none
  | n + 1, x2, σ =>
    (if (σ 0 0 3) ≤ x2 then some σ else ed_b (f_X5_storyAt x2 σ) (fun o3 => (match o3 with | none => ed_b (f_X5_storyAt x2 σ) (fun o4 => (match o4 with | none => f_X5_copyStories_10 τ n (x2 + 1) σ | some n4q => ed_g (n4q < 20) (f_X5_copyStories_10 τ n (x2 + 1) σ))) | some n3q => ed_g (n3q < 20) (ed_b (f_X5_storyAt x2 σ) (fun o5 => (match o5 with | none => f_X5_copyStories_10 τ n (x2 + 1) σ | some n5q => ed_g (n5q < 20) (ed_b (f_X6_copyFrom n3q n5q τ σ) (fun σ6 => (f_X5_copyStories_10 τ n (x2 + 1) σ6)))))))))
def f_X5_copyStories (τ : ed_SM) (σ : ed_SM) : Option ed_SM :=
  ed_t (ed_up σ 0 0 3 (τ 0 0 3)) (fun σ1 => (f_X5_copyStories_10 τ ed_N 0 σ1))
def f_X5_clientAt (x1 : Int32) (σ : ed_SM) : Option (Option Nat) :=
  (if (f_X8_isPlace x1 (if 8 < (σ 0 0 4) then 8 else (σ 0 0 4))) = 0 then some none else ed_g (ed_in x1 8) ( (some (some x1.toNatClampNeg))))
def f_X5_copyClients_10 (τ : ed_SM) : Nat → Int32 → ed_SM → Option ed_SM
  | 0, _, _ => none
  | n + 1, x2, σ =>
    (if (σ 0 0 4) ≤ x2 then some σ else ed_b (f_X5_clientAt x2 σ) (fun o3 => (match o3 with | none => ed_b (f_X5_clientAt x2 σ) (fun o4 => (match o4 with | none => f_X5_copyClients_10 τ n (x2 + 1) σ | some n4q => ed_g (n4q < 8) (f_X5_copyClients_10 τ n (x2 + 1) σ))) | some n3q => ed_g (n3q < 8) (ed_b (f_X5_clientAt x2 σ) (fun o5 => (match o5 with | none => f_X5_copyClients_10 τ n (x2 + 1) σ | some n5q => ed_g (n5q < 8) (ed_b (f_X0_copyFrom n3q n5q τ σ) (fun σ6 => (f_X5_copyClients_10 τ n (x2 + 1) σ6)))))))))
def f_X5_copyClients (τ : ed_SM) (σ : ed_SM) : Option ed_SM :=
  ed_t (ed_up σ 0 0 4 (τ 0 0 4)) (fun σ1 => (f_X5_copyClients_10 τ ed_N 0 σ1))
def f_X5_copyMade (x1 : Int32) (σ : ed_SM) : Option (Option Nat) :=
  (if (f_X8_isPlace x1 (if 160 < (σ 0 0 5) then 160 else (σ 0 0 5))) = 0 then some none else ed_g (ed_in x1 160) ( (some (some x1.toNatClampNeg))))
def f_X5_copyCopies_10 (τ : ed_SM) : Nat → Int32 → ed_SM → Option ed_SM
  | 0, _, _ => none
  | n + 1, x2, σ =>
    (if (σ 0 0 5) ≤ x2 then some σ else ed_b (f_X5_copyMade x2 σ) (fun o3 => (match o3 with | none => ed_b (f_X5_copyMade x2 σ) (fun o4 => (match o4 with | none => f_X5_copyCopies_10 τ n (x2 + 1) σ | some n4q => ed_g (n4q < 160) (f_X5_copyCopies_10 τ n (x2 + 1) σ))) | some n3q => ed_g (n3q < 160) (ed_b (f_X5_copyMade x2 σ) (fun o5 => (match o5 with | none => f_X5_copyCopies_10 τ n (x2 + 1) σ | some n5q => ed_g (n5q < 160) (ed_b (f_X1_copyFrom n3q n5q τ σ) (fun σ6 => (f_X5_copyCopies_10 τ n (x2 + 1) σ6)))))))))
def f_X5_copyCopies (τ : ed_SM) (σ : ed_SM) : Option ed_SM :=
  ed_t (ed_up σ 0 0 5 (τ 0 0 5)) (fun σ1 => (f_X5_copyCopies_10 τ ed_N 0 σ1))
def f_X5_personAt (x1 : Int32) (σ : ed_SM) : Option (Option Nat) :=
  (if (f_X8_isPlace x1 10) = 0 then some none else ed_g (ed_in x1 10) ( (some (some x1.toNatClampNeg))))
def f_X5_copyPersons_2 (τ : ed_SM) : Nat → Int32 → ed_SM → Option ed_SM
  | 0, _, _ => none
  | n + 1, x2, σ =>
    (if 10 ≤ x2 then some σ else ed_b (f_X5_personAt x2 σ) (fun o2 => (match o2 with | none => ed_b (f_X5_personAt x2 σ) (fun o3 => (match o3 with | none => f_X5_copyPersons_2 τ n (x2 + 1) σ | some n3q => ed_g (n3q < 10) (f_X5_copyPersons_2 τ n (x2 + 1) σ))) | some n2q => ed_g (n2q < 10) (ed_b (f_X5_personAt x2 σ) (fun o4 => (match o4 with | none => f_X5_copyPersons_2 τ n (x2 + 1) σ | some n4q => ed_g (n4q < 10) (ed_t (ed_up σ 13 n2q 0 (τ 13 n4q 0)) (fun σ5 => ed_t (ed_up σ5 13 n2q 1 (τ 13 n4q 1)) (fun σ6 => (f_X5_copyPersons_2 τ n (x2 + 1) σ6))))))))))
def f_X5_copyPersons (τ : ed_SM) (σ : ed_SM) : Option ed_SM :=
  f_X5_copyPersons_2 τ ed_N 0 σ
def f_X5_copyFrom (τ : ed_SM) (σ : ed_SM) : Option ed_SM :=
  ed_t (ed_up σ 0 0 0 (τ 0 0 0)) (fun σ1 => ed_t (ed_up σ1 0 0 1 (τ 0 0 1)) (fun σ2 => ed_t (ed_up σ2 0 0 2 (τ 0 0 2)) (fun σ3 => ed_b (f_X3_copyFrom τ σ3) (fun σ4 => ed_b (f_X5_copyStories τ σ4) (fun σ5 => ed_b (f_X5_copyClients τ σ5) (fun σ6 => ed_b (f_X5_copyCopies τ σ6) (fun σ7 => ed_b (f_X5_copyPersons τ σ7) (fun σ8 => (some σ8)))))))))
def f_X2_remember (j1 : Nat) (μ : ed_CM) : Option ed_CM :=
  (if (μ 7 15 0 1) < 4 then (if (f_X8_isPlace (μ 7 15 0 1) 4) = 0 then some μ else ed_g (ed_in (μ 7 15 0 1) 4) ( ed_t ((μ 7 16 0 ((μ 7 15 0 1).toNatClampNeg)).toNatClampNeg % 7) (fun j5q => ed_g (j1 ≠ j5q) ( ed_b (f_X5_copyFrom (μ j1) (μ j5q)) (fun σ7 => ed_t (ed_sJ μ j5q σ7) (fun μ8 => ed_t (ed_sJ μ8 7 (ed_up (μ8 7) 15 0 1 ((μ8 7 15 0 1) + 1))) (fun μ9 => (some μ9)))))))) else ed_b (f_X2_dropOldest μ) (fun μ10 => (if (f_X8_isPlace (μ10 7 15 0 1) 4) = 0 then some μ10 else ed_g (ed_in (μ10 7 15 0 1) 4) ( ed_t ((μ10 7 16 0 ((μ10 7 15 0 1).toNatClampNeg)).toNatClampNeg % 7) (fun j14q => ed_g (j1 ≠ j14q) ( ed_b (f_X5_copyFrom (μ10 j1) (μ10 j14q)) (fun σ16 => ed_t (ed_sJ μ10 j14q σ16) (fun μ17 => ed_t (ed_sJ μ17 7 (ed_up (μ17 7) 15 0 1 ((μ17 7 15 0 1) + 1))) (fun μ18 => (some μ18))))))))))
def f_X2_takeLatest (j1 : Nat) (μ : ed_CM) : Option ed_CM :=
  (if (f_X8_isPlace ((μ 7 15 0 1) - 1) 4) = 0 then some μ else ed_g (ed_in ((μ 7 15 0 1) - 1) 4) ( ed_t ((μ 7 16 0 (((μ 7 15 0 1) - 1).toNatClampNeg)).toNatClampNeg % 7) (fun j4q => ed_g (j4q ≠ j1) ( ed_b (f_X5_copyFrom (μ j4q) (μ j1)) (fun σ6 => ed_t (ed_sJ μ j1 σ6) (fun μ7 => ed_t (ed_sJ μ7 7 (ed_up (μ7 7) 15 0 1 ((μ7 7 15 0 1) - 1))) (fun μ8 => (some μ8))))))))
def f_X3_add (x1 x2 x3 x4 : Int32) (σ : ed_SM) : Option ed_SM :=
  ed_t (ed_up σ 1 0 1 (((σ 1 0 1) + 1) - ((σ 1 0 1) + 1) / 12 * 12)) (fun σ1 => ed_t (ed_up σ1 1 0 2 (if 12 < ((σ1 1 0 2) + 1) then 12 else ((σ1 1 0 2) + 1))) (fun σ2 => (if (f_X8_isPlace ((σ2 1 0 1) * 4) ((48 - 4) + 1)) = 0 then some σ2 else ed_g (ed_in ((σ2 1 0 1) * 4) 48) ( ed_t (ed_up σ2 2 0 ((σ2 1 0 1) * 4).toNatClampNeg x1) (fun σ6 => ed_g (ed_in (((σ2 1 0 1) * 4) + 1) 48) ( ed_t (ed_up σ6 2 0 (((σ2 1 0 1) * 4) + 1).toNatClampNeg x2) (fun σ8 => ed_g (ed_in (((σ2 1 0 1) * 4) + 2) 48) ( ed_t (ed_up σ8 2 0 (((σ2 1 0 1) * 4) + 2).toNatClampNeg x3) (fun σ10 => ed_g (ed_in (((σ2 1 0 1) * 4) + 3) 48) ( ed_t (ed_up σ10 2 0 (((σ2 1 0 1) * 4) + 3).toNatClampNeg x4) (fun σ12 => (some σ12))))))))))))
def f_X3_part (x1 x2 : Int32) (σ : ed_SM) : Option Int32 :=
  (if (f_X8_isPlace x1 (σ 1 0 2)) = 0 then some (-5) else ed_t ((((((σ 1 0 1) - x1) + 12) - (((σ 1 0 1) - x1) + 12) / 12 * 12) * 4) + x2) (fun y3 => (if (f_X8_isPlace y3 48) = 0 then some (-5) else ed_g (ed_in y3 48) ( (some (σ 2 0 y3.toNatClampNeg))))))
def f_X4_addShare (n0 : Nat) (x1 : Int32) (σ : ed_SM) : Option ed_SM :=
  (if (lg_cmp ((σ 13 n0 0).toInt64 + x1.toInt64) 2147483647) ≤ 0 then ed_t (ed_up σ 13 n0 0 ((σ 13 n0 0) + x1)) (fun σ2 => (some σ2)) else ed_t (ed_up σ 13 n0 1 ((σ 13 n0 1) + 1)) (fun σ3 => (some σ3)))
def f_X5_copyFor_2 (σ : ed_SM) : Nat → Int32 → Int32 → Int32 → Option (Option Nat)
  | 0, _, _, _ => none
  | n + 1, x1, x2, x3 =>
    (if (σ 0 0 5) ≤ x3 then some none else ed_b (f_X5_copyMade x3 σ) (fun o2 => (match o2 with | none => f_X5_copyFor_2 σ n x1 x2 (x3 + 1) | some n2q => ed_g (n2q < 160) ((if (σ 12 n2q 0) = x1 then (if (σ 12 n2q 1) = x2 then some (some n2q) else f_X5_copyFor_2 σ n x1 x2 (x3 + 1)) else f_X5_copyFor_2 σ n x1 x2 (x3 + 1))))))
def f_X5_copyFor (x1 x2 : Int32) (σ : ed_SM) : Option (Option Nat) :=
  f_X5_copyFor_2 σ ed_N x1 x2 0
def f_X5_startDay_2  : Nat → Int32 → ed_SM → Option ed_SM
  | 0, _, _ => none
  | n + 1, x1, σ =>
    (if (σ 0 0 4) ≤ x1 then some σ else ed_b (f_X5_clientAt x1 σ) (fun o2 => (match o2 with | none => f_X5_startDay_2  n (x1 + 1) σ | some n2q => ed_g (n2q < 8) (ed_t (ed_up σ 11 n2q 7 0) (fun σ3 => (f_X5_startDay_2  n (x1 + 1) σ3))))))
def f_X5_startDay  (σ : ed_SM) : Option ed_SM :=
  f_X5_startDay_2 ed_N 0 σ
def f_X5_planCopy (x1 x2 x3 : Int32) (σ : ed_SM) : Option ed_SM :=
  (if (σ 0 0 5) < 160 then ed_t (ed_up σ 0 0 5 ((σ 0 0 5) + 1)) (fun σ2 => ed_b (f_X5_copyMade ((σ2 0 0 5) - 1) σ2) (fun o3 => (match o3 with | none => some σ2 | some n3q => ed_g (n3q < 160) (ed_b (f_X1_begin n3q x1 x2 x3 σ2) (fun σ4 => (some σ4)))))) else some σ)
def f_X5_publish_30 (n2 : Nat) : Nat → Int32 → Int32 → ed_SM → Option ed_SM
  | 0, _, _, _ => none
  | n + 1, x1, x3, σ =>
    (if (σ 0 0 4) ≤ x3 then some σ else ed_b (f_X5_clientAt x3 σ) (fun o5 => (match o5 with | none => f_X5_publish_30 n2 n x1 (x3 + 1) σ | some n5q => ed_g (n5q < 8) ((if (f_X0_hasTopic n5q (σ 7 n2 0) σ) = 0 then f_X5_publish_30 n2 n x1 (x3 + 1) σ else ed_b (f_X5_planCopy x1 x3 ((σ 0 0 0) + (σ 11 n5q 1)) σ) (fun σ8 => (f_X5_publish_30 n2 n x1 (x3 + 1) σ8)))))))
def f_X5_publish (n2 : Nat) (x1 : Int32) (σ : ed_SM) : Option ed_SM :=
  ed_t (ed_up σ 7 n2 6 2) (fun σ1 => ed_t (ed_up σ1 7 n2 9 (σ1 0 0 0)) (fun σ2 => ed_b (f_X3_add 0 x1 (-5) (σ2 0 0 0) σ2) (fun σ3 => (f_X5_publish_30 n2 ed_N x1 0 σ3))))
def f_X6_authorAt (n0 : Nat) (x1 : Int32) (σ : ed_SM) : Option Int32 :=
  (if (f_X8_isPlace x1 (if 3 < (σ 7 n0 1) then 3 else (σ 7 n0 1))) = 0 then some (-5) else ed_g (ed_in x1 3) ( (some (σ 8 n0 x1.toNatClampNeg))))
def f_X5_bill_74 (n1 n2 : Nat) : Nat → Int32 → Int32 → Int32 → ed_SM → Option ed_SM
  | 0, _, _, _, _ => none
  | n + 1, x3, x4, x5, σ =>
    (if (σ 7 n1 1) ≤ x5 then some σ else ed_b (f_X6_authorAt n1 x5 σ) (fun r9 => ed_b (f_X5_personAt r9 σ) (fun o10 => (match o10 with | none => f_X5_bill_74 n1 n2 n x3 x4 (x5 + 1) σ | some n10q => ed_g (n10q < 10) ((if x5 = 0 then ed_b (f_X4_addShare n10q (x3 + x4) σ) (fun σ13 => (f_X5_bill_74 n1 n2 n x3 x4 (x5 + 1) σ13)) else ed_b (f_X4_addShare n10q x3 σ) (fun σ12 => (f_X5_bill_74 n1 n2 n x3 x4 (x5 + 1) σ12))))))))
def f_X5_bill (n1 n2 : Nat) (σ : ed_SM) : Option ed_SM :=
  (if (lg_cmp ((σ 11 n2 6).toInt64 + (σ 11 n2 4).toInt64) 2147483647) ≤ 0 then ed_t (ed_up σ 11 n2 6 ((σ 11 n2 6) + (σ 11 n2 4))) (fun σ2 => (if 0 < (σ2 7 n1 1) then ed_g (¬ (σ2 7 n1 1) = 0) ( ed_t ((σ2 11 n2 4) / (σ2 7 n1 1)) (fun y5 => ed_g (¬ (σ2 7 n1 1) = 0) ( ed_t ((σ2 11 n2 4) - (σ2 11 n2 4) / (σ2 7 n1 1) * (σ2 7 n1 1)) (fun y7 => (f_X5_bill_74 n1 n2 ed_N y5 y7 0 σ2))))) else some σ2)) else ed_t (ed_up σ 11 n2 9 ((σ 11 n2 9) + 1)) (fun σ14 => (some σ14)))
def f_X5_startUse (n1 n2 n3 : Nat) (σ : ed_SM) : Option ed_SM :=
  ed_t (ed_up σ 12 n1 2 1) (fun σ1 => ed_t (ed_up σ1 12 n1 4 (σ1 0 0 0)) (fun σ2 => ed_t (ed_up σ2 12 n1 5 (σ2 7 n2 7)) (fun σ3 => ed_t (ed_up σ3 11 n3 7 ((σ3 11 n3 7) + 1)) (fun σ4 => ed_t (ed_up σ4 11 n3 8 ((σ4 11 n3 8) + 1)) (fun σ5 => ed_b (f_X3_add 1 (σ5 12 n1 0) (σ5 12 n1 1) (σ5 0 0 0) σ5) (fun σ6 => ed_b (f_X5_bill n2 n3 σ6) (fun σ7 => (some σ7))))))))
def f_X5_useEndsAt (n1 : Nat) (σ : ed_SM) : Int32 :=
  (if (σ 12 n1 2) = 1 then ((σ 12 n1 4) + ((σ 0 0 1) * 24)) else (-5))
def f_X5_killNoticeAt (n1 : Nat) (σ : ed_SM) : Option Int32 :=
  ed_b (f_X5_storyAt (σ 12 n1 0) σ) (fun o1 => (match o1 with | none => ed_b (f_X5_clientAt (σ 12 n1 1) σ) (fun o2 => (match o2 with | none => some (-5) | some n2q => ed_g (n2q < 8) (some (-5)))) | some n1q => ed_g (n1q < 20) (ed_b (f_X5_clientAt (σ 12 n1 1) σ) (fun o3 => (match o3 with | none => some (-5) | some n3q => ed_g (n3q < 8) ((if (σ 7 n1q 6) = 3 then (if (σ 12 n1 2) = 1 then some ((σ 7 n1q 10) + ((σ 11 n3q 2) / 2)) else some (-5)) else some (-5))))))))
def f_X6_correctedAt (n0 : Nat) (x1 : Int32) (σ : ed_SM) : Option Int32 :=
  (if (f_X8_isPlace x1 (if 6 < (σ 7 n0 7) then 6 else (σ 7 n0 7))) = 0 then some (-5) else ed_g (ed_in x1 6) ( (some (σ 10 n0 x1.toNatClampNeg))))
def f_X5_correctionsDue_45 (n1 : Nat) (σ : ed_SM) : Nat → Nat → Nat → Int32 → Int32 → Option Int32
  | 0, _, _, _, _ => none
  | n + 1, m2, m3, x4, x5 =>
    (if (σ 7 m2 7) ≤ x5 then some x4 else ed_b (f_X6_correctedAt m2 x5 σ) (fun r6 => (if (σ 0 0 0) < (r6 + (σ 11 m3 2)) then f_X5_correctionsDue_45 n1 σ n m2 m3 x4 (x5 + 1) else f_X5_correctionsDue_45 n1 σ n m2 m3 (x4 + 1) (x5 + 1))))
def f_X5_correctionsDue (n1 : Nat) (σ : ed_SM) : Option Int32 :=
  ed_b (f_X5_storyAt (σ 12 n1 0) σ) (fun o1 => (match o1 with | none => ed_b (f_X5_clientAt (σ 12 n1 1) σ) (fun o2 => (match o2 with | none => some 0 | some n2q => ed_g (n2q < 8) (some 0))) | some n1q => ed_g (n1q < 20) (ed_b (f_X5_clientAt (σ 12 n1 1) σ) (fun o3 => (match o3 with | none => some 0 | some n3q => ed_g (n3q < 8) ((if (σ 12 n1 2) = 1 then f_X5_correctionsDue_45 n1 σ ed_N n1q n3q 0 (σ 12 n1 5) else some 0)))))))
def f_X5_reach_55 (n1 n2 : Nat) : Nat → Int32 → Int32 → ed_SM → Option ed_SM
  | 0, _, _, _ => none
  | n + 1, x3, x4, σ =>
    (if x3 ≤ x4 then some σ else ed_t (ed_up σ 12 n1 5 ((σ 12 n1 5) + 1)) (fun σ4 => ed_t (ed_up σ4 0 0 2 ((σ4 0 0 2) + 1)) (fun σ5 => ed_b (f_X3_add 2 (σ5 12 n1 0) (σ5 12 n1 1) (σ5 0 0 0) σ5) (fun σ6 => (f_X5_reach_55 n1 n2 n x3 (x4 + 1) σ6)))))
def f_X5_reach (n1 n2 : Nat) (σ : ed_SM) : Option ed_SM :=
  (if (σ 7 n2 6) = 3 then ed_b (f_X5_killNoticeAt n1 σ) (fun r7 => (if (σ 0 0 0) < r7 then ed_b (f_X5_correctionsDue n1 σ) (fun r9 => (f_X5_reach_55 n1 n2 ed_N r9 0 σ)) else ed_t (ed_up σ 12 n1 2 2) (fun σ10 => ed_b (f_X3_add 3 (σ10 12 n1 0) (σ10 12 n1 1) (σ10 0 0 0) σ10) (fun σ11 => (some σ11))))) else ed_b (f_X5_correctionsDue n1 σ) (fun r2 => (f_X5_reach_55 n1 n2 ed_N r2 0 σ)))
def f_X5_moveOn_120 (n1 : Nat) (m2 : Nat) (m3 : Nat) (σ : ed_SM) : Option ed_SM :=
    (if (σ 12 n1 2) = 1 then (if (σ 11 m3 5) = 0 then some σ else ed_b (f_X5_reach n1 m2 σ) (fun σ8 => (some σ8))) else some σ)
def f_X5_moveOn_75 (n1 : Nat) (m2 : Nat) (m3 : Nat) (σ : ed_SM) : Option ed_SM :=
    (if (σ 12 n1 2) = 1 then (if (σ 0 0 0) < (f_X5_useEndsAt n1 σ) then f_X5_moveOn_120 n1 m2 m3 σ else ed_t (ed_up σ 12 n1 2 3) (fun σ11 => ed_b (f_X3_add 4 (σ11 12 n1 0) (σ11 12 n1 1) (σ11 0 0 0) σ11) (fun σ12 => (f_X5_moveOn_120 n1 m2 m3 σ12)))) else f_X5_moveOn_120 n1 m2 m3 σ)
def f_X5_moveOn (n1 : Nat) (σ : ed_SM) : Option ed_SM :=
  ed_b (f_X5_storyAt (σ 12 n1 0) σ) (fun o1 => (match o1 with | none => ed_b (f_X5_clientAt (σ 12 n1 1) σ) (fun o2 => (match o2 with | none => some σ | some n2q => ed_g (n2q < 8) (some σ))) | some n1q => ed_g (n1q < 20) (ed_b (f_X5_clientAt (σ 12 n1 1) σ) (fun o3 => (match o3 with | none => some σ | some n3q => ed_g (n3q < 8) ((if (σ 12 n1 2) = 0 then (if (σ 7 n1q 6) = 3 then ed_t (ed_up σ 12 n1 2 4) (fun σ18 => (f_X5_moveOn_75 n1 n1q n3q σ18)) else (if (σ 0 0 0) < (σ 12 n1 3) then f_X5_moveOn_75 n1 n1q n3q σ else (if (f_X0_canGetCopy n3q σ) = 0 then f_X5_moveOn_75 n1 n1q n3q σ else ed_b (f_X5_startUse n1 n1q n3q σ) (fun σ17 => (f_X5_moveOn_75 n1 n1q n3q σ17))))) else f_X5_moveOn_75 n1 n1q n3q σ)))))))
def f_X5_passHour_77  : Nat → Int32 → ed_SM → Option ed_SM
  | 0, _, _ => none
  | n + 1, x1, σ =>
    (if (σ 0 0 5) ≤ x1 then some σ else ed_b (f_X5_copyMade x1 σ) (fun o5 => (match o5 with | none => f_X5_passHour_77  n (x1 + 1) σ | some n5q => ed_g (n5q < 160) ((if (f_X1_isOver n5q σ) = 0 then ed_b (f_X5_moveOn n5q σ) (fun σ8 => (f_X5_passHour_77  n (x1 + 1) σ8)) else f_X5_passHour_77  n (x1 + 1) σ)))))
def f_X5_passHour_26  : Nat → Int32 → ed_SM → Option ed_SM
  | 0, _, _ => none
  | n + 1, x1, σ =>
    (if (σ 0 0 3) ≤ x1 then f_X5_passHour_77 ed_N 0 σ else ed_b (f_X5_storyAt x1 σ) (fun o9 => (match o9 with | none => f_X5_passHour_26  n (x1 + 1) σ | some n9q => ed_g (n9q < 20) ((if (σ 7 n9q 6) = 1 then (if (σ 0 0 0) < (σ 7 n9q 3) then f_X5_passHour_26  n (x1 + 1) σ else ed_b (f_X5_publish n9q x1 σ) (fun σ12 => (f_X5_passHour_26  n (x1 + 1) σ12))) else f_X5_passHour_26  n (x1 + 1) σ)))))
def f_X5_passHour  (σ : ed_SM) : Option ed_SM :=
  ed_t (ed_up σ 0 0 0 ((σ 0 0 0) + 1)) (fun σ1 => (if ((σ1 0 0 0) - (σ1 0 0 0) / 24 * 24) = 0 then ed_b (f_X5_startDay σ1) (fun σ13 => (f_X5_passHour_26 ed_N 0 σ13)) else f_X5_passHour_26 ed_N 0 σ1))
def f_X5_correctionsMissing (n1 : Nat) (σ : ed_SM) : Option Int32 :=
  ed_b (f_X5_storyAt (σ 12 n1 0) σ) (fun o1 => (match o1 with | none => some 0 | some n1q => ed_g (n1q < 20) ((if (σ 12 n1 2) = 1 then some ((σ 7 n1q 7) - (σ 12 n1 5)) else some 0))))
def f_X5_nextCorrectionAt (n1 : Nat) (σ : ed_SM) : Option Int32 :=
  ed_b (f_X5_storyAt (σ 12 n1 0) σ) (fun o1 => (match o1 with | none => ed_b (f_X5_clientAt (σ 12 n1 1) σ) (fun o2 => (match o2 with | none => some (-5) | some n2q => ed_g (n2q < 8) (some (-5)))) | some n1q => ed_g (n1q < 20) (ed_b (f_X5_clientAt (σ 12 n1 1) σ) (fun o3 => (match o3 with | none => some (-5) | some n3q => ed_g (n3q < 8) (ed_b (f_X5_correctionsMissing n1 σ) (fun r4 => (if r4 = 0 then some (-5) else ed_b (f_X6_correctedAt n1q (σ 12 n1 5) σ) (fun r6 => (some (r6 + (σ 11 n3q 2))))))))))))
def f_X5_clientsFor_4 (σ : ed_SM) : Nat → Int32 → Int32 → Int32 → Option Int32
  | 0, _, _, _ => none
  | n + 1, x1, x2, x3 =>
    (if (σ 0 0 4) ≤ x3 then some x2 else ed_b (f_X5_clientAt x3 σ) (fun o2 => (match o2 with | none => f_X5_clientsFor_4 σ n x1 x2 (x3 + 1) | some n2q => ed_g (n2q < 8) ((if (f_X0_hasTopic n2q x1 σ) = 0 then f_X5_clientsFor_4 σ n x1 x2 (x3 + 1) else f_X5_clientsFor_4 σ n x1 (x2 + 1) (x3 + 1))))))
def f_X5_clientsFor (x1 : Int32) (σ : ed_SM) : Option Int32 :=
  f_X5_clientsFor_4 σ ed_N x1 0 0
def f_X5_copiesThatCame_4 (σ : ed_SM) : Nat → Int32 → Int32 → Option Int32
  | 0, _, _ => none
  | n + 1, x1, x2 =>
    (if (σ 0 0 4) ≤ x2 then some x1 else ed_b (f_X5_clientAt x2 σ) (fun o2 => (match o2 with | none => f_X5_copiesThatCame_4 σ n x1 (x2 + 1) | some n2q => ed_g (n2q < 8) (f_X5_copiesThatCame_4 σ n (x1 + (σ 11 n2q 8)) (x2 + 1)))))
def f_X5_copiesThatCame  (σ : ed_SM) : Option Int32 :=
  f_X5_copiesThatCame_4 σ ed_N 0 0
def f_X5_fits (x0 x1 : Int32) : Int32 :=
  (if x0 = (-1) then 1 else (if x0 = x1 then 1 else 0))
def f_X5_copiesOf_6 (σ : ed_SM) : Nat → Int32 → Int32 → Int32 → Int32 → Int32 → Option Int32
  | 0, _, _, _, _, _ => none
  | n + 1, x1, x2, x3, x4, x5 =>
    (if (σ 0 0 5) ≤ x5 then some x4 else ed_b (f_X5_copyMade x5 σ) (fun o2 => (match o2 with | none => f_X5_copiesOf_6 σ n x1 x2 x3 x4 (x5 + 1) | some n2q => ed_g (n2q < 160) ((if (f_X5_fits x1 (σ 12 n2q 0)) = 0 then f_X5_copiesOf_6 σ n x1 x2 x3 x4 (x5 + 1) else (if (f_X5_fits x2 (σ 12 n2q 1)) = 0 then f_X5_copiesOf_6 σ n x1 x2 x3 x4 (x5 + 1) else (if (f_X5_fits x3 (σ 12 n2q 2)) = 0 then f_X5_copiesOf_6 σ n x1 x2 x3 x4 (x5 + 1) else f_X5_copiesOf_6 σ n x1 x2 x3 (x4 + 1) (x5 + 1))))))))
def f_X5_copiesOf (x1 x2 x3 : Int32) (σ : ed_SM) : Option Int32 :=
  f_X5_copiesOf_6 σ ed_N x1 x2 x3 0 0
def f_X5_upToDateCopies_4 (σ : ed_SM) : Nat → Int32 → Int32 → Int32 → Option Int32
  | 0, _, _, _ => none
  | n + 1, x1, x2, x3 =>
    (if (σ 0 0 5) ≤ x3 then some x2 else ed_b (f_X5_copyMade x3 σ) (fun o2 => (match o2 with | none => f_X5_upToDateCopies_4 σ n x1 x2 (x3 + 1) | some n2q => ed_g (n2q < 160) ((if (σ 12 n2q 0) = x1 then (if (σ 12 n2q 2) = 1 then ed_b (f_X5_correctionsMissing n2q σ) (fun r5 => (if r5 = 0 then f_X5_upToDateCopies_4 σ n x1 (x2 + 1) (x3 + 1) else f_X5_upToDateCopies_4 σ n x1 x2 (x3 + 1))) else f_X5_upToDateCopies_4 σ n x1 x2 (x3 + 1)) else f_X5_upToDateCopies_4 σ n x1 x2 (x3 + 1))))))
def f_X5_upToDateCopies (x1 : Int32) (σ : ed_SM) : Option Int32 :=
  f_X5_upToDateCopies_4 σ ed_N x1 0 0
def f_X5_copiesWithCorrectionsDue_4 (σ : ed_SM) : Nat → Int32 → Int32 → Option Int32
  | 0, _, _ => none
  | n + 1, x1, x2 =>
    (if (σ 0 0 5) ≤ x2 then some x1 else ed_b (f_X5_copyMade x2 σ) (fun o2 => (match o2 with | none => f_X5_copiesWithCorrectionsDue_4 σ n x1 (x2 + 1) | some n2q => ed_g (n2q < 160) (ed_b (f_X5_correctionsDue n2q σ) (fun r3 => (if r3 ≤ 0 then f_X5_copiesWithCorrectionsDue_4 σ n x1 (x2 + 1) else f_X5_copiesWithCorrectionsDue_4 σ n (x1 + 1) (x2 + 1)))))))
def f_X5_copiesWithCorrectionsDue  (σ : ed_SM) : Option Int32 :=
  f_X5_copiesWithCorrectionsDue_4 σ ed_N 0 0
def f_X6_isBy_2 (n0 : Nat) (σ : ed_SM) : Nat → Int32 → Int32 → Option Int32
  | 0, _, _ => none
  | n + 1, x1, x2 =>
    (if (σ 7 n0 1) ≤ x2 then some 0 else ed_b (f_X6_authorAt n0 x2 σ) (fun r2 => (if r2 = x1 then some 1 else f_X6_isBy_2 n0 σ n x1 (x2 + 1))))
def f_X6_isBy (n0 : Nat) (x1 : Int32) (σ : ed_SM) : Option Int32 :=
  f_X6_isBy_2 n0 σ ed_N x1 0
def f_X5_storiesBy_4 (σ : ed_SM) : Nat → Int32 → Int32 → Int32 → Option Int32
  | 0, _, _, _ => none
  | n + 1, x1, x2, x3 =>
    (if (σ 0 0 3) ≤ x3 then some x2 else ed_b (f_X5_storyAt x3 σ) (fun o2 => (match o2 with | none => f_X5_storiesBy_4 σ n x1 x2 (x3 + 1) | some n2q => ed_g (n2q < 20) (ed_b (f_X6_isBy n2q x1 σ) (fun r3 => (if r3 = 0 then f_X5_storiesBy_4 σ n x1 x2 (x3 + 1) else f_X5_storiesBy_4 σ n x1 (x2 + 1) (x3 + 1)))))))
def f_X5_storiesBy (x1 : Int32) (σ : ed_SM) : Option Int32 :=
  f_X5_storiesBy_4 σ ed_N x1 0 0
def f_X5_copiesInUseBy_4 (σ : ed_SM) : Nat → Int32 → Int32 → Int32 → Option Int32
  | 0, _, _, _ => none
  | n + 1, x1, x2, x3 =>
    (if (σ 0 0 3) ≤ x3 then some x2 else ed_b (f_X5_storyAt x3 σ) (fun o2 => (match o2 with | none => f_X5_copiesInUseBy_4 σ n x1 x2 (x3 + 1) | some n2q => ed_g (n2q < 20) (ed_b (f_X6_isBy n2q x1 σ) (fun r3 => (if r3 = 0 then f_X5_copiesInUseBy_4 σ n x1 x2 (x3 + 1) else ed_b (f_X5_copiesOf x3 (-1) 1 σ) (fun r5 => (f_X5_copiesInUseBy_4 σ n x1 (x2 + r5) (x3 + 1)))))))))
def f_X5_copiesInUseBy (x1 : Int32) (σ : ed_SM) : Option Int32 :=
  f_X5_copiesInUseBy_4 σ ed_N x1 0 0
def f_X5_authors_4 (σ : ed_SM) : Nat → Int32 → Int32 → Option Int32
  | 0, _, _ => none
  | n + 1, x1, x2 =>
    (if 10 ≤ x2 then some x1 else ed_b (f_X5_storiesBy x2 σ) (fun r2 => (if r2 ≤ 0 then f_X5_authors_4 σ n x1 (x2 + 1) else f_X5_authors_4 σ n (x1 + 1) (x2 + 1))))
def f_X5_authors  (σ : ed_SM) : Option Int32 :=
  f_X5_authors_4 σ ed_N 0 0
def f_X6_begin (n0 : Nat) (τ : ed_SM) (σ : ed_SM) : Option ed_SM :=
  ed_t (ed_up σ 7 n0 0 (τ 17 0 3)) (fun σ1 => ed_t (ed_up σ1 7 n0 1 (τ 17 0 4)) (fun σ2 => ed_t (ed_sR σ2 8 n0 (va_cpy (τ 19 0) (σ2 8 n0) 0 0 3)) (fun σ3 => ed_t (ed_up σ3 7 n0 3 (τ 17 0 6)) (fun σ4 => ed_t (ed_up σ4 7 n0 4 (τ 17 0 7)) (fun σ5 => ed_t (ed_sR σ5 9 n0 (va_cpy (τ 20 0) (σ5 9 n0) 0 0 12)) (fun σ6 => ed_t (ed_up σ6 7 n0 6 0) (fun σ7 => ed_t (ed_up σ7 7 n0 7 0) (fun σ8 => ed_t (ed_up σ8 7 n0 9 (-5)) (fun σ9 => ed_t (ed_up σ9 7 n0 10 (-5)) (fun σ10 => (some σ10)))))))))))
def f_X6_addCorrection (n0 : Nat) (x1 : Int32) (σ : ed_SM) : Option ed_SM :=
  (if (f_X8_isPlace (σ 7 n0 7) 6) = 0 then some σ else ed_g (ed_in (σ 7 n0 7) 6) ( ed_t (ed_up σ 10 n0 (σ 7 n0 7).toNatClampNeg x1) (fun σ4 => ed_t (ed_up σ4 7 n0 7 ((σ4 7 n0 7) + 1)) (fun σ5 => (some σ5)))))
def f_X6_letterAt (n0 : Nat) (x1 : Int32) (σ : ed_SM) : Option Int32 :=
  (if (f_X8_isPlace x1 (if 12 < (σ 7 n0 4) then 12 else (σ 7 n0 4))) = 0 then some (-5) else ed_g (ed_in x1 12) ( (some (σ 9 n0 x1.toNatClampNeg))))
def f_X7_add (x1 : Int32) (σ : ed_SM) : Option ed_SM :=
  (if (f_X8_isPlace (σ 17 0 1) 40) = 0 then some σ else ed_g (ed_in (σ 17 0 1) 40) ( ed_t (ed_up σ 18 0 (σ 17 0 1).toNatClampNeg x1) (fun σ4 => ed_t (ed_up σ4 17 0 1 ((σ4 17 0 1) + 1)) (fun σ5 => (some σ5)))))
def f_X7_sign  (σ : ed_SM) : Option Int32 :=
  (if (f_X8_isPlace (σ 17 0 2) (if 40 < (σ 17 0 1) then 40 else (σ 17 0 1))) = 0 then some (-1) else ed_g (ed_in (σ 17 0 2) 40) ( (some (σ 18 0 ((σ 17 0 2).toNatClampNeg)))))
def f_X8_isBetween (x0 x1 x2 : Int32) : Int32 :=
  (if x0 < x1 then 0 else (if x2 < x0 then 0 else 1))
def f_X7_digit  (σ : ed_SM) : Option Int32 :=
  ed_b (f_X7_sign σ) (fun r1 => (if (f_X8_isBetween r1 48 57) = 0 then some (-1) else ed_b (f_X7_sign σ) (fun r4 => (some (r4 - 48)))))
def f_X7_readTopic  (σ : ed_SM) : Option (Int32 × ed_SM) :=
  ed_b (f_X7_digit σ) (fun r1 => ed_t (ed_up σ 17 0 3 r1) (fun σ2 => (if (f_X8_isBetween (σ2 17 0 3) 0 7) = 0 then some (0, σ2) else ed_t (ed_up σ2 17 0 2 ((σ2 17 0 2) + 1)) (fun σ5 => (some (1, σ5))))))
def f_X7_readSign (x1 : Int32) (σ : ed_SM) : Option (Int32 × ed_SM) :=
  ed_b (f_X7_sign σ) (fun r1 => (if r1 = x1 then ed_t (ed_up σ 17 0 2 ((σ 17 0 2) + 1)) (fun σ3 => (some (1, σ3))) else some (0, σ)))
def f_X7_isInByline_2 (σ : ed_SM) : Nat → Int32 → Int32 → Option Int32
  | 0, _, _ => none
  | n + 1, x1, x2 =>
    (if (σ 17 0 4) ≤ x2 then some 0 else (if 3 ≤ x2 then some 0 else ed_g (ed_in x2 3) ( (if (σ 19 0 x2.toNatClampNeg) = x1 then some 1 else f_X7_isInByline_2 σ n x1 (x2 + 1)))))
def f_X7_isInByline (x1 : Int32) (σ : ed_SM) : Option Int32 :=
  f_X7_isInByline_2 σ ed_N x1 0
def f_X7_readPerson  (σ : ed_SM) : Option (Int32 × ed_SM) :=
  ed_b (f_X7_digit σ) (fun r1 => (if r1 = (-1) then some (0, σ) else ed_b (f_X7_isInByline r1 σ) (fun r3 => (if r3 = 0 then (if (f_X8_isPlace (σ 17 0 4) 3) = 0 then some (0, σ) else ed_g (ed_in (σ 17 0 4) 3) ( ed_t (ed_up σ 19 0 (σ 17 0 4).toNatClampNeg r1) (fun σ8 => ed_t (ed_up σ8 17 0 4 ((σ8 17 0 4) + 1)) (fun σ9 => ed_t (ed_up σ9 17 0 2 ((σ9 17 0 2) + 1)) (fun σ10 => (some (1, σ10))))))) else some (0, σ)))))
def f_X7_readByline_7  : Nat → Int32 → ed_SM → Option (Int32 × ed_SM)
  | 0, _, _ => none
  | n + 1, x1, σ =>
    (if 3 ≤ x1 then some (1, σ) else (if x1 ≤ 0 then ed_b2 (f_X7_readPerson σ) (fun r4 σ4 => (if r4 = 0 then some (0, σ4) else f_X7_readByline_7  n (x1 + 1) σ4)) else ed_b2 (f_X7_readSign 44 σ) (fun r6 σ6 => (if r6 = 0 then some (1, σ6) else ed_b2 (f_X7_readPerson σ6) (fun r8 σ8 => (if r8 = 0 then some (0, σ8) else f_X7_readByline_7  n (x1 + 1) σ8))))))
def f_X7_readByline  (σ : ed_SM) : Option (Int32 × ed_SM) :=
  ed_t (ed_up σ 17 0 4 0) (fun σ1 => (f_X7_readByline_7 ed_N 0 σ1))
def f_X7_readEmbargo_30  : Nat → Int32 → ed_SM → Option (Int32 × ed_SM)
  | 0, _, _ => none
  | n + 1, x1, σ =>
    (if 3 ≤ x1 then some (1, σ) else (if (σ 17 0 6) = 0 then some (1, σ) else ed_b (f_X7_digit σ) (fun r7 => (if r7 = (-1) then some (1, σ) else ed_b (f_X7_digit σ) (fun r9 => ed_t (ed_up σ 17 0 6 (((σ 17 0 6) * 10) + r9)) (fun σ10 => ed_t (ed_up σ10 17 0 2 ((σ10 17 0 2) + 1)) (fun σ11 => (f_X7_readEmbargo_30  n (x1 + 1) σ11))))))))
def f_X7_readEmbargo  (σ : ed_SM) : Option (Int32 × ed_SM) :=
  ed_b (f_X7_digit σ) (fun r1 => ed_t (ed_up σ 17 0 6 r1) (fun σ2 => (if (σ2 17 0 6) = (-1) then some (0, σ2) else ed_t (ed_up σ2 17 0 2 ((σ2 17 0 2) + 1)) (fun σ4 => (f_X7_readEmbargo_30 ed_N 1 σ4)))))
def f_X7_readSlug_7  : Nat → Int32 → ed_SM → Option (Int32 × ed_SM)
  | 0, _, _ => none
  | n + 1, x1, σ =>
    (if 12 ≤ x1 then (if (σ 17 0 7) ≤ 0 then some (0, σ) else (if (σ 17 0 2) = (σ 17 0 1) then some (1, σ) else some (0, σ))) else ed_b (f_X7_sign σ) (fun r5 => (if (f_X8_isBetween r5 97 122) = 0 then (if (σ 17 0 7) ≤ 0 then some (0, σ) else (if (σ 17 0 2) = (σ 17 0 1) then some (1, σ) else some (0, σ))) else ed_b (f_X7_sign σ) (fun r10 => ed_g (ed_in x1 12) ( ed_t (ed_up σ 20 0 x1.toNatClampNeg r10) (fun σ12 => ed_t (ed_up σ12 17 0 7 ((σ12 17 0 7) + 1)) (fun σ13 => ed_t (ed_up σ13 17 0 2 ((σ13 17 0 2) + 1)) (fun σ14 => (f_X7_readSlug_7  n (x1 + 1) σ14)))))))))
def f_X7_readSlug  (σ : ed_SM) : Option (Int32 × ed_SM) :=
  ed_t (ed_up σ 17 0 7 0) (fun σ1 => (f_X7_readSlug_7 ed_N 0 σ1))
def f_X7_parse  (σ : ed_SM) : Option (Int32 × ed_SM) :=
  ed_t (ed_up σ 17 0 2 0) (fun σ1 => ed_b2 (f_X7_readTopic σ1) (fun r2 σ2 => (if r2 = 0 then some ((σ2 17 0 2), σ2) else ed_b2 (f_X7_readSign 32 σ2) (fun r4 σ4 => (if r4 = 0 then some ((σ4 17 0 2), σ4) else ed_b2 (f_X7_readByline σ4) (fun r6 σ6 => (if r6 = 0 then some ((σ6 17 0 2), σ6) else ed_b2 (f_X7_readSign 32 σ6) (fun r8 σ8 => (if r8 = 0 then some ((σ8 17 0 2), σ8) else ed_b2 (f_X7_readSign 64 σ8) (fun r10 σ10 => (if r10 = 0 then some ((σ10 17 0 2), σ10) else ed_b2 (f_X7_readEmbargo σ10) (fun r12 σ12 => (if r12 = 0 then some ((σ12 17 0 2), σ12) else ed_b2 (f_X7_readSign 32 σ12) (fun r14 σ14 => (if r14 = 0 then some ((σ14 17 0 2), σ14) else ed_b2 (f_X7_readSlug σ14) (fun r16 σ16 => (if r16 = 0 then some ((σ16 17 0 2), σ16) else some ((-1), σ16))))))))))))))))))
def f_X8_addClient (x1 x2 x3 x4 x5 : Int32) (μ : ed_CM) : Option (Int32 × ed_CM) :=
  (if (f_X8_isBetween x1 1 255) = 0 then some ((-2), μ) else (if (f_X8_isBetween x2 0 48) = 0 then some ((-2), μ) else (if (f_X8_isBetween x3 0 24) = 0 then some ((-2), μ) else (if (f_X8_isBetween x4 1 9) = 0 then some ((-2), μ) else (if (f_X8_isBetween x5 0 2000000000) = 0 then some ((-2), μ) else (if (μ 0 0 0 4) < 8 then ed_b (f_X2_remember 0 μ) (fun μ12 => ed_t (ed_sJ μ12 0 (ed_up (μ12 0) 0 0 4 ((μ12 0 0 0 4) + 1))) (fun μ13 => ed_b (f_X5_clientAt (μ12 0 0 0 4) (μ13 0)) (fun o14 => (match o14 with | none => some ((μ12 0 0 0 4), μ13) | some n14q => ed_g (n14q < 8) (ed_b (f_X0_begin n14q x1 x2 x3 x4 x5 (μ13 0)) (fun σ15 => ed_t (ed_sJ μ13 0 σ15) (fun μ16 => (some ((μ12 0 0 0 4), μ16))))))))) else some ((-3), μ)))))))
def f_X8_setTopics (x1 x2 : Int32) (μ : ed_CM) : Option (Int32 × ed_CM) :=
  ed_b (f_X5_clientAt x1 (μ 0)) (fun o1 => (match o1 with | none => some ((-1), μ) | some n1q => ed_g (n1q < 8) ((if (f_X8_isBetween x2 1 255) = 0 then some ((-2), μ) else (if (μ 0 11 n1q 0) = x2 then some ((-5), μ) else ed_b (f_X2_remember 0 μ) (fun μ5 => ed_t (ed_sJ μ5 0 (ed_up (μ5 0) 11 n1q 0 x2)) (fun μ6 => (some ((μ5 0 11 n1q 0), μ6)))))))))
def f_X8_setUp (x1 x2 : Int32) (μ : ed_CM) : Option (Int32 × ed_CM) :=
  ed_b (f_X5_clientAt x1 (μ 0)) (fun o1 => (match o1 with | none => some ((-1), μ) | some n1q => ed_g (n1q < 8) ((if (μ 0 11 n1q 5) = x2 then some ((-5), μ) else ed_b (f_X2_remember 0 μ) (fun μ3 => ed_g (ed_bo x2) ( ed_t (ed_sJ μ3 0 (ed_up (μ3 0) 11 n1q 5 x2)) (fun μ5 => ed_b (f_X5_copiesOf (-1) x1 0 (μ5 0)) (fun r6 => ed_b (f_X5_copiesOf (-1) x1 1 (μ5 0)) (fun r7 => (some ((r6 + r7), μ5)))))))))))
def f_X8_setUse (x1 : Int32) (μ : ed_CM) : Option (Int32 × ed_CM) :=
  (if (f_X8_isBetween x1 1 9) = 0 then some ((-2), μ) else (if (μ 0 0 0 1) = x1 then some ((-5), μ) else ed_b (f_X2_remember 0 μ) (fun μ4 => ed_t (ed_sJ μ4 0 (ed_up (μ4 0) 0 0 1 x1)) (fun μ5 => (some ((μ4 0 0 0 1), μ5))))))
def f_X8_pay (x1 x2 : Int32) (μ : ed_CM) : Option (Int32 × ed_CM) :=
  ed_b (f_X5_clientAt x1 (μ 0)) (fun o1 => (match o1 with | none => some ((-1), μ) | some n1q => ed_g (n1q < 8) ((if (f_X8_isBetween x2 1 2000000000) = 0 then some ((-2), μ) else (if x2 ≤ (μ 0 11 n1q 6) then ed_b (f_X2_remember 0 μ) (fun μ5 => ed_t (ed_sJ μ5 0 (ed_up (μ5 0) 11 n1q 6 ((μ5 0 11 n1q 6) - x2))) (fun μ6 => (some ((μ6 0 11 n1q 6), μ6)))) else some ((-4), μ))))))
def f_X8_readStory  (μ : ed_CM) : Option (Int32 × ed_CM) :=
  ed_b2 (f_X7_parse (μ 7)) (fun r1 σ1 => ed_t (ed_sJ μ 7 σ1) (fun μ2 => (if r1 = (-1) then (if (μ2 0 0 0 3) < 20 then ed_b (f_X2_remember 0 μ2) (fun μ5 => ed_t (ed_sJ μ5 0 (ed_up (μ5 0) 0 0 3 ((μ5 0 0 0 3) + 1))) (fun μ6 => ed_b (f_X5_storyAt (μ5 0 0 0 3) (μ6 0)) (fun o7 => (match o7 with | none => some ((μ5 0 0 0 3), μ6) | some n7q => ed_g (n7q < 20) (ed_b (f_X6_begin n7q (μ6 7) (μ6 0)) (fun σ8 => ed_t (ed_sJ μ6 0 σ8) (fun μ9 => (some ((μ5 0 0 0 3), μ9))))))))) else some ((-3), μ2)) else some (((-100) - r1), μ2))))
def f_X8_release (x1 : Int32) (μ : ed_CM) : Option (Int32 × ed_CM) :=
  ed_b (f_X5_storyAt x1 (μ 0)) (fun o1 => (match o1 with | none => some ((-1), μ) | some n1q => ed_g (n1q < 20) ((if (μ 0 7 n1q 6) = 0 then ed_b (f_X2_remember 0 μ) (fun μ3 => ed_t (ed_sJ μ3 0 (ed_up (μ3 0) 7 n1q 6 1)) (fun μ4 => ed_b (f_X5_clientsFor (μ4 0 7 n1q 0) (μ4 0)) (fun r5 => (some (r5, μ4))))) else some ((-4), μ)))))
def f_X8_hold (x1 : Int32) (μ : ed_CM) : Option (Int32 × ed_CM) :=
  ed_b (f_X5_storyAt x1 (μ 0)) (fun o1 => (match o1 with | none => some ((-1), μ) | some n1q => ed_g (n1q < 20) ((if (μ 0 7 n1q 6) = 1 then ed_b (f_X2_remember 0 μ) (fun μ3 => ed_t (ed_sJ μ3 0 (ed_up (μ3 0) 7 n1q 6 0)) (fun μ4 => (some ((if ((μ4 0 7 n1q 3) - (μ4 0 0 0 0)) < 0 then 0 else ((μ4 0 7 n1q 3) - (μ4 0 0 0 0))), μ4)))) else some ((-4), μ)))))
def f_X8_setEmbargo (x1 x2 : Int32) (μ : ed_CM) : Option (Int32 × ed_CM) :=
  ed_b (f_X5_storyAt x1 (μ 0)) (fun o1 => (match o1 with | none => some ((-1), μ) | some n1q => ed_g (n1q < 20) ((if (f_X8_isBetween x2 0 999) = 0 then some ((-2), μ) else (if (μ 0 7 n1q 6) = 0 then (if (μ 0 7 n1q 3) = x2 then some ((-5), μ) else ed_b (f_X2_remember 0 μ) (fun μ6 => ed_t (ed_sJ μ6 0 (ed_up (μ6 0) 7 n1q 3 x2)) (fun μ7 => (some ((μ6 0 7 n1q 3), μ7))))) else (if (μ 0 7 n1q 6) = 1 then (if (μ 0 7 n1q 3) = x2 then some ((-5), μ) else ed_b (f_X2_remember 0 μ) (fun μ10 => ed_t (ed_sJ μ10 0 (ed_up (μ10 0) 7 n1q 3 x2)) (fun μ11 => (some ((μ10 0 7 n1q 3), μ11))))) else some ((-4), μ)))))))
def f_X8_correct (x1 : Int32) (μ : ed_CM) : Option (Int32 × ed_CM) :=
  ed_b (f_X5_storyAt x1 (μ 0)) (fun o1 => (match o1 with | none => some ((-1), μ) | some n1q => ed_g (n1q < 20) ((if (μ 0 7 n1q 6) = 2 then (if (μ 0 7 n1q 7) < 6 then ed_b (f_X2_remember 0 μ) (fun μ4 => ed_b (f_X6_addCorrection n1q (μ4 0 0 0 0) (μ4 0)) (fun σ5 => ed_t (ed_sJ μ4 0 σ5) (fun μ6 => ed_b (f_X3_add 5 x1 (-5) (μ6 0 0 0 0) (μ6 0)) (fun σ7 => ed_t (ed_sJ μ6 0 σ7) (fun μ8 => (some ((μ8 0 7 n1q 7), μ8))))))) else some ((-3), μ)) else some ((-4), μ)))))
def f_X8_kill (x1 : Int32) (μ : ed_CM) : Option (Int32 × ed_CM) :=
  ed_b (f_X5_storyAt x1 (μ 0)) (fun o1 => (match o1 with | none => some ((-1), μ) | some n1q => ed_g (n1q < 20) ((if (μ 0 7 n1q 6) = 3 then some ((-5), μ) else ed_b (f_X2_remember 0 μ) (fun μ3 => ed_t (ed_sJ μ3 0 (ed_up (μ3 0) 7 n1q 6 3)) (fun μ4 => ed_t (ed_sJ μ4 0 (ed_up (μ4 0) 7 n1q 10 (μ4 0 0 0 0))) (fun μ5 => ed_b (f_X3_add 6 x1 (-5) (μ5 0 0 0 0) (μ5 0)) (fun σ6 => ed_t (ed_sJ μ5 0 σ6) (fun μ7 => ed_b (f_X5_copiesOf x1 (-1) 1 (μ7 0)) (fun r8 => (some (r8, μ7))))))))))))
def f_X8_pass_52  : Nat → Int32 → Int32 → Int32 → ed_CM → Option (Int32 × ed_CM)
  | 0, _, _, _, _ => none
  | n + 1, x1, x2, x3, μ =>
    (if x1 ≤ x3 then ed_b (f_X5_copiesThatCame (μ 0)) (fun r7 => (some ((r7 - x2), μ))) else ed_b (f_X5_passHour (μ 0)) (fun σ8 => ed_t (ed_sJ μ 0 σ8) (fun μ9 => (f_X8_pass_52  n x1 x2 (x3 + 1) μ9))))
def f_X8_pass (x1 : Int32) (μ : ed_CM) : Option (Int32 × ed_CM) :=
  (if (f_X8_isBetween x1 1 100) = 0 then some ((-2), μ) else (if ((μ 0 0 0 0) + x1) ≤ 9999 then ed_b (f_X2_remember 0 μ) (fun μ4 => ed_b (f_X5_copiesThatCame (μ4 0)) (fun r5 => (f_X8_pass_52 ed_N x1 r5 0 μ4))) else some ((-4), μ)))
def f_X8_type (x1 : Int32) (μ : ed_CM) : Option (Int32 × ed_CM) :=
  (if (μ 7 17 0 1) < 40 then ed_b (f_X7_add x1 (μ 7)) (fun σ2 => ed_t (ed_sJ μ 7 σ2) (fun μ3 => (some ((μ3 7 17 0 1), μ3)))) else some ((-3), μ))
def f_X8_clearText  (μ : ed_CM) : Option (Int32 × ed_CM) :=
  ed_t (ed_sJ μ 7 (ed_up (μ 7) 17 0 1 0)) (fun μ1 => (some ((μ 7 17 0 1), μ1)))
def f_X8_undo  (μ : ed_CM) : Option (Int32 × ed_CM) :=
  (if (μ 7 15 0 1) = 0 then some ((-5), μ) else ed_b (f_X2_takeLatest 0 μ) (fun μ2 => (some ((μ2 7 15 0 1), μ2))))
def f_X8_keep  (μ : ed_CM) : Option (Int32 × ed_CM) :=
  ed_b (f_X5_copyFrom (μ 0) (μ 2)) (fun σ1 => ed_t (ed_sJ μ 2 σ1) (fun μ2 => ed_t (ed_sJ μ2 7 (ed_up (μ2 7) 14 0 3 1)) (fun μ3 => (some ((μ3 0 0 0 0), μ3)))))
def f_X8_restore  (μ : ed_CM) : Option (Int32 × ed_CM) :=
  (if (μ 7 14 0 3) = 0 then some ((-5), μ) else ed_b (f_X2_remember 0 μ) (fun μ2 => ed_b (f_X5_copyFrom (μ2 2) (μ2 0)) (fun σ3 => ed_t (ed_sJ μ2 0 σ3) (fun μ4 => (some ((μ4 0 0 0 0), μ4))))))
def f_X8_story (x1 x2 : Int32) (μ : ed_CM) : Option Int32 :=
  ed_b (f_X5_storyAt x1 (μ 0)) (fun o1 => (match o1 with | none => some (-1) | some n1q => ed_g (n1q < 20) ((if x2 = 0 then some (μ 0 7 n1q 0) else if x2 = 1 then some (μ 0 7 n1q 1) else if x2 = 2 then some (μ 0 7 n1q 3) else if x2 = 3 then some (μ 0 7 n1q 6) else if x2 = 4 then some (μ 0 7 n1q 7) else if x2 = 5 then some (μ 0 7 n1q 9) else if x2 = 6 then some (μ 0 7 n1q 10) else if x2 = 7 then some (μ 0 7 n1q 4) else if x2 = 8 then ed_b (f_X5_copiesOf x1 (-1) (-1) (μ 0)) (fun r13 => (some r13)) else if x2 = 9 then ed_b (f_X5_copiesOf x1 (-1) 1 (μ 0)) (fun r14 => (some r14)) else if x2 = 10 then ed_b (f_X5_upToDateCopies x1 (μ 0)) (fun r15 => (some r15)) else some (-2)))))
def f_X8_byline (x1 x2 : Int32) (μ : ed_CM) : Option Int32 :=
  ed_b (f_X5_storyAt x1 (μ 0)) (fun o1 => (match o1 with | none => some (-1) | some n1q => ed_g (n1q < 20) ((if 0 ≤ x2 then ed_b (f_X6_authorAt n1q x2 (μ 0)) (fun r3 => (some r3)) else some (-2)))))
def f_X8_slugChar (x1 x2 : Int32) (μ : ed_CM) : Option Int32 :=
  ed_b (f_X5_storyAt x1 (μ 0)) (fun o1 => (match o1 with | none => some (-1) | some n1q => ed_g (n1q < 20) ((if 0 ≤ x2 then ed_b (f_X6_letterAt n1q x2 (μ 0)) (fun r3 => (some r3)) else some (-2)))))
def f_X8_correction (x1 x2 : Int32) (μ : ed_CM) : Option Int32 :=
  ed_b (f_X5_storyAt x1 (μ 0)) (fun o1 => (match o1 with | none => some (-1) | some n1q => ed_g (n1q < 20) ((if 0 ≤ x2 then ed_b (f_X6_correctedAt n1q x2 (μ 0)) (fun r3 => (some r3)) else some (-2)))))
def f_X8_client (x1 x2 : Int32) (μ : ed_CM) : Option Int32 :=
  ed_b (f_X5_clientAt x1 (μ 0)) (fun o1 => (match o1 with | none => some (-1) | some n1q => ed_g (n1q < 8) ((if x2 = 0 then some (μ 0 11 n1q 0) else if x2 = 1 then some (μ 0 11 n1q 1) else if x2 = 2 then some (μ 0 11 n1q 2) else if x2 = 3 then some (μ 0 11 n1q 3) else if x2 = 4 then some (μ 0 11 n1q 4) else if x2 = 5 then (if (μ 0 11 n1q 5) = 0 then some 0 else some 1) else if x2 = 6 then some (μ 0 11 n1q 6) else if x2 = 7 then some (μ 0 11 n1q 7) else if x2 = 8 then some (μ 0 11 n1q 8) else if x2 = 9 then ed_b (f_X5_copiesOf (-1) x1 1 (μ 0)) (fun r14 => (some r14)) else if x2 = 10 then some (μ 0 11 n1q 9) else some (-2)))))
def f_X8_person (x1 x2 : Int32) (μ : ed_CM) : Option Int32 :=
  ed_b (f_X5_personAt x1 (μ 0)) (fun o1 => (match o1 with | none => some (-1) | some n1q => ed_g (n1q < 10) ((if x2 = 0 then some (μ 0 13 n1q 0) else if x2 = 1 then some (μ 0 13 n1q 1) else if x2 = 2 then ed_b (f_X5_storiesBy x1 (μ 0)) (fun r6 => (some r6)) else if x2 = 3 then ed_b (f_X5_copiesInUseBy x1 (μ 0)) (fun r7 => (some r7)) else some (-2)))))
def f_X8_copy (x1 x2 x3 : Int32) (μ : ed_CM) : Option Int32 :=
  ed_b (f_X5_copyFor x1 x2 (μ 0)) (fun o1 => (match o1 with | none => some (-1) | some n1q => ed_g (n1q < 160) ((if x3 = 0 then some (μ 0 12 n1q 2) else if x3 = 1 then some (μ 0 12 n1q 3) else if x3 = 2 then some (μ 0 12 n1q 4) else if x3 = 3 then some (μ 0 12 n1q 5) else if x3 = 4 then ed_b (f_X5_correctionsMissing n1q (μ 0)) (fun r11 => (some r11)) else if x3 = 5 then ed_b (f_X5_correctionsDue n1q (μ 0)) (fun r12 => (some r12)) else if x3 = 6 then ed_b (f_X5_nextCorrectionAt n1q (μ 0)) (fun r13 => (some r13)) else if x3 = 7 then ed_b (f_X5_killNoticeAt n1q (μ 0)) (fun r14 => (some r14)) else if x3 = 8 then some (f_X5_useEndsAt n1q (μ 0)) else some (-2)))))
def f_X8_copyAt (x1 : Int32) (μ : ed_CM) : Option Int32 :=
  (if 0 ≤ x1 then ed_b (f_X5_copyMade x1 (μ 0)) (fun o2 => (match o2 with | none => some (-5) | some n2q => ed_g (n2q < 160) (some ((10 * (μ 0 12 n2q 0)) + (μ 0 12 n2q 1))))) else some (-2))
def f_X8_carriedIn_45  : Nat → Nat → Nat → Int32 → ed_CM → Option (Int32 × ed_CM)
  | 0, _, _, _, _ => none
  | n + 1, m3, m4, x5, μ =>
    (if 100 < x5 then some ((-5), μ) else (if x5 ≤ 0 then (if (μ 1 12 m3 2) = 1 then (if (μ 1 12 m3 5) = (μ 1 7 m4 7) then some (x5, μ) else f_X8_carriedIn_45  n m3 m4 (x5 + 1) μ) else f_X8_carriedIn_45  n m3 m4 (x5 + 1) μ) else ed_b (f_X5_passHour (μ 1)) (fun σ10 => ed_t (ed_sJ μ 1 σ10) (fun μ11 => (if (μ11 1 12 m3 2) = 1 then (if (μ11 1 12 m3 5) = (μ11 1 7 m4 7) then some (x5, μ11) else f_X8_carriedIn_45  n m3 m4 (x5 + 1) μ11) else f_X8_carriedIn_45  n m3 m4 (x5 + 1) μ11)))))
def f_X8_carriedIn (x1 x2 : Int32) (μ : ed_CM) : Option (Int32 × ed_CM) :=
  ed_b (f_X5_copyFrom (μ 0) (μ 1)) (fun σ1 => ed_t (ed_sJ μ 1 σ1) (fun μ2 => ed_b (f_X5_copyFor x1 x2 (μ2 1)) (fun o3 => (match o3 with | none => ed_b (f_X5_storyAt x1 (μ2 1)) (fun o4 => (match o4 with | none => some ((-1), μ2) | some n4q => ed_g (n4q < 20) (some ((-1), μ2)))) | some n3q => ed_g (n3q < 160) (ed_b (f_X5_storyAt x1 (μ2 1)) (fun o5 => (match o5 with | none => some ((-1), μ2) | some n5q => ed_g (n5q < 20) (f_X8_carriedIn_45 ed_N n3q n5q 0 μ2))))))))
def f_X8_wouldCome_48  : Nat → Nat → Int32 → Int32 → Int32 → ed_CM → Option (Int32 × ed_CM)
  | 0, _, _, _, _, _ => none
  | n + 1, m3, x2, x4, x5, μ =>
    (if x2 ≤ x5 then some (((μ 1 11 m3 8) - x4), μ) else ed_b (f_X5_passHour (μ 1)) (fun σ7 => ed_t (ed_sJ μ 1 σ7) (fun μ8 => (f_X8_wouldCome_48  n m3 x2 x4 (x5 + 1) μ8))))
def f_X8_wouldCome (x1 x2 : Int32) (μ : ed_CM) : Option (Int32 × ed_CM) :=
  ed_b (f_X5_copyFrom (μ 0) (μ 1)) (fun σ1 => ed_t (ed_sJ μ 1 σ1) (fun μ2 => ed_b (f_X5_clientAt x1 (μ2 1)) (fun o3 => (match o3 with | none => some ((-1), μ2) | some n3q => ed_g (n3q < 8) ((if (f_X8_isBetween x2 1 100) = 0 then some ((-2), μ2) else f_X8_wouldCome_48 ed_N n3q x2 (μ2 1 11 n3q 8) 0 μ2))))))
def f_X8_event (x1 x2 : Int32) (μ : ed_CM) : Option Int32 :=
  (if x1 < 0 then some (-2) else (if (f_X8_isBetween x2 0 3) = 0 then some (-2) else ed_b (f_X3_part x1 x2 (μ 0)) (fun r4 => (some r4))))
def f_X8_count (x1 : Int32) (μ : ed_CM) : Option Int32 :=
  (if x1 = 0 then some (μ 0 0 0 0) else if x1 = 1 then some (μ 0 0 0 4) else if x1 = 2 then some (μ 0 0 0 3) else if x1 = 3 then some (μ 0 0 0 5) else if x1 = 4 then ed_b (f_X5_copiesOf (-1) (-1) (x1 - 4) (μ 0)) (fun r16 => (some r16)) else if x1 = 5 then ed_b (f_X5_copiesOf (-1) (-1) (x1 - 4) (μ 0)) (fun r17 => (some r17)) else if x1 = 6 then ed_b (f_X5_copiesOf (-1) (-1) (x1 - 4) (μ 0)) (fun r18 => (some r18)) else if x1 = 7 then ed_b (f_X5_copiesOf (-1) (-1) (x1 - 4) (μ 0)) (fun r19 => (some r19)) else if x1 = 8 then ed_b (f_X5_copiesOf (-1) (-1) (x1 - 4) (μ 0)) (fun r20 => (some r20)) else if x1 = 9 then ed_b (f_X5_copiesWithCorrectionsDue (μ 0)) (fun r21 => (some r21)) else if x1 = 10 then some (μ 0 0 0 2) else if x1 = 11 then ed_b (f_X5_authors (μ 0)) (fun r22 => (some r22)) else if x1 = 12 then some (μ 0 0 0 1) else if x1 = 13 then some (μ 7 15 0 1) else if x1 = 14 then some (μ 7 17 0 1) else some (-2))
def f_X9_in (x0 x1 x2 : Int32) : Int32 :=
  (if x0 < x1 then 0 else (if x2 < x0 then 0 else 1))
def f_X9_record_51  : Nat → Int32 → em_MM → Option em_MM
  | 0, _, _ => none
  | n + 1, x1, ν =>
    (if 1683 ≤ x1 then ed_t (em_up ν 0 3 ((ν 0 3) + 1)) (fun ν3 => (some ν3)) else ed_g (ed_in x1 1683) ( ed_g (ed_in ((1683 * (ν 0 3)) + x1) 6732) ( ed_t (em_up ν 3 ((1683 * (ν 0 3)) + x1).toNatClampNeg (ν 1 x1.toNatClampNeg)) (fun ν6 => (f_X9_record_51  n (x1 + 1) ν6)))))
def f_X9_record_10  : Nat → Int32 → em_MM → Option em_MM
  | 0, _, _ => none
  | n + 1, x1, ν =>
    (if 5049 ≤ x1 then ed_t (em_up ν 0 3 ((ν 0 3) - 1)) (fun ν8 => (f_X9_record_51 ed_N 0 ν8)) else ed_g (ed_in (x1 + 1683) 6732) ( ed_g (ed_in x1 6732) ( ed_t (em_up ν 3 x1.toNatClampNeg (ν 3 (x1 + 1683).toNatClampNeg)) (fun ν11 => (f_X9_record_10  n (x1 + 1) ν11)))))
def f_X9_record  (ν : em_MM) : Option em_MM :=
  (if (ν 0 3) = 4 then f_X9_record_10 ed_N 0 ν else f_X9_record_51 ed_N 0 ν)
def f_X9_isClient (x1 : Int32) (ν : em_MM) : Option Int32 :=
  ed_g (ed_in 1 1683) ( ed_g (ed_bo (f_X9_in x1 0 ((ν 1 (1 : Int32).toNatClampNeg) - 1))) ( (some (f_X9_in x1 0 ((ν 1 (1 : Int32).toNatClampNeg) - 1)))))
def f_X9_isStory (x1 : Int32) (ν : em_MM) : Option Int32 :=
  ed_g (ed_in 2 1683) ( ed_g (ed_bo (f_X9_in x1 0 ((ν 1 (2 : Int32).toNatClampNeg) - 1))) ( (some (f_X9_in x1 0 ((ν 1 (2 : Int32).toNatClampNeg) - 1)))))
def f_X9_clientAt (x0 x1 : Int32) : Int32 :=
  ((7 + (10 * x0)) + x1)
def f_X9_storyAt (x0 x1 : Int32) : Int32 :=
  ((107 + (29 * x0)) + x1)
def f_X9_atCopy (x0 x1 : Int32) : Int32 :=
  ((687 + (6 * x0)) + x1)
def f_X9_ofClient (x1 x2 : Int32) (ν : em_MM) : Option Int32 :=
  ed_g (ed_in (f_X9_clientAt x1 x2) 1683) ( (some (ν 1 (f_X9_clientAt x1 x2).toNatClampNeg)))
def f_X9_ofStory (x1 x2 : Int32) (ν : em_MM) : Option Int32 :=
  ed_g (ed_in (f_X9_storyAt x1 x2) 1683) ( (some (ν 1 (f_X9_storyAt x1 x2).toNatClampNeg)))
def f_X9_ofCopy (x1 x2 : Int32) (ν : em_MM) : Option Int32 :=
  ed_g (ed_in (f_X9_atCopy x1 x2) 1683) ( (some (ν 1 (f_X9_atCopy x1 x2).toNatClampNeg)))
def f_X9_log_4  : Nat → Int32 → Int32 → Int32 → Int32 → em_MM → Option em_MM
  | 0, _, _, _, _, _ => none
  | n + 1, x1, x2, x3, x4, ν =>
    (if x4 ≤ 2 then ed_g (ed_in 1647 1683) ( ed_t (em_up ν 1 (1647 : Int32).toNatClampNeg x1) (fun ν3 => (if 0 ≤ x3 then ed_g (ed_in 1648 1683) ( ed_t (em_up ν3 1 (1648 : Int32).toNatClampNeg ((10 * x2) + x3)) (fun ν6 => ed_g (ed_in 0 1683) ( ed_g (ed_in 1649 1683) ( ed_t (em_up ν6 1 (1649 : Int32).toNatClampNeg (ν6 1 (0 : Int32).toNatClampNeg)) (fun ν9 => ed_g (ed_in 6 1683) ( ed_g (ed_in 6 1683) ( (if 12 ≤ (ν9 1 (6 : Int32).toNatClampNeg) then ed_g (ed_in 6 1683) ( ed_t (em_up ν9 1 (6 : Int32).toNatClampNeg ((ν9 1 (6 : Int32).toNatClampNeg) + 0)) (fun ν14 => (some ν14))) else ed_g (ed_in 6 1683) ( ed_t (em_up ν9 1 (6 : Int32).toNatClampNeg ((ν9 1 (6 : Int32).toNatClampNeg) + 1)) (fun ν16 => (some ν16))))))))))) else ed_g (ed_in 1648 1683) ( ed_t (em_up ν3 1 (1648 : Int32).toNatClampNeg ((10 * x2) + 9)) (fun ν18 => ed_g (ed_in 0 1683) ( ed_g (ed_in 1649 1683) ( ed_t (em_up ν18 1 (1649 : Int32).toNatClampNeg (ν18 1 (0 : Int32).toNatClampNeg)) (fun ν21 => ed_g (ed_in 6 1683) ( ed_g (ed_in 6 1683) ( (if 12 ≤ (ν21 1 (6 : Int32).toNatClampNeg) then ed_g (ed_in 6 1683) ( ed_t (em_up ν21 1 (6 : Int32).toNatClampNeg ((ν21 1 (6 : Int32).toNatClampNeg) + 0)) (fun ν26 => (some ν26))) else ed_g (ed_in 6 1683) ( ed_t (em_up ν21 1 (6 : Int32).toNatClampNeg ((ν21 1 (6 : Int32).toNatClampNeg) + 1)) (fun ν28 => (some ν28)))))))))))))) else ed_g (ed_in ((1647 + x4) - 3) 1683) ( ed_g (ed_in (1647 + x4) 1683) ( ed_t (em_up ν 1 (1647 + x4).toNatClampNeg (ν 1 ((1647 + x4) - 3).toNatClampNeg)) (fun ν31 => (f_X9_log_4  n x1 x2 x3 (x4 + (-1)) ν31)))))
def f_X9_log (x1 x2 x3 : Int32) (ν : em_MM) : Option em_MM :=
  f_X9_log_4 ed_N x1 x2 x3 35 ν
def f_X9_wants (x1 x2 : Int32) (ν : em_MM) : Option Int32 :=
  ed_b (f_X9_ofClient x1 0 ν) (fun r1 => ed_b (f_X9_ofStory x2 0 ν) (fun r2 => (if ((r1 >>> (r2 &&& 31)) &&& 1) = 1 then some 1 else some 0)))
def f_X9_publish_39  : Nat → Int32 → Int32 → em_MM → Option em_MM
  | 0, _, _, _ => none
  | n + 1, x1, x2, ν =>
    ed_g (ed_in 1 1683) ( (if (ν 1 (1 : Int32).toNatClampNeg) ≤ x2 then some ν else ed_b (f_X9_wants x2 x1 ν) (fun r11 => (if r11 = 0 then f_X9_publish_39  n x1 (x2 + 1) ν else ed_g (ed_in 3 1683) ( ed_t (ν 1 (3 : Int32).toNatClampNeg) (fun y14 => ed_g (ed_in (f_X9_atCopy y14 0) 1683) ( ed_t (em_up ν 1 (f_X9_atCopy y14 0).toNatClampNeg x1) (fun ν17 => ed_g (ed_in (f_X9_atCopy y14 1) 1683) ( ed_t (em_up ν17 1 (f_X9_atCopy y14 1).toNatClampNeg x2) (fun ν20 => ed_g (ed_in (f_X9_atCopy y14 2) 1683) ( ed_t (em_up ν20 1 (f_X9_atCopy y14 2).toNatClampNeg 0) (fun ν23 => ed_g (ed_in 0 1683) ( ed_b (f_X9_ofClient x2 1 ν23) (fun r26 => ed_g (ed_in (f_X9_atCopy y14 3) 1683) ( ed_t (em_up ν23 1 (f_X9_atCopy y14 3).toNatClampNeg ((ν23 1 (0 : Int32).toNatClampNeg) + r26)) (fun ν28 => ed_g (ed_in (f_X9_atCopy y14 4) 1683) ( ed_t (em_up ν28 1 (f_X9_atCopy y14 4).toNatClampNeg (-5)) (fun ν31 => ed_g (ed_in (f_X9_atCopy y14 5) 1683) ( ed_t (em_up ν31 1 (f_X9_atCopy y14 5).toNatClampNeg (-5)) (fun ν34 => ed_g (ed_in 3 1683) ( ed_g (ed_in 3 1683) ( ed_t (em_up ν34 1 (3 : Int32).toNatClampNeg ((ν34 1 (3 : Int32).toNatClampNeg) + 1)) (fun ν37 => (f_X9_publish_39  n x1 (x2 + 1) ν37))))))))))))))))))))))))
def f_X9_publish (x1 : Int32) (ν : em_MM) : Option em_MM :=
  ed_g (ed_in (f_X9_storyAt x1 6) 1683) ( ed_t (em_up ν 1 (f_X9_storyAt x1 6).toNatClampNeg 2) (fun ν3 => ed_g (ed_in 0 1683) ( ed_g (ed_in (f_X9_storyAt x1 8) 1683) ( ed_t (em_up ν3 1 (f_X9_storyAt x1 8).toNatClampNeg (ν3 1 (0 : Int32).toNatClampNeg)) (fun ν7 => ed_b (f_X9_log 0 x1 (-5) ν7) (fun ν8 => (f_X9_publish_39 ed_N x1 0 ν8)))))))
def f_X9_share (x1 x2 : Int32) (ν : em_MM) : Option em_MM :=
  ed_g (ed_in (87 + (2 * x1)) 1683) ( (if x2 ≤ (2147483647 - (ν 1 (87 + (2 * x1)).toNatClampNeg)) then ed_g (ed_in (87 + (2 * x1)) 1683) ( ed_g (ed_in (87 + (2 * x1)) 1683) ( ed_t (em_up ν 1 (87 + (2 * x1)).toNatClampNeg ((ν 1 (87 + (2 * x1)).toNatClampNeg) + x2)) (fun ν5 => (some ν5)))) else ed_g (ed_in ((87 + (2 * x1)) + 1) 1683) ( ed_g (ed_in ((87 + (2 * x1)) + 1) 1683) ( ed_t (em_up ν 1 ((87 + (2 * x1)) + 1).toNatClampNeg ((ν 1 ((87 + (2 * x1)) + 1).toNatClampNeg) + 1)) (fun ν8 => (some ν8))))))
def f_X9_bill_63  : Nat → Int32 → Int32 → Int32 → Int32 → em_MM → Option em_MM
  | 0, _, _, _, _, _ => none
  | n + 1, x1, x3, x4, x5, ν =>
    (if x4 ≤ x5 then some ν else ed_b (f_X9_ofStory x1 (2 + x5) ν) (fun r10 => ed_g (¬ x4 = 0) ( (if x5 = 0 then ed_g (¬ x4 = 0) ( ed_b (f_X9_share r10 ((x3 / x4) + (x3 - x3 / x4 * x4)) ν) (fun ν15 => (f_X9_bill_63  n x1 x3 x4 (x5 + 1) ν15))) else ed_b (f_X9_share r10 ((x3 / x4) + 0) ν) (fun ν13 => (f_X9_bill_63  n x1 x3 x4 (x5 + 1) ν13))))))
def f_X9_bill (x1 x2 : Int32) (ν : em_MM) : Option em_MM :=
  ed_b (f_X9_ofClient x2 4 ν) (fun r1 => ed_b (f_X9_ofClient x2 6 ν) (fun r2 => (if r1 ≤ (2147483647 - r2) then ed_g (ed_in (f_X9_clientAt x2 6) 1683) ( ed_g (ed_in (f_X9_clientAt x2 6) 1683) ( ed_t (em_up ν 1 (f_X9_clientAt x2 6).toNatClampNeg ((ν 1 (f_X9_clientAt x2 6).toNatClampNeg) + r1)) (fun ν7 => ed_b (f_X9_ofStory x1 1 ν7) (fun r8 => (f_X9_bill_63 ed_N x1 r1 r8 0 ν7))))) else ed_g (ed_in (f_X9_clientAt x2 9) 1683) ( ed_g (ed_in (f_X9_clientAt x2 9) 1683) ( ed_t (em_up ν 1 (f_X9_clientAt x2 9).toNatClampNeg ((ν 1 (f_X9_clientAt x2 9).toNatClampNeg) + 1)) (fun ν19 => (some ν19)))))))
def f_X9_useEnds (x1 : Int32) (ν : em_MM) : Option Int32 :=
  ed_b (f_X9_ofCopy x1 4 ν) (fun r1 => ed_g (ed_in 4 1683) ( (some (r1 + ((ν 1 (4 : Int32).toNatClampNeg) * 24)))))
def f_X9_killDue (x1 : Int32) (ν : em_MM) : Option Int32 :=
  ed_b (f_X9_ofCopy x1 0 ν) (fun r1 => ed_b (f_X9_ofStory r1 9 ν) (fun r2 => ed_b (f_X9_ofCopy x1 1 ν) (fun r3 => ed_b (f_X9_ofClient r3 2 ν) (fun r4 => (some (r2 + (r4 / 2)))))))
def f_X9_correctionDue (x1 x2 : Int32) (ν : em_MM) : Option Int32 :=
  ed_b (f_X9_ofCopy x1 0 ν) (fun r1 => ed_b (f_X9_ofStory r1 (10 + x2) ν) (fun r2 => ed_b (f_X9_ofCopy x1 1 ν) (fun r3 => ed_b (f_X9_ofClient r3 2 ν) (fun r4 => (some (r2 + r4))))))
def f_X9_goOn_304  : Nat → Int32 → Int32 → Int32 → Int32 → em_MM → Option (Int32 × em_MM)
  | 0, _, _, _, _, _ => none
  | n + 1, x1, x2, x3, x5, ν =>
    ed_b (f_X9_ofCopy x1 5 ν) (fun r16 => ed_b (f_X9_ofStory x2 7 ν) (fun r17 => (if r17 ≤ r16 then some (x5, ν) else ed_g (ed_in 0 1683) ( ed_b (f_X9_ofCopy x1 5 ν) (fun r20 => ed_b (f_X9_correctionDue x1 r20 ν) (fun r21 => (if (ν 1 (0 : Int32).toNatClampNeg) < r21 then some (x5, ν) else ed_g (ed_in (f_X9_atCopy x1 5) 1683) ( ed_g (ed_in (f_X9_atCopy x1 5) 1683) ( ed_t (em_up ν 1 (f_X9_atCopy x1 5).toNatClampNeg ((ν 1 (f_X9_atCopy x1 5).toNatClampNeg) + 1)) (fun ν26 => ed_g (ed_in 5 1683) ( ed_g (ed_in 5 1683) ( ed_t (em_up ν26 1 (5 : Int32).toNatClampNeg ((ν26 1 (5 : Int32).toNatClampNeg) + 1)) (fun ν29 => ed_b (f_X9_log 2 x2 x3 ν29) (fun ν30 => (f_X9_goOn_304  n x1 x2 x3 x5 ν30)))))))))))))))
def f_X9_goOn_242  (x1 : Int32) (x2 : Int32) (x3 : Int32) (x4 : Int32) (x5 : Int32) (ν : em_MM) : Option (Int32 × em_MM) :=
    ed_b (f_X9_ofCopy x1 2 ν) (fun r11 => (if r11 = 1 then ed_b (f_X9_ofClient x3 5 ν) (fun r13 => (if r13 = 0 then some (x5, ν) else (if x4 = 0 then f_X9_goOn_304 ed_N x1 x2 x3 x5 ν else ed_g (ed_in 0 1683) ( ed_b (f_X9_killDue x1 ν) (fun r32 => (if (ν 1 (0 : Int32).toNatClampNeg) < r32 then f_X9_goOn_304 ed_N x1 x2 x3 x5 ν else ed_g (ed_in (f_X9_atCopy x1 2) 1683) ( ed_t (em_up ν 1 (f_X9_atCopy x1 2).toNatClampNeg 2) (fun ν36 => ed_b (f_X9_log 3 x2 x3 ν36) (fun ν37 => (some (x5, ν37))))))))))) else some (x5, ν)))
def f_X9_goOn_200  (x1 : Int32) (x2 : Int32) (x3 : Int32) (x4 : Int32) (x5 : Int32) (ν : em_MM) : Option (Int32 × em_MM) :=
    ed_b (f_X9_ofCopy x1 2 ν) (fun r9 => (if r9 = 1 then ed_g (ed_in 0 1683) ( ed_b (f_X9_useEnds x1 ν) (fun r39 => (if (ν 1 (0 : Int32).toNatClampNeg) < r39 then f_X9_goOn_242 x1 x2 x3 x4 x5 ν else ed_g (ed_in (f_X9_atCopy x1 2) 1683) ( ed_t (em_up ν 1 (f_X9_atCopy x1 2).toNatClampNeg 3) (fun ν43 => ed_b (f_X9_log 4 x2 x3 ν43) (fun ν44 => (f_X9_goOn_242 x1 x2 x3 x4 x5 ν44))))))) else f_X9_goOn_242 x1 x2 x3 x4 x5 ν))
def f_X9_goOn_60  (x1 : Int32) (x2 : Int32) (x3 : Int32) (x4 : Int32) (x5 : Int32) (ν : em_MM) : Option (Int32 × em_MM) :=
    ed_b (f_X9_ofCopy x1 2 ν) (fun r7 => (if r7 = 0 then ed_g (ed_in 0 1683) ( ed_b (f_X9_ofCopy x1 3 ν) (fun r46 => (if (ν 1 (0 : Int32).toNatClampNeg) < r46 then f_X9_goOn_200 x1 x2 x3 x4 x5 ν else ed_b (f_X9_ofClient x3 5 ν) (fun r48 => (if r48 = 1 then ed_b (f_X9_ofClient x3 7 ν) (fun r50 => ed_b (f_X9_ofClient x3 3 ν) (fun r51 => (if r51 ≤ r50 then f_X9_goOn_200 x1 x2 x3 x4 x5 ν else ed_g (ed_in (f_X9_atCopy x1 2) 1683) ( ed_t (em_up ν 1 (f_X9_atCopy x1 2).toNatClampNeg 1) (fun ν55 => ed_g (ed_in 0 1683) ( ed_g (ed_in (f_X9_atCopy x1 4) 1683) ( ed_t (em_up ν55 1 (f_X9_atCopy x1 4).toNatClampNeg (ν55 1 (0 : Int32).toNatClampNeg)) (fun ν59 => ed_b (f_X9_ofStory x2 7 ν59) (fun r61 => ed_g (ed_in (f_X9_atCopy x1 5) 1683) ( ed_t (em_up ν59 1 (f_X9_atCopy x1 5).toNatClampNeg r61) (fun ν63 => ed_g (ed_in (f_X9_clientAt x3 7) 1683) ( ed_g (ed_in (f_X9_clientAt x3 7) 1683) ( ed_t (em_up ν63 1 (f_X9_clientAt x3 7).toNatClampNeg ((ν63 1 (f_X9_clientAt x3 7).toNatClampNeg) + 1)) (fun ν67 => ed_g (ed_in (f_X9_clientAt x3 8) 1683) ( ed_g (ed_in (f_X9_clientAt x3 8) 1683) ( ed_t (em_up ν67 1 (f_X9_clientAt x3 8).toNatClampNeg ((ν67 1 (f_X9_clientAt x3 8).toNatClampNeg) + 1)) (fun ν71 => ed_b (f_X9_bill x2 x3 ν71) (fun ν72 => ed_b (f_X9_log 1 x2 x3 ν72) (fun ν73 => (f_X9_goOn_200 x1 x2 x3 x4 1 ν73)))))))))))))))))))) else f_X9_goOn_200 x1 x2 x3 x4 x5 ν))))) else f_X9_goOn_200 x1 x2 x3 x4 x5 ν))
def f_X9_goOn_32  (x1 : Int32) (x2 : Int32) (x3 : Int32) (x4 : Int32) (ν : em_MM) : Option (Int32 × em_MM) :=
    ed_b (f_X9_ofCopy x1 2 ν) (fun r5 => (if r5 = 0 then (if x4 = 0 then f_X9_goOn_60 x1 x2 x3 x4 0 ν else ed_g (ed_in (f_X9_atCopy x1 2) 1683) ( ed_t (em_up ν 1 (f_X9_atCopy x1 2).toNatClampNeg 4) (fun ν77 => (f_X9_goOn_60 x1 x2 x3 x4 0 ν77)))) else f_X9_goOn_60 x1 x2 x3 x4 0 ν))
def f_X9_goOn (x1 : Int32) (ν : em_MM) : Option (Int32 × em_MM) :=
  ed_b (f_X9_ofCopy x1 0 ν) (fun r1 => ed_b (f_X9_ofCopy x1 1 ν) (fun r2 => ed_b (f_X9_ofStory r1 6 ν) (fun r3 => (if r3 = 3 then f_X9_goOn_32 x1 r1 r2 1 ν else f_X9_goOn_32 x1 r1 r2 0 ν))))
def f_X9_oneHour_105  : Nat → Int32 → Int32 → em_MM → Option (Int32 × em_MM)
  | 0, _, _, _ => none
  | n + 1, x1, x2, ν =>
    ed_g (ed_in 3 1683) ( (if (ν 1 (3 : Int32).toNatClampNeg) ≤ x2 then some (x1, ν) else ed_b2 (f_X9_goOn x2 ν) (fun r10 ν10 => (f_X9_oneHour_105  n (x1 + r10) (x2 + 1) ν10))))
def f_X9_oneHour_54  : Nat → Int32 → em_MM → Option (Int32 × em_MM)
  | 0, _, _ => none
  | n + 1, x1, ν =>
    ed_g (ed_in 2 1683) ( (if (ν 1 (2 : Int32).toNatClampNeg) ≤ x1 then f_X9_oneHour_105 ed_N 0 0 ν else ed_b (f_X9_ofStory x1 6 ν) (fun r11 => (if r11 = 1 then ed_b (f_X9_ofStory x1 5 ν) (fun r13 => ed_g (ed_in 0 1683) ( (if (ν 1 (0 : Int32).toNatClampNeg) < r13 then f_X9_oneHour_54  n (x1 + 1) ν else ed_b (f_X9_publish x1 ν) (fun ν16 => (f_X9_oneHour_54  n (x1 + 1) ν16))))) else f_X9_oneHour_54  n (x1 + 1) ν))))
def f_X9_oneHour_12  : Nat → Int32 → em_MM → Option (Int32 × em_MM)
  | 0, _, _ => none
  | n + 1, x1, ν =>
    ed_g (ed_in 1 1683) ( (if (ν 1 (1 : Int32).toNatClampNeg) ≤ x1 then f_X9_oneHour_54 ed_N 0 ν else ed_g (ed_in 0 1683) ( (if ((ν 1 (0 : Int32).toNatClampNeg) - (ν 1 (0 : Int32).toNatClampNeg) / 24 * 24) = 0 then ed_g (ed_in (f_X9_clientAt x1 7) 1683) ( ed_t (em_up ν 1 (f_X9_clientAt x1 7).toNatClampNeg 0) (fun ν21 => (f_X9_oneHour_12  n (x1 + 1) ν21))) else f_X9_oneHour_54 ed_N 0 ν))))
def f_X9_oneHour  (ν : em_MM) : Option (Int32 × em_MM) :=
  ed_g (ed_in 0 1683) ( ed_g (ed_in 0 1683) ( ed_t (em_up ν 1 (0 : Int32).toNatClampNeg ((ν 1 (0 : Int32).toNatClampNeg) + 1)) (fun ν3 => (f_X9_oneHour_12 ed_N 0 ν3))))
def f_X9_addClient (x1 x2 x3 x4 x5 : Int32) (ν : em_MM) : Option (Int32 × em_MM) :=
  (if (f_X9_in x1 1 255) = 0 then some ((-2), ν) else (if (f_X9_in x2 0 48) = 0 then some ((-2), ν) else (if (f_X9_in x3 0 24) = 0 then some ((-2), ν) else (if (f_X9_in x4 1 9) = 0 then some ((-2), ν) else (if (f_X9_in x5 0 2000000000) = 0 then some ((-2), ν) else ed_g (ed_in 1 1683) ( (if (ν 1 (1 : Int32).toNatClampNeg) = 8 then some ((-3), ν) else ed_b (f_X9_record ν) (fun ν13 => ed_g (ed_in 1 1683) ( ed_t (ν13 1 (1 : Int32).toNatClampNeg) (fun y15 => ed_g (ed_in (f_X9_clientAt y15 0) 1683) ( ed_t (em_up ν13 1 (f_X9_clientAt y15 0).toNatClampNeg x1) (fun ν18 => ed_g (ed_in (f_X9_clientAt y15 1) 1683) ( ed_t (em_up ν18 1 (f_X9_clientAt y15 1).toNatClampNeg x2) (fun ν21 => ed_g (ed_in (f_X9_clientAt y15 2) 1683) ( ed_t (em_up ν21 1 (f_X9_clientAt y15 2).toNatClampNeg x3) (fun ν24 => ed_g (ed_in (f_X9_clientAt y15 3) 1683) ( ed_t (em_up ν24 1 (f_X9_clientAt y15 3).toNatClampNeg x4) (fun ν27 => ed_g (ed_in (f_X9_clientAt y15 4) 1683) ( ed_t (em_up ν27 1 (f_X9_clientAt y15 4).toNatClampNeg x5) (fun ν30 => ed_g (ed_in (f_X9_clientAt y15 5) 1683) ( ed_t (em_up ν30 1 (f_X9_clientAt y15 5).toNatClampNeg 1) (fun ν33 => ed_g (ed_in 1 1683) ( ed_g (ed_in 1 1683) ( ed_t (em_up ν33 1 (1 : Int32).toNatClampNeg ((ν33 1 (1 : Int32).toNatClampNeg) + 1)) (fun ν36 => (some (y15, ν36)))))))))))))))))))))))))))
def f_X9_becomes (x1 x2 : Int32) (ν : em_MM) : Option (Int32 × em_MM) :=
  ed_g (ed_in x1 1683) ( (if (ν 1 x1.toNatClampNeg) = x2 then some ((-5), ν) else ed_b (f_X9_record ν) (fun ν3 => ed_g (ed_in x1 1683) ( ed_g (ed_in x1 1683) ( ed_t (em_up ν3 1 x1.toNatClampNeg x2) (fun ν6 => (some ((ν3 1 x1.toNatClampNeg), ν6))))))))
def f_X9_setTopics (x1 x2 : Int32) (ν : em_MM) : Option (Int32 × em_MM) :=
  ed_b (f_X9_isClient x1 ν) (fun r1 => (if r1 = 0 then some ((-1), ν) else (if (f_X9_in x2 1 255) = 0 then some ((-2), ν) else ed_b2 (f_X9_becomes (f_X9_clientAt x1 0) x2 ν) (fun r6 ν6 => (some (r6, ν6))))))
def f_X9_setUp_39  : Nat → Int32 → Int32 → Int32 → em_MM → Option (Int32 × em_MM)
  | 0, _, _, _, _ => none
  | n + 1, x1, x3, x4, ν =>
    ed_g (ed_in 3 1683) ( (if (ν 1 (3 : Int32).toNatClampNeg) ≤ x4 then some (x3, ν) else ed_b (f_X9_ofCopy x4 1 ν) (fun r9 => (if r9 = x1 then ed_b (f_X9_ofCopy x4 2 ν) (fun r11 => (if 1 < r11 then f_X9_setUp_39  n x1 (x3 + 0) (x4 + 1) ν else f_X9_setUp_39  n x1 (x3 + 1) (x4 + 1) ν)) else f_X9_setUp_39  n x1 (x3 + 0) (x4 + 1) ν))))
def f_X9_setUp (x1 x2 : Int32) (ν : em_MM) : Option (Int32 × em_MM) :=
  ed_b (f_X9_isClient x1 ν) (fun r1 => (if r1 = 0 then some ((-1), ν) else (if x2 = 0 then ed_b2 (f_X9_becomes (f_X9_clientAt x1 5) 0 ν) (fun r5 ν5 => (if 0 ≤ r5 then f_X9_setUp_39 ed_N x1 0 0 ν5 else some ((-5), ν5))) else ed_b2 (f_X9_becomes (f_X9_clientAt x1 5) 1 ν) (fun r13 ν13 => (if 0 ≤ r13 then f_X9_setUp_39 ed_N x1 0 0 ν13 else some ((-5), ν13))))))
def f_X9_setUse (x1 : Int32) (ν : em_MM) : Option (Int32 × em_MM) :=
  (if (f_X9_in x1 1 9) = 0 then some ((-2), ν) else ed_b2 (f_X9_becomes 4 x1 ν) (fun r3 ν3 => (some (r3, ν3))))
def f_X9_pay (x1 x2 : Int32) (ν : em_MM) : Option (Int32 × em_MM) :=
  ed_b (f_X9_isClient x1 ν) (fun r1 => (if r1 = 0 then some ((-1), ν) else (if (f_X9_in x2 1 2000000000) = 0 then some ((-2), ν) else ed_b (f_X9_ofClient x1 6 ν) (fun r5 => (if x2 ≤ r5 then ed_b (f_X9_record ν) (fun ν7 => ed_g (ed_in (f_X9_clientAt x1 6) 1683) ( ed_g (ed_in (f_X9_clientAt x1 6) 1683) ( ed_t (em_up ν7 1 (f_X9_clientAt x1 6).toNatClampNeg ((ν7 1 (f_X9_clientAt x1 6).toNatClampNeg) - x2)) (fun ν11 => ed_b (f_X9_ofClient x1 6 ν11) (fun r12 => (some (r12, ν11))))))) else some ((-4), ν))))))
def f_X9_type (x1 : Int32) (ν : em_MM) : Option (Int32 × em_MM) :=
  (if (ν 0 7) = 40 then some ((-3), ν) else ed_g (ed_in (ν 0 7) 40) ( ed_t (em_up ν 5 (ν 0 7).toNatClampNeg x1) (fun ν3 => ed_t (em_up ν3 0 7 ((ν3 0 7) + 1)) (fun ν4 => (some ((ν4 0 7), ν4))))))
def f_X9_clearText  (ν : em_MM) : Option (Int32 × em_MM) :=
  ed_t (em_up ν 0 7 0) (fun ν1 => (some ((ν 0 7), ν1)))
def f_X9_sign (x1 : Int32) (ν : em_MM) : Option (Int32 × em_MM) :=
  (if (ν 0 7) ≤ (ν 0 8) then ed_t (em_up ν 0 8 ((ν 0 8) + 0)) (fun ν2 => (some (0, ν2))) else ed_g (ed_in (ν 0 8) 40) ( (if (ν 5 (ν 0 8).toNatClampNeg) = x1 then ed_t (em_up ν 0 8 ((ν 0 8) + 1)) (fun ν6 => (some (1, ν6))) else ed_t (em_up ν 0 8 ((ν 0 8) + 0)) (fun ν5 => (some (0, ν5))))))
def f_X9_digitTo (x1 : Int32) (ν : em_MM) : Option (Int32 × em_MM) :=
  (if (ν 0 7) ≤ (ν 0 8) then ed_t (em_up ν 0 10 (-1)) (fun ν2 => (if (f_X9_in (ν2 0 10) 0 x1) = 0 then ed_t (em_up ν2 0 8 ((ν2 0 8) + 0)) (fun ν5 => ed_g (ed_bo (f_X9_in (ν2 0 10) 0 x1)) ( (some ((f_X9_in (ν2 0 10) 0 x1), ν5)))) else ed_t (em_up ν2 0 8 ((ν2 0 8) + 1)) (fun ν7 => ed_g (ed_bo (f_X9_in (ν2 0 10) 0 x1)) ( (some ((f_X9_in (ν2 0 10) 0 x1), ν7)))))) else ed_g (ed_in (ν 0 8) 40) ( ed_t (em_up ν 0 10 ((ν 5 (ν 0 8).toNatClampNeg) - 48)) (fun ν10 => ed_t (f_X9_in (ν10 0 10) 0 x1) (fun y12 => (if y12 = 0 then ed_t (em_up ν10 0 8 ((ν10 0 8) + 0)) (fun ν14 => ed_g (ed_bo y12) ( (some (y12, ν14)))) else ed_t (em_up ν10 0 8 ((ν10 0 8) + 1)) (fun ν16 => ed_g (ed_bo y12) ( (some (y12, ν16)))))))))
def f_X9_readPersons_28 (k9 : Int32 → em_MM → Option (Int32 × em_MM)) : Nat → Int32 → Int32 → Int32 → em_MM → Option (Int32 × em_MM)
  | 0, _, _, _, _ => none
  | n + 1, x2, x3, x4, ν =>
    ed_g (ed_in 1 29) ( (if (ν 6 (1 : Int32).toNatClampNeg) ≤ x4 then (if x3 = 0 then ed_t (em_up ν 0 8 x2) (fun ν18 => (some (0, ν18))) else ed_g (ed_in 1 29) ( ed_g (ed_in (2 + (ν 6 (1 : Int32).toNatClampNeg)) 29) ( ed_t (em_up ν 6 (2 + (ν 6 (1 : Int32).toNatClampNeg)).toNatClampNeg (ν 0 10)) (fun ν10 => ed_g (ed_in 1 29) ( ed_g (ed_in 1 29) ( ed_t (em_up ν10 6 (1 : Int32).toNatClampNeg ((ν10 6 (1 : Int32).toNatClampNeg) + 1)) (fun ν13 => ed_g (ed_in 1 29) ( (if 3 ≤ (ν13 6 (1 : Int32).toNatClampNeg) then k9 0 ν13 else ed_b2 (f_X9_sign 44 ν13) (fun r16 ν16 => (if r16 = 0 then k9 0 ν16 else k9 1 ν16))))))))))) else (if x3 = 0 then f_X9_readPersons_28 k9 n x2 0 (x4 + 1) ν else ed_g (ed_in (2 + x4) 29) ( (if (ν 6 (2 + x4).toNatClampNeg) = (ν 0 10) then f_X9_readPersons_28 k9 n x2 0 (x4 + 1) ν else f_X9_readPersons_28 k9 n x2 1 (x4 + 1) ν)))))
def f_X9_readPersons_9  : Nat → Int32 → em_MM → Option (Int32 × em_MM)
  | 0, _, _ => none
  | n + 1, x1, ν =>
    (if x1 = 0 then some (1, ν) else ed_b2 (f_X9_digitTo 9 ν) (fun r4 ν4 => (f_X9_readPersons_28 (fun a0 a1 => f_X9_readPersons_9  n a0 a1) ed_N (ν 0 8) r4 0 ν4)))
def f_X9_readPersons  (ν : em_MM) : Option (Int32 × em_MM) :=
  ed_g (ed_in 1 29) ( ed_t (em_up ν 6 (1 : Int32).toNatClampNeg 0) (fun ν2 => (f_X9_readPersons_9 ed_N 1 ν2)))
def f_X9_readHour_7  : Nat → Int32 → Int32 → em_MM → Option (Int32 × em_MM)
  | 0, _, _, _ => none
  | n + 1, x1, x2, ν =>
    (if (x2 + 3) ≤ (ν 0 8) then ed_g (ed_in 5 29) ( ed_t (em_up ν 6 (5 : Int32).toNatClampNeg x1) (fun ν3 => (if (ν3 0 8) ≤ x2 then some (0, ν3) else some (1, ν3)))) else (if (ν 0 8) = x2 then ed_b2 (f_X9_digitTo 9 ν) (fun r6 ν6 => (if r6 = 0 then ed_g (ed_in 5 29) ( ed_t (em_up ν6 6 (5 : Int32).toNatClampNeg x1) (fun ν9 => (if (ν9 0 8) ≤ x2 then some (0, ν9) else some (1, ν9)))) else f_X9_readHour_7  n ((10 * x1) + (ν6 0 10)) x2 ν6)) else ed_g (ed_in x2 40) ( (if (ν 5 x2.toNatClampNeg) = 48 then ed_g (ed_in 5 29) ( ed_t (em_up ν 6 (5 : Int32).toNatClampNeg x1) (fun ν14 => (if (ν14 0 8) ≤ x2 then some (0, ν14) else some (1, ν14)))) else ed_b2 (f_X9_digitTo 9 ν) (fun r16 ν16 => (if r16 = 0 then ed_g (ed_in 5 29) ( ed_t (em_up ν16 6 (5 : Int32).toNatClampNeg x1) (fun ν19 => (if (ν19 0 8) ≤ x2 then some (0, ν19) else some (1, ν19)))) else f_X9_readHour_7  n ((10 * x1) + (ν16 0 10)) x2 ν16))))))
def f_X9_readHour  (ν : em_MM) : Option (Int32 × em_MM) :=
  f_X9_readHour_7 ed_N 0 (ν 0 8) ν
def f_X9_readSlug_2  : Nat → Int32 → em_MM → Option (Int32 × em_MM)
  | 0, _, _ => none
  | n + 1, x1, ν =>
    (if 12 ≤ x1 then ed_g (ed_in 16 29) ( ed_t (em_up ν 6 (16 : Int32).toNatClampNeg x1) (fun ν3 => (if x1 ≤ 0 then some (0, ν3) else some (1, ν3)))) else (if (ν 0 7) ≤ (ν 0 8) then ed_g (ed_in 16 29) ( ed_t (em_up ν 6 (16 : Int32).toNatClampNeg x1) (fun ν7 => (if x1 ≤ 0 then some (0, ν7) else some (1, ν7)))) else ed_g (ed_in (ν 0 8) 40) ( (if (f_X9_in (ν 5 (ν 0 8).toNatClampNeg) 97 122) = 0 then ed_g (ed_in 16 29) ( ed_t (em_up ν 6 (16 : Int32).toNatClampNeg x1) (fun ν13 => (if x1 ≤ 0 then some (0, ν13) else some (1, ν13)))) else ed_g (ed_in (ν 0 8) 40) ( ed_g (ed_in (17 + x1) 29) ( ed_t (em_up ν 6 (17 + x1).toNatClampNeg (ν 5 (ν 0 8).toNatClampNeg)) (fun ν17 => ed_t (em_up ν17 0 8 ((ν17 0 8) + 1)) (fun ν18 => (f_X9_readSlug_2  n (x1 + 1) ν18)))))))))
def f_X9_readSlug  (ν : em_MM) : Option (Int32 × em_MM) :=
  f_X9_readSlug_2 ed_N 0 ν
def f_X9_readText_7  : Nat → Int32 → em_MM → Option (Int32 × em_MM)
  | 0, _, _ => none
  | n + 1, x1, ν =>
    (if 29 ≤ x1 then ed_b2 (f_X9_digitTo 7 ν) (fun r3 ν3 => ed_g (ed_in 0 29) ( ed_t (em_up ν3 6 (0 : Int32).toNatClampNeg (ν3 0 10)) (fun ν5 => (if r3 = 0 then some (0, ν5) else ed_b2 (f_X9_sign 32 ν5) (fun r7 ν7 => (if r7 = 0 then some (0, ν7) else ed_b2 (f_X9_readPersons ν7) (fun r9 ν9 => (if r9 = 0 then some (0, ν9) else ed_b2 (f_X9_sign 32 ν9) (fun r11 ν11 => (if r11 = 0 then some (0, ν11) else ed_b2 (f_X9_sign 64 ν11) (fun r13 ν13 => (if r13 = 0 then some (0, ν13) else ed_b2 (f_X9_readHour ν13) (fun r15 ν15 => (if r15 = 0 then some (0, ν15) else ed_b2 (f_X9_sign 32 ν15) (fun r17 ν17 => (if r17 = 0 then some (0, ν17) else ed_b2 (f_X9_readSlug ν17) (fun r19 ν19 => (if r19 = 0 then some (0, ν19) else (if (ν19 0 8) = (ν19 0 7) then some (1, ν19) else some (0, ν19)))))))))))))))))))) else ed_g (ed_in x1 29) ( ed_t (em_up ν 6 x1.toNatClampNeg 0) (fun ν23 => (f_X9_readText_7  n (x1 + 1) ν23))))
def f_X9_readText  (ν : em_MM) : Option (Int32 × em_MM) :=
  ed_t (em_up ν 0 8 0) (fun ν1 => (f_X9_readText_7 ed_N 0 ν1))
def f_X9_readStory_42  : Nat → Int32 → Int32 → em_MM → Option (Int32 × em_MM)
  | 0, _, _, _ => none
  | n + 1, x1, x2, ν =>
    (if 29 ≤ x2 then ed_g (ed_in (f_X9_storyAt x1 6) 1683) ( ed_t (em_up ν 1 (f_X9_storyAt x1 6).toNatClampNeg 0) (fun ν11 => ed_g (ed_in (f_X9_storyAt x1 8) 1683) ( ed_t (em_up ν11 1 (f_X9_storyAt x1 8).toNatClampNeg (-5)) (fun ν14 => ed_g (ed_in (f_X9_storyAt x1 9) 1683) ( ed_t (em_up ν14 1 (f_X9_storyAt x1 9).toNatClampNeg (-5)) (fun ν17 => ed_g (ed_in 2 1683) ( ed_g (ed_in 2 1683) ( ed_t (em_up ν17 1 (2 : Int32).toNatClampNeg ((ν17 1 (2 : Int32).toNatClampNeg) + 1)) (fun ν20 => (some (x1, ν20))))))))))) else ed_g (ed_in x2 29) ( ed_g (ed_in (f_X9_storyAt x1 x2) 1683) ( ed_t (em_up ν 1 (f_X9_storyAt x1 x2).toNatClampNeg (ν 6 x2.toNatClampNeg)) (fun ν24 => (f_X9_readStory_42  n x1 (x2 + 1) ν24)))))
def f_X9_readStory  (ν : em_MM) : Option (Int32 × em_MM) :=
  ed_b2 (f_X9_readText ν) (fun r1 ν1 => (if r1 = 0 then some (((-100) - (ν1 0 8)), ν1) else ed_g (ed_in 2 1683) ( (if (ν1 1 (2 : Int32).toNatClampNeg) = 20 then some ((-3), ν1) else ed_b (f_X9_record ν1) (fun ν5 => ed_g (ed_in 2 1683) ( ed_t (ν5 1 (2 : Int32).toNatClampNeg) (fun y7 => (f_X9_readStory_42 ed_N y7 0 ν5))))))))
def f_X9_release_43  : Nat → Int32 → Int32 → Int32 → em_MM → Option (Int32 × em_MM)
  | 0, _, _, _, _ => none
  | n + 1, x1, x2, x3, ν =>
    ed_g (ed_in 1 1683) ( (if (ν 1 (1 : Int32).toNatClampNeg) ≤ x3 then some (x2, ν) else ed_b (f_X9_wants x3 x1 ν) (fun r11 => (if r11 = 0 then f_X9_release_43  n x1 (x2 + 0) (x3 + 1) ν else f_X9_release_43  n x1 (x2 + 1) (x3 + 1) ν))))
def f_X9_release (x1 : Int32) (ν : em_MM) : Option (Int32 × em_MM) :=
  ed_b (f_X9_isStory x1 ν) (fun r1 => (if r1 = 0 then some ((-1), ν) else ed_b (f_X9_ofStory x1 6 ν) (fun r3 => (if r3 = 0 then ed_b (f_X9_record ν) (fun ν5 => ed_g (ed_in (f_X9_storyAt x1 6) 1683) ( ed_t (em_up ν5 1 (f_X9_storyAt x1 6).toNatClampNeg 1) (fun ν8 => (f_X9_release_43 ed_N x1 0 0 ν8)))) else some ((-4), ν)))))
def f_X9_hold (x1 : Int32) (ν : em_MM) : Option (Int32 × em_MM) :=
  ed_b (f_X9_isStory x1 ν) (fun r1 => (if r1 = 0 then some ((-1), ν) else ed_b (f_X9_ofStory x1 6 ν) (fun r3 => (if r3 = 1 then ed_b (f_X9_record ν) (fun ν5 => ed_g (ed_in (f_X9_storyAt x1 6) 1683) ( ed_t (em_up ν5 1 (f_X9_storyAt x1 6).toNatClampNeg 0) (fun ν8 => ed_b (f_X9_ofStory x1 5 ν8) (fun r9 => ed_g (ed_in 0 1683) ( ed_t (r9 - (ν8 1 (0 : Int32).toNatClampNeg)) (fun y11 => (if y11 ≤ 0 then some (0, ν8) else some (y11, ν8)))))))) else some ((-4), ν)))))
def f_X9_setEmbargo (x1 x2 : Int32) (ν : em_MM) : Option (Int32 × em_MM) :=
  ed_b (f_X9_isStory x1 ν) (fun r1 => (if r1 = 0 then some ((-1), ν) else (if (f_X9_in x2 0 999) = 0 then some ((-2), ν) else ed_b (f_X9_ofStory x1 6 ν) (fun r5 => (if r5 ≤ 1 then ed_b2 (f_X9_becomes (f_X9_storyAt x1 5) x2 ν) (fun r8 ν8 => (some (r8, ν8))) else some ((-4), ν))))))
def f_X9_correct (x1 : Int32) (ν : em_MM) : Option (Int32 × em_MM) :=
  ed_b (f_X9_isStory x1 ν) (fun r1 => (if r1 = 0 then some ((-1), ν) else ed_b (f_X9_ofStory x1 6 ν) (fun r3 => (if r3 = 2 then ed_b (f_X9_ofStory x1 7 ν) (fun r5 => (if r5 = 6 then some ((-3), ν) else ed_b (f_X9_record ν) (fun ν7 => ed_b (f_X9_ofStory x1 7 ν7) (fun r8 => ed_g (ed_in 0 1683) ( ed_g (ed_in (f_X9_storyAt x1 (10 + r8)) 1683) ( ed_t (em_up ν7 1 (f_X9_storyAt x1 (10 + r8)).toNatClampNeg (ν7 1 (0 : Int32).toNatClampNeg)) (fun ν12 => ed_g (ed_in (f_X9_storyAt x1 7) 1683) ( ed_g (ed_in (f_X9_storyAt x1 7) 1683) ( ed_t (em_up ν12 1 (f_X9_storyAt x1 7).toNatClampNeg ((ν12 1 (f_X9_storyAt x1 7).toNatClampNeg) + 1)) (fun ν16 => ed_b (f_X9_log 5 x1 (-5) ν16) (fun ν17 => ed_b (f_X9_ofStory x1 7 ν17) (fun r18 => (some (r18, ν17)))))))))))))) else some ((-4), ν)))))
def f_X9_inUse_5 (ν : em_MM) : Nat → Int32 → Int32 → Int32 → Int32 → Option Int32
  | 0, _, _, _, _ => none
  | n + 1, x1, x2, x3, x4 =>
    ed_g (ed_in 3 1683) ( (if (ν 1 (3 : Int32).toNatClampNeg) ≤ x4 then some x3 else ed_b (f_X9_ofCopy x4 0 ν) (fun r3 => (if r3 = x1 then ed_b (f_X9_ofCopy x4 2 ν) (fun r5 => (if r5 = 1 then (if x2 = 0 then f_X9_inUse_5 ν n x1 x2 (x3 + 1) (x4 + 1) else ed_b (f_X9_ofCopy x4 5 ν) (fun r8 => ed_b (f_X9_ofStory x1 7 ν) (fun r9 => (if r8 = r9 then f_X9_inUse_5 ν n x1 x2 (x3 + 1) (x4 + 1) else f_X9_inUse_5 ν n x1 x2 (x3 + 0) (x4 + 1))))) else f_X9_inUse_5 ν n x1 x2 (x3 + 0) (x4 + 1))) else f_X9_inUse_5 ν n x1 x2 (x3 + 0) (x4 + 1)))))
def f_X9_inUse (x1 x2 : Int32) (ν : em_MM) : Option Int32 :=
  f_X9_inUse_5 ν ed_N x1 x2 0 0
def f_X9_kill (x1 : Int32) (ν : em_MM) : Option (Int32 × em_MM) :=
  ed_b (f_X9_isStory x1 ν) (fun r1 => (if r1 = 0 then some ((-1), ν) else ed_b (f_X9_ofStory x1 6 ν) (fun r3 => (if r3 = 3 then some ((-5), ν) else ed_b (f_X9_record ν) (fun ν5 => ed_g (ed_in (f_X9_storyAt x1 6) 1683) ( ed_t (em_up ν5 1 (f_X9_storyAt x1 6).toNatClampNeg 3) (fun ν8 => ed_g (ed_in 0 1683) ( ed_g (ed_in (f_X9_storyAt x1 9) 1683) ( ed_t (em_up ν8 1 (f_X9_storyAt x1 9).toNatClampNeg (ν8 1 (0 : Int32).toNatClampNeg)) (fun ν12 => ed_b (f_X9_log 6 x1 (-5) ν12) (fun ν13 => ed_b (f_X9_inUse x1 0 ν13) (fun r14 => (some (r14, ν13))))))))))))))
def f_X9_pass_38  : Nat → Int32 → Int32 → Int32 → em_MM → Option (Int32 × em_MM)
  | 0, _, _, _, _ => none
  | n + 1, x1, x2, x3, ν =>
    (if x1 ≤ x3 then some (x2, ν) else ed_b2 (f_X9_oneHour ν) (fun r7 ν7 => (f_X9_pass_38  n x1 (x2 + r7) (x3 + 1) ν7)))
def f_X9_pass (x1 : Int32) (ν : em_MM) : Option (Int32 × em_MM) :=
  (if (f_X9_in x1 1 100) = 0 then some ((-2), ν) else ed_g (ed_in 0 1683) ( (if ((ν 1 (0 : Int32).toNatClampNeg) + x1) ≤ 9999 then ed_b (f_X9_record ν) (fun ν5 => (f_X9_pass_38 ed_N x1 0 0 ν5)) else some ((-4), ν))))
def f_X9_undo_22  : Nat → Int32 → em_MM → Option (Int32 × em_MM)
  | 0, _, _ => none
  | n + 1, x1, ν =>
    (if 1683 ≤ x1 then some ((ν 0 3), ν) else ed_g (ed_in ((1683 * (ν 0 3)) + x1) 6732) ( ed_g (ed_in x1 1683) ( ed_t (em_up ν 1 x1.toNatClampNeg (ν 3 ((1683 * (ν 0 3)) + x1).toNatClampNeg)) (fun ν6 => (f_X9_undo_22  n (x1 + 1) ν6)))))
def f_X9_undo  (ν : em_MM) : Option (Int32 × em_MM) :=
  (if (ν 0 3) = 0 then some ((-5), ν) else ed_t (em_up ν 0 3 ((ν 0 3) - 1)) (fun ν2 => (f_X9_undo_22 ed_N 0 ν2)))
def f_X9_keep_2  : Nat → Int32 → em_MM → Option (Int32 × em_MM)
  | 0, _, _ => none
  | n + 1, x1, ν =>
    (if 1683 ≤ x1 then ed_t (em_up ν 0 5 1) (fun ν2 => ed_g (ed_in 0 1683) ( (some ((ν2 1 (0 : Int32).toNatClampNeg), ν2)))) else ed_g (ed_in x1 1683) ( ed_g (ed_in x1 1683) ( ed_t (em_up ν 4 x1.toNatClampNeg (ν 1 x1.toNatClampNeg)) (fun ν6 => (f_X9_keep_2  n (x1 + 1) ν6)))))
def f_X9_keep  (ν : em_MM) : Option (Int32 × em_MM) :=
  f_X9_keep_2 ed_N 0 ν
def f_X9_restore_16  : Nat → Int32 → em_MM → Option (Int32 × em_MM)
  | 0, _, _ => none
  | n + 1, x1, ν =>
    (if 1683 ≤ x1 then ed_g (ed_in 0 1683) ( (some ((ν 1 (0 : Int32).toNatClampNeg), ν))) else ed_g (ed_in x1 1683) ( ed_g (ed_in x1 1683) ( ed_t (em_up ν 1 x1.toNatClampNeg (ν 4 x1.toNatClampNeg)) (fun ν7 => (f_X9_restore_16  n (x1 + 1) ν7)))))
def f_X9_restore  (ν : em_MM) : Option (Int32 × em_MM) :=
  (if (ν 0 5) = 0 then some ((-5), ν) else ed_b (f_X9_record ν) (fun ν2 => (f_X9_restore_16 ed_N 0 ν2)))
def f_X9_story_15 (ν : em_MM) : Nat → Int32 → Int32 → Int32 → Int32 → Option Int32
  | 0, _, _, _, _ => none
  | n + 1, x1, x2, x3, x4 =>
    ed_g (ed_in 3 1683) ( (if (ν 1 (3 : Int32).toNatClampNeg) ≤ x4 then (if x2 = 0 then ed_b (f_X9_ofStory x1 0 ν) (fun r16 => (some r16)) else if x2 = 1 then ed_b (f_X9_ofStory x1 1 ν) (fun r17 => (some r17)) else if x2 = 2 then ed_b (f_X9_ofStory x1 5 ν) (fun r18 => (some r18)) else if x2 = 3 then ed_b (f_X9_ofStory x1 6 ν) (fun r19 => (some r19)) else if x2 = 4 then ed_b (f_X9_ofStory x1 7 ν) (fun r20 => (some r20)) else if x2 = 5 then ed_b (f_X9_ofStory x1 8 ν) (fun r21 => (some r21)) else if x2 = 6 then ed_b (f_X9_ofStory x1 9 ν) (fun r22 => (some r22)) else if x2 = 7 then ed_b (f_X9_ofStory x1 16 ν) (fun r23 => (some r23)) else if x2 = 8 then some x3 else if x2 = 9 then ed_b (f_X9_inUse x1 0 ν) (fun r24 => (some r24)) else if x2 = 10 then ed_b (f_X9_inUse x1 1 ν) (fun r25 => (some r25)) else some (-2)) else ed_b (f_X9_ofCopy x4 0 ν) (fun r26 => (if r26 = x1 then f_X9_story_15 ν n x1 x2 (x3 + 1) (x4 + 1) else f_X9_story_15 ν n x1 x2 (x3 + 0) (x4 + 1)))))
def f_X9_story (x1 x2 : Int32) (ν : em_MM) : Option Int32 :=
  ed_b (f_X9_isStory x1 ν) (fun r1 => (if r1 = 0 then some (-1) else f_X9_story_15 ν ed_N x1 x2 0 0))
def f_X9_rowOf (x1 x2 x3 x4 : Int32) (ν : em_MM) : Option Int32 :=
  ed_b (f_X9_isStory x1 ν) (fun r1 => (if r1 = 0 then some (-1) else (if 0 ≤ x2 then ed_b (f_X9_ofStory x1 x3 ν) (fun r4 => (if r4 ≤ x2 then some (-5) else ed_b (f_X9_ofStory x1 (x4 + x2) ν) (fun r6 => (some r6)))) else some (-2))))
def f_X9_byline (x1 x2 : Int32) (ν : em_MM) : Option Int32 :=
  ed_b (f_X9_rowOf x1 x2 1 2 ν) (fun r1 => (some r1))
def f_X9_slugChar (x1 x2 : Int32) (ν : em_MM) : Option Int32 :=
  ed_b (f_X9_rowOf x1 x2 16 17 ν) (fun r1 => (some r1))
def f_X9_correction (x1 x2 : Int32) (ν : em_MM) : Option Int32 :=
  ed_b (f_X9_rowOf x1 x2 7 10 ν) (fun r1 => (some r1))
def f_X9_inUseFor_4 (ν : em_MM) : Nat → Int32 → Int32 → Int32 → Option Int32
  | 0, _, _, _ => none
  | n + 1, x1, x2, x3 =>
    ed_g (ed_in 3 1683) ( (if (ν 1 (3 : Int32).toNatClampNeg) ≤ x3 then some x2 else ed_b (f_X9_ofCopy x3 1 ν) (fun r3 => (if r3 = x1 then ed_b (f_X9_ofCopy x3 2 ν) (fun r5 => (if r5 = 1 then f_X9_inUseFor_4 ν n x1 (x2 + 1) (x3 + 1) else f_X9_inUseFor_4 ν n x1 (x2 + 0) (x3 + 1))) else f_X9_inUseFor_4 ν n x1 (x2 + 0) (x3 + 1)))))
def f_X9_inUseFor (x1 : Int32) (ν : em_MM) : Option Int32 :=
  f_X9_inUseFor_4 ν ed_N x1 0 0
def f_X9_client (x1 x2 : Int32) (ν : em_MM) : Option Int32 :=
  ed_b (f_X9_isClient x1 ν) (fun r1 => (if r1 = 0 then some (-1) else (if (f_X9_in x2 0 10) = 0 then some (-2) else (if 9 ≤ x2 then (if x2 = 9 then ed_b (f_X9_inUseFor x1 ν) (fun r8 => (some r8)) else ed_b (f_X9_ofClient x1 9 ν) (fun r7 => (some r7))) else ed_b (f_X9_ofClient x1 x2 ν) (fun r9 => (some r9))))))
def f_X9_wrote_5 (ν : em_MM) : Nat → Int32 → Int32 → Int32 → Int32 → Option Int32
  | 0, _, _, _, _ => none
  | n + 1, x1, x2, x3, x4 =>
    ed_b (f_X9_ofStory x2 1 ν) (fun r1 => (if r1 ≤ x4 then ed_g (ed_bo x3) ( (some x3)) else (if x3 = 0 then ed_b (f_X9_ofStory x2 (2 + x4) ν) (fun r5 => (if r5 = x1 then f_X9_wrote_5 ν n x1 x2 1 (x4 + 1) else f_X9_wrote_5 ν n x1 x2 0 (x4 + 1))) else f_X9_wrote_5 ν n x1 x2 1 (x4 + 1))))
def f_X9_wrote (x1 x2 : Int32) (ν : em_MM) : Option Int32 :=
  f_X9_wrote_5 ν ed_N x1 x2 0 0
def f_X9_person_32 (ν : em_MM) : Nat → Int32 → Int32 → Int32 → Int32 → Int32 → Option Int32
  | 0, _, _, _, _, _ => none
  | n + 1, x1, x2, x3, x4, x5 =>
    ed_g (ed_in 2 1683) ( (if (ν 1 (2 : Int32).toNatClampNeg) ≤ x5 then (if 2 ≤ x2 then (if x2 = 2 then some x3 else some x4) else ed_g (ed_in ((87 + (2 * x1)) + x2) 1683) ( (some (ν 1 ((87 + (2 * x1)) + x2).toNatClampNeg)))) else ed_b (f_X9_wrote x1 x5 ν) (fun r10 => (if r10 = 0 then ed_b (f_X9_wrote x1 x5 ν) (fun r12 => (if r12 = 0 then f_X9_person_32 ν n x1 x2 (x3 + 0) (x4 + 0) (x5 + 1) else ed_b (f_X9_inUse x5 0 ν) (fun r14 => (f_X9_person_32 ν n x1 x2 (x3 + 0) (x4 + r14) (x5 + 1))))) else ed_b (f_X9_wrote x1 x5 ν) (fun r15 => (if r15 = 0 then f_X9_person_32 ν n x1 x2 (x3 + 1) (x4 + 0) (x5 + 1) else ed_b (f_X9_inUse x5 0 ν) (fun r17 => (f_X9_person_32 ν n x1 x2 (x3 + 1) (x4 + r17) (x5 + 1)))))))))
def f_X9_person (x1 x2 : Int32) (ν : em_MM) : Option Int32 :=
  (if (f_X9_in x1 0 9) = 0 then some (-1) else (if (f_X9_in x2 0 3) = 0 then some (-2) else f_X9_person_32 ν ed_N x1 x2 0 0 0))
def f_X9_copyOf_5 (ν : em_MM) : Nat → Int32 → Int32 → Int32 → Int32 → Option Int32
  | 0, _, _, _, _ => none
  | n + 1, x1, x2, x3, x4 =>
    ed_g (ed_in 3 1683) ( (if (ν 1 (3 : Int32).toNatClampNeg) ≤ x4 then some x3 else ed_b (f_X9_ofCopy x4 0 ν) (fun r3 => (if r3 = x1 then ed_b (f_X9_ofCopy x4 1 ν) (fun r5 => (if r5 = x2 then f_X9_copyOf_5 ν n x1 x2 x4 (x4 + 1) else f_X9_copyOf_5 ν n x1 x2 x3 (x4 + 1))) else f_X9_copyOf_5 ν n x1 x2 x3 (x4 + 1)))))
def f_X9_copyOf (x1 x2 : Int32) (ν : em_MM) : Option Int32 :=
  f_X9_copyOf_5 ν ed_N x1 x2 (-1) 0
def f_X9_dueNow_9 (ν : em_MM) : Nat → Int32 → Int32 → Int32 → Option Int32
  | 0, _, _, _ => none
  | n + 1, x1, x2, x3 =>
    ed_b (f_X9_ofCopy x1 2 ν) (fun r2 => (if r2 = 1 then ed_b (f_X9_ofCopy x1 0 ν) (fun r4 => ed_b (f_X9_ofStory r4 7 ν) (fun r5 => (if r5 ≤ x3 then some x2 else ed_g (ed_in 0 1683) ( ed_b (f_X9_correctionDue x1 x3 ν) (fun r8 => (if (ν 1 (0 : Int32).toNatClampNeg) < r8 then f_X9_dueNow_9 ν n x1 (x2 + 0) (x3 + 1) else f_X9_dueNow_9 ν n x1 (x2 + 1) (x3 + 1))))))) else some x2))
def f_X9_dueNow (x1 : Int32) (ν : em_MM) : Option Int32 :=
  ed_b (f_X9_ofCopy x1 5 ν) (fun r1 => (f_X9_dueNow_9 ν ed_N x1 0 r1))
def f_X9_copy (x1 x2 x3 : Int32) (ν : em_MM) : Option Int32 :=
  ed_b (f_X9_isStory x1 ν) (fun r1 => (if r1 = 0 then some (-1) else ed_b (f_X9_isClient x2 ν) (fun r3 => (if r3 = 0 then some (-1) else ed_b (f_X9_copyOf x1 x2 ν) (fun r5 => (if 0 ≤ r5 then ed_b (f_X9_ofCopy r5 2 ν) (fun r7 => (if r7 = 1 then ed_b (f_X9_ofStory x1 7 ν) (fun r23 => ed_b (f_X9_ofCopy r5 5 ν) (fun r24 => (if x3 = 0 then ed_b (f_X9_ofCopy r5 2 ν) (fun r34 => (some r34)) else if x3 = 1 then ed_b (f_X9_ofCopy r5 3 ν) (fun r35 => (some r35)) else if x3 = 2 then ed_b (f_X9_ofCopy r5 4 ν) (fun r36 => (some r36)) else if x3 = 3 then ed_b (f_X9_ofCopy r5 5 ν) (fun r37 => (some r37)) else if x3 = 4 then some (r23 - r24) else if x3 = 5 then ed_b (f_X9_dueNow r5 ν) (fun r38 => (some r38)) else if x3 = 6 then (if (r23 - r24) ≤ 0 then some (-5) else ed_b (f_X9_ofCopy r5 5 ν) (fun r40 => ed_b (f_X9_correctionDue r5 r40 ν) (fun r41 => (some r41)))) else if x3 = 7 then ed_b (f_X9_ofStory x1 6 ν) (fun r42 => (if r42 = 3 then ed_b (f_X9_killDue r5 ν) (fun r44 => (some r44)) else some (-5))) else if x3 = 8 then ed_b (f_X9_useEnds r5 ν) (fun r45 => (some r45)) else some (-2)))) else (if x3 = 0 then ed_b (f_X9_ofCopy r5 2 ν) (fun r18 => (some r18)) else if x3 = 1 then ed_b (f_X9_ofCopy r5 3 ν) (fun r19 => (some r19)) else if x3 = 2 then ed_b (f_X9_ofCopy r5 4 ν) (fun r20 => (some r20)) else if x3 = 3 then ed_b (f_X9_ofCopy r5 5 ν) (fun r21 => (some r21)) else if x3 = 4 then some 0 else if x3 = 5 then ed_b (f_X9_dueNow r5 ν) (fun r22 => (some r22)) else if x3 = 6 then some (-5) else if x3 = 7 then some (-5) else if x3 = 8 then some (-5) else some (-2)))) else some (-1)))))))
def f_X9_copyAt (x1 : Int32) (ν : em_MM) : Option Int32 :=
  (if 0 ≤ x1 then ed_g (ed_in 3 1683) ( (if (ν 1 (3 : Int32).toNatClampNeg) ≤ x1 then some (-5) else ed_b (f_X9_ofCopy x1 0 ν) (fun r4 => ed_b (f_X9_ofCopy x1 1 ν) (fun r5 => (some ((10 * r4) + r5)))))) else some (-2))
def f_X9_bringBack_2  : Nat → Int32 → em_MM → Option em_MM
  | 0, _, _ => none
  | n + 1, x1, ν =>
    (if 1683 ≤ x1 then some ν else ed_g (ed_in x1 1683) ( ed_g (ed_in x1 1683) ( ed_t (em_up ν 1 x1.toNatClampNeg (ν 2 x1.toNatClampNeg)) (fun ν4 => (f_X9_bringBack_2  n (x1 + 1) ν4)))))
def f_X9_bringBack  (ν : em_MM) : Option em_MM :=
  f_X9_bringBack_2 ed_N 0 ν
def f_X9_setAside_2  : Nat → Int32 → em_MM → Option em_MM
  | 0, _, _ => none
  | n + 1, x1, ν =>
    (if 1683 ≤ x1 then some ν else ed_g (ed_in x1 1683) ( ed_g (ed_in x1 1683) ( ed_t (em_up ν 2 x1.toNatClampNeg (ν 1 x1.toNatClampNeg)) (fun ν4 => (f_X9_setAside_2  n (x1 + 1) ν4)))))
def f_X9_setAside  (ν : em_MM) : Option em_MM :=
  f_X9_setAside_2 ed_N 0 ν
def f_X9_carriedIn_40  : Nat → Int32 → Int32 → Int32 → em_MM → Option (Int32 × em_MM)
  | 0, _, _, _, _ => none
  | n + 1, x1, x3, x4, ν =>
    (if 101 ≤ x4 then ed_b (f_X9_bringBack ν) (fun ν9 => (if x4 ≤ 100 then some (x4, ν9) else some ((-5), ν9))) else ed_b (f_X9_ofCopy x3 2 ν) (fun r11 => (if r11 = 1 then ed_b (f_X9_ofCopy x3 5 ν) (fun r14 => ed_b (f_X9_ofStory x1 7 ν) (fun r15 => (if r15 ≤ r14 then ed_b (f_X9_bringBack ν) (fun ν17 => (if x4 ≤ 100 then some (x4, ν17) else some ((-5), ν17))) else ed_b2 (f_X9_oneHour ν) (fun r19 ν19 => (f_X9_carriedIn_40  n x1 x3 (x4 + 1) ν19))))) else ed_b2 (f_X9_oneHour ν) (fun r13 ν13 => (f_X9_carriedIn_40  n x1 x3 (x4 + 1) ν13)))))
def f_X9_carriedIn (x1 x2 : Int32) (ν : em_MM) : Option (Int32 × em_MM) :=
  ed_b (f_X9_isStory x1 ν) (fun r1 => (if r1 = 0 then some ((-1), ν) else ed_b (f_X9_isClient x2 ν) (fun r3 => (if r3 = 0 then some ((-1), ν) else ed_b (f_X9_copyOf x1 x2 ν) (fun r5 => (if 0 ≤ r5 then ed_b (f_X9_setAside ν) (fun ν7 => (f_X9_carriedIn_40 ed_N x1 r5 0 ν7)) else some ((-1), ν)))))))
def f_X9_wouldCome_29  : Nat → Int32 → Int32 → Int32 → em_MM → Option (Int32 × em_MM)
  | 0, _, _, _, _ => none
  | n + 1, x1, x2, x3, ν =>
    (if x2 ≤ x3 then ed_b (f_X9_ofClient x1 8 ν) (fun r7 => ed_g (ed_in (f_X9_clientAt x1 8) 1683) ( ed_t (r7 - (ν 2 (f_X9_clientAt x1 8).toNatClampNeg)) (fun y10 => ed_b (f_X9_bringBack ν) (fun ν11 => (some (y10, ν11)))))) else ed_b2 (f_X9_oneHour ν) (fun r12 ν12 => (f_X9_wouldCome_29  n x1 x2 (x3 + 1) ν12)))
def f_X9_wouldCome (x1 x2 : Int32) (ν : em_MM) : Option (Int32 × em_MM) :=
  ed_b (f_X9_isClient x1 ν) (fun r1 => (if r1 = 0 then some ((-1), ν) else (if (f_X9_in x2 1 100) = 0 then some ((-2), ν) else ed_b (f_X9_setAside ν) (fun ν5 => (f_X9_wouldCome_29 ed_N x1 x2 0 ν5)))))
def f_X9_event (x1 x2 : Int32) (ν : em_MM) : Option Int32 :=
  (if x1 < 0 then some (-2) else (if (f_X9_in x2 0 3) = 0 then some (-2) else ed_g (ed_in 6 1683) ( (if x1 < (ν 1 (6 : Int32).toNatClampNeg) then ed_g (ed_in ((1647 + (3 * x1)) + 1) 1683) ( ed_t ((ν 1 ((1647 + (3 * x1)) + 1).toNatClampNeg) - (ν 1 ((1647 + (3 * x1)) + 1).toNatClampNeg) / 10 * 10) (fun y7 => (if x2 = 0 then ed_g (ed_in (1647 + (3 * x1)) 1683) ( (some (ν 1 (1647 + (3 * x1)).toNatClampNeg))) else (if x2 = 1 then ed_g (ed_in ((1647 + (3 * x1)) + 1) 1683) ( (some ((ν 1 ((1647 + (3 * x1)) + 1).toNatClampNeg) / 10))) else (if x2 = 2 then (if y7 = 9 then some (-5) else some y7) else ed_g (ed_in ((1647 + (3 * x1)) + 2) 1683) ( (some (ν 1 ((1647 + (3 * x1)) + 2).toNatClampNeg)))))))) else some (-5)))))
def f_X9_personsOfAll_15 (k4 : Int32 → Int32 → Option Int32) (ν : em_MM) : Nat → Int32 → Int32 → Int32 → Int32 → Option Int32
  | 0, _, _, _, _ => none
  | n + 1, x1, x2, x3, x4 =>
    ed_g (ed_in 2 1683) ( (if (ν 1 (2 : Int32).toNatClampNeg) ≤ x4 then (if x3 = 0 then k4 (x1 + 0) (x2 + 1) else k4 (x1 + 1) (x2 + 1)) else (if x3 = 0 then ed_b (f_X9_wrote x2 x4 ν) (fun r6 => (if r6 = 0 then f_X9_personsOfAll_15 k4 ν n x1 x2 0 (x4 + 1) else f_X9_personsOfAll_15 k4 ν n x1 x2 1 (x4 + 1))) else f_X9_personsOfAll_15 k4 ν n x1 x2 1 (x4 + 1))))
def f_X9_personsOfAll_4 (ν : em_MM) : Nat → Int32 → Int32 → Option Int32
  | 0, _, _ => none
  | n + 1, x1, x2 =>
    (if 10 ≤ x2 then some x1 else f_X9_personsOfAll_15 (fun a0 a1 => f_X9_personsOfAll_4 ν n a0 a1) ν ed_N x1 x2 0 0)
def f_X9_personsOfAll  (ν : em_MM) : Option Int32 :=
  f_X9_personsOfAll_4 ν ed_N 0 0
def f_X9_count_7 (ν : em_MM) : Nat → Int32 → Int32 → Int32 → Int32 → Option Int32
  | 0, _, _, _, _ => none
  | n + 1, x1, x2, x3, x4 =>
    ed_g (ed_in 3 1683) ( (if (ν 1 (3 : Int32).toNatClampNeg) ≤ x4 then (if x1 = 0 then ed_g (ed_in x1 1683) ( (some (ν 1 x1.toNatClampNeg))) else if x1 = 1 then ed_g (ed_in x1 1683) ( (some (ν 1 x1.toNatClampNeg))) else if x1 = 2 then ed_g (ed_in x1 1683) ( (some (ν 1 x1.toNatClampNeg))) else if x1 = 3 then ed_g (ed_in x1 1683) ( (some (ν 1 x1.toNatClampNeg))) else if x1 = 4 then some x2 else if x1 = 5 then some x2 else if x1 = 6 then some x2 else if x1 = 7 then some x2 else if x1 = 8 then some x2 else if x1 = 9 then some x3 else if x1 = 10 then ed_g (ed_in 5 1683) ( (some (ν 1 (5 : Int32).toNatClampNeg))) else if x1 = 11 then ed_b (f_X9_personsOfAll ν) (fun r23 => (some r23)) else if x1 = 12 then ed_g (ed_in 4 1683) ( (some (ν 1 (4 : Int32).toNatClampNeg))) else if x1 = 13 then some (ν 0 3) else if x1 = 14 then some (ν 0 7) else some (-2)) else ed_b (f_X9_ofCopy x4 2 ν) (fun r25 => (if r25 = (x1 - 4) then ed_b (f_X9_dueNow x4 ν) (fun r29 => (if r29 ≤ 0 then f_X9_count_7 ν n x1 (x2 + 1) (x3 + 0) (x4 + 1) else f_X9_count_7 ν n x1 (x2 + 1) (x3 + 1) (x4 + 1))) else ed_b (f_X9_dueNow x4 ν) (fun r27 => (if r27 ≤ 0 then f_X9_count_7 ν n x1 (x2 + 0) (x3 + 0) (x4 + 1) else f_X9_count_7 ν n x1 (x2 + 0) (x3 + 1) (x4 + 1)))))))
def f_X9_count (x1 : Int32) (ν : em_MM) : Option Int32 :=
  f_X9_count_7 ν ed_N x1 0 0 0
end
section
set_option maxHeartbeats 4000000 in
set_option maxRecDepth 100000 in
/-- copyRow(from, to): a row of n ints over another of n -/
theorem c_X8_copyRow (l : Launch) (D : va_G) (cy : Nat → ClassId) (B : Nat) (μ : ed_CM) (j jo n K2 i2 K i : Nat) (hv2 : ed_vd jo K2 i2 = true) (hv : ed_vd j K i = true) (hne : jo ≠ j) (τ : ed_SM) (hτ : μ jo = τ) (he2 : ∀ r, ed_ent cy B jo K2 i2 r = .inl (cy 0, n, .inl r)) (he : ∀ r, ed_ent cy B j K i r = .inl (cy 0, n, .inl r)) (hn : n < 2 ^ 31) (σ : ed_SM) :
    Met l yX8_copyRow wsX8_copyRow rmX8_copyRow (ed_pC D cy (ed_P D cy B (ed_sJ μ j σ)) [.ref (B + ed_oF jo K2 i2), .ref (B + ed_oF j K i)]) (ed_qV (ed_A B) (ed_P D cy B (ed_sJ μ j (ed_sR σ K i (va_cpy (τ K2 i2) (σ K i) 0 0 n))))) 0 0 (ed_A B) := by
  refine Met.ofW (cc := cX8_copyRow) (maxL := 2) (ret := none) (by decide) rfl ?_
  intro p e s m args below meth c s₁ B0 hml hv0
  obtain ⟨rfl, hM, hK⟩ := hv0
  have S : CallFix p m c cX8_copyRow 2 s _ ed_ws RX8 := ⟨B0.exec, B0.bytes, hml, findClass_of_methodNamed B0.named, fun w hw => atoms_spec (ws := wsX8_copyRow) B0.pre w (List.mem_cons_of_mem _ hw)⟩
  have hr := B0.returns
  have hlocks := B0.notSynchronized
  have hS : va_S (ed_A B) s.heap s.heap [] := va_S.rf
  have hl := lv_entry ([.ref (B + ed_oF jo K2 i2), .ref (B + ed_oF j K i)]) (n := 2) (Nat.le_of_ble_eq_true rfl)
  rw [lg_entry_eq]
  generalize (lg_sl ([.ref (B + ed_oF jo K2 i2), .ref (B + ed_oF j K i)]) ++ List.replicate (2 - (lg_sl ([.ref (B + ed_oF jo K2 i2), .ref (B + ed_oF j K i)])).length) Slot.unset).toArray = ls at hl ⊢
  have hl : lv_has ls 2 [(0, .ref (B + ed_oF jo K2 i2)), (1, .ref (B + ed_oF j K i))] := hl
  refine lv_aload_n S.1 S.2.1 dX8_copyRow_0 rfl (lv_at hl 0 rfl) ?_
  refine lv_iconst (v := 0) S.1 S.2.1 dX8_copyRow_1 (by decide) ?_
  refine lv_aload_n S.1 S.2.1 dX8_copyRow_2 rfl (lv_at hl 1 rfl) ?_
  refine lv_iconst (v := 0) S.1 S.2.1 dX8_copyRow_3 (by decide) ?_
  refine lv_aload_n S.1 S.2.1 dX8_copyRow_4 rfl (lv_at hl 0 rfl) ?_
  refine ed_len (r := τ K2 i2) (v := nI n) (ty := .int) (t := 0) S hK hM hv2 (ed_sJn μ σ hne hτ K2 i2) (he2 _) rfl rfl dX8_copyRow_5 ?_
  refine lv_aload_n S.1 S.2.1 dX8_copyRow_6 rfl (lv_at hl 1 rfl) ?_
  refine ed_len (r := σ K i) (v := nI n) (ty := .int) (t := 0) S hK hM hv (ed_sJr μ j σ K i) (he _) rfl rfl dX8_copyRow_7 ?_
  refine ed_min S hl.1 ed_w2_120 ed_w2_121 ed_w1_11 ed_w2_122 (Nat.le_of_ble_eq_true rfl) (Nat.le_of_ble_eq_true rfl) ⟨Nat.zero_le _, Nat.zero_le _⟩ dX8_copyRow_8 ?_
  refine W.eq (g2 := F0 m 11 ls (.int (nI n) :: .int 0 :: .ref (B + ed_oF j K i) :: .int 0 :: .ref (B + ed_oF jo K2 i2) :: [])) (by simp) ?_
  have h0 : ¬ (nI n) < 0 := nI_pos hn
  have hcl : (nI n).toNatClampNeg = n := nI_clamp hn
  refine va_copyi (cc := cX8_copyRow) S.1 S.2.1 (S.2.2.1.trans hl.1.symm) S.2.2.2.1 (S.2.2.2.2 _ ed_w2_123) (S.2.2.2.2 _ ed_w2_125) (S.2.2.2.2 _ ed_w2_124) (S.2.2.2.2 _ ed_w1_12) hK.1 hM (ed_w_D cy B _) hS (ed_oF jo K2 i2) (ed_oF j K i) 0 0 (by rw [ed_w_at cy B _ hv2, ed_sJn μ σ hne hτ, he2]) (by rw [ed_w_at cy B _ hv, ed_sJr, he]) rfl rfl rfl (by decide) (by decide) h0 (by rw [hcl]; exact Nat.le_of_eq (Nat.zero_add n)) (by rw [hcl]; exact Nat.le_of_eq (Nat.zero_add n)) (fun _ _ => rfl) (Nat.le_of_ble_eq_true rfl) (Nat.le_of_ble_eq_true rfl) dX8_copyRow_11 (fun H locs hP _ hS => ?_)
  rw [hcl] at hP
  have hM : ed_P D cy B (ed_sJ μ j (ed_sR σ K i (va_cpy (τ K2 i2) (σ K i) 0 0 n))) H := by
    unfold ed_P
    rw [← ed_w_set2 cy B μ hv, he]
    exact hP
  exact ed_rv S hr hlocks hM hS dX8_copyRow_14
end
section
/-! walks, laid by program (wip/whole/gen/gen.py) -/
set_option maxHeartbeats 4000000 in
set_option maxRecDepth 100000 in
theorem c_X6_copyFrom (l : Launch) (D : va_G) (cy : Nat → ClassId) (B : Nat) (μ : ed_CM) (j : Nat) (hj : j < 7) (n0 : Nat) (h0 : n0 < 20) (n1 : Nat) (h1 : n1 < 20) (jo : Nat) (hjo : jo < 7) (hne : jo ≠ j) (τ : ed_SM) (hτ : μ jo = τ) (σ : ed_SM) (σ' : ed_SM) (hf : f_X6_copyFrom n0 n1 τ σ = some σ') :
    Met l yX6_copyFrom wsX6_copyFrom rmX6_copyFrom (ed_pC D cy (ed_P D cy B (ed_sJ μ j σ)) [.ref (B + ed_oF j 7 n0), .ref (B + ed_oF jo 7 n1)]) (ed_qV (ed_A B) (ed_P D cy B (ed_sJ μ j σ'))) 0 0 (ed_A B) := by
  refine Met.ofW (cc := cX6_copyFrom) (maxL := 2) (ret := none) (by decide) rfl ?_
  intro p e s m args below meth c s₁ B0 hml hv
  obtain ⟨rfl, hM, hK⟩ := hv
  have S : CallFix p m c cX6_copyFrom 2 s _ ed_ws RX6 := ⟨B0.exec, B0.bytes, hml, findClass_of_methodNamed B0.named, fun w hw => atoms_spec (ws := wsX6_copyFrom) B0.pre w (List.mem_cons_of_mem _ hw)⟩
  have hr := B0.returns
  have hlocks := B0.notSynchronized
  have hS : va_S (ed_A B) s.heap s.heap [] := va_S.rf
  have hl := lv_entry ([.ref (B + ed_oF j 7 n0), .ref (B + ed_oF jo 7 n1)]) (n := 2) (Nat.le_of_ble_eq_true rfl)
  rw [lg_entry_eq]
  generalize (lg_sl ([.ref (B + ed_oF j 7 n0), .ref (B + ed_oF jo 7 n1)]) ++ List.replicate (2 - (lg_sl ([.ref (B + ed_oF j 7 n0), .ref (B + ed_oF jo 7 n1)])).length) Slot.unset).toArray = ls at hl ⊢
  have hl : lv_has ls 2 [(0, .ref (B + ed_oF j 7 n0)), (1, .ref (B + ed_oF jo 7 n1))] := hl
  unfold f_X6_copyFrom at hf
  refine lv_aload_n S.1 S.2.1 dX6_copyFrom_0 rfl (lv_at hl 0 rfl) ?_
  refine lv_aload_n S.1 S.2.1 dX6_copyFrom_1 rfl (lv_at hl 1 rfl) ?_
  refine ed_get (r := (τ 7 n1)) S ed_uX6 hK hM (ed_v7 hjo h1 7) (ed_sJn μ σ hne hτ 7 n1) (ed_e7 cy B jo n1 _) rfl 0 (by decide) ed_w1_57 rfl rfl dX6_copyFrom_2 ?_
  refine ed_put (j := j) S ed_uX6 tyX6 tyX6_ok nmX6 hK hM hS (ed_v7 hj h0 7) (ed_e7 cy B j n0 _) rfl 0 (by decide) ed_w1_57 rfl rfl rfl rfl (Nat.le_of_ble_eq_true rfl) (ed_u7_0 cy B j n0 _ _) dX6_copyFrom_5 (fun H locs hM hS => ?_)
  obtain ⟨σ1, eσ1, hf⟩ := ed_t_e hf
  have hM : ed_P D cy B (ed_sJ μ j σ1) H := by rw [eσ1]; exact hM
  refine lv_aload_n S.1 S.2.1 dX6_copyFrom_8 rfl (lv_at hl 0 rfl) ?_
  refine lv_aload_n S.1 S.2.1 dX6_copyFrom_9 rfl (lv_at hl 1 rfl) ?_
  refine ed_get (r := (τ 7 n1)) S ed_uX6 hK hM (ed_v7 hjo h1 7) (ed_sJn μ σ1 hne hτ 7 n1) (ed_e7 cy B jo n1 _) rfl 1 (by decide) ed_w1_60 rfl rfl dX6_copyFrom_10 ?_
  refine ed_put (j := j) S ed_uX6 tyX6 tyX6_ok nmX6 hK hM hS (ed_v7 hj h0 7) (ed_e7 cy B j n0 _) rfl 1 (by decide) ed_w1_60 rfl rfl rfl rfl (Nat.le_of_ble_eq_true rfl) (ed_u7_1 cy B j n0 _ _) dX6_copyFrom_13 (fun H locs hM hS => ?_)
  obtain ⟨σ2, eσ2, hf⟩ := ed_t_e hf
  have hM : ed_P D cy B (ed_sJ μ j σ2) H := by rw [eσ2]; exact hM
  refine lv_aload_n S.1 S.2.1 dX6_copyFrom_16 rfl (lv_at hl 1 rfl) ?_
  refine ed_get (r := (τ 7 n1)) S ed_uX6 hK hM (ed_v7 hjo h1 7) (ed_sJn μ σ2 hne hτ 7 n1) (ed_e7 cy B jo n1 _) rfl 2 (by decide) ed_w1_63 rfl rfl dX6_copyFrom_17 ?_
  refine lv_aload_n S.1 S.2.1 dX6_copyFrom_20 rfl (lv_at hl 0 rfl) ?_
  refine ed_get (r := (σ2 7 n0)) S ed_uX6 hK hM (ed_v7 hj h0 7) (ed_sJr μ j σ2 7 n0) (ed_e7 cy B j n0 _) rfl 2 (by decide) ed_w1_63 rfl rfl dX6_copyFrom_21 ?_
  refine ed_kV (ed_rN S hK hM (c_X8_copyRow _ D cy B μ j jo 3 8 n1 8 n0 (ed_v7 hjo h1 8) (ed_v7 hj h0 8) hne τ hτ (ed_e8 cy B jo n1) (ed_e8 cy B j n0) (by decide) σ2) ⟨va_cnB 2 S.2.2.2.2 (ed_gA ed_w2_119) rfl rfl rfl (ed_n10 hK) (S.2.2.2.2 _ ed_w1_1) hn_X8_copyRow ⟨Nat.le_of_ble_eq_true rfl, Nat.le_of_ble_eq_true rfl⟩, S.2.2.2.2 _ ed_w2_118, trivial⟩ rfl hl.1 rfl (Nat.le_of_ble_eq_true rfl) dX6_copyFrom_24 ⟨Nat.zero_le _, Nat.zero_le _⟩) hS (fun H locs hM hS => ?_)
  obtain ⟨σ3, eσ3, hf⟩ := ed_t_e hf
  have hM : ed_P D cy B (ed_sJ μ j σ3) H := by rw [eσ3]; exact hM
  refine lv_aload_n S.1 S.2.1 dX6_copyFrom_27 rfl (lv_at hl 0 rfl) ?_
  refine lv_aload_n S.1 S.2.1 dX6_copyFrom_28 rfl (lv_at hl 1 rfl) ?_
  refine ed_get (r := (τ 7 n1)) S ed_uX6 hK hM (ed_v7 hjo h1 7) (ed_sJn μ σ3 hne hτ 7 n1) (ed_e7 cy B jo n1 _) rfl 3 (by decide) ed_w1_64 rfl rfl dX6_copyFrom_29 ?_
  refine ed_put (j := j) S ed_uX6 tyX6 tyX6_ok nmX6 hK hM hS (ed_v7 hj h0 7) (ed_e7 cy B j n0 _) rfl 3 (by decide) ed_w1_64 rfl rfl rfl rfl (Nat.le_of_ble_eq_true rfl) (ed_u7_3 cy B j n0 _ _) dX6_copyFrom_32 (fun H locs hM hS => ?_)
  obtain ⟨σ4, eσ4, hf⟩ := ed_t_e hf
  have hM : ed_P D cy B (ed_sJ μ j σ4) H := by rw [eσ4]; exact hM
  refine lv_aload_n S.1 S.2.1 dX6_copyFrom_35 rfl (lv_at hl 0 rfl) ?_
  refine lv_aload_n S.1 S.2.1 dX6_copyFrom_36 rfl (lv_at hl 1 rfl) ?_
  refine ed_get (r := (τ 7 n1)) S ed_uX6 hK hM (ed_v7 hjo h1 7) (ed_sJn μ σ4 hne hτ 7 n1) (ed_e7 cy B jo n1 _) rfl 4 (by decide) ed_w1_67 rfl rfl dX6_copyFrom_37 ?_
  refine ed_put (j := j) S ed_uX6 tyX6 tyX6_ok nmX6 hK hM hS (ed_v7 hj h0 7) (ed_e7 cy B j n0 _) rfl 4 (by decide) ed_w1_67 rfl rfl rfl rfl (Nat.le_of_ble_eq_true rfl) (ed_u7_4 cy B j n0 _ _) dX6_copyFrom_40 (fun H locs hM hS => ?_)
  obtain ⟨σ5, eσ5, hf⟩ := ed_t_e hf
  have hM : ed_P D cy B (ed_sJ μ j σ5) H := by rw [eσ5]; exact hM
  refine lv_aload_n S.1 S.2.1 dX6_copyFrom_43 rfl (lv_at hl 1 rfl) ?_
  refine ed_get (r := (τ 7 n1)) S ed_uX6 hK hM (ed_v7 hjo h1 7) (ed_sJn μ σ5 hne hτ 7 n1) (ed_e7 cy B jo n1 _) rfl 5 (by decide) ed_w1_69 rfl rfl dX6_copyFrom_44 ?_
  refine lv_aload_n S.1 S.2.1 dX6_copyFrom_47 rfl (lv_at hl 0 rfl) ?_
  refine ed_get (r := (σ5 7 n0)) S ed_uX6 hK hM (ed_v7 hj h0 7) (ed_sJr μ j σ5 7 n0) (ed_e7 cy B j n0 _) rfl 5 (by decide) ed_w1_69 rfl rfl dX6_copyFrom_48 ?_
  refine ed_kV (ed_rN S hK hM (c_X8_copyRow _ D cy B μ j jo 12 9 n1 9 n0 (ed_v7 hjo h1 9) (ed_v7 hj h0 9) hne τ hτ (ed_e9 cy B jo n1) (ed_e9 cy B j n0) (by decide) σ5) ⟨va_cnB 2 S.2.2.2.2 (ed_gA ed_w2_119) rfl rfl rfl (ed_n10 hK) (S.2.2.2.2 _ ed_w1_1) hn_X8_copyRow ⟨Nat.le_of_ble_eq_true rfl, Nat.le_of_ble_eq_true rfl⟩, S.2.2.2.2 _ ed_w2_118, trivial⟩ rfl hl.1 rfl (Nat.le_of_ble_eq_true rfl) dX6_copyFrom_51 ⟨Nat.zero_le _, Nat.zero_le _⟩) hS (fun H locs hM hS => ?_)
  obtain ⟨σ6, eσ6, hf⟩ := ed_t_e hf
  have hM : ed_P D cy B (ed_sJ μ j σ6) H := by rw [eσ6]; exact hM
  refine lv_aload_n S.1 S.2.1 dX6_copyFrom_54 rfl (lv_at hl 0 rfl) ?_
  refine lv_aload_n S.1 S.2.1 dX6_copyFrom_55 rfl (lv_at hl 1 rfl) ?_
  refine ed_get (r := (τ 7 n1)) S ed_uX6 hK hM (ed_v7 hjo h1 7) (ed_sJn μ σ6 hne hτ 7 n1) (ed_e7 cy B jo n1 _) rfl 6 (by decide) ed_w1_70 rfl rfl dX6_copyFrom_56 ?_
  refine ed_put (j := j) S ed_uX6 tyX6 tyX6_ok nmX6 hK hM hS (ed_v7 hj h0 7) (ed_e7 cy B j n0 _) rfl 6 (by decide) ed_w1_70 rfl rfl rfl rfl (Nat.le_of_ble_eq_true rfl) (ed_u7_6 cy B j n0 _ _) dX6_copyFrom_59 (fun H locs hM hS => ?_)
  obtain ⟨σ7, eσ7, hf⟩ := ed_t_e hf
  have hM : ed_P D cy B (ed_sJ μ j σ7) H := by rw [eσ7]; exact hM
  refine lv_aload_n S.1 S.2.1 dX6_copyFrom_62 rfl (lv_at hl 0 rfl) ?_
  refine lv_aload_n S.1 S.2.1 dX6_copyFrom_63 rfl (lv_at hl 1 rfl) ?_
  refine ed_get (r := (τ 7 n1)) S ed_uX6 hK hM (ed_v7 hjo h1 7) (ed_sJn μ σ7 hne hτ 7 n1) (ed_e7 cy B jo n1 _) rfl 7 (by decide) ed_w1_73 rfl rfl dX6_copyFrom_64 ?_
  refine ed_put (j := j) S ed_uX6 tyX6 tyX6_ok nmX6 hK hM hS (ed_v7 hj h0 7) (ed_e7 cy B j n0 _) rfl 7 (by decide) ed_w1_73 rfl rfl rfl rfl (Nat.le_of_ble_eq_true rfl) (ed_u7_7 cy B j n0 _ _) dX6_copyFrom_67 (fun H locs hM hS => ?_)
  obtain ⟨σ8, eσ8, hf⟩ := ed_t_e hf
  have hM : ed_P D cy B (ed_sJ μ j σ8) H := by rw [eσ8]; exact hM
  refine lv_aload_n S.1 S.2.1 dX6_copyFrom_70 rfl (lv_at hl 1 rfl) ?_
  refine ed_get (r := (τ 7 n1)) S ed_uX6 hK hM (ed_v7 hjo h1 7) (ed_sJn μ σ8 hne hτ 7 n1) (ed_e7 cy B jo n1 _) rfl 8 (by decide) ed_w1_76 rfl rfl dX6_copyFrom_71 ?_
  refine lv_aload_n S.1 S.2.1 dX6_copyFrom_74 rfl (lv_at hl 0 rfl) ?_
  refine ed_get (r := (σ8 7 n0)) S ed_uX6 hK hM (ed_v7 hj h0 7) (ed_sJr μ j σ8 7 n0) (ed_e7 cy B j n0 _) rfl 8 (by decide) ed_w1_76 rfl rfl dX6_copyFrom_75 ?_
  refine ed_kV (ed_rN S hK hM (c_X8_copyRow _ D cy B μ j jo 6 10 n1 10 n0 (ed_v7 hjo h1 10) (ed_v7 hj h0 10) hne τ hτ (ed_e10 cy B jo n1) (ed_e10 cy B j n0) (by decide) σ8) ⟨va_cnB 2 S.2.2.2.2 (ed_gA ed_w2_119) rfl rfl rfl (ed_n10 hK) (S.2.2.2.2 _ ed_w1_1) hn_X8_copyRow ⟨Nat.le_of_ble_eq_true rfl, Nat.le_of_ble_eq_true rfl⟩, S.2.2.2.2 _ ed_w2_118, trivial⟩ rfl hl.1 rfl (Nat.le_of_ble_eq_true rfl) dX6_copyFrom_78 ⟨Nat.zero_le _, Nat.zero_le _⟩) hS (fun H locs hM hS => ?_)
  obtain ⟨σ9, eσ9, hf⟩ := ed_t_e hf
  have hM : ed_P D cy B (ed_sJ μ j σ9) H := by rw [eσ9]; exact hM
  refine lv_aload_n S.1 S.2.1 dX6_copyFrom_81 rfl (lv_at hl 0 rfl) ?_
  refine lv_aload_n S.1 S.2.1 dX6_copyFrom_82 rfl (lv_at hl 1 rfl) ?_
  refine ed_get (r := (τ 7 n1)) S ed_uX6 hK hM (ed_v7 hjo h1 7) (ed_sJn μ σ9 hne hτ 7 n1) (ed_e7 cy B jo n1 _) rfl 9 (by decide) ed_w1_77 rfl rfl dX6_copyFrom_83 ?_
  refine ed_put (j := j) S ed_uX6 tyX6 tyX6_ok nmX6 hK hM hS (ed_v7 hj h0 7) (ed_e7 cy B j n0 _) rfl 9 (by decide) ed_w1_77 rfl rfl rfl rfl (Nat.le_of_ble_eq_true rfl) (ed_u7_9 cy B j n0 _ _) dX6_copyFrom_86 (fun H locs hM hS => ?_)
  obtain ⟨σ10, eσ10, hf⟩ := ed_t_e hf
  have hM : ed_P D cy B (ed_sJ μ j σ10) H := by rw [eσ10]; exact hM
  refine lv_aload_n S.1 S.2.1 dX6_copyFrom_89 rfl (lv_at hl 0 rfl) ?_
  refine lv_aload_n S.1 S.2.1 dX6_copyFrom_90 rfl (lv_at hl 1 rfl) ?_
  refine ed_get (r := (τ 7 n1)) S ed_uX6 hK hM (ed_v7 hjo h1 7) (ed_sJn μ σ10 hne hτ 7 n1) (ed_e7 cy B jo n1 _) rfl 10 (by decide) ed_w1_80 rfl rfl dX6_copyFrom_91 ?_
  refine ed_put (j := j) S ed_uX6 tyX6 tyX6_ok nmX6 hK hM hS (ed_v7 hj h0 7) (ed_e7 cy B j n0 _) rfl 10 (by decide) ed_w1_80 rfl rfl rfl rfl (Nat.le_of_ble_eq_true rfl) (ed_u7_10 cy B j n0 _ _) dX6_copyFrom_94 (fun H locs hM hS => ?_)
  obtain ⟨σ11, eσ11, hf⟩ := ed_t_e hf
  have hM : ed_P D cy B (ed_sJ μ j σ11) H := by rw [eσ11]; exact hM
  obtain rfl := Option.some.inj hf
  exact ed_rv S hr hlocks hM hS dX6_copyFrom_97
end
