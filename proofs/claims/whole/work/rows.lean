section
-- ===== PART A: goes FIRST, ahead of the names: the tables' words, and 'selects' of the private methods out of them =====
/-- a private method of a class that the tables say can be made, by its rows of tables_1 -/
def lw_okq (q : MethodName × Nat) : Prop := (q.1.cls ≠ "java/lang/invoke/MethodHandle" ∧ q.1.cls ≠ "java/lang/invoke/VarHandle") ∧ Cond.instantiable q.1.cls q.2 ∈ tables_1 ∧ Cond.privateMethod q.1 ∈ tables_1 ∧ Cond.instanceMethod q.1 ∈ tables_1
theorem lw_p0 : lw_okq (⟨"LeasedPages", "clientThatIsUp", "(I)LLeasedPages$Client;"⟩, 3) := ⟨⟨by decide +kernel, by decide +kernel⟩, List.mem_of_getElem? (i := 16) (by decide +kernel), List.mem_of_getElem? (i := 202) (by decide +kernel), List.mem_of_getElem? (i := 203) (by decide +kernel)⟩
theorem lw_p1 : lw_okq (⟨"LeasedPages$Client", "sendNew", "(LLeasedPages$Request;)I"⟩, 11) := ⟨⟨by decide +kernel, by decide +kernel⟩, List.mem_of_getElem? (i := 114) (by decide +kernel), List.mem_of_getElem? (i := 296) (by decide +kernel), List.mem_of_getElem? (i := 297) (by decide +kernel)⟩
theorem lw_p2 : lw_okq (⟨"LeasedPages$Server", "waitsAlready", "(LLeasedPages$Request;)Z"⟩, 11) := ⟨⟨by decide +kernel, by decide +kernel⟩, List.mem_of_getElem? (i := 46) (by decide +kernel), List.mem_of_getElem? (i := 415) (by decide +kernel), List.mem_of_getElem? (i := 416) (by decide +kernel)⟩
theorem lw_p3 : lw_okq (⟨"LeasedPages$Line", "placeOf", "(I)I"⟩, 2) := ⟨⟨by decide +kernel, by decide +kernel⟩, List.mem_of_getElem? (i := 57) (by decide +kernel), List.mem_of_getElem? (i := 423) (by decide +kernel), List.mem_of_getElem? (i := 424) (by decide +kernel)⟩
theorem lw_p4 : lw_okq (⟨"LeasedPages$Server", "takeOutOfLines", "(I)V"⟩, 11) := ⟨⟨by decide +kernel, by decide +kernel⟩, List.mem_of_getElem? (i := 46) (by decide +kernel), List.mem_of_getElem? (i := 427) (by decide +kernel), List.mem_of_getElem? (i := 428) (by decide +kernel)⟩
theorem lw_p5 : lw_okq (⟨"LeasedPages$Server", "serveLease", "(LLeasedPages$Request;)V"⟩, 11) := ⟨⟨by decide +kernel, by decide +kernel⟩, List.mem_of_getElem? (i := 46) (by decide +kernel), List.mem_of_getElem? (i := 435) (by decide +kernel), List.mem_of_getElem? (i := 436) (by decide +kernel)⟩
theorem lw_p6 : lw_okq (⟨"LeasedPages$Server", "hasLease", "(II)Z"⟩, 11) := ⟨⟨by decide +kernel, by decide +kernel⟩, List.mem_of_getElem? (i := 46) (by decide +kernel), List.mem_of_getElem? (i := 439) (by decide +kernel), List.mem_of_getElem? (i := 440) (by decide +kernel)⟩
theorem lw_p7 : lw_okq (⟨"LeasedPages$Server", "finish", "(LLeasedPages$Reply;)V"⟩, 11) := ⟨⟨by decide +kernel, by decide +kernel⟩, List.mem_of_getElem? (i := 46) (by decide +kernel), List.mem_of_getElem? (i := 465) (by decide +kernel), List.mem_of_getElem? (i := 466) (by decide +kernel)⟩
theorem lw_p8 : lw_okq (⟨"LeasedPages$Server", "conflictsWithAny", "(LLeasedPages$Request;)Z"⟩, 11) := ⟨⟨by decide +kernel, by decide +kernel⟩, List.mem_of_getElem? (i := 46) (by decide +kernel), List.mem_of_getElem? (i := 469) (by decide +kernel), List.mem_of_getElem? (i := 470) (by decide +kernel)⟩
theorem lw_p9 : lw_okq (⟨"LeasedPages$Server", "conflicts", "(LLeasedPages$Request;I)Z"⟩, 11) := ⟨⟨by decide +kernel, by decide +kernel⟩, List.mem_of_getElem? (i := 46) (by decide +kernel), List.mem_of_getElem? (i := 473) (by decide +kernel), List.mem_of_getElem? (i := 474) (by decide +kernel)⟩
theorem lw_p10 : lw_okq (⟨"LeasedPages$Server", "grant", "(LLeasedPages$Request;)V"⟩, 11) := ⟨⟨by decide +kernel, by decide +kernel⟩, List.mem_of_getElem? (i := 46) (by decide +kernel), List.mem_of_getElem? (i := 477) (by decide +kernel), List.mem_of_getElem? (i := 478) (by decide +kernel)⟩
theorem lw_p11 : lw_okq (⟨"LeasedPages$Server", "recallConflicting", "(LLeasedPages$Request;)V"⟩, 11) := ⟨⟨by decide +kernel, by decide +kernel⟩, List.mem_of_getElem? (i := 46) (by decide +kernel), List.mem_of_getElem? (i := 492) (by decide +kernel), List.mem_of_getElem? (i := 493) (by decide +kernel)⟩
theorem lw_p12 : lw_okq (⟨"LeasedPages$Server", "serveStore", "(LLeasedPages$Request;)V"⟩, 11) := ⟨⟨by decide +kernel, by decide +kernel⟩, List.mem_of_getElem? (i := 46) (by decide +kernel), List.mem_of_getElem? (i := 504) (by decide +kernel), List.mem_of_getElem? (i := 505) (by decide +kernel)⟩
theorem lw_p13 : lw_okq (⟨"LeasedPages$Server", "serveRelease", "(LLeasedPages$Request;)V"⟩, 11) := ⟨⟨by decide +kernel, by decide +kernel⟩, List.mem_of_getElem? (i := 46) (by decide +kernel), List.mem_of_getElem? (i := 508) (by decide +kernel), List.mem_of_getElem? (i := 509) (by decide +kernel)⟩
theorem lw_p14 : lw_okq (⟨"LeasedPages$Server", "goThroughLines", "()V"⟩, 11) := ⟨⟨by decide +kernel, by decide +kernel⟩, List.mem_of_getElem? (i := 46) (by decide +kernel), List.mem_of_getElem? (i := 512) (by decide +kernel), List.mem_of_getElem? (i := 513) (by decide +kernel)⟩
theorem lw_p15 : lw_okq (⟨"LeasedPages$Client", "takeLease", "(LLeasedPages$Reply;)V"⟩, 11) := ⟨⟨by decide +kernel, by decide +kernel⟩, List.mem_of_getElem? (i := 114) (by decide +kernel), List.mem_of_getElem? (i := 525) (by decide +kernel), List.mem_of_getElem? (i := 526) (by decide +kernel)⟩
def lw_privs_1 : List (MethodName × Nat) := [(⟨"LeasedPages", "clientThatIsUp", "(I)LLeasedPages$Client;"⟩, 3), (⟨"LeasedPages$Client", "sendNew", "(LLeasedPages$Request;)I"⟩, 11), (⟨"LeasedPages$Server", "waitsAlready", "(LLeasedPages$Request;)Z"⟩, 11), (⟨"LeasedPages$Line", "placeOf", "(I)I"⟩, 2), (⟨"LeasedPages$Server", "takeOutOfLines", "(I)V"⟩, 11), (⟨"LeasedPages$Server", "serveLease", "(LLeasedPages$Request;)V"⟩, 11), (⟨"LeasedPages$Server", "hasLease", "(II)Z"⟩, 11), (⟨"LeasedPages$Server", "finish", "(LLeasedPages$Reply;)V"⟩, 11), (⟨"LeasedPages$Server", "conflictsWithAny", "(LLeasedPages$Request;)Z"⟩, 11), (⟨"LeasedPages$Server", "conflicts", "(LLeasedPages$Request;I)Z"⟩, 11), (⟨"LeasedPages$Server", "grant", "(LLeasedPages$Request;)V"⟩, 11), (⟨"LeasedPages$Server", "recallConflicting", "(LLeasedPages$Request;)V"⟩, 11), (⟨"LeasedPages$Server", "serveStore", "(LLeasedPages$Request;)V"⟩, 11), (⟨"LeasedPages$Server", "serveRelease", "(LLeasedPages$Request;)V"⟩, 11), (⟨"LeasedPages$Server", "goThroughLines", "()V"⟩, 11), (⟨"LeasedPages$Client", "takeLease", "(LLeasedPages$Reply;)V"⟩, 11)]
theorem lw_r1 : ∀ q ∈ lw_privs_1, lw_okq q := List.forall_mem_cons.mpr ⟨lw_p0, List.forall_mem_cons.mpr ⟨lw_p1, List.forall_mem_cons.mpr ⟨lw_p2, List.forall_mem_cons.mpr ⟨lw_p3, List.forall_mem_cons.mpr ⟨lw_p4, List.forall_mem_cons.mpr ⟨lw_p5, List.forall_mem_cons.mpr ⟨lw_p6, List.forall_mem_cons.mpr ⟨lw_p7, List.forall_mem_cons.mpr ⟨lw_p8, List.forall_mem_cons.mpr ⟨lw_p9, List.forall_mem_cons.mpr ⟨lw_p10, List.forall_mem_cons.mpr ⟨lw_p11, List.forall_mem_cons.mpr ⟨lw_p12, List.forall_mem_cons.mpr ⟨lw_p13, List.forall_mem_cons.mpr ⟨lw_p14, List.forall_mem_cons.mpr ⟨lw_p15, fun _ h => absurd h List.not_mem_nil⟩⟩⟩⟩⟩⟩⟩⟩⟩⟩⟩⟩⟩⟩⟩⟩
theorem lw_p16 : lw_okq (⟨"LeasedPages$Client", "removeAllWritesTo", "(I)V"⟩, 11) := ⟨⟨by decide +kernel, by decide +kernel⟩, List.mem_of_getElem? (i := 114) (by decide +kernel), List.mem_of_getElem? (i := 529) (by decide +kernel), List.mem_of_getElem? (i := 530) (by decide +kernel)⟩
theorem lw_p17 : lw_okq (⟨"LeasedPages$Client", "keepWrites", "(I)V"⟩, 11) := ⟨⟨by decide +kernel, by decide +kernel⟩, List.mem_of_getElem? (i := 114) (by decide +kernel), List.mem_of_getElem? (i := 533) (by decide +kernel), List.mem_of_getElem? (i := 534) (by decide +kernel)⟩
theorem lw_p18 : lw_okq (⟨"LeasedPages$Client", "redoWritesOn", "(I)V"⟩, 11) := ⟨⟨by decide +kernel, by decide +kernel⟩, List.mem_of_getElem? (i := 114) (by decide +kernel), List.mem_of_getElem? (i := 540) (by decide +kernel), List.mem_of_getElem? (i := 541) (by decide +kernel)⟩
theorem lw_p19 : lw_okq (⟨"LeasedPages$Client", "loseLease", "(I)V"⟩, 11) := ⟨⟨by decide +kernel, by decide +kernel⟩, List.mem_of_getElem? (i := 114) (by decide +kernel), List.mem_of_getElem? (i := 544) (by decide +kernel), List.mem_of_getElem? (i := 545) (by decide +kernel)⟩
theorem lw_p20 : lw_okq (⟨"LeasedPages$Client", "removeFirstWriteTo", "(I)V"⟩, 11) := ⟨⟨by decide +kernel, by decide +kernel⟩, List.mem_of_getElem? (i := 114) (by decide +kernel), List.mem_of_getElem? (i := 548) (by decide +kernel), List.mem_of_getElem? (i := 549) (by decide +kernel)⟩
theorem lw_p21 : lw_okq (⟨"LeasedPages", "isUp", "(I)Z"⟩, 3) := ⟨⟨by decide +kernel, by decide +kernel⟩, List.mem_of_getElem? (i := 16) (by decide +kernel), List.mem_of_getElem? (i := 572) (by decide +kernel), List.mem_of_getElem? (i := 573) (by decide +kernel)⟩
theorem lw_p22 : lw_okq (⟨"LeasedPages$Server", "endLeases", "()V"⟩, 11) := ⟨⟨by decide +kernel, by decide +kernel⟩, List.mem_of_getElem? (i := 46) (by decide +kernel), List.mem_of_getElem? (i := 580) (by decide +kernel), List.mem_of_getElem? (i := 581) (by decide +kernel)⟩
theorem lw_p23 : lw_okq (⟨"LeasedPagesModel", "move", "(II)V"⟩, 44) := ⟨⟨by decide +kernel, by decide +kernel⟩, List.mem_of_getElem? (i := 651) (by decide +kernel), List.mem_of_getElem? (i := 808) (by decide +kernel), List.mem_of_getElem? (i := 809) (by decide +kernel)⟩
theorem lw_p24 : lw_okq (⟨"LeasedPagesModel", "granted", "(IIIZI)V"⟩, 44) := ⟨⟨by decide +kernel, by decide +kernel⟩, List.mem_of_getElem? (i := 651) (by decide +kernel), List.mem_of_getElem? (i := 820) (by decide +kernel), List.mem_of_getElem? (i := 821) (by decide +kernel)⟩
theorem lw_p25 : lw_okq (⟨"LeasedPagesModel", "hasDirty", "(II)Z"⟩, 44) := ⟨⟨by decide +kernel, by decide +kernel⟩, List.mem_of_getElem? (i := 651) (by decide +kernel), List.mem_of_getElem? (i := 824) (by decide +kernel), List.mem_of_getElem? (i := 825) (by decide +kernel)⟩
theorem lw_p26 : lw_okq (⟨"LeasedPagesModel", "forget", "(III)V"⟩, 44) := ⟨⟨by decide +kernel, by decide +kernel⟩, List.mem_of_getElem? (i := 651) (by decide +kernel), List.mem_of_getElem? (i := 828) (by decide +kernel), List.mem_of_getElem? (i := 829) (by decide +kernel)⟩
theorem lw_p27 : lw_okq (⟨"LeasedPagesModel", "request", "(IIIIIZII)V"⟩, 44) := ⟨⟨by decide +kernel, by decide +kernel⟩, List.mem_of_getElem? (i := 651) (by decide +kernel), List.mem_of_getElem? (i := 833) (by decide +kernel), List.mem_of_getElem? (i := 834) (by decide +kernel)⟩
theorem lw_p28 : lw_okq (⟨"LeasedPagesModel", "answer", "(I)V"⟩, 44) := ⟨⟨by decide +kernel, by decide +kernel⟩, List.mem_of_getElem? (i := 651) (by decide +kernel), List.mem_of_getElem? (i := 837) (by decide +kernel), List.mem_of_getElem? (i := 838) (by decide +kernel)⟩
theorem lw_p29 : lw_okq (⟨"LeasedPagesModel", "room", "(IIII)I"⟩, 44) := ⟨⟨by decide +kernel, by decide +kernel⟩, List.mem_of_getElem? (i := 651) (by decide +kernel), List.mem_of_getElem? (i := 841) (by decide +kernel), List.mem_of_getElem? (i := 842) (by decide +kernel)⟩
theorem lw_p30 : lw_okq (⟨"LeasedPagesModel", "askedLease", "(IIIIZ)V"⟩, 44) := ⟨⟨by decide +kernel, by decide +kernel⟩, List.mem_of_getElem? (i := 651) (by decide +kernel), List.mem_of_getElem? (i := 845) (by decide +kernel), List.mem_of_getElem? (i := 846) (by decide +kernel)⟩
theorem lw_p31 : lw_okq (⟨"LeasedPagesModel", "has", "(II)Z"⟩, 44) := ⟨⟨by decide +kernel, by decide +kernel⟩, List.mem_of_getElem? (i := 651) (by decide +kernel), List.mem_of_getElem? (i := 849) (by decide +kernel), List.mem_of_getElem? (i := 850) (by decide +kernel)⟩
def lw_privs_2 : List (MethodName × Nat) := [(⟨"LeasedPages$Client", "removeAllWritesTo", "(I)V"⟩, 11), (⟨"LeasedPages$Client", "keepWrites", "(I)V"⟩, 11), (⟨"LeasedPages$Client", "redoWritesOn", "(I)V"⟩, 11), (⟨"LeasedPages$Client", "loseLease", "(I)V"⟩, 11), (⟨"LeasedPages$Client", "removeFirstWriteTo", "(I)V"⟩, 11), (⟨"LeasedPages", "isUp", "(I)Z"⟩, 3), (⟨"LeasedPages$Server", "endLeases", "()V"⟩, 11), (⟨"LeasedPagesModel", "move", "(II)V"⟩, 44), (⟨"LeasedPagesModel", "granted", "(IIIZI)V"⟩, 44), (⟨"LeasedPagesModel", "hasDirty", "(II)Z"⟩, 44), (⟨"LeasedPagesModel", "forget", "(III)V"⟩, 44), (⟨"LeasedPagesModel", "request", "(IIIIIZII)V"⟩, 44), (⟨"LeasedPagesModel", "answer", "(I)V"⟩, 44), (⟨"LeasedPagesModel", "room", "(IIII)I"⟩, 44), (⟨"LeasedPagesModel", "askedLease", "(IIIIZ)V"⟩, 44), (⟨"LeasedPagesModel", "has", "(II)Z"⟩, 44)]
theorem lw_r2 : ∀ q ∈ lw_privs_2, lw_okq q := List.forall_mem_cons.mpr ⟨lw_p16, List.forall_mem_cons.mpr ⟨lw_p17, List.forall_mem_cons.mpr ⟨lw_p18, List.forall_mem_cons.mpr ⟨lw_p19, List.forall_mem_cons.mpr ⟨lw_p20, List.forall_mem_cons.mpr ⟨lw_p21, List.forall_mem_cons.mpr ⟨lw_p22, List.forall_mem_cons.mpr ⟨lw_p23, List.forall_mem_cons.mpr ⟨lw_p24, List.forall_mem_cons.mpr ⟨lw_p25, List.forall_mem_cons.mpr ⟨lw_p26, List.forall_mem_cons.mpr ⟨lw_p27, List.forall_mem_cons.mpr ⟨lw_p28, List.forall_mem_cons.mpr ⟨lw_p29, List.forall_mem_cons.mpr ⟨lw_p30, List.forall_mem_cons.mpr ⟨lw_p31, fun _ h => absurd h List.not_mem_nil⟩⟩⟩⟩⟩⟩⟩⟩⟩⟩⟩⟩⟩⟩⟩⟩
theorem lw_p32 : lw_okq (⟨"LeasedPagesModel", "others", "(II)Z"⟩, 44) := ⟨⟨by decide +kernel, by decide +kernel⟩, List.mem_of_getElem? (i := 651) (by decide +kernel), List.mem_of_getElem? (i := 853) (by decide +kernel), List.mem_of_getElem? (i := 854) (by decide +kernel)⟩
theorem lw_p33 : lw_okq (⟨"LeasedPagesModel", "finish", "(IIII)V"⟩, 44) := ⟨⟨by decide +kernel, by decide +kernel⟩, List.mem_of_getElem? (i := 651) (by decide +kernel), List.mem_of_getElem? (i := 857) (by decide +kernel), List.mem_of_getElem? (i := 858) (by decide +kernel)⟩
theorem lw_p34 : lw_okq (⟨"LeasedPagesModel", "conflicts", "(III)Z"⟩, 44) := ⟨⟨by decide +kernel, by decide +kernel⟩, List.mem_of_getElem? (i := 651) (by decide +kernel), List.mem_of_getElem? (i := 861) (by decide +kernel), List.mem_of_getElem? (i := 862) (by decide +kernel)⟩
theorem lw_p35 : lw_okq (⟨"LeasedPagesModel", "grant", "(IIIIZ)V"⟩, 44) := ⟨⟨by decide +kernel, by decide +kernel⟩, List.mem_of_getElem? (i := 651) (by decide +kernel), List.mem_of_getElem? (i := 865) (by decide +kernel), List.mem_of_getElem? (i := 866) (by decide +kernel)⟩
theorem lw_p36 : lw_okq (⟨"LeasedPagesModel", "serveLines", "()V"⟩, 44) := ⟨⟨by decide +kernel, by decide +kernel⟩, List.mem_of_getElem? (i := 651) (by decide +kernel), List.mem_of_getElem? (i := 869) (by decide +kernel), List.mem_of_getElem? (i := 870) (by decide +kernel)⟩
theorem lw_p37 : lw_okq (⟨"LeasedPagesModel", "first", "(I)I"⟩, 44) := ⟨⟨by decide +kernel, by decide +kernel⟩, List.mem_of_getElem? (i := 651) (by decide +kernel), List.mem_of_getElem? (i := 873) (by decide +kernel), List.mem_of_getElem? (i := 874) (by decide +kernel)⟩
theorem lw_p38 : lw_okq (⟨"LeasedPagesModel", "replied", "(III)V"⟩, 44) := ⟨⟨by decide +kernel, by decide +kernel⟩, List.mem_of_getElem? (i := 651) (by decide +kernel), List.mem_of_getElem? (i := 877) (by decide +kernel), List.mem_of_getElem? (i := 878) (by decide +kernel)⟩
theorem lw_p39 : lw_okq (⟨"LeasedPagesModel", "works", "(I)Z"⟩, 44) := ⟨⟨by decide +kernel, by decide +kernel⟩, List.mem_of_getElem? (i := 651) (by decide +kernel), List.mem_of_getElem? (i := 885) (by decide +kernel), List.mem_of_getElem? (i := 886) (by decide +kernel)⟩
theorem lw_p40 : lw_okq (⟨"LeasedPagesModel", "lost", "(II)Z"⟩, 44) := ⟨⟨by decide +kernel, by decide +kernel⟩, List.mem_of_getElem? (i := 651) (by decide +kernel), List.mem_of_getElem? (i := 889) (by decide +kernel), List.mem_of_getElem? (i := 890) (by decide +kernel)⟩
theorem lw_p41 : lw_okq (⟨"LeasedPagesModel", "valid", "(II)Z"⟩, 44) := ⟨⟨by decide +kernel, by decide +kernel⟩, List.mem_of_getElem? (i := 651) (by decide +kernel), List.mem_of_getElem? (i := 893) (by decide +kernel), List.mem_of_getElem? (i := 894) (by decide +kernel)⟩
theorem lw_p42 : lw_okq (⟨"LeasedPagesModel", "open", "(IIIIZ)I"⟩, 44) := ⟨⟨by decide +kernel, by decide +kernel⟩, List.mem_of_getElem? (i := 651) (by decide +kernel), List.mem_of_getElem? (i := 897) (by decide +kernel), List.mem_of_getElem? (i := 898) (by decide +kernel)⟩
theorem lw_p43 : lw_okq (⟨"LeasedPagesModel", "ask", "(I)V"⟩, 44) := ⟨⟨by decide +kernel, by decide +kernel⟩, List.mem_of_getElem? (i := 651) (by decide +kernel), List.mem_of_getElem? (i := 901) (by decide +kernel), List.mem_of_getElem? (i := 902) (by decide +kernel)⟩
def lw_privs_3 : List (MethodName × Nat) := [(⟨"LeasedPagesModel", "others", "(II)Z"⟩, 44), (⟨"LeasedPagesModel", "finish", "(IIII)V"⟩, 44), (⟨"LeasedPagesModel", "conflicts", "(III)Z"⟩, 44), (⟨"LeasedPagesModel", "grant", "(IIIIZ)V"⟩, 44), (⟨"LeasedPagesModel", "serveLines", "()V"⟩, 44), (⟨"LeasedPagesModel", "first", "(I)I"⟩, 44), (⟨"LeasedPagesModel", "replied", "(III)V"⟩, 44), (⟨"LeasedPagesModel", "works", "(I)Z"⟩, 44), (⟨"LeasedPagesModel", "lost", "(II)Z"⟩, 44), (⟨"LeasedPagesModel", "valid", "(II)Z"⟩, 44), (⟨"LeasedPagesModel", "open", "(IIIIZ)I"⟩, 44), (⟨"LeasedPagesModel", "ask", "(I)V"⟩, 44)]
theorem lw_r3 : ∀ q ∈ lw_privs_3, lw_okq q := List.forall_mem_cons.mpr ⟨lw_p32, List.forall_mem_cons.mpr ⟨lw_p33, List.forall_mem_cons.mpr ⟨lw_p34, List.forall_mem_cons.mpr ⟨lw_p35, List.forall_mem_cons.mpr ⟨lw_p36, List.forall_mem_cons.mpr ⟨lw_p37, List.forall_mem_cons.mpr ⟨lw_p38, List.forall_mem_cons.mpr ⟨lw_p39, List.forall_mem_cons.mpr ⟨lw_p40, List.forall_mem_cons.mpr ⟨lw_p41, List.forall_mem_cons.mpr ⟨lw_p42, List.forall_mem_cons.mpr ⟨lw_p43, fun _ h => absurd h List.not_mem_nil⟩⟩⟩⟩⟩⟩⟩⟩⟩⟩⟩⟩
def lw_privs : List (MethodName × Nat) := lw_privs_1 ++ (lw_privs_2 ++ (lw_privs_3))
def lw_tbl : List Cond := k2_sels lw_privs ++ tables_1
theorem lw_privs_ok : ∀ q ∈ lw_privs, lw_okq q := by
  show ∀ q ∈ lw_privs_1 ++ (lw_privs_2 ++ (lw_privs_3)), lw_okq q
  exact List.forall_mem_append.mpr ⟨lw_r1, List.forall_mem_append.mpr ⟨lw_r2, lw_r3⟩⟩
end
section
/-! Names of the classes, their fields in my own order, array kinds, the words in three lists. Written by wip/whole/gen/names.py. -/
def lp_T0 : u_T := fun k => match k with
  | 0 => ("LeasedPages", "network", "LLeasedPages$Network;", true)
  | 1 => ("LeasedPages", "server", "LLeasedPages$Server;", true)
  | _ => ("LeasedPages", "clients", "[LLeasedPages$Client;", true)
def lp_y0 : Nat → FieldType := fun k => match k with
  | 0 => .object "LeasedPages$Network"
  | 1 => .object "LeasedPages$Server"
  | _ => .array (.object "LeasedPages$Client")
theorem lp_nm0 : ∀ a, a < 3 → ∀ b, b < 3 → a ≠ b → (lp_T0 a).2.1 ≠ (lp_T0 b).2.1 := by decide +kernel
theorem lp_ty0 : ∀ k, k < 3 → parseFieldDescriptor (lp_T0 k).2.2.1 = some (lp_y0 k) := by decide +kernel
def lp_T1 : u_T := fun k => match k with
  | 0 => ("LeasedPages$Network", "list", "[LLeasedPages$Message;", true)
  | _ => ("LeasedPages$Network", "count", "I", false)
def lp_y1 : Nat → FieldType := fun k => match k with
  | 0 => .array (.object "LeasedPages$Message")
  | _ => .int
theorem lp_nm1 : ∀ a, a < 2 → ∀ b, b < 2 → a ≠ b → (lp_T1 a).2.1 ≠ (lp_T1 b).2.1 := by decide +kernel
theorem lp_ty1 : ∀ k, k < 2 → parseFieldDescriptor (lp_T1 k).2.2.1 = some (lp_y1 k) := by decide +kernel
def lp_T2 : u_T := fun k => match k with
  | 0 => ("LeasedPages$Server", "network", "LLeasedPages$Network;", true)
  | 1 => ("LeasedPages$Server", "length", "I", true)
  | 2 => ("LeasedPages$Server", "pages", "[[I", true)
  | 3 => ("LeasedPages$Server", "latestReplies", "[LLeasedPages$Reply;", true)
  | 4 => ("LeasedPages$Server", "modes", "[[I", true)
  | 5 => ("LeasedPages$Server", "ends", "[[I", true)
  | 6 => ("LeasedPages$Server", "lines", "[LLeasedPages$Line;", true)
  | 7 => ("LeasedPages$Server", "up", "Z", false)
  | 8 => ("LeasedPages$Server", "now", "I", false)
  | 9 => ("LeasedPages$Server", "inGrace", "Z", false)
  | _ => ("LeasedPages$Server", "graceEnd", "I", false)
def lp_y2 : Nat → FieldType := fun k => match k with
  | 0 => .object "LeasedPages$Network"
  | 1 => .int
  | 2 => .array (.array (.int))
  | 3 => .array (.object "LeasedPages$Reply")
  | 4 => .array (.array (.int))
  | 5 => .array (.array (.int))
  | 6 => .array (.object "LeasedPages$Line")
  | 7 => .boolean
  | 8 => .int
  | 9 => .boolean
  | _ => .int
theorem lp_nm2 : ∀ a, a < 11 → ∀ b, b < 11 → a ≠ b → (lp_T2 a).2.1 ≠ (lp_T2 b).2.1 := by decide +kernel
theorem lp_ty2 : ∀ k, k < 11 → parseFieldDescriptor (lp_T2 k).2.2.1 = some (lp_y2 k) := by decide +kernel
def lp_T3 : u_T := fun k => match k with
  | 0 => ("LeasedPages$Line", "requests", "[LLeasedPages$Request;", true)
  | _ => ("LeasedPages$Line", "size", "I", false)
def lp_y3 : Nat → FieldType := fun k => match k with
  | 0 => .array (.object "LeasedPages$Request")
  | _ => .int
theorem lp_nm3 : ∀ a, a < 2 → ∀ b, b < 2 → a ≠ b → (lp_T3 a).2.1 ≠ (lp_T3 b).2.1 := by decide +kernel
theorem lp_ty3 : ∀ k, k < 2 → parseFieldDescriptor (lp_T3 k).2.2.1 = some (lp_y3 k) := by decide +kernel
def lp_T4 : u_T := fun k => match k with
  | 0 => ("LeasedPages$Client", "id", "I", true)
  | 1 => ("LeasedPages$Client", "term", "I", true)
  | 2 => ("LeasedPages$Client", "network", "LLeasedPages$Network;", true)
  | 3 => ("LeasedPages$Client", "copies", "[LLeasedPages$Copy;", true)
  | 4 => ("LeasedPages$Client", "writes", "[LLeasedPages$Write;", true)
  | 5 => ("LeasedPages$Client", "writeCount", "I", false)
  | 6 => ("LeasedPages$Client", "up", "Z", false)
  | 7 => ("LeasedPages$Client", "now", "I", false)
  | 8 => ("LeasedPages$Client", "latestNumber", "I", false)
  | 9 => ("LeasedPages$Client", "open", "LLeasedPages$Request;", false)
  | _ => ("LeasedPages$Client", "openSince", "I", false)
def lp_y4 : Nat → FieldType := fun k => match k with
  | 0 => .int
  | 1 => .int
  | 2 => .object "LeasedPages$Network"
  | 3 => .array (.object "LeasedPages$Copy")
  | 4 => .array (.object "LeasedPages$Write")
  | 5 => .int
  | 6 => .boolean
  | 7 => .int
  | 8 => .int
  | 9 => .object "LeasedPages$Request"
  | _ => .int
theorem lp_nm4 : ∀ a, a < 11 → ∀ b, b < 11 → a ≠ b → (lp_T4 a).2.1 ≠ (lp_T4 b).2.1 := by decide +kernel
theorem lp_ty4 : ∀ k, k < 11 → parseFieldDescriptor (lp_T4 k).2.2.1 = some (lp_y4 k) := by decide +kernel
def lp_T5 : u_T := fun k => match k with
  | 0 => ("LeasedPages$Copy", "pages", "[I", true)
  | 1 => ("LeasedPages$Copy", "mode", "I", false)
  | 2 => ("LeasedPages$Copy", "validUntil", "I", false)
  | 3 => ("LeasedPages$Copy", "recalled", "Z", false)
  | _ => ("LeasedPages$Copy", "lost", "Z", false)
def lp_y5 : Nat → FieldType := fun k => match k with
  | 0 => .array (.int)
  | 1 => .int
  | 2 => .int
  | 3 => .boolean
  | _ => .boolean
theorem lp_nm5 : ∀ a, a < 5 → ∀ b, b < 5 → a ≠ b → (lp_T5 a).2.1 ≠ (lp_T5 b).2.1 := by decide +kernel
theorem lp_ty5 : ∀ k, k < 5 → parseFieldDescriptor (lp_T5 k).2.2.1 = some (lp_y5 k) := by decide +kernel
def lp_T6 : u_T := fun k => match k with
  | 0 => ("LeasedPages$Message", "kind", "I", true)
  | 1 => ("LeasedPages$Message", "client", "I", true)
  | 2 => ("LeasedPages$Message", "file", "I", true)
  | _ => ("LeasedPages$Message", "number", "I", true)
def lp_y6 : Nat → FieldType := fun k => match k with
  | 0 => .int
  | 1 => .int
  | 2 => .int
  | _ => .int
theorem lp_nm6 : ∀ a, a < 4 → ∀ b, b < 4 → a ≠ b → (lp_T6 a).2.1 ≠ (lp_T6 b).2.1 := by decide +kernel
theorem lp_ty6 : ∀ k, k < 4 → parseFieldDescriptor (lp_T6 k).2.2.1 = some (lp_y6 k) := by decide +kernel
def lp_T7 : u_T := fun k => match k with
  | 0 => ("LeasedPages$Message", "kind", "I", true)
  | 1 => ("LeasedPages$Message", "client", "I", true)
  | 2 => ("LeasedPages$Message", "file", "I", true)
  | 3 => ("LeasedPages$Message", "number", "I", true)
  | 4 => ("LeasedPages$Request", "mode", "I", false)
  | 5 => ("LeasedPages$Request", "claim", "Z", false)
  | 6 => ("LeasedPages$Request", "page", "I", false)
  | _ => ("LeasedPages$Request", "value", "I", false)
def lp_y7 : Nat → FieldType := fun k => match k with
  | 0 => .int
  | 1 => .int
  | 2 => .int
  | 3 => .int
  | 4 => .int
  | 5 => .boolean
  | 6 => .int
  | _ => .int
theorem lp_nm7 : ∀ a, a < 8 → ∀ b, b < 8 → a ≠ b → (lp_T7 a).2.1 ≠ (lp_T7 b).2.1 := by decide +kernel
theorem lp_ty7 : ∀ k, k < 8 → parseFieldDescriptor (lp_T7 k).2.2.1 = some (lp_y7 k) := by decide +kernel
def lp_T8 : u_T := fun k => match k with
  | 0 => ("LeasedPages$Message", "kind", "I", true)
  | 1 => ("LeasedPages$Message", "client", "I", true)
  | 2 => ("LeasedPages$Message", "file", "I", true)
  | 3 => ("LeasedPages$Message", "number", "I", true)
  | 4 => ("LeasedPages$Reply", "mode", "I", true)
  | 5 => ("LeasedPages$Reply", "continued", "Z", true)
  | _ => ("LeasedPages$Reply", "pages", "[I", true)
def lp_y8 : Nat → FieldType := fun k => match k with
  | 0 => .int
  | 1 => .int
  | 2 => .int
  | 3 => .int
  | 4 => .int
  | 5 => .boolean
  | _ => .array (.int)
theorem lp_nm8 : ∀ a, a < 7 → ∀ b, b < 7 → a ≠ b → (lp_T8 a).2.1 ≠ (lp_T8 b).2.1 := by decide +kernel
theorem lp_ty8 : ∀ k, k < 7 → parseFieldDescriptor (lp_T8 k).2.2.1 = some (lp_y8 k) := by decide +kernel
def lp_T9 : u_T := fun k => match k with
  | 0 => ("LeasedPages$Write", "file", "I", true)
  | 1 => ("LeasedPages$Write", "page", "I", true)
  | _ => ("LeasedPages$Write", "value", "I", true)
def lp_y9 : Nat → FieldType := fun k => match k with
  | 0 => .int
  | 1 => .int
  | _ => .int
theorem lp_nm9 : ∀ a, a < 3 → ∀ b, b < 3 → a ≠ b → (lp_T9 a).2.1 ≠ (lp_T9 b).2.1 := by decide +kernel
theorem lp_ty9 : ∀ k, k < 3 → parseFieldDescriptor (lp_T9 k).2.2.1 = some (lp_y9 k) := by decide +kernel
def lp_T10 : u_T := fun k => match k with
  | 0 => ("LeasedPagesModel", "duration", "I", true)
  | 1 => ("LeasedPagesModel", "down", "[Z", true)
  | 2 => ("LeasedPagesModel", "clocks", "[I", true)
  | 3 => ("LeasedPagesModel", "pages", "[I", true)
  | 4 => ("LeasedPagesModel", "modes", "[I", true)
  | 5 => ("LeasedPagesModel", "ends", "[I", true)
  | 6 => ("LeasedPagesModel", "grace", "I", false)
  | 7 => ("LeasedPagesModel", "done", "[I", true)
  | 8 => ("LeasedPagesModel", "saidKind", "[I", true)
  | 9 => ("LeasedPagesModel", "saidFile", "[I", true)
  | 10 => ("LeasedPagesModel", "saidMode", "[I", true)
  | 11 => ("LeasedPagesModel", "saidMore", "[Z", true)
  | 12 => ("LeasedPagesModel", "saidPages", "[I", true)
  | 13 => ("LeasedPagesModel", "waitFile", "[I", true)
  | 14 => ("LeasedPagesModel", "waitNumber", "[I", true)
  | 15 => ("LeasedPagesModel", "waitMode", "[I", true)
  | 16 => ("LeasedPagesModel", "waitSince", "[I", true)
  | 17 => ("LeasedPagesModel", "arrivals", "I", false)
  | 18 => ("LeasedPagesModel", "number", "[I", true)
  | 19 => ("LeasedPagesModel", "knownMode", "[I", true)
  | 20 => ("LeasedPagesModel", "knownEnd", "[I", true)
  | 21 => ("LeasedPagesModel", "recalled", "[Z", true)
  | 22 => ("LeasedPagesModel", "missed", "[Z", true)
  | 23 => ("LeasedPagesModel", "copies", "[I", true)
  | 24 => ("LeasedPagesModel", "dirties", "[I", true)
  | 25 => ("LeasedPagesModel", "dirtyPlace", "[I", true)
  | 26 => ("LeasedPagesModel", "dirtyValue", "[I", true)
  | 27 => ("LeasedPagesModel", "openKind", "[I", true)
  | 28 => ("LeasedPagesModel", "openFile", "[I", true)
  | 29 => ("LeasedPagesModel", "openMode", "[I", true)
  | 30 => ("LeasedPagesModel", "openClaim", "[Z", true)
  | 31 => ("LeasedPagesModel", "openPage", "[I", true)
  | 32 => ("LeasedPagesModel", "openValue", "[I", true)
  | 33 => ("LeasedPagesModel", "openSince", "[I", true)
  | 34 => ("LeasedPagesModel", "under", "I", false)
  | 35 => ("LeasedPagesModel", "kind", "[I", true)
  | 36 => ("LeasedPagesModel", "client", "[I", true)
  | 37 => ("LeasedPagesModel", "file", "[I", true)
  | 38 => ("LeasedPagesModel", "which", "[I", true)
  | 39 => ("LeasedPagesModel", "mode", "[I", true)
  | 40 => ("LeasedPagesModel", "yes", "[Z", true)
  | 41 => ("LeasedPagesModel", "page", "[I", true)
  | 42 => ("LeasedPagesModel", "content", "[I", true)
  | _ => ("LeasedPagesModel", "four", "[I", true)
def lp_y10 : Nat → FieldType := fun k => match k with
  | 0 => .int
  | 1 => .array (.boolean)
  | 2 => .array (.int)
  | 3 => .array (.int)
  | 4 => .array (.int)
  | 5 => .array (.int)
  | 6 => .int
  | 7 => .array (.int)
  | 8 => .array (.int)
  | 9 => .array (.int)
  | 10 => .array (.int)
  | 11 => .array (.boolean)
  | 12 => .array (.int)
  | 13 => .array (.int)
  | 14 => .array (.int)
  | 15 => .array (.int)
  | 16 => .array (.int)
  | 17 => .int
  | 18 => .array (.int)
  | 19 => .array (.int)
  | 20 => .array (.int)
  | 21 => .array (.boolean)
  | 22 => .array (.boolean)
  | 23 => .array (.int)
  | 24 => .array (.int)
  | 25 => .array (.int)
  | 26 => .array (.int)
  | 27 => .array (.int)
  | 28 => .array (.int)
  | 29 => .array (.int)
  | 30 => .array (.boolean)
  | 31 => .array (.int)
  | 32 => .array (.int)
  | 33 => .array (.int)
  | 34 => .int
  | 35 => .array (.int)
  | 36 => .array (.int)
  | 37 => .array (.int)
  | 38 => .array (.int)
  | 39 => .array (.int)
  | 40 => .array (.boolean)
  | 41 => .array (.int)
  | 42 => .array (.int)
  | _ => .array (.int)
theorem lp_nm10 : ∀ a, a < 44 → ∀ b, b < 44 → a ≠ b → (lp_T10 a).2.1 ≠ (lp_T10 b).2.1 := by decide +kernel
theorem lp_ty10 : ∀ k, k < 44 → parseFieldDescriptor (lp_T10 k).2.2.1 = some (lp_y10 k) := by decide +kernel
def lp_CL : List vw_C := [("LeasedPages", lp_T0, 3), ("LeasedPages$Network", lp_T1, 2), ("LeasedPages$Server", lp_T2, 11), ("LeasedPages$Line", lp_T3, 2), ("LeasedPages$Client", lp_T4, 11), ("LeasedPages$Copy", lp_T5, 5), ("LeasedPages$Message", lp_T6, 4), ("LeasedPages$Request", lp_T7, 8), ("LeasedPages$Reply", lp_T8, 7), ("LeasedPages$Write", lp_T9, 3), ("LeasedPagesModel", lp_T10, 44)]
def lp_AT : List FieldType := [FieldType.int, FieldType.boolean, FieldType.object "LeasedPages$Message", FieldType.object "LeasedPages$Reply", FieldType.object "LeasedPages$Line", FieldType.object "LeasedPages$Request", FieldType.object "LeasedPages$Client", FieldType.object "LeasedPages$Copy", FieldType.object "LeasedPages$Write", FieldType.array FieldType.int]
theorem lp_AT0 : lp_AT[0]? = some .int := rfl
theorem lp_AT1 : lp_AT[1]? = some .boolean := rfl
/-- the words that stay good for every callee -/
def lp_BW : List Cond := lw_tbl.filter goodWord
/-- links within the nest, casts -/
def lp_NW : List Cond := [Cond.methodLinkNest "LeasedPages" 20 ⟨"LeasedPages$Network", "<init>", "()V"⟩ "LeasedPages",
  Cond.fieldLinkNest "LeasedPages" 85 "LeasedPages$Network" "count" "I" "LeasedPages",
  Cond.methodLinkNest "LeasedPages$Server" 55 ⟨"LeasedPages$Line", "<init>", "()V"⟩ "LeasedPages",
  Cond.fieldLinkNest "LeasedPages$Server" 114 "LeasedPages$Line" "size" "I" "LeasedPages",
  Cond.fieldLinkNest "LeasedPages" 168 "LeasedPages$Line" "size" "I" "LeasedPages",
  Cond.fieldLinkNest "LeasedPages" 173 "LeasedPages$Server" "pages" "[[I" "LeasedPages",
  Cond.fieldLinkNest "LeasedPages" 164 "LeasedPages$Server" "lines" "[LLeasedPages$Line;" "LeasedPages",
  Cond.fieldLinkNest "LeasedPages" 177 "LeasedPages$Server" "up" "Z" "LeasedPages",
  Cond.fieldLinkNest "LeasedPages" 151 "LeasedPages$Server" "now" "I" "LeasedPages",
  Cond.methodLinkNest "LeasedPages$Client" 54 ⟨"LeasedPages$Copy", "<init>", "()V"⟩ "LeasedPages",
  Cond.fieldLinkNest "LeasedPages$Client" 84 "LeasedPages$Copy" "pages" "[I" "LeasedPages",
  Cond.fieldLinkNest "LeasedPages$Client" 101 "LeasedPages$Copy" "mode" "I" "LeasedPages",
  Cond.fieldLinkNest "LeasedPages$Client" 139 "LeasedPages$Copy" "validUntil" "I" "LeasedPages",
  Cond.fieldLinkNest "LeasedPages$Client" 104 "LeasedPages$Copy" "recalled" "Z" "LeasedPages",
  Cond.fieldLinkNest "LeasedPages$Client" 88 "LeasedPages$Copy" "lost" "Z" "LeasedPages",
  Cond.fieldLinkNest "LeasedPages" 155 "LeasedPages$Client" "writeCount" "I" "LeasedPages",
  Cond.fieldLinkNest "LeasedPages" 147 "LeasedPages$Client" "up" "Z" "LeasedPages",
  Cond.fieldLinkNest "LeasedPages" 137 "LeasedPages$Client" "now" "I" "LeasedPages",
  Cond.fieldLinkNest "LeasedPages" 51 "LeasedPages$Client" "open" "LLeasedPages$Request;" "LeasedPages",
  Cond.fieldLinkNest "LeasedPages$Reply" 19 "LeasedPages$Request" "mode" "I" "LeasedPages",
  Cond.fieldLinkNest "LeasedPages$Server" 145 "LeasedPages$Request" "mode" "I" "LeasedPages",
  Cond.fieldLinkNest "LeasedPages$Server" 124 "LeasedPages$Request" "claim" "Z" "LeasedPages",
  Cond.fieldLinkNest "LeasedPages$Server" 139 "LeasedPages$Request" "page" "I" "LeasedPages",
  Cond.fieldLinkNest "LeasedPages$Server" 142 "LeasedPages$Request" "value" "I" "LeasedPages",
  Cond.castable "[I" "java/lang/Cloneable",
  Cond.castable "LeasedPages$Request" "LeasedPages$Request",
  Cond.castable "LeasedPages$Reply" "LeasedPages$Reply",
  Cond.castable "LeasedPages$Reply" "LeasedPages$Message",
  Cond.castable "LeasedPages$Request" "LeasedPages$Message"]
/-- arrays over these -/
def lp_AO : List FieldType := [FieldType.object "LeasedPages$Message", FieldType.array FieldType.int, FieldType.object "LeasedPages$Reply", FieldType.object "LeasedPages$Line", FieldType.object "LeasedPages$Request", FieldType.object "LeasedPages$Client", FieldType.object "LeasedPages$Copy", FieldType.object "LeasedPages$Write"]
/-- an object of the first class is none of the second -/
def lp_NC : List (String × String) := [("LeasedPages$Message", "LeasedPages$Request"), ("LeasedPages$Reply", "LeasedPages$Request"), ("LeasedPages$Message", "LeasedPages$Reply")]
theorem lp_t1 {w : Cond} (i : Nat) (h : tables_1_1[i]? = some w) (hg : goodWord w = true) : w ∈ lp_BW := List.mem_filter.mpr ⟨List.mem_append_right _ (List.mem_append_left _ (List.mem_of_getElem? h)), hg⟩
theorem lp_t2 {w : Cond} (i : Nat) (h : tables_1_2[i]? = some w) (hg : goodWord w = true) : w ∈ lp_BW := List.mem_filter.mpr ⟨List.mem_append_right _ (List.mem_append_right _ (List.mem_append_left _ (List.mem_of_getElem? h))), hg⟩
theorem lp_t3 {w : Cond} (i : Nat) (h : tables_1_3[i]? = some w) (hg : goodWord w = true) : w ∈ lp_BW := List.mem_filter.mpr ⟨List.mem_append_right _ (List.mem_append_right _ (List.mem_append_right _ (List.mem_append_left _ (List.mem_of_getElem? h)))), hg⟩
theorem lp_t4 {w : Cond} (i : Nat) (h : tables_1_4[i]? = some w) (hg : goodWord w = true) : w ∈ lp_BW := List.mem_filter.mpr ⟨List.mem_append_right _ (List.mem_append_right _ (List.mem_append_right _ (List.mem_append_right _ (List.mem_append_left _ (List.mem_of_getElem? h))))), hg⟩
theorem lp_t5 {w : Cond} (i : Nat) (h : tables_1_5[i]? = some w) (hg : goodWord w = true) : w ∈ lp_BW := List.mem_filter.mpr ⟨List.mem_append_right _ (List.mem_append_right _ (List.mem_append_right _ (List.mem_append_right _ (List.mem_append_right _ (List.mem_of_getElem? h))))), hg⟩
theorem lp_sl {w : Cond} (i : Nat) (h : (k2_sels lw_privs)[i]? = some w) (hg : goodWord w = true) : w ∈ lp_BW := List.mem_filter.mpr ⟨List.mem_append_left _ (List.mem_of_getElem? h), hg⟩
theorem lp_good : ∀ w ∈ lp_BW, (w.onTables && w.keeps) = true ∨ ∃ ty, w = .arrayClass ty := fun w h => good_of_word (List.mem_filter.mp h).2
theorem bw_0 : Cond.initialized "LeasedPagesLaw" ∈ lp_BW := lp_t1 0 rfl rfl
theorem bw_1 : Cond.initialized "LeasedPages" ∈ lp_BW := lp_t1 1 rfl rfl
theorem bw_2 : Cond.initialized "java/lang/Math" ∈ lp_BW := lp_t1 2 rfl rfl
theorem bw_3 : Cond.initialized "LeasedPages$Network" ∈ lp_BW := lp_t1 3 rfl rfl
theorem bw_4 : Cond.initialized "LeasedPages$Server" ∈ lp_BW := lp_t1 4 rfl rfl
theorem bw_5 : Cond.initialized "LeasedPages$Line" ∈ lp_BW := lp_t1 5 rfl rfl
theorem bw_6 : Cond.initialized "LeasedPages$Client" ∈ lp_BW := lp_t1 6 rfl rfl
theorem bw_7 : Cond.initialized "LeasedPages$Copy" ∈ lp_BW := lp_t1 7 rfl rfl
theorem bw_8 : Cond.initialized "LeasedPagesModel" ∈ lp_BW := lp_t1 8 rfl rfl
theorem bw_9 : Cond.initialized "LeasedPages$Message" ∈ lp_BW := lp_t1 9 rfl rfl
theorem bw_10 : Cond.initialized "LeasedPages$Request" ∈ lp_BW := lp_t1 10 rfl rfl
theorem bw_11 : Cond.initialized "LeasedPages$Write" ∈ lp_BW := lp_t1 11 rfl rfl
theorem bw_12 : Cond.initialized "LeasedPages$Reply" ∈ lp_BW := lp_t1 12 rfl rfl
theorem bw_13 : Cond.initialized "java/lang/System" ∈ lp_BW := lp_t1 13 rfl rfl
theorem bw_14 : Cond.initialized "java/util/Arrays" ∈ lp_BW := lp_t1 14 rfl rfl
theorem bw_15 : Cond.classLink "LeasedPagesLaw" 7 "LeasedPages" ∈ lp_BW := lp_t1 15 rfl rfl
theorem bw_16 : Cond.instantiable "LeasedPages" 3 ∈ lp_BW := lp_t1 16 rfl rfl
theorem bw_17 : Cond.methodLink "LeasedPagesLaw" 15 ⟨"LeasedPages", "<init>", "(I)V"⟩ ∈ lp_BW := lp_t1 17 rfl rfl
theorem bw_18 : Cond.instanceMethod ⟨"LeasedPages", "<init>", "(I)V"⟩ ∈ lp_BW := lp_t1 18 rfl rfl
theorem bw_19 : Cond.code ⟨"LeasedPages", "<init>", "(I)V"⟩ prog_1_method_1_code 4 (Option.none : Option FieldType) ∈ lp_BW := lp_t1 19 rfl rfl
theorem bw_20 : Cond.methodLink "LeasedPages" 1 ⟨"java/lang/Object", "<init>", "()V"⟩ ∈ lp_BW := lp_t1 20 rfl rfl
theorem bw_21 : Cond.instanceMethod ⟨"java/lang/Object", "<init>", "()V"⟩ ∈ lp_BW := lp_t1 21 rfl rfl
theorem bw_22 : Cond.code ⟨"java/lang/Object", "<init>", "()V"⟩ object_method_1_code 1 (Option.none : Option FieldType) ∈ lp_BW := lp_t1 22 rfl rfl
theorem bw_23 : Cond.methodLink "LeasedPages" 9 ⟨"java/lang/Math", "min", "(II)I"⟩ ∈ lp_BW := lp_t1 23 rfl rfl
theorem bw_24 : Cond.static ⟨"java/lang/Math", "min", "(II)I"⟩ ∈ lp_BW := lp_t1 24 rfl rfl
theorem bw_25 : Cond.code ⟨"java/lang/Math", "min", "(II)I"⟩ prog_14_method_69_code 2 (Option.some FieldType.int) ∈ lp_BW := lp_t1 25 rfl rfl
theorem bw_26 : Cond.methodLink "LeasedPages" 15 ⟨"java/lang/Math", "max", "(II)I"⟩ ∈ lp_BW := lp_t1 26 rfl rfl
theorem bw_27 : Cond.static ⟨"java/lang/Math", "max", "(II)I"⟩ ∈ lp_BW := lp_t1 27 rfl rfl
theorem bw_28 : Cond.code ⟨"java/lang/Math", "max", "(II)I"⟩ prog_14_method_65_code 2 (Option.some FieldType.int) ∈ lp_BW := lp_t1 28 rfl rfl
theorem bw_29 : Cond.classLink "LeasedPages" 18 "LeasedPages$Network" ∈ lp_BW := lp_t1 29 rfl rfl
theorem bw_30 : Cond.instantiable "LeasedPages$Network" 2 ∈ lp_BW := lp_t1 30 rfl rfl
theorem bw_32 : Cond.instanceMethod ⟨"LeasedPages$Network", "<init>", "()V"⟩ ∈ lp_BW := lp_t1 32 rfl rfl
theorem bw_33 : Cond.code ⟨"LeasedPages$Network", "<init>", "()V"⟩ prog_6_method_1_code 1 (Option.none : Option FieldType) ∈ lp_BW := lp_t1 33 rfl rfl
theorem bw_34 : Cond.methodLink "LeasedPages$Network" 3 ⟨"java/lang/Object", "<init>", "()V"⟩ ∈ lp_BW := lp_t1 34 rfl rfl
theorem bw_35 : Cond.classLink "LeasedPages$Network" 9 "LeasedPages$Message" ∈ lp_BW := lp_t1 35 rfl rfl
theorem bw_37 : Cond.fieldLink "LeasedPages$Network" 11 "LeasedPages$Network" "list" "[LLeasedPages$Message;" ∈ lp_BW := lp_t1 37 rfl rfl
theorem bw_38 : Cond.fieldLink "LeasedPages$Network" 17 "LeasedPages$Network" "count" "I" ∈ lp_BW := lp_t1 38 rfl rfl
theorem bw_40 : Cond.laysFinal "LeasedPages$Network" "LeasedPages$Network" "list" "[LLeasedPages$Message;" ∈ lp_BW := lp_t1 40 rfl rfl
theorem bw_42 : Cond.lays "LeasedPages$Network" "LeasedPages$Network" "count" "I" ∈ lp_BW := lp_t1 42 rfl rfl
theorem bw_45 : Cond.classLink "LeasedPages" 25 "LeasedPages$Server" ∈ lp_BW := lp_t1 45 rfl rfl
theorem bw_46 : Cond.instantiable "LeasedPages$Server" 11 ∈ lp_BW := lp_t1 46 rfl rfl
theorem bw_47 : Cond.methodLink "LeasedPages" 27 ⟨"LeasedPages$Server", "<init>", "(LLeasedPages$Network;I)V"⟩ ∈ lp_BW := lp_t1 47 rfl rfl
theorem bw_48 : Cond.instanceMethod ⟨"LeasedPages$Server", "<init>", "(LLeasedPages$Network;I)V"⟩ ∈ lp_BW := lp_t1 48 rfl rfl
theorem bw_49 : Cond.code ⟨"LeasedPages$Server", "<init>", "(LLeasedPages$Network;I)V"⟩ prog_9_method_1_code 4 (Option.none : Option FieldType) ∈ lp_BW := lp_t1 49 rfl rfl
theorem bw_50 : Cond.methodLink "LeasedPages$Server" 3 ⟨"java/lang/Object", "<init>", "()V"⟩ ∈ lp_BW := lp_t1 50 rfl rfl
theorem bw_51 : Cond.classLink "LeasedPages$Server" 9 "[[I" ∈ lp_BW := lp_t1 51 rfl rfl
theorem bw_53 : Cond.classLink "LeasedPages$Server" 16 "LeasedPages$Reply" ∈ lp_BW := lp_t1 53 rfl rfl
theorem bw_55 : Cond.classLink "LeasedPages$Server" 28 "LeasedPages$Line" ∈ lp_BW := lp_t1 55 rfl rfl
theorem bw_57 : Cond.instantiable "LeasedPages$Line" 2 ∈ lp_BW := lp_t1 57 rfl rfl
theorem bw_59 : Cond.instanceMethod ⟨"LeasedPages$Line", "<init>", "()V"⟩ ∈ lp_BW := lp_t1 59 rfl rfl
theorem bw_60 : Cond.code ⟨"LeasedPages$Line", "<init>", "()V"⟩ prog_4_method_1_code 1 (Option.none : Option FieldType) ∈ lp_BW := lp_t1 60 rfl rfl
theorem bw_61 : Cond.methodLink "LeasedPages$Line" 3 ⟨"java/lang/Object", "<init>", "()V"⟩ ∈ lp_BW := lp_t1 61 rfl rfl
theorem bw_62 : Cond.classLink "LeasedPages$Line" 9 "LeasedPages$Request" ∈ lp_BW := lp_t1 62 rfl rfl
theorem bw_64 : Cond.fieldLink "LeasedPages$Line" 11 "LeasedPages$Line" "requests" "[LLeasedPages$Request;" ∈ lp_BW := lp_t1 64 rfl rfl
theorem bw_65 : Cond.fieldLink "LeasedPages$Line" 17 "LeasedPages$Line" "size" "I" ∈ lp_BW := lp_t1 65 rfl rfl
theorem bw_68 : Cond.laysFinal "LeasedPages$Line" "LeasedPages$Line" "requests" "[LLeasedPages$Request;" ∈ lp_BW := lp_t1 68 rfl rfl
theorem bw_70 : Cond.lays "LeasedPages$Line" "LeasedPages$Line" "size" "I" ∈ lp_BW := lp_t1 70 rfl rfl
theorem bw_73 : Cond.arrayClass FieldType.int ∈ lp_BW := lp_t1 73 rfl rfl
theorem bw_74 : Cond.fieldLink "LeasedPages$Server" 48 "LeasedPages$Server" "network" "LLeasedPages$Network;" ∈ lp_BW := lp_t1 74 rfl rfl
theorem bw_75 : Cond.fieldLink "LeasedPages$Server" 52 "LeasedPages$Server" "length" "I" ∈ lp_BW := lp_t1 75 rfl rfl
theorem bw_76 : Cond.fieldLink "LeasedPages$Server" 11 "LeasedPages$Server" "pages" "[[I" ∈ lp_BW := lp_t1 76 rfl rfl
theorem bw_78 : Cond.fieldLink "LeasedPages$Server" 18 "LeasedPages$Server" "latestReplies" "[LLeasedPages$Reply;" ∈ lp_BW := lp_t1 78 rfl rfl
theorem bw_79 : Cond.fieldLink "LeasedPages$Server" 22 "LeasedPages$Server" "modes" "[[I" ∈ lp_BW := lp_t1 79 rfl rfl
theorem bw_80 : Cond.fieldLink "LeasedPages$Server" 25 "LeasedPages$Server" "ends" "[[I" ∈ lp_BW := lp_t1 80 rfl rfl
theorem bw_81 : Cond.fieldLink "LeasedPages$Server" 30 "LeasedPages$Server" "lines" "[LLeasedPages$Line;" ∈ lp_BW := lp_t1 81 rfl rfl
theorem bw_83 : Cond.fieldLink "LeasedPages$Server" 34 "LeasedPages$Server" "up" "Z" ∈ lp_BW := lp_t1 83 rfl rfl
theorem bw_85 : Cond.fieldLink "LeasedPages$Server" 38 "LeasedPages$Server" "now" "I" ∈ lp_BW := lp_t1 85 rfl rfl
theorem bw_87 : Cond.fieldLink "LeasedPages$Server" 42 "LeasedPages$Server" "inGrace" "Z" ∈ lp_BW := lp_t1 87 rfl rfl
theorem bw_88 : Cond.fieldLink "LeasedPages$Server" 45 "LeasedPages$Server" "graceEnd" "I" ∈ lp_BW := lp_t1 88 rfl rfl
theorem bw_89 : Cond.laysFinal "LeasedPages$Server" "LeasedPages$Server" "network" "LLeasedPages$Network;" ∈ lp_BW := lp_t1 89 rfl rfl
theorem bw_91 : Cond.laysFinal "LeasedPages$Server" "LeasedPages$Server" "length" "I" ∈ lp_BW := lp_t1 91 rfl rfl
theorem bw_93 : Cond.laysFinal "LeasedPages$Server" "LeasedPages$Server" "pages" "[[I" ∈ lp_BW := lp_t1 93 rfl rfl
theorem bw_95 : Cond.laysFinal "LeasedPages$Server" "LeasedPages$Server" "latestReplies" "[LLeasedPages$Reply;" ∈ lp_BW := lp_t1 95 rfl rfl
theorem bw_97 : Cond.laysFinal "LeasedPages$Server" "LeasedPages$Server" "modes" "[[I" ∈ lp_BW := lp_t1 97 rfl rfl
theorem bw_99 : Cond.laysFinal "LeasedPages$Server" "LeasedPages$Server" "ends" "[[I" ∈ lp_BW := lp_t1 99 rfl rfl
theorem bw_101 : Cond.laysFinal "LeasedPages$Server" "LeasedPages$Server" "lines" "[LLeasedPages$Line;" ∈ lp_BW := lp_t1 101 rfl rfl
theorem bw_103 : Cond.lays "LeasedPages$Server" "LeasedPages$Server" "up" "Z" ∈ lp_BW := lp_t1 103 rfl rfl
theorem bw_105 : Cond.lays "LeasedPages$Server" "LeasedPages$Server" "now" "I" ∈ lp_BW := lp_t1 105 rfl rfl
theorem bw_107 : Cond.lays "LeasedPages$Server" "LeasedPages$Server" "inGrace" "Z" ∈ lp_BW := lp_t1 107 rfl rfl
theorem bw_109 : Cond.lays "LeasedPages$Server" "LeasedPages$Server" "graceEnd" "I" ∈ lp_BW := lp_t1 109 rfl rfl
theorem bw_112 : Cond.classLink "LeasedPages" 34 "LeasedPages$Client" ∈ lp_BW := lp_t1 112 rfl rfl
theorem bw_114 : Cond.instantiable "LeasedPages$Client" 11 ∈ lp_BW := lp_t1 114 rfl rfl
theorem bw_115 : Cond.methodLink "LeasedPages" 40 ⟨"LeasedPages$Client", "<init>", "(IILLeasedPages$Network;)V"⟩ ∈ lp_BW := lp_t1 115 rfl rfl
theorem bw_116 : Cond.instanceMethod ⟨"LeasedPages$Client", "<init>", "(IILLeasedPages$Network;)V"⟩ ∈ lp_BW := lp_t1 116 rfl rfl
theorem bw_117 : Cond.code ⟨"LeasedPages$Client", "<init>", "(IILLeasedPages$Network;)V"⟩ prog_2_method_1_code 5 (Option.none : Option FieldType) ∈ lp_BW := lp_t1 117 rfl rfl
theorem bw_118 : Cond.methodLink "LeasedPages$Client" 3 ⟨"java/lang/Object", "<init>", "()V"⟩ ∈ lp_BW := lp_t1 118 rfl rfl
theorem bw_119 : Cond.classLink "LeasedPages$Client" 9 "LeasedPages$Copy" ∈ lp_BW := lp_t1 119 rfl rfl
theorem bw_121 : Cond.classLink "LeasedPages$Client" 17 "LeasedPages$Write" ∈ lp_BW := lp_t1 121 rfl rfl
theorem bw_123 : Cond.instantiable "LeasedPages$Copy" 5 ∈ lp_BW := lp_t1 123 rfl rfl
theorem bw_125 : Cond.instanceMethod ⟨"LeasedPages$Copy", "<init>", "()V"⟩ ∈ lp_BW := lp_t1 125 rfl rfl
theorem bw_126 : Cond.code ⟨"LeasedPages$Copy", "<init>", "()V"⟩ prog_3_method_1_code 1 (Option.none : Option FieldType) ∈ lp_BW := lp_t1 126 rfl rfl
theorem bw_127 : Cond.methodLink "LeasedPages$Copy" 3 ⟨"java/lang/Object", "<init>", "()V"⟩ ∈ lp_BW := lp_t1 127 rfl rfl
theorem bw_128 : Cond.fieldLink "LeasedPages$Copy" 9 "LeasedPages$Copy" "pages" "[I" ∈ lp_BW := lp_t1 128 rfl rfl
theorem bw_130 : Cond.fieldLink "LeasedPages$Copy" 15 "LeasedPages$Copy" "mode" "I" ∈ lp_BW := lp_t1 130 rfl rfl
theorem bw_132 : Cond.fieldLink "LeasedPages$Copy" 19 "LeasedPages$Copy" "validUntil" "I" ∈ lp_BW := lp_t1 132 rfl rfl
theorem bw_134 : Cond.fieldLink "LeasedPages$Copy" 22 "LeasedPages$Copy" "recalled" "Z" ∈ lp_BW := lp_t1 134 rfl rfl
theorem bw_136 : Cond.fieldLink "LeasedPages$Copy" 26 "LeasedPages$Copy" "lost" "Z" ∈ lp_BW := lp_t1 136 rfl rfl
theorem bw_138 : Cond.laysFinal "LeasedPages$Copy" "LeasedPages$Copy" "pages" "[I" ∈ lp_BW := lp_t1 138 rfl rfl
theorem bw_140 : Cond.lays "LeasedPages$Copy" "LeasedPages$Copy" "mode" "I" ∈ lp_BW := lp_t1 140 rfl rfl
theorem bw_142 : Cond.lays "LeasedPages$Copy" "LeasedPages$Copy" "validUntil" "I" ∈ lp_BW := lp_t1 142 rfl rfl
theorem bw_144 : Cond.lays "LeasedPages$Copy" "LeasedPages$Copy" "recalled" "Z" ∈ lp_BW := lp_t1 144 rfl rfl
theorem bw_146 : Cond.lays "LeasedPages$Copy" "LeasedPages$Copy" "lost" "Z" ∈ lp_BW := lp_t1 146 rfl rfl
theorem bw_149 : Cond.fieldLink "LeasedPages$Client" 44 "LeasedPages$Client" "id" "I" ∈ lp_BW := lp_t1 149 rfl rfl
theorem bw_150 : Cond.fieldLink "LeasedPages$Client" 47 "LeasedPages$Client" "term" "I" ∈ lp_BW := lp_t1 150 rfl rfl
theorem bw_151 : Cond.fieldLink "LeasedPages$Client" 50 "LeasedPages$Client" "network" "LLeasedPages$Network;" ∈ lp_BW := lp_t1 151 rfl rfl
theorem bw_152 : Cond.fieldLink "LeasedPages$Client" 11 "LeasedPages$Client" "copies" "[LLeasedPages$Copy;" ∈ lp_BW := lp_t1 152 rfl rfl
theorem bw_153 : Cond.fieldLink "LeasedPages$Client" 19 "LeasedPages$Client" "writes" "[LLeasedPages$Write;" ∈ lp_BW := lp_t1 153 rfl rfl
theorem bw_154 : Cond.fieldLink "LeasedPages$Client" 23 "LeasedPages$Client" "writeCount" "I" ∈ lp_BW := lp_t1 154 rfl rfl
theorem bw_156 : Cond.fieldLink "LeasedPages$Client" 27 "LeasedPages$Client" "up" "Z" ∈ lp_BW := lp_t1 156 rfl rfl
theorem bw_158 : Cond.fieldLink "LeasedPages$Client" 31 "LeasedPages$Client" "now" "I" ∈ lp_BW := lp_t1 158 rfl rfl
theorem bw_160 : Cond.fieldLink "LeasedPages$Client" 34 "LeasedPages$Client" "latestNumber" "I" ∈ lp_BW := lp_t1 160 rfl rfl
theorem bw_161 : Cond.fieldLink "LeasedPages$Client" 37 "LeasedPages$Client" "open" "LLeasedPages$Request;" ∈ lp_BW := lp_t1 161 rfl rfl
theorem bw_163 : Cond.fieldLink "LeasedPages$Client" 41 "LeasedPages$Client" "openSince" "I" ∈ lp_BW := lp_t1 163 rfl rfl
theorem bw_164 : Cond.laysFinal "LeasedPages$Client" "LeasedPages$Client" "id" "I" ∈ lp_BW := lp_t1 164 rfl rfl
theorem bw_166 : Cond.laysFinal "LeasedPages$Client" "LeasedPages$Client" "term" "I" ∈ lp_BW := lp_t1 166 rfl rfl
theorem bw_168 : Cond.laysFinal "LeasedPages$Client" "LeasedPages$Client" "network" "LLeasedPages$Network;" ∈ lp_BW := lp_t1 168 rfl rfl
theorem bw_170 : Cond.laysFinal "LeasedPages$Client" "LeasedPages$Client" "copies" "[LLeasedPages$Copy;" ∈ lp_BW := lp_t1 170 rfl rfl
theorem bw_172 : Cond.laysFinal "LeasedPages$Client" "LeasedPages$Client" "writes" "[LLeasedPages$Write;" ∈ lp_BW := lp_t1 172 rfl rfl
theorem bw_174 : Cond.lays "LeasedPages$Client" "LeasedPages$Client" "writeCount" "I" ∈ lp_BW := lp_t1 174 rfl rfl
theorem bw_176 : Cond.lays "LeasedPages$Client" "LeasedPages$Client" "up" "Z" ∈ lp_BW := lp_t1 176 rfl rfl
theorem bw_178 : Cond.lays "LeasedPages$Client" "LeasedPages$Client" "now" "I" ∈ lp_BW := lp_t1 178 rfl rfl
theorem bw_180 : Cond.lays "LeasedPages$Client" "LeasedPages$Client" "latestNumber" "I" ∈ lp_BW := lp_t1 180 rfl rfl
theorem bw_182 : Cond.lays "LeasedPages$Client" "LeasedPages$Client" "open" "LLeasedPages$Request;" ∈ lp_BW := lp_t1 182 rfl rfl
theorem bw_184 : Cond.lays "LeasedPages$Client" "LeasedPages$Client" "openSince" "I" ∈ lp_BW := lp_t1 184 rfl rfl
theorem bw_187 : Cond.fieldLink "LeasedPages" 21 "LeasedPages" "network" "LLeasedPages$Network;" ∈ lp_BW := lp_t1 187 rfl rfl
theorem bw_188 : Cond.fieldLink "LeasedPages" 30 "LeasedPages" "server" "LLeasedPages$Server;" ∈ lp_BW := lp_t1 188 rfl rfl
theorem bw_189 : Cond.fieldLink "LeasedPages" 36 "LeasedPages" "clients" "[LLeasedPages$Client;" ∈ lp_BW := lp_t1 189 rfl rfl
theorem bw_190 : Cond.laysFinal "LeasedPages" "LeasedPages" "network" "LLeasedPages$Network;" ∈ lp_BW := lp_t1 190 rfl rfl
theorem bw_192 : Cond.laysFinal "LeasedPages" "LeasedPages" "server" "LLeasedPages$Server;" ∈ lp_BW := lp_t1 192 rfl rfl
theorem bw_194 : Cond.laysFinal "LeasedPages" "LeasedPages" "clients" "[LLeasedPages$Client;" ∈ lp_BW := lp_t1 194 rfl rfl
theorem bw_197 : Cond.methodLink "LeasedPagesLaw" 21 ⟨"LeasedPages", "acquire", "(III)I"⟩ ∈ lp_BW := lp_t1 197 rfl rfl
theorem bw_198 : Cond.instanceMethod ⟨"LeasedPages", "acquire", "(III)I"⟩ ∈ lp_BW := lp_t1 198 rfl rfl
theorem bw_199 : Cond.selects "LeasedPages" ⟨"LeasedPages", "acquire", "(III)I"⟩ ⟨"LeasedPages", "acquire", "(III)I"⟩ ∈ lp_BW := lp_t1 199 rfl rfl
theorem bw_200 : Cond.code ⟨"LeasedPages", "acquire", "(III)I"⟩ prog_1_method_2_code 5 (Option.some FieldType.int) ∈ lp_BW := lp_t1 200 rfl rfl
theorem bw_201 : Cond.methodLink "LeasedPages" 43 ⟨"LeasedPages", "clientThatIsUp", "(I)LLeasedPages$Client;"⟩ ∈ lp_BW := lp_t1 201 rfl rfl
theorem bw_203 : Cond.instanceMethod ⟨"LeasedPages", "clientThatIsUp", "(I)LLeasedPages$Client;"⟩ ∈ lp_BW := lp_t1 203 rfl rfl
theorem bw_204 : Cond.code ⟨"LeasedPages", "clientThatIsUp", "(I)LLeasedPages$Client;"⟩ prog_1_method_27_code 2 (Option.some (FieldType.object "LeasedPages$Client")) ∈ lp_BW := lp_t1 204 rfl rfl
theorem bw_205 : Cond.methodLink "LeasedPages" 158 ⟨"LeasedPages", "isClient", "(I)Z"⟩ ∈ lp_BW := lp_t1 205 rfl rfl
theorem bw_206 : Cond.static ⟨"LeasedPages", "isClient", "(I)Z"⟩ ∈ lp_BW := lp_t1 206 rfl rfl
theorem bw_207 : Cond.code ⟨"LeasedPages", "isClient", "(I)Z"⟩ prog_1_method_22_code 1 (Option.some FieldType.boolean) ∈ lp_BW := lp_t1 207 rfl rfl
theorem bw_208 : Cond.methodLink "LeasedPages" 47 ⟨"LeasedPages", "isFile", "(I)Z"⟩ ∈ lp_BW := lp_t1 208 rfl rfl
theorem bw_209 : Cond.static ⟨"LeasedPages", "isFile", "(I)Z"⟩ ∈ lp_BW := lp_t1 209 rfl rfl
theorem bw_210 : Cond.code ⟨"LeasedPages", "isFile", "(I)Z"⟩ prog_1_method_24_code 1 (Option.some FieldType.boolean) ∈ lp_BW := lp_t1 210 rfl rfl
theorem bw_211 : Cond.methodLink "LeasedPages" 55 ⟨"LeasedPages$Client", "askForLease", "(II)I"⟩ ∈ lp_BW := lp_t1 211 rfl rfl
theorem bw_212 : Cond.instanceMethod ⟨"LeasedPages$Client", "askForLease", "(II)I"⟩ ∈ lp_BW := lp_t1 212 rfl rfl
theorem bw_213 : Cond.selects "LeasedPages$Client" ⟨"LeasedPages$Client", "askForLease", "(II)I"⟩ ⟨"LeasedPages$Client", "askForLease", "(II)I"⟩ ∈ lp_BW := lp_t1 213 rfl rfl
theorem bw_214 : Cond.code ⟨"LeasedPages$Client", "askForLease", "(II)I"⟩ prog_2_method_3_code 5 (Option.some FieldType.int) ∈ lp_BW := lp_t1 214 rfl rfl
theorem bw_215 : Cond.methodLink "LeasedPages$Client" 62 ⟨"LeasedPages$Copy", "takeLostMark", "()Z"⟩ ∈ lp_BW := lp_t1 215 rfl rfl
theorem bw_216 : Cond.instanceMethod ⟨"LeasedPages$Copy", "takeLostMark", "()Z"⟩ ∈ lp_BW := lp_t1 216 rfl rfl
theorem bw_217 : Cond.selects "LeasedPages$Copy" ⟨"LeasedPages$Copy", "takeLostMark", "()Z"⟩ ⟨"LeasedPages$Copy", "takeLostMark", "()Z"⟩ ∈ lp_BW := lp_t1 217 rfl rfl
theorem bw_218 : Cond.code ⟨"LeasedPages$Copy", "takeLostMark", "()Z"⟩ prog_3_method_3_code 2 (Option.some FieldType.boolean) ∈ lp_BW := lp_t1 218 rfl rfl
theorem bw_219 : Cond.methodLink "LeasedPages$Client" 66 ⟨"LeasedPages$Copy", "allows", "(II)Z"⟩ ∈ lp_BW := lp_t1 219 rfl rfl
theorem bw_220 : Cond.instanceMethod ⟨"LeasedPages$Copy", "allows", "(II)Z"⟩ ∈ lp_BW := lp_t1 220 rfl rfl
theorem bw_221 : Cond.selects "LeasedPages$Copy" ⟨"LeasedPages$Copy", "allows", "(II)Z"⟩ ⟨"LeasedPages$Copy", "allows", "(II)Z"⟩ ∈ lp_BW := lp_t1 221 rfl rfl
theorem bw_222 : Cond.code ⟨"LeasedPages$Copy", "allows", "(II)Z"⟩ prog_3_method_2_code 3 (Option.some FieldType.boolean) ∈ lp_BW := lp_t1 222 rfl rfl
theorem bw_223 : Cond.methodLink "LeasedPages$Client" 70 ⟨"LeasedPages$Client", "hasWritesTo", "(I)Z"⟩ ∈ lp_BW := lp_t1 223 rfl rfl
theorem bw_224 : Cond.instanceMethod ⟨"LeasedPages$Client", "hasWritesTo", "(I)Z"⟩ ∈ lp_BW := lp_t1 224 rfl rfl
theorem bw_225 : Cond.selects "LeasedPages$Client" ⟨"LeasedPages$Client", "hasWritesTo", "(I)Z"⟩ ⟨"LeasedPages$Client", "hasWritesTo", "(I)Z"⟩ ∈ lp_BW := lp_t1 225 rfl rfl
theorem bw_226 : Cond.code ⟨"LeasedPages$Client", "hasWritesTo", "(I)Z"⟩ prog_2_method_11_code 3 (Option.some FieldType.boolean) ∈ lp_BW := lp_t1 226 rfl rfl
theorem bw_227 : Cond.methodLink "LeasedPages$Client" 74 ⟨"LeasedPages$Request", "forLease", "(IIIIZ)LLeasedPages$Request;"⟩ ∈ lp_BW := lp_t1 227 rfl rfl
theorem bw_228 : Cond.static ⟨"LeasedPages$Request", "forLease", "(IIIIZ)LLeasedPages$Request;"⟩ ∈ lp_BW := lp_t1 228 rfl rfl
theorem bw_229 : Cond.code ⟨"LeasedPages$Request", "forLease", "(IIIIZ)LLeasedPages$Request;"⟩ prog_8_method_2_code 6 (Option.some (FieldType.object "LeasedPages$Request")) ∈ lp_BW := lp_t1 229 rfl rfl
theorem bw_230 : Cond.classLink "LeasedPages$Request" 9 "LeasedPages$Request" ∈ lp_BW := lp_t1 230 rfl rfl
theorem bw_231 : Cond.instantiable "LeasedPages$Request" 8 ∈ lp_BW := lp_t1 231 rfl rfl
theorem bw_232 : Cond.methodLink "LeasedPages$Request" 11 ⟨"LeasedPages$Request", "<init>", "(IIII)V"⟩ ∈ lp_BW := lp_t1 232 rfl rfl
theorem bw_233 : Cond.instanceMethod ⟨"LeasedPages$Request", "<init>", "(IIII)V"⟩ ∈ lp_BW := lp_t1 233 rfl rfl
theorem bw_234 : Cond.code ⟨"LeasedPages$Request", "<init>", "(IIII)V"⟩ prog_8_method_1_code 5 (Option.none : Option FieldType) ∈ lp_BW := lp_t1 234 rfl rfl
theorem bw_235 : Cond.methodLink "LeasedPages$Request" 3 ⟨"LeasedPages$Message", "<init>", "(IIII)V"⟩ ∈ lp_BW := lp_t1 235 rfl rfl
theorem bw_236 : Cond.instanceMethod ⟨"LeasedPages$Message", "<init>", "(IIII)V"⟩ ∈ lp_BW := lp_t1 236 rfl rfl
theorem bw_237 : Cond.code ⟨"LeasedPages$Message", "<init>", "(IIII)V"⟩ prog_5_method_1_code 5 (Option.none : Option FieldType) ∈ lp_BW := lp_t1 237 rfl rfl
theorem bw_238 : Cond.methodLink "LeasedPages$Message" 1 ⟨"java/lang/Object", "<init>", "()V"⟩ ∈ lp_BW := lp_t1 238 rfl rfl
theorem bw_240 : Cond.fieldLink "LeasedPages$Request" 12 "LeasedPages$Request" "mode" "I" ∈ lp_BW := lp_t2 0 rfl rfl
theorem bw_242 : Cond.fieldLink "LeasedPages$Request" 16 "LeasedPages$Request" "claim" "Z" ∈ lp_BW := lp_t2 2 rfl rfl
theorem bw_244 : Cond.fieldLink "LeasedPages$Request" 28 "LeasedPages$Request" "page" "I" ∈ lp_BW := lp_t2 4 rfl rfl
theorem bw_246 : Cond.fieldLink "LeasedPages$Request" 32 "LeasedPages$Request" "value" "I" ∈ lp_BW := lp_t2 6 rfl rfl
theorem bw_248 : Cond.fieldLink "LeasedPages$Message" 7 "LeasedPages$Message" "kind" "I" ∈ lp_BW := lp_t2 8 rfl rfl
theorem bw_249 : Cond.fieldLink "LeasedPages$Server" 98 "LeasedPages$Request" "kind" "I" ∈ lp_BW := lp_t2 9 rfl rfl
theorem bw_250 : Cond.sameField "LeasedPages$Request" "LeasedPages$Message" "kind" "I" ∈ lp_BW := lp_t2 10 rfl rfl
theorem bw_251 : Cond.fieldLink "LeasedPages$Client" 123 "LeasedPages$Request" "kind" "I" ∈ lp_BW := lp_t2 11 rfl rfl
theorem bw_252 : Cond.fieldLink "LeasedPages$Client" 126 "LeasedPages$Reply" "kind" "I" ∈ lp_BW := lp_t2 12 rfl rfl
theorem bw_253 : Cond.sameField "LeasedPages$Reply" "LeasedPages$Message" "kind" "I" ∈ lp_BW := lp_t2 13 rfl rfl
theorem bw_254 : Cond.fieldLink "LeasedPages$Reply" 1 "LeasedPages$Request" "client" "I" ∈ lp_BW := lp_t2 14 rfl rfl
theorem bw_255 : Cond.sameField "LeasedPages$Request" "LeasedPages$Message" "client" "I" ∈ lp_BW := lp_t2 15 rfl rfl
theorem bw_256 : Cond.fieldLink "LeasedPages$Message" 13 "LeasedPages$Message" "client" "I" ∈ lp_BW := lp_t2 16 rfl rfl
theorem bw_257 : Cond.fieldLink "LeasedPages$Server" 75 "LeasedPages$Request" "client" "I" ∈ lp_BW := lp_t2 17 rfl rfl
theorem bw_258 : Cond.fieldLink "LeasedPages$Line" 25 "LeasedPages$Request" "client" "I" ∈ lp_BW := lp_t2 18 rfl rfl
theorem bw_259 : Cond.fieldLink "LeasedPages" 109 "LeasedPages$Reply" "client" "I" ∈ lp_BW := lp_t2 19 rfl rfl
theorem bw_260 : Cond.sameField "LeasedPages$Reply" "LeasedPages$Message" "client" "I" ∈ lp_BW := lp_t2 20 rfl rfl
theorem bw_261 : Cond.fieldLink "LeasedPages" 116 "LeasedPages$Message" "client" "I" ∈ lp_BW := lp_t2 21 rfl rfl
theorem bw_262 : Cond.fieldLink "LeasedPages$Server" 154 "LeasedPages$Reply" "client" "I" ∈ lp_BW := lp_t2 22 rfl rfl
theorem bw_263 : Cond.fieldLink "LeasedPages$Reply" 7 "LeasedPages$Request" "file" "I" ∈ lp_BW := lp_t2 23 rfl rfl
theorem bw_264 : Cond.sameField "LeasedPages$Request" "LeasedPages$Message" "file" "I" ∈ lp_BW := lp_t2 24 rfl rfl
theorem bw_265 : Cond.fieldLink "LeasedPages$Message" 16 "LeasedPages$Message" "file" "I" ∈ lp_BW := lp_t2 25 rfl rfl
theorem bw_266 : Cond.fieldLink "LeasedPages$Server" 111 "LeasedPages$Request" "file" "I" ∈ lp_BW := lp_t2 26 rfl rfl
theorem bw_267 : Cond.fieldLink "LeasedPages" 117 "LeasedPages$Message" "file" "I" ∈ lp_BW := lp_t2 27 rfl rfl
theorem bw_268 : Cond.fieldLink "LeasedPages$Client" 131 "LeasedPages$Reply" "file" "I" ∈ lp_BW := lp_t2 28 rfl rfl
theorem bw_269 : Cond.sameField "LeasedPages$Reply" "LeasedPages$Message" "file" "I" ∈ lp_BW := lp_t2 29 rfl rfl
theorem bw_270 : Cond.fieldLink "LeasedPages$Reply" 10 "LeasedPages$Request" "number" "I" ∈ lp_BW := lp_t2 30 rfl rfl
theorem bw_271 : Cond.sameField "LeasedPages$Request" "LeasedPages$Message" "number" "I" ∈ lp_BW := lp_t2 31 rfl rfl
theorem bw_272 : Cond.fieldLink "LeasedPages$Message" 19 "LeasedPages$Message" "number" "I" ∈ lp_BW := lp_t2 32 rfl rfl
theorem bw_273 : Cond.fieldLink "LeasedPages$Server" 80 "LeasedPages$Request" "number" "I" ∈ lp_BW := lp_t2 33 rfl rfl
theorem bw_274 : Cond.fieldLink "LeasedPages$Server" 83 "LeasedPages$Reply" "number" "I" ∈ lp_BW := lp_t2 34 rfl rfl
theorem bw_275 : Cond.sameField "LeasedPages$Reply" "LeasedPages$Message" "number" "I" ∈ lp_BW := lp_t2 35 rfl rfl
theorem bw_276 : Cond.fieldLink "LeasedPages$Client" 117 "LeasedPages$Request" "number" "I" ∈ lp_BW := lp_t2 36 rfl rfl
theorem bw_277 : Cond.fieldLink "LeasedPages$Client" 120 "LeasedPages$Reply" "number" "I" ∈ lp_BW := lp_t2 37 rfl rfl
theorem bw_278 : Cond.lays "LeasedPages$Request" "LeasedPages$Request" "mode" "I" ∈ lp_BW := lp_t2 38 rfl rfl
theorem bw_280 : Cond.lays "LeasedPages$Request" "LeasedPages$Request" "claim" "Z" ∈ lp_BW := lp_t2 40 rfl rfl
theorem bw_282 : Cond.lays "LeasedPages$Request" "LeasedPages$Request" "page" "I" ∈ lp_BW := lp_t2 42 rfl rfl
theorem bw_284 : Cond.lays "LeasedPages$Request" "LeasedPages$Request" "value" "I" ∈ lp_BW := lp_t2 44 rfl rfl
theorem bw_286 : Cond.laysFinal "LeasedPages$Request" "LeasedPages$Message" "kind" "I" ∈ lp_BW := lp_t2 46 rfl rfl
theorem bw_288 : Cond.laysFinal "LeasedPages$Request" "LeasedPages$Message" "client" "I" ∈ lp_BW := lp_t2 48 rfl rfl
theorem bw_290 : Cond.laysFinal "LeasedPages$Request" "LeasedPages$Message" "file" "I" ∈ lp_BW := lp_t2 50 rfl rfl
theorem bw_292 : Cond.laysFinal "LeasedPages$Request" "LeasedPages$Message" "number" "I" ∈ lp_BW := lp_t2 52 rfl rfl
theorem bw_295 : Cond.methodLink "LeasedPages$Client" 80 ⟨"LeasedPages$Client", "sendNew", "(LLeasedPages$Request;)I"⟩ ∈ lp_BW := lp_t2 55 rfl rfl
theorem bw_297 : Cond.instanceMethod ⟨"LeasedPages$Client", "sendNew", "(LLeasedPages$Request;)I"⟩ ∈ lp_BW := lp_t2 57 rfl rfl
theorem bw_298 : Cond.code ⟨"LeasedPages$Client", "sendNew", "(LLeasedPages$Request;)I"⟩ prog_2_method_14_code 2 (Option.some FieldType.int) ∈ lp_BW := lp_t2 58 rfl rfl
theorem bw_299 : Cond.methodLink "LeasedPages$Client" 111 ⟨"LeasedPages$Network", "send", "(LLeasedPages$Message;)Z"⟩ ∈ lp_BW := lp_t2 59 rfl rfl
theorem bw_300 : Cond.instanceMethod ⟨"LeasedPages$Network", "send", "(LLeasedPages$Message;)Z"⟩ ∈ lp_BW := lp_t2 60 rfl rfl
theorem bw_301 : Cond.selects "LeasedPages$Network" ⟨"LeasedPages$Network", "send", "(LLeasedPages$Message;)Z"⟩ ⟨"LeasedPages$Network", "send", "(LLeasedPages$Message;)Z"⟩ ∈ lp_BW := lp_t2 61 rfl rfl
theorem bw_302 : Cond.code ⟨"LeasedPages$Network", "send", "(LLeasedPages$Message;)Z"⟩ prog_6_method_2_code 2 (Option.some FieldType.boolean) ∈ lp_BW := lp_t2 62 rfl rfl
theorem bw_303 : Cond.methodLink "LeasedPagesLaw" 26 ⟨"LeasedPages", "read", "(IIII)I"⟩ ∈ lp_BW := lp_t2 63 rfl rfl
theorem bw_304 : Cond.instanceMethod ⟨"LeasedPages", "read", "(IIII)I"⟩ ∈ lp_BW := lp_t2 64 rfl rfl
theorem bw_305 : Cond.selects "LeasedPages" ⟨"LeasedPages", "read", "(IIII)I"⟩ ⟨"LeasedPages", "read", "(IIII)I"⟩ ∈ lp_BW := lp_t2 65 rfl rfl
theorem bw_306 : Cond.code ⟨"LeasedPages", "read", "(IIII)I"⟩ prog_1_method_3_code 6 (Option.some FieldType.int) ∈ lp_BW := lp_t2 66 rfl rfl
theorem bw_307 : Cond.methodLink "LeasedPages" 58 ⟨"LeasedPages", "isPage", "(I)Z"⟩ ∈ lp_BW := lp_t2 67 rfl rfl
theorem bw_308 : Cond.static ⟨"LeasedPages", "isPage", "(I)Z"⟩ ∈ lp_BW := lp_t2 68 rfl rfl
theorem bw_309 : Cond.code ⟨"LeasedPages", "isPage", "(I)Z"⟩ prog_1_method_25_code 1 (Option.some FieldType.boolean) ∈ lp_BW := lp_t2 69 rfl rfl
theorem bw_310 : Cond.methodLink "LeasedPages" 61 ⟨"LeasedPages$Client", "readPage", "(II)I"⟩ ∈ lp_BW := lp_t2 70 rfl rfl
theorem bw_311 : Cond.instanceMethod ⟨"LeasedPages$Client", "readPage", "(II)I"⟩ ∈ lp_BW := lp_t2 71 rfl rfl
theorem bw_312 : Cond.selects "LeasedPages$Client" ⟨"LeasedPages$Client", "readPage", "(II)I"⟩ ⟨"LeasedPages$Client", "readPage", "(II)I"⟩ ∈ lp_BW := lp_t2 72 rfl rfl
theorem bw_313 : Cond.code ⟨"LeasedPages$Client", "readPage", "(II)I"⟩ prog_2_method_4_code 4 (Option.some FieldType.int) ∈ lp_BW := lp_t2 73 rfl rfl
theorem bw_314 : Cond.methodLink "LeasedPages" 64 ⟨"LeasedPages$Client", "canRead", "(I)I"⟩ ∈ lp_BW := lp_t2 74 rfl rfl
theorem bw_315 : Cond.instanceMethod ⟨"LeasedPages$Client", "canRead", "(I)I"⟩ ∈ lp_BW := lp_t2 75 rfl rfl
theorem bw_316 : Cond.selects "LeasedPages$Client" ⟨"LeasedPages$Client", "canRead", "(I)I"⟩ ⟨"LeasedPages$Client", "canRead", "(I)I"⟩ ∈ lp_BW := lp_t2 76 rfl rfl
theorem bw_317 : Cond.code ⟨"LeasedPages$Client", "canRead", "(I)I"⟩ prog_2_method_5_code 2 (Option.some FieldType.int) ∈ lp_BW := lp_t2 77 rfl rfl
theorem bw_318 : Cond.methodLink "LeasedPagesLaw" 31 ⟨"LeasedPages", "write", "(IIII)I"⟩ ∈ lp_BW := lp_t2 78 rfl rfl
theorem bw_319 : Cond.instanceMethod ⟨"LeasedPages", "write", "(IIII)I"⟩ ∈ lp_BW := lp_t2 79 rfl rfl
theorem bw_320 : Cond.selects "LeasedPages" ⟨"LeasedPages", "write", "(IIII)I"⟩ ⟨"LeasedPages", "write", "(IIII)I"⟩ ∈ lp_BW := lp_t2 80 rfl rfl
theorem bw_321 : Cond.code ⟨"LeasedPages", "write", "(IIII)I"⟩ prog_1_method_4_code 6 (Option.some FieldType.int) ∈ lp_BW := lp_t2 81 rfl rfl
theorem bw_322 : Cond.methodLink "LeasedPages" 68 ⟨"LeasedPages$Client", "writePage", "(III)I"⟩ ∈ lp_BW := lp_t2 82 rfl rfl
theorem bw_323 : Cond.instanceMethod ⟨"LeasedPages$Client", "writePage", "(III)I"⟩ ∈ lp_BW := lp_t2 83 rfl rfl
theorem bw_324 : Cond.selects "LeasedPages$Client" ⟨"LeasedPages$Client", "writePage", "(III)I"⟩ ⟨"LeasedPages$Client", "writePage", "(III)I"⟩ ∈ lp_BW := lp_t2 84 rfl rfl
theorem bw_325 : Cond.code ⟨"LeasedPages$Client", "writePage", "(III)I"⟩ prog_2_method_6_code 5 (Option.some FieldType.int) ∈ lp_BW := lp_t2 85 rfl rfl
theorem bw_326 : Cond.instantiable "LeasedPages$Write" 3 ∈ lp_BW := lp_t2 86 rfl rfl
theorem bw_327 : Cond.methodLink "LeasedPages$Client" 91 ⟨"LeasedPages$Write", "<init>", "(III)V"⟩ ∈ lp_BW := lp_t2 87 rfl rfl
theorem bw_328 : Cond.instanceMethod ⟨"LeasedPages$Write", "<init>", "(III)V"⟩ ∈ lp_BW := lp_t2 88 rfl rfl
theorem bw_329 : Cond.code ⟨"LeasedPages$Write", "<init>", "(III)V"⟩ prog_10_method_1_code 4 (Option.none : Option FieldType) ∈ lp_BW := lp_t2 89 rfl rfl
theorem bw_330 : Cond.methodLink "LeasedPages$Write" 1 ⟨"java/lang/Object", "<init>", "()V"⟩ ∈ lp_BW := lp_t2 90 rfl rfl
theorem bw_331 : Cond.fieldLink "LeasedPages$Write" 7 "LeasedPages$Write" "file" "I" ∈ lp_BW := lp_t2 91 rfl rfl
theorem bw_332 : Cond.fieldLink "LeasedPages$Request" 20 "LeasedPages$Write" "file" "I" ∈ lp_BW := lp_t2 92 rfl rfl
theorem bw_333 : Cond.fieldLink "LeasedPages$Client" 94 "LeasedPages$Write" "file" "I" ∈ lp_BW := lp_t2 93 rfl rfl
theorem bw_334 : Cond.fieldLink "LeasedPages$Write" 13 "LeasedPages$Write" "page" "I" ∈ lp_BW := lp_t2 94 rfl rfl
theorem bw_335 : Cond.fieldLink "LeasedPages$Request" 25 "LeasedPages$Write" "page" "I" ∈ lp_BW := lp_t2 95 rfl rfl
theorem bw_336 : Cond.fieldLink "LeasedPages$Client" 158 "LeasedPages$Write" "page" "I" ∈ lp_BW := lp_t2 96 rfl rfl
theorem bw_337 : Cond.fieldLink "LeasedPages$Write" 16 "LeasedPages$Write" "value" "I" ∈ lp_BW := lp_t2 97 rfl rfl
theorem bw_338 : Cond.fieldLink "LeasedPages$Request" 29 "LeasedPages$Write" "value" "I" ∈ lp_BW := lp_t2 98 rfl rfl
theorem bw_339 : Cond.fieldLink "LeasedPages$Client" 161 "LeasedPages$Write" "value" "I" ∈ lp_BW := lp_t2 99 rfl rfl
theorem bw_340 : Cond.laysFinal "LeasedPages$Write" "LeasedPages$Write" "file" "I" ∈ lp_BW := lp_t2 100 rfl rfl
theorem bw_342 : Cond.laysFinal "LeasedPages$Write" "LeasedPages$Write" "page" "I" ∈ lp_BW := lp_t2 102 rfl rfl
theorem bw_344 : Cond.laysFinal "LeasedPages$Write" "LeasedPages$Write" "value" "I" ∈ lp_BW := lp_t2 104 rfl rfl
theorem bw_347 : Cond.methodLink "LeasedPagesLaw" 35 ⟨"LeasedPages", "flush", "(I)I"⟩ ∈ lp_BW := lp_t2 107 rfl rfl
theorem bw_348 : Cond.instanceMethod ⟨"LeasedPages", "flush", "(I)I"⟩ ∈ lp_BW := lp_t2 108 rfl rfl
theorem bw_349 : Cond.selects "LeasedPages" ⟨"LeasedPages", "flush", "(I)I"⟩ ⟨"LeasedPages", "flush", "(I)I"⟩ ∈ lp_BW := lp_t2 109 rfl rfl
theorem bw_350 : Cond.code ⟨"LeasedPages", "flush", "(I)I"⟩ prog_1_method_5_code 3 (Option.some FieldType.int) ∈ lp_BW := lp_t2 110 rfl rfl
theorem bw_351 : Cond.methodLink "LeasedPages" 72 ⟨"LeasedPages$Client", "storeFirstWrite", "()I"⟩ ∈ lp_BW := lp_t2 111 rfl rfl
theorem bw_352 : Cond.instanceMethod ⟨"LeasedPages$Client", "storeFirstWrite", "()I"⟩ ∈ lp_BW := lp_t2 112 rfl rfl
theorem bw_353 : Cond.selects "LeasedPages$Client" ⟨"LeasedPages$Client", "storeFirstWrite", "()I"⟩ ⟨"LeasedPages$Client", "storeFirstWrite", "()I"⟩ ∈ lp_BW := lp_t2 113 rfl rfl
theorem bw_354 : Cond.code ⟨"LeasedPages$Client", "storeFirstWrite", "()I"⟩ prog_2_method_7_code 2 (Option.some FieldType.int) ∈ lp_BW := lp_t2 114 rfl rfl
theorem bw_355 : Cond.methodLink "LeasedPages$Client" 97 ⟨"LeasedPages$Request", "forStore", "(IILLeasedPages$Write;)LLeasedPages$Request;"⟩ ∈ lp_BW := lp_t2 115 rfl rfl
theorem bw_356 : Cond.static ⟨"LeasedPages$Request", "forStore", "(IILLeasedPages$Write;)LLeasedPages$Request;"⟩ ∈ lp_BW := lp_t2 116 rfl rfl
theorem bw_357 : Cond.code ⟨"LeasedPages$Request", "forStore", "(IILLeasedPages$Write;)LLeasedPages$Request;"⟩ prog_8_method_3_code 4 (Option.some (FieldType.object "LeasedPages$Request")) ∈ lp_BW := lp_t2 117 rfl rfl
theorem bw_358 : Cond.methodLink "LeasedPagesLaw" 40 ⟨"LeasedPages", "close", "(II)I"⟩ ∈ lp_BW := lp_t2 118 rfl rfl
theorem bw_359 : Cond.instanceMethod ⟨"LeasedPages", "close", "(II)I"⟩ ∈ lp_BW := lp_t2 119 rfl rfl
theorem bw_360 : Cond.selects "LeasedPages" ⟨"LeasedPages", "close", "(II)I"⟩ ⟨"LeasedPages", "close", "(II)I"⟩ ∈ lp_BW := lp_t2 120 rfl rfl
theorem bw_361 : Cond.code ⟨"LeasedPages", "close", "(II)I"⟩ prog_1_method_6_code 4 (Option.some FieldType.int) ∈ lp_BW := lp_t2 121 rfl rfl
theorem bw_362 : Cond.methodLink "LeasedPages" 76 ⟨"LeasedPages$Client", "hasWritesTo", "(I)Z"⟩ ∈ lp_BW := lp_t2 122 rfl rfl
theorem bw_363 : Cond.methodLink "LeasedPages" 79 ⟨"LeasedPages$Client", "giveBack", "(I)I"⟩ ∈ lp_BW := lp_t2 123 rfl rfl
theorem bw_364 : Cond.instanceMethod ⟨"LeasedPages$Client", "giveBack", "(I)I"⟩ ∈ lp_BW := lp_t2 124 rfl rfl
theorem bw_365 : Cond.selects "LeasedPages$Client" ⟨"LeasedPages$Client", "giveBack", "(I)I"⟩ ⟨"LeasedPages$Client", "giveBack", "(I)I"⟩ ∈ lp_BW := lp_t2 125 rfl rfl
theorem bw_366 : Cond.code ⟨"LeasedPages$Client", "giveBack", "(I)I"⟩ prog_2_method_8_code 3 (Option.some FieldType.int) ∈ lp_BW := lp_t2 126 rfl rfl
theorem bw_367 : Cond.methodLink "LeasedPages$Client" 107 ⟨"LeasedPages$Request", "forRelease", "(III)LLeasedPages$Request;"⟩ ∈ lp_BW := lp_t2 127 rfl rfl
theorem bw_368 : Cond.static ⟨"LeasedPages$Request", "forRelease", "(III)LLeasedPages$Request;"⟩ ∈ lp_BW := lp_t2 128 rfl rfl
theorem bw_369 : Cond.code ⟨"LeasedPages$Request", "forRelease", "(III)LLeasedPages$Request;"⟩ prog_8_method_4_code 3 (Option.some (FieldType.object "LeasedPages$Request")) ∈ lp_BW := lp_t2 129 rfl rfl
theorem bw_370 : Cond.methodLink "LeasedPagesLaw" 45 ⟨"LeasedPages", "retry", "(I)I"⟩ ∈ lp_BW := lp_t2 130 rfl rfl
theorem bw_371 : Cond.instanceMethod ⟨"LeasedPages", "retry", "(I)I"⟩ ∈ lp_BW := lp_t2 131 rfl rfl
theorem bw_372 : Cond.selects "LeasedPages" ⟨"LeasedPages", "retry", "(I)I"⟩ ⟨"LeasedPages", "retry", "(I)I"⟩ ∈ lp_BW := lp_t2 132 rfl rfl
theorem bw_373 : Cond.code ⟨"LeasedPages", "retry", "(I)I"⟩ prog_1_method_7_code 3 (Option.some FieldType.int) ∈ lp_BW := lp_t2 133 rfl rfl
theorem bw_374 : Cond.methodLink "LeasedPages" 82 ⟨"LeasedPages$Client", "sendAgain", "()I"⟩ ∈ lp_BW := lp_t2 134 rfl rfl
theorem bw_375 : Cond.instanceMethod ⟨"LeasedPages$Client", "sendAgain", "()I"⟩ ∈ lp_BW := lp_t2 135 rfl rfl
theorem bw_376 : Cond.selects "LeasedPages$Client" ⟨"LeasedPages$Client", "sendAgain", "()I"⟩ ⟨"LeasedPages$Client", "sendAgain", "()I"⟩ ∈ lp_BW := lp_t2 136 rfl rfl
theorem bw_377 : Cond.code ⟨"LeasedPages$Client", "sendAgain", "()I"⟩ prog_2_method_9_code 1 (Option.some FieldType.int) ∈ lp_BW := lp_t2 137 rfl rfl
theorem bw_378 : Cond.methodLink "LeasedPagesLaw" 49 ⟨"LeasedPages", "messages", "()I"⟩ ∈ lp_BW := lp_t2 138 rfl rfl
theorem bw_379 : Cond.instanceMethod ⟨"LeasedPages", "messages", "()I"⟩ ∈ lp_BW := lp_t2 139 rfl rfl
theorem bw_380 : Cond.selects "LeasedPages" ⟨"LeasedPages", "messages", "()I"⟩ ⟨"LeasedPages", "messages", "()I"⟩ ∈ lp_BW := lp_t2 140 rfl rfl
theorem bw_381 : Cond.code ⟨"LeasedPages", "messages", "()I"⟩ prog_1_method_8_code 1 (Option.some FieldType.int) ∈ lp_BW := lp_t2 141 rfl rfl
theorem bw_382 : Cond.methodLink "LeasedPagesLaw" 54 ⟨"LeasedPages", "message", "(I)I"⟩ ∈ lp_BW := lp_t2 142 rfl rfl
theorem bw_383 : Cond.instanceMethod ⟨"LeasedPages", "message", "(I)I"⟩ ∈ lp_BW := lp_t2 143 rfl rfl
theorem bw_384 : Cond.selects "LeasedPages" ⟨"LeasedPages", "message", "(I)I"⟩ ⟨"LeasedPages", "message", "(I)I"⟩ ∈ lp_BW := lp_t2 144 rfl rfl
theorem bw_385 : Cond.code ⟨"LeasedPages", "message", "(I)I"⟩ prog_1_method_9_code 3 (Option.some FieldType.int) ∈ lp_BW := lp_t2 145 rfl rfl
theorem bw_386 : Cond.methodLink "LeasedPages" 89 ⟨"LeasedPages$Network", "at", "(I)LLeasedPages$Message;"⟩ ∈ lp_BW := lp_t2 146 rfl rfl
theorem bw_387 : Cond.instanceMethod ⟨"LeasedPages$Network", "at", "(I)LLeasedPages$Message;"⟩ ∈ lp_BW := lp_t2 147 rfl rfl
theorem bw_388 : Cond.selects "LeasedPages$Network" ⟨"LeasedPages$Network", "at", "(I)LLeasedPages$Message;"⟩ ⟨"LeasedPages$Network", "at", "(I)LLeasedPages$Message;"⟩ ∈ lp_BW := lp_t2 148 rfl rfl
theorem bw_389 : Cond.code ⟨"LeasedPages$Network", "at", "(I)LLeasedPages$Message;"⟩ prog_6_method_3_code 2 (Option.some (FieldType.object "LeasedPages$Message")) ∈ lp_BW := lp_t2 149 rfl rfl
theorem bw_390 : Cond.methodLink "LeasedPages" 93 ⟨"LeasedPages$Message", "code", "()I"⟩ ∈ lp_BW := lp_t2 150 rfl rfl
theorem bw_391 : Cond.instanceMethod ⟨"LeasedPages$Message", "code", "()I"⟩ ∈ lp_BW := lp_t2 151 rfl rfl
theorem bw_392 : Cond.selects "LeasedPages$Message" ⟨"LeasedPages$Message", "code", "()I"⟩ ⟨"LeasedPages$Message", "code", "()I"⟩ ∈ lp_BW := lp_t2 152 rfl rfl
theorem bw_393 : Cond.sameMethod "LeasedPages$Message" "LeasedPages$Message" "code" "()I" ∈ lp_BW := lp_t2 153 rfl rfl
theorem bw_394 : Cond.selects "LeasedPages$Reply" ⟨"LeasedPages$Message", "code", "()I"⟩ ⟨"LeasedPages$Message", "code", "()I"⟩ ∈ lp_BW := lp_t2 154 rfl rfl
theorem bw_395 : Cond.selects "LeasedPages$Request" ⟨"LeasedPages$Message", "code", "()I"⟩ ⟨"LeasedPages$Message", "code", "()I"⟩ ∈ lp_BW := lp_t2 155 rfl rfl
theorem bw_396 : Cond.code ⟨"LeasedPages$Message", "code", "()I"⟩ prog_5_method_2_code 1 (Option.some FieldType.int) ∈ lp_BW := lp_t2 156 rfl rfl
theorem bw_397 : Cond.constant "LeasedPages$Message" 22 (1000000) ∈ lp_BW := lp_t2 157 rfl rfl
theorem bw_398 : Cond.constant "LeasedPages$Message" 23 (100000) ∈ lp_BW := lp_t2 158 rfl rfl
theorem bw_399 : Cond.methodLink "LeasedPagesLaw" 58 ⟨"LeasedPages", "deliver", "(I)Z"⟩ ∈ lp_BW := lp_t2 159 rfl rfl
theorem bw_400 : Cond.instanceMethod ⟨"LeasedPages", "deliver", "(I)Z"⟩ ∈ lp_BW := lp_t2 160 rfl rfl
theorem bw_401 : Cond.selects "LeasedPages" ⟨"LeasedPages", "deliver", "(I)Z"⟩ ⟨"LeasedPages", "deliver", "(I)Z"⟩ ∈ lp_BW := lp_t2 161 rfl rfl
theorem bw_402 : Cond.code ⟨"LeasedPages", "deliver", "(I)Z"⟩ prog_1_method_10_code 5 (Option.some FieldType.boolean) ∈ lp_BW := lp_t2 162 rfl rfl
theorem bw_403 : Cond.methodLink "LeasedPages" 98 ⟨"LeasedPages$Network", "takeOut", "(I)LLeasedPages$Message;"⟩ ∈ lp_BW := lp_t2 163 rfl rfl
theorem bw_404 : Cond.instanceMethod ⟨"LeasedPages$Network", "takeOut", "(I)LLeasedPages$Message;"⟩ ∈ lp_BW := lp_t2 164 rfl rfl
theorem bw_405 : Cond.selects "LeasedPages$Network" ⟨"LeasedPages$Network", "takeOut", "(I)LLeasedPages$Message;"⟩ ⟨"LeasedPages$Network", "takeOut", "(I)LLeasedPages$Message;"⟩ ∈ lp_BW := lp_t2 165 rfl rfl
theorem bw_406 : Cond.code ⟨"LeasedPages$Network", "takeOut", "(I)LLeasedPages$Message;"⟩ prog_6_method_4_code 4 (Option.some (FieldType.object "LeasedPages$Message")) ∈ lp_BW := lp_t2 166 rfl rfl
theorem bw_407 : Cond.methodLink "LeasedPages$Network" 21 ⟨"LeasedPages$Network", "at", "(I)LLeasedPages$Message;"⟩ ∈ lp_BW := lp_t2 167 rfl rfl
theorem bw_408 : Cond.classLink "LeasedPages" 101 "LeasedPages$Request" ∈ lp_BW := lp_t2 168 rfl rfl
theorem bw_409 : Cond.methodLink "LeasedPages" 103 ⟨"LeasedPages$Server", "requestArrives", "(LLeasedPages$Request;)V"⟩ ∈ lp_BW := lp_t2 169 rfl rfl
theorem bw_410 : Cond.instanceMethod ⟨"LeasedPages$Server", "requestArrives", "(LLeasedPages$Request;)V"⟩ ∈ lp_BW := lp_t2 170 rfl rfl
theorem bw_411 : Cond.selects "LeasedPages$Server" ⟨"LeasedPages$Server", "requestArrives", "(LLeasedPages$Request;)V"⟩ ⟨"LeasedPages$Server", "requestArrives", "(LLeasedPages$Request;)V"⟩ ∈ lp_BW := lp_t2 171 rfl rfl
theorem bw_412 : Cond.code ⟨"LeasedPages$Server", "requestArrives", "(LLeasedPages$Request;)V"⟩ prog_9_method_6_code 3 (Option.none : Option FieldType) ∈ lp_BW := lp_t2 172 rfl rfl
theorem bw_413 : Cond.methodLink "LeasedPages$Server" 84 ⟨"LeasedPages$Network", "send", "(LLeasedPages$Message;)Z"⟩ ∈ lp_BW := lp_t2 173 rfl rfl
theorem bw_414 : Cond.methodLink "LeasedPages$Server" 90 ⟨"LeasedPages$Server", "waitsAlready", "(LLeasedPages$Request;)Z"⟩ ∈ lp_BW := lp_t2 174 rfl rfl
theorem bw_416 : Cond.instanceMethod ⟨"LeasedPages$Server", "waitsAlready", "(LLeasedPages$Request;)Z"⟩ ∈ lp_BW := lp_t2 176 rfl rfl
theorem bw_417 : Cond.code ⟨"LeasedPages$Server", "waitsAlready", "(LLeasedPages$Request;)Z"⟩ prog_9_method_18_code 3 (Option.some FieldType.boolean) ∈ lp_BW := lp_t2 177 rfl rfl
theorem bw_418 : Cond.methodLink "LeasedPages$Server" 171 ⟨"LeasedPages$Line", "ofClient", "(I)LLeasedPages$Request;"⟩ ∈ lp_BW := lp_t2 178 rfl rfl
theorem bw_419 : Cond.instanceMethod ⟨"LeasedPages$Line", "ofClient", "(I)LLeasedPages$Request;"⟩ ∈ lp_BW := lp_t2 179 rfl rfl
theorem bw_420 : Cond.selects "LeasedPages$Line" ⟨"LeasedPages$Line", "ofClient", "(I)LLeasedPages$Request;"⟩ ⟨"LeasedPages$Line", "ofClient", "(I)LLeasedPages$Request;"⟩ ∈ lp_BW := lp_t2 180 rfl rfl
theorem bw_421 : Cond.code ⟨"LeasedPages$Line", "ofClient", "(I)LLeasedPages$Request;"⟩ prog_4_method_3_code 3 (Option.some (FieldType.object "LeasedPages$Request")) ∈ lp_BW := lp_t2 181 rfl rfl
theorem bw_422 : Cond.methodLink "LeasedPages$Line" 21 ⟨"LeasedPages$Line", "placeOf", "(I)I"⟩ ∈ lp_BW := lp_t2 182 rfl rfl
theorem bw_424 : Cond.instanceMethod ⟨"LeasedPages$Line", "placeOf", "(I)I"⟩ ∈ lp_BW := lp_t2 184 rfl rfl
theorem bw_425 : Cond.code ⟨"LeasedPages$Line", "placeOf", "(I)I"⟩ prog_4_method_7_code 3 (Option.some FieldType.int) ∈ lp_BW := lp_t2 185 rfl rfl
theorem bw_426 : Cond.methodLink "LeasedPages$Server" 94 ⟨"LeasedPages$Server", "takeOutOfLines", "(I)V"⟩ ∈ lp_BW := lp_t2 186 rfl rfl
theorem bw_428 : Cond.instanceMethod ⟨"LeasedPages$Server", "takeOutOfLines", "(I)V"⟩ ∈ lp_BW := lp_t2 188 rfl rfl
theorem bw_429 : Cond.code ⟨"LeasedPages$Server", "takeOutOfLines", "(I)V"⟩ prog_9_method_19_code 3 (Option.none : Option FieldType) ∈ lp_BW := lp_t2 189 rfl rfl
theorem bw_430 : Cond.methodLink "LeasedPages$Server" 168 ⟨"LeasedPages$Line", "takeOut", "(I)V"⟩ ∈ lp_BW := lp_t2 190 rfl rfl
theorem bw_431 : Cond.instanceMethod ⟨"LeasedPages$Line", "takeOut", "(I)V"⟩ ∈ lp_BW := lp_t2 191 rfl rfl
theorem bw_432 : Cond.selects "LeasedPages$Line" ⟨"LeasedPages$Line", "takeOut", "(I)V"⟩ ⟨"LeasedPages$Line", "takeOut", "(I)V"⟩ ∈ lp_BW := lp_t2 192 rfl rfl
theorem bw_433 : Cond.code ⟨"LeasedPages$Line", "takeOut", "(I)V"⟩ prog_4_method_5_code 4 (Option.none : Option FieldType) ∈ lp_BW := lp_t2 193 rfl rfl
theorem bw_434 : Cond.methodLink "LeasedPages$Server" 101 ⟨"LeasedPages$Server", "serveLease", "(LLeasedPages$Request;)V"⟩ ∈ lp_BW := lp_t2 194 rfl rfl
theorem bw_436 : Cond.instanceMethod ⟨"LeasedPages$Server", "serveLease", "(LLeasedPages$Request;)V"⟩ ∈ lp_BW := lp_t2 196 rfl rfl
theorem bw_437 : Cond.code ⟨"LeasedPages$Server", "serveLease", "(LLeasedPages$Request;)V"⟩ prog_9_method_7_code 6 (Option.none : Option FieldType) ∈ lp_BW := lp_t2 197 rfl rfl
theorem bw_438 : Cond.methodLink "LeasedPages$Server" 71 ⟨"LeasedPages$Server", "hasLease", "(II)Z"⟩ ∈ lp_BW := lp_t2 198 rfl rfl
theorem bw_440 : Cond.instanceMethod ⟨"LeasedPages$Server", "hasLease", "(II)Z"⟩ ∈ lp_BW := lp_t2 200 rfl rfl
theorem bw_441 : Cond.code ⟨"LeasedPages$Server", "hasLease", "(II)Z"⟩ prog_9_method_15_code 3 (Option.some FieldType.boolean) ∈ lp_BW := lp_t2 201 rfl rfl
theorem bw_442 : Cond.instantiable "LeasedPages$Reply" 7 ∈ lp_BW := lp_t2 202 rfl rfl
theorem bw_443 : Cond.methodLink "LeasedPages$Server" 117 ⟨"LeasedPages$Reply", "<init>", "(ILLeasedPages$Request;Z[I)V"⟩ ∈ lp_BW := lp_t2 203 rfl rfl
theorem bw_444 : Cond.instanceMethod ⟨"LeasedPages$Reply", "<init>", "(ILLeasedPages$Request;Z[I)V"⟩ ∈ lp_BW := lp_t2 204 rfl rfl
theorem bw_445 : Cond.code ⟨"LeasedPages$Reply", "<init>", "(ILLeasedPages$Request;Z[I)V"⟩ prog_7_method_1_code 5 (Option.none : Option FieldType) ∈ lp_BW := lp_t2 205 rfl rfl
theorem bw_446 : Cond.methodLink "LeasedPages$Reply" 13 ⟨"LeasedPages$Message", "<init>", "(IIII)V"⟩ ∈ lp_BW := lp_t2 206 rfl rfl
theorem bw_447 : Cond.fieldLink "LeasedPages$Reply" 22 "LeasedPages$Reply" "mode" "I" ∈ lp_BW := lp_t2 207 rfl rfl
theorem bw_448 : Cond.fieldLink "LeasedPages$Client" 138 "LeasedPages$Reply" "mode" "I" ∈ lp_BW := lp_t2 208 rfl rfl
theorem bw_449 : Cond.fieldLink "LeasedPages$Reply" 25 "LeasedPages$Reply" "continued" "Z" ∈ lp_BW := lp_t2 209 rfl rfl
theorem bw_450 : Cond.fieldLink "LeasedPages$Client" 142 "LeasedPages$Reply" "continued" "Z" ∈ lp_BW := lp_t2 210 rfl rfl
theorem bw_451 : Cond.fieldLink "LeasedPages$Reply" 29 "LeasedPages$Reply" "pages" "[I" ∈ lp_BW := lp_t2 211 rfl rfl
theorem bw_452 : Cond.fieldLink "LeasedPages$Client" 148 "LeasedPages$Reply" "pages" "[I" ∈ lp_BW := lp_t2 212 rfl rfl
theorem bw_453 : Cond.laysFinal "LeasedPages$Reply" "LeasedPages$Reply" "mode" "I" ∈ lp_BW := lp_t2 213 rfl rfl
theorem bw_455 : Cond.laysFinal "LeasedPages$Reply" "LeasedPages$Reply" "continued" "Z" ∈ lp_BW := lp_t2 215 rfl rfl
theorem bw_457 : Cond.laysFinal "LeasedPages$Reply" "LeasedPages$Reply" "pages" "[I" ∈ lp_BW := lp_t2 217 rfl rfl
theorem bw_459 : Cond.laysFinal "LeasedPages$Reply" "LeasedPages$Message" "kind" "I" ∈ lp_BW := lp_t2 219 rfl rfl
theorem bw_460 : Cond.laysFinal "LeasedPages$Reply" "LeasedPages$Message" "client" "I" ∈ lp_BW := lp_t2 220 rfl rfl
theorem bw_461 : Cond.laysFinal "LeasedPages$Reply" "LeasedPages$Message" "file" "I" ∈ lp_BW := lp_t2 221 rfl rfl
theorem bw_462 : Cond.laysFinal "LeasedPages$Reply" "LeasedPages$Message" "number" "I" ∈ lp_BW := lp_t2 222 rfl rfl
theorem bw_464 : Cond.methodLink "LeasedPages$Server" 120 ⟨"LeasedPages$Server", "finish", "(LLeasedPages$Reply;)V"⟩ ∈ lp_BW := lp_t2 224 rfl rfl
theorem bw_466 : Cond.instanceMethod ⟨"LeasedPages$Server", "finish", "(LLeasedPages$Reply;)V"⟩ ∈ lp_BW := lp_t2 226 rfl rfl
theorem bw_467 : Cond.code ⟨"LeasedPages$Server", "finish", "(LLeasedPages$Reply;)V"⟩ prog_9_method_11_code 2 (Option.none : Option FieldType) ∈ lp_BW := lp_t2 227 rfl rfl
theorem bw_468 : Cond.methodLink "LeasedPages$Server" 127 ⟨"LeasedPages$Server", "conflictsWithAny", "(LLeasedPages$Request;)Z"⟩ ∈ lp_BW := lp_t2 228 rfl rfl
theorem bw_470 : Cond.instanceMethod ⟨"LeasedPages$Server", "conflictsWithAny", "(LLeasedPages$Request;)Z"⟩ ∈ lp_BW := lp_t2 230 rfl rfl
theorem bw_471 : Cond.code ⟨"LeasedPages$Server", "conflictsWithAny", "(LLeasedPages$Request;)Z"⟩ prog_9_method_17_code 3 (Option.some FieldType.boolean) ∈ lp_BW := lp_t2 231 rfl rfl
theorem bw_472 : Cond.methodLink "LeasedPages$Server" 155 ⟨"LeasedPages$Server", "conflicts", "(LLeasedPages$Request;I)Z"⟩ ∈ lp_BW := lp_t2 232 rfl rfl
theorem bw_474 : Cond.instanceMethod ⟨"LeasedPages$Server", "conflicts", "(LLeasedPages$Request;I)Z"⟩ ∈ lp_BW := lp_t2 234 rfl rfl
theorem bw_475 : Cond.code ⟨"LeasedPages$Server", "conflicts", "(LLeasedPages$Request;I)Z"⟩ prog_9_method_16_code 3 (Option.some FieldType.boolean) ∈ lp_BW := lp_t2 235 rfl rfl
theorem bw_476 : Cond.methodLink "LeasedPages$Server" 130 ⟨"LeasedPages$Server", "grant", "(LLeasedPages$Request;)V"⟩ ∈ lp_BW := lp_t2 236 rfl rfl
theorem bw_478 : Cond.instanceMethod ⟨"LeasedPages$Server", "grant", "(LLeasedPages$Request;)V"⟩ ∈ lp_BW := lp_t2 238 rfl rfl
theorem bw_479 : Cond.code ⟨"LeasedPages$Server", "grant", "(LLeasedPages$Request;)V"⟩ prog_9_method_10_code 5 (Option.none : Option FieldType) ∈ lp_BW := lp_t2 239 rfl rfl
theorem bw_480 : Cond.methodLink "LeasedPages$Server" 148 ⟨"[I", "clone", "()Ljava/lang/Object;"⟩ ∈ lp_BW := lp_t3 0 rfl rfl
theorem bw_481 : Cond.sameMethod "[I" "java/lang/Object" "clone" "()Ljava/lang/Object;" ∈ lp_BW := lp_t3 1 rfl rfl
theorem bw_482 : Cond.native ⟨"java/lang/Object", "clone", "()Ljava/lang/Object;"⟩ ∈ lp_BW := lp_t3 2 rfl rfl
theorem bw_483 : Cond.instanceMethod ⟨"java/lang/Object", "clone", "()Ljava/lang/Object;"⟩ ∈ lp_BW := lp_t3 3 rfl rfl
theorem bw_484 : Cond.selects "[I" ⟨"[I", "clone", "()Ljava/lang/Object;"⟩ ⟨"java/lang/Object", "clone", "()Ljava/lang/Object;"⟩ ∈ lp_BW := lp_t3 4 rfl rfl
theorem bw_486 : Cond.classLink "LeasedPages$Server" 149 "[I" ∈ lp_BW := lp_t3 6 rfl rfl
theorem bw_487 : Cond.methodLink "LeasedPages$Server" 133 ⟨"LeasedPages$Line", "add", "(LLeasedPages$Request;)V"⟩ ∈ lp_BW := lp_t3 7 rfl rfl
theorem bw_488 : Cond.instanceMethod ⟨"LeasedPages$Line", "add", "(LLeasedPages$Request;)V"⟩ ∈ lp_BW := lp_t3 8 rfl rfl
theorem bw_489 : Cond.selects "LeasedPages$Line" ⟨"LeasedPages$Line", "add", "(LLeasedPages$Request;)V"⟩ ⟨"LeasedPages$Line", "add", "(LLeasedPages$Request;)V"⟩ ∈ lp_BW := lp_t3 9 rfl rfl
theorem bw_490 : Cond.code ⟨"LeasedPages$Line", "add", "(LLeasedPages$Request;)V"⟩ prog_4_method_4_code 2 (Option.none : Option FieldType) ∈ lp_BW := lp_t3 10 rfl rfl
theorem bw_491 : Cond.methodLink "LeasedPages$Server" 136 ⟨"LeasedPages$Server", "recallConflicting", "(LLeasedPages$Request;)V"⟩ ∈ lp_BW := lp_t3 11 rfl rfl
theorem bw_493 : Cond.instanceMethod ⟨"LeasedPages$Server", "recallConflicting", "(LLeasedPages$Request;)V"⟩ ∈ lp_BW := lp_t3 13 rfl rfl
theorem bw_494 : Cond.code ⟨"LeasedPages$Server", "recallConflicting", "(LLeasedPages$Request;)V"⟩ prog_9_method_12_code 3 (Option.none : Option FieldType) ∈ lp_BW := lp_t3 14 rfl rfl
theorem bw_495 : Cond.classLink "LeasedPages$Server" 159 "LeasedPages$Message" ∈ lp_BW := lp_t3 15 rfl rfl
theorem bw_496 : Cond.instantiable "LeasedPages$Message" 4 ∈ lp_BW := lp_t3 16 rfl rfl
theorem bw_497 : Cond.methodLink "LeasedPages$Server" 161 ⟨"LeasedPages$Message", "<init>", "(IIII)V"⟩ ∈ lp_BW := lp_t3 17 rfl rfl
theorem bw_498 : Cond.laysFinal "LeasedPages$Message" "LeasedPages$Message" "kind" "I" ∈ lp_BW := lp_t3 18 rfl rfl
theorem bw_499 : Cond.laysFinal "LeasedPages$Message" "LeasedPages$Message" "client" "I" ∈ lp_BW := lp_t3 19 rfl rfl
theorem bw_500 : Cond.laysFinal "LeasedPages$Message" "LeasedPages$Message" "file" "I" ∈ lp_BW := lp_t3 20 rfl rfl
theorem bw_501 : Cond.laysFinal "LeasedPages$Message" "LeasedPages$Message" "number" "I" ∈ lp_BW := lp_t3 21 rfl rfl
theorem bw_503 : Cond.methodLink "LeasedPages$Server" 105 ⟨"LeasedPages$Server", "serveStore", "(LLeasedPages$Request;)V"⟩ ∈ lp_BW := lp_t3 23 rfl rfl
theorem bw_505 : Cond.instanceMethod ⟨"LeasedPages$Server", "serveStore", "(LLeasedPages$Request;)V"⟩ ∈ lp_BW := lp_t3 25 rfl rfl
theorem bw_506 : Cond.code ⟨"LeasedPages$Server", "serveStore", "(LLeasedPages$Request;)V"⟩ prog_9_method_8_code 3 (Option.none : Option FieldType) ∈ lp_BW := lp_t3 26 rfl rfl
theorem bw_507 : Cond.methodLink "LeasedPages$Server" 108 ⟨"LeasedPages$Server", "serveRelease", "(LLeasedPages$Request;)V"⟩ ∈ lp_BW := lp_t3 27 rfl rfl
theorem bw_509 : Cond.instanceMethod ⟨"LeasedPages$Server", "serveRelease", "(LLeasedPages$Request;)V"⟩ ∈ lp_BW := lp_t3 29 rfl rfl
theorem bw_510 : Cond.code ⟨"LeasedPages$Server", "serveRelease", "(LLeasedPages$Request;)V"⟩ prog_9_method_9_code 2 (Option.none : Option FieldType) ∈ lp_BW := lp_t3 30 rfl rfl
theorem bw_511 : Cond.methodLink "LeasedPages$Server" 68 ⟨"LeasedPages$Server", "goThroughLines", "()V"⟩ ∈ lp_BW := lp_t3 31 rfl rfl
theorem bw_513 : Cond.instanceMethod ⟨"LeasedPages$Server", "goThroughLines", "()V"⟩ ∈ lp_BW := lp_t3 33 rfl rfl
theorem bw_514 : Cond.code ⟨"LeasedPages$Server", "goThroughLines", "()V"⟩ prog_9_method_13_code 4 (Option.none : Option FieldType) ∈ lp_BW := lp_t3 34 rfl rfl
theorem bw_515 : Cond.methodLink "LeasedPages$Server" 164 ⟨"LeasedPages$Line", "first", "()LLeasedPages$Request;"⟩ ∈ lp_BW := lp_t3 35 rfl rfl
theorem bw_516 : Cond.instanceMethod ⟨"LeasedPages$Line", "first", "()LLeasedPages$Request;"⟩ ∈ lp_BW := lp_t3 36 rfl rfl
theorem bw_517 : Cond.selects "LeasedPages$Line" ⟨"LeasedPages$Line", "first", "()LLeasedPages$Request;"⟩ ⟨"LeasedPages$Line", "first", "()LLeasedPages$Request;"⟩ ∈ lp_BW := lp_t3 37 rfl rfl
theorem bw_518 : Cond.code ⟨"LeasedPages$Line", "first", "()LLeasedPages$Request;"⟩ prog_4_method_2_code 1 (Option.some (FieldType.object "LeasedPages$Request")) ∈ lp_BW := lp_t3 38 rfl rfl
theorem bw_519 : Cond.classLink "LeasedPages" 107 "LeasedPages$Reply" ∈ lp_BW := lp_t3 39 rfl rfl
theorem bw_520 : Cond.methodLink "LeasedPages" 112 ⟨"LeasedPages$Client", "replyArrives", "(LLeasedPages$Reply;)V"⟩ ∈ lp_BW := lp_t3 40 rfl rfl
theorem bw_521 : Cond.instanceMethod ⟨"LeasedPages$Client", "replyArrives", "(LLeasedPages$Reply;)V"⟩ ∈ lp_BW := lp_t3 41 rfl rfl
theorem bw_522 : Cond.selects "LeasedPages$Client" ⟨"LeasedPages$Client", "replyArrives", "(LLeasedPages$Reply;)V"⟩ ⟨"LeasedPages$Client", "replyArrives", "(LLeasedPages$Reply;)V"⟩ ∈ lp_BW := lp_t3 42 rfl rfl
theorem bw_523 : Cond.code ⟨"LeasedPages$Client", "replyArrives", "(LLeasedPages$Reply;)V"⟩ prog_2_method_13_code 3 (Option.none : Option FieldType) ∈ lp_BW := lp_t3 43 rfl rfl
theorem bw_524 : Cond.methodLink "LeasedPages$Client" 127 ⟨"LeasedPages$Client", "takeLease", "(LLeasedPages$Reply;)V"⟩ ∈ lp_BW := lp_t3 44 rfl rfl
theorem bw_526 : Cond.instanceMethod ⟨"LeasedPages$Client", "takeLease", "(LLeasedPages$Reply;)V"⟩ ∈ lp_BW := lp_t3 46 rfl rfl
theorem bw_527 : Cond.code ⟨"LeasedPages$Client", "takeLease", "(LLeasedPages$Reply;)V"⟩ prog_2_method_15_code 3 (Option.none : Option FieldType) ∈ lp_BW := lp_t3 47 rfl rfl
theorem bw_528 : Cond.methodLink "LeasedPages$Client" 145 ⟨"LeasedPages$Client", "removeAllWritesTo", "(I)V"⟩ ∈ lp_BW := lp_t3 48 rfl rfl
theorem bw_530 : Cond.instanceMethod ⟨"LeasedPages$Client", "removeAllWritesTo", "(I)V"⟩ ∈ lp_BW := lp_t3 50 rfl rfl
theorem bw_531 : Cond.code ⟨"LeasedPages$Client", "removeAllWritesTo", "(I)V"⟩ prog_2_method_19_code 4 (Option.none : Option FieldType) ∈ lp_BW := lp_t3 51 rfl rfl
theorem bw_532 : Cond.methodLink "LeasedPages$Client" 55 ⟨"LeasedPages$Client", "keepWrites", "(I)V"⟩ ∈ lp_BW := lp_t3 52 rfl rfl
theorem bw_534 : Cond.instanceMethod ⟨"LeasedPages$Client", "keepWrites", "(I)V"⟩ ∈ lp_BW := lp_t3 54 rfl rfl
theorem bw_535 : Cond.code ⟨"LeasedPages$Client", "keepWrites", "(I)V"⟩ prog_2_method_20_code 3 (Option.none : Option FieldType) ∈ lp_BW := lp_t3 55 rfl rfl
theorem bw_536 : Cond.methodLink "LeasedPages$Client" 149 ⟨"java/lang/System", "arraycopy", "(Ljava/lang/Object;ILjava/lang/Object;II)V"⟩ ∈ lp_BW := lp_t3 56 rfl rfl
theorem bw_537 : Cond.static ⟨"java/lang/System", "arraycopy", "(Ljava/lang/Object;ILjava/lang/Object;II)V"⟩ ∈ lp_BW := lp_t3 57 rfl rfl
theorem bw_538 : Cond.native ⟨"java/lang/System", "arraycopy", "(Ljava/lang/Object;ILjava/lang/Object;II)V"⟩ ∈ lp_BW := lp_t3 58 rfl rfl
theorem bw_539 : Cond.methodLink "LeasedPages$Client" 155 ⟨"LeasedPages$Client", "redoWritesOn", "(I)V"⟩ ∈ lp_BW := lp_t3 59 rfl rfl
theorem bw_541 : Cond.instanceMethod ⟨"LeasedPages$Client", "redoWritesOn", "(I)V"⟩ ∈ lp_BW := lp_t3 61 rfl rfl
theorem bw_542 : Cond.code ⟨"LeasedPages$Client", "redoWritesOn", "(I)V"⟩ prog_2_method_16_code 3 (Option.none : Option FieldType) ∈ lp_BW := lp_t3 62 rfl rfl
theorem bw_543 : Cond.methodLink "LeasedPages$Client" 132 ⟨"LeasedPages$Client", "loseLease", "(I)V"⟩ ∈ lp_BW := lp_t3 63 rfl rfl
theorem bw_545 : Cond.instanceMethod ⟨"LeasedPages$Client", "loseLease", "(I)V"⟩ ∈ lp_BW := lp_t3 65 rfl rfl
theorem bw_546 : Cond.code ⟨"LeasedPages$Client", "loseLease", "(I)V"⟩ prog_2_method_17_code 2 (Option.none : Option FieldType) ∈ lp_BW := lp_t3 66 rfl rfl
theorem bw_547 : Cond.methodLink "LeasedPages$Client" 135 ⟨"LeasedPages$Client", "removeFirstWriteTo", "(I)V"⟩ ∈ lp_BW := lp_t3 67 rfl rfl
theorem bw_549 : Cond.instanceMethod ⟨"LeasedPages$Client", "removeFirstWriteTo", "(I)V"⟩ ∈ lp_BW := lp_t3 69 rfl rfl
theorem bw_550 : Cond.code ⟨"LeasedPages$Client", "removeFirstWriteTo", "(I)V"⟩ prog_2_method_18_code 5 (Option.none : Option FieldType) ∈ lp_BW := lp_t3 70 rfl rfl
theorem bw_551 : Cond.methodLink "LeasedPages" 120 ⟨"LeasedPages$Client", "recallArrives", "(I)V"⟩ ∈ lp_BW := lp_t3 71 rfl rfl
theorem bw_552 : Cond.instanceMethod ⟨"LeasedPages$Client", "recallArrives", "(I)V"⟩ ∈ lp_BW := lp_t3 72 rfl rfl
theorem bw_553 : Cond.selects "LeasedPages$Client" ⟨"LeasedPages$Client", "recallArrives", "(I)V"⟩ ⟨"LeasedPages$Client", "recallArrives", "(I)V"⟩ ∈ lp_BW := lp_t3 73 rfl rfl
theorem bw_554 : Cond.code ⟨"LeasedPages$Client", "recallArrives", "(I)V"⟩ prog_2_method_12_code 2 (Option.none : Option FieldType) ∈ lp_BW := lp_t3 74 rfl rfl
theorem bw_555 : Cond.methodLink "LeasedPagesLaw" 63 ⟨"LeasedPages", "drop", "(I)Z"⟩ ∈ lp_BW := lp_t3 75 rfl rfl
theorem bw_556 : Cond.instanceMethod ⟨"LeasedPages", "drop", "(I)Z"⟩ ∈ lp_BW := lp_t3 76 rfl rfl
theorem bw_557 : Cond.selects "LeasedPages" ⟨"LeasedPages", "drop", "(I)Z"⟩ ⟨"LeasedPages", "drop", "(I)Z"⟩ ∈ lp_BW := lp_t3 77 rfl rfl
theorem bw_558 : Cond.code ⟨"LeasedPages", "drop", "(I)Z"⟩ prog_1_method_11_code 2 (Option.some FieldType.boolean) ∈ lp_BW := lp_t3 78 rfl rfl
theorem bw_559 : Cond.methodLink "LeasedPagesLaw" 67 ⟨"LeasedPages", "duplicate", "(I)Z"⟩ ∈ lp_BW := lp_t3 79 rfl rfl
theorem bw_560 : Cond.instanceMethod ⟨"LeasedPages", "duplicate", "(I)Z"⟩ ∈ lp_BW := lp_t3 80 rfl rfl
theorem bw_561 : Cond.selects "LeasedPages" ⟨"LeasedPages", "duplicate", "(I)Z"⟩ ⟨"LeasedPages", "duplicate", "(I)Z"⟩ ∈ lp_BW := lp_t3 81 rfl rfl
theorem bw_562 : Cond.code ⟨"LeasedPages", "duplicate", "(I)Z"⟩ prog_1_method_12_code 3 (Option.some FieldType.boolean) ∈ lp_BW := lp_t3 82 rfl rfl
theorem bw_563 : Cond.methodLink "LeasedPages" 124 ⟨"LeasedPages$Network", "send", "(LLeasedPages$Message;)Z"⟩ ∈ lp_BW := lp_t3 83 rfl rfl
theorem bw_564 : Cond.methodLink "LeasedPagesLaw" 71 ⟨"LeasedPages", "tick", "(II)Z"⟩ ∈ lp_BW := lp_t3 84 rfl rfl
theorem bw_565 : Cond.instanceMethod ⟨"LeasedPages", "tick", "(II)Z"⟩ ∈ lp_BW := lp_t3 85 rfl rfl
theorem bw_566 : Cond.selects "LeasedPages" ⟨"LeasedPages", "tick", "(II)Z"⟩ ⟨"LeasedPages", "tick", "(II)Z"⟩ ∈ lp_BW := lp_t3 86 rfl rfl
theorem bw_567 : Cond.code ⟨"LeasedPages", "tick", "(II)Z"⟩ prog_1_method_13_code 3 (Option.some FieldType.boolean) ∈ lp_BW := lp_t3 87 rfl rfl
theorem bw_568 : Cond.methodLink "LeasedPages" 128 ⟨"LeasedPages", "isNode", "(I)Z"⟩ ∈ lp_BW := lp_t3 88 rfl rfl
theorem bw_569 : Cond.static ⟨"LeasedPages", "isNode", "(I)Z"⟩ ∈ lp_BW := lp_t3 89 rfl rfl
theorem bw_570 : Cond.code ⟨"LeasedPages", "isNode", "(I)Z"⟩ prog_1_method_23_code 1 (Option.some FieldType.boolean) ∈ lp_BW := lp_t3 90 rfl rfl
theorem bw_571 : Cond.methodLink "LeasedPages" 131 ⟨"LeasedPages", "isUp", "(I)Z"⟩ ∈ lp_BW := lp_t3 91 rfl rfl
theorem bw_573 : Cond.instanceMethod ⟨"LeasedPages", "isUp", "(I)Z"⟩ ∈ lp_BW := lp_t3 93 rfl rfl
theorem bw_574 : Cond.code ⟨"LeasedPages", "isUp", "(I)Z"⟩ prog_1_method_26_code 2 (Option.some FieldType.boolean) ∈ lp_BW := lp_t3 94 rfl rfl
theorem bw_575 : Cond.methodLink "LeasedPages" 134 ⟨"LeasedPages$Server", "advance", "(I)V"⟩ ∈ lp_BW := lp_t3 95 rfl rfl
theorem bw_576 : Cond.instanceMethod ⟨"LeasedPages$Server", "advance", "(I)V"⟩ ∈ lp_BW := lp_t3 96 rfl rfl
theorem bw_577 : Cond.selects "LeasedPages$Server" ⟨"LeasedPages$Server", "advance", "(I)V"⟩ ⟨"LeasedPages$Server", "advance", "(I)V"⟩ ∈ lp_BW := lp_t3 97 rfl rfl
theorem bw_578 : Cond.code ⟨"LeasedPages$Server", "advance", "(I)V"⟩ prog_9_method_4_code 3 (Option.none : Option FieldType) ∈ lp_BW := lp_t3 98 rfl rfl
theorem bw_579 : Cond.methodLink "LeasedPages$Server" 65 ⟨"LeasedPages$Server", "endLeases", "()V"⟩ ∈ lp_BW := lp_t3 99 rfl rfl
theorem bw_581 : Cond.instanceMethod ⟨"LeasedPages$Server", "endLeases", "()V"⟩ ∈ lp_BW := lp_t3 101 rfl rfl
theorem bw_582 : Cond.code ⟨"LeasedPages$Server", "endLeases", "()V"⟩ prog_9_method_14_code 3 (Option.none : Option FieldType) ∈ lp_BW := lp_t3 102 rfl rfl
theorem bw_583 : Cond.methodLink "LeasedPagesLaw" 76 ⟨"LeasedPages", "crash", "(I)Z"⟩ ∈ lp_BW := lp_t3 103 rfl rfl
theorem bw_584 : Cond.instanceMethod ⟨"LeasedPages", "crash", "(I)Z"⟩ ∈ lp_BW := lp_t3 104 rfl rfl
theorem bw_585 : Cond.selects "LeasedPages" ⟨"LeasedPages", "crash", "(I)Z"⟩ ⟨"LeasedPages", "crash", "(I)Z"⟩ ∈ lp_BW := lp_t3 105 rfl rfl
theorem bw_586 : Cond.code ⟨"LeasedPages", "crash", "(I)Z"⟩ prog_1_method_14_code 2 (Option.some FieldType.boolean) ∈ lp_BW := lp_t3 106 rfl rfl
theorem bw_587 : Cond.methodLink "LeasedPages" 140 ⟨"LeasedPages$Server", "goDown", "()V"⟩ ∈ lp_BW := lp_t3 107 rfl rfl
theorem bw_588 : Cond.instanceMethod ⟨"LeasedPages$Server", "goDown", "()V"⟩ ∈ lp_BW := lp_t3 108 rfl rfl
theorem bw_589 : Cond.selects "LeasedPages$Server" ⟨"LeasedPages$Server", "goDown", "()V"⟩ ⟨"LeasedPages$Server", "goDown", "()V"⟩ ∈ lp_BW := lp_t3 109 rfl rfl
theorem bw_590 : Cond.code ⟨"LeasedPages$Server", "goDown", "()V"⟩ prog_9_method_2_code 2 (Option.none : Option FieldType) ∈ lp_BW := lp_t3 110 rfl rfl
theorem bw_591 : Cond.methodLink "LeasedPages$Server" 56 ⟨"java/util/Arrays", "fill", "([II)V"⟩ ∈ lp_BW := lp_t3 111 rfl rfl
theorem bw_592 : Cond.static ⟨"java/util/Arrays", "fill", "([II)V"⟩ ∈ lp_BW := lp_t3 112 rfl rfl
theorem bw_593 : Cond.code ⟨"java/util/Arrays", "fill", "([II)V"⟩ prog_16_method_103_code 4 (Option.none : Option FieldType) ∈ lp_BW := lp_t3 113 rfl rfl
theorem bw_594 : Cond.methodLink "LeasedPages$Server" 62 ⟨"LeasedPages$Line", "clear", "()V"⟩ ∈ lp_BW := lp_t3 114 rfl rfl
theorem bw_595 : Cond.instanceMethod ⟨"LeasedPages$Line", "clear", "()V"⟩ ∈ lp_BW := lp_t3 115 rfl rfl
theorem bw_596 : Cond.selects "LeasedPages$Line" ⟨"LeasedPages$Line", "clear", "()V"⟩ ⟨"LeasedPages$Line", "clear", "()V"⟩ ∈ lp_BW := lp_t3 116 rfl rfl
theorem bw_597 : Cond.code ⟨"LeasedPages$Line", "clear", "()V"⟩ prog_4_method_6_code 2 (Option.none : Option FieldType) ∈ lp_BW := lp_t3 117 rfl rfl
theorem bw_598 : Cond.methodLink "LeasedPages" 143 ⟨"LeasedPages$Client", "goDown", "()V"⟩ ∈ lp_BW := lp_t3 118 rfl rfl
theorem bw_599 : Cond.instanceMethod ⟨"LeasedPages$Client", "goDown", "()V"⟩ ∈ lp_BW := lp_t3 119 rfl rfl
theorem bw_600 : Cond.selects "LeasedPages$Client" ⟨"LeasedPages$Client", "goDown", "()V"⟩ ⟨"LeasedPages$Client", "goDown", "()V"⟩ ∈ lp_BW := lp_t3 120 rfl rfl
theorem bw_601 : Cond.code ⟨"LeasedPages$Client", "goDown", "()V"⟩ prog_2_method_2_code 2 (Option.none : Option FieldType) ∈ lp_BW := lp_t3 121 rfl rfl
theorem bw_602 : Cond.methodLink "LeasedPages$Client" 59 ⟨"LeasedPages$Copy", "forget", "()V"⟩ ∈ lp_BW := lp_t3 122 rfl rfl
theorem bw_603 : Cond.instanceMethod ⟨"LeasedPages$Copy", "forget", "()V"⟩ ∈ lp_BW := lp_t3 123 rfl rfl
theorem bw_604 : Cond.selects "LeasedPages$Copy" ⟨"LeasedPages$Copy", "forget", "()V"⟩ ⟨"LeasedPages$Copy", "forget", "()V"⟩ ∈ lp_BW := lp_t3 124 rfl rfl
theorem bw_605 : Cond.code ⟨"LeasedPages$Copy", "forget", "()V"⟩ prog_3_method_4_code 1 (Option.none : Option FieldType) ∈ lp_BW := lp_t3 125 rfl rfl
theorem bw_606 : Cond.methodLink "LeasedPages$Copy" 29 ⟨"java/util/Arrays", "fill", "([II)V"⟩ ∈ lp_BW := lp_t3 126 rfl rfl
theorem bw_607 : Cond.methodLink "LeasedPagesLaw" 80 ⟨"LeasedPages", "restart", "(I)Z"⟩ ∈ lp_BW := lp_t3 127 rfl rfl
theorem bw_608 : Cond.instanceMethod ⟨"LeasedPages", "restart", "(I)Z"⟩ ∈ lp_BW := lp_t3 128 rfl rfl
theorem bw_609 : Cond.selects "LeasedPages" ⟨"LeasedPages", "restart", "(I)Z"⟩ ⟨"LeasedPages", "restart", "(I)Z"⟩ ∈ lp_BW := lp_t3 129 rfl rfl
theorem bw_610 : Cond.code ⟨"LeasedPages", "restart", "(I)Z"⟩ prog_1_method_15_code 2 (Option.some FieldType.boolean) ∈ lp_BW := lp_t3 130 rfl rfl
theorem bw_611 : Cond.methodLink "LeasedPages" 144 ⟨"LeasedPages$Server", "comeUp", "()V"⟩ ∈ lp_BW := lp_t3 131 rfl rfl
theorem bw_612 : Cond.instanceMethod ⟨"LeasedPages$Server", "comeUp", "()V"⟩ ∈ lp_BW := lp_t3 132 rfl rfl
theorem bw_613 : Cond.selects "LeasedPages$Server" ⟨"LeasedPages$Server", "comeUp", "()V"⟩ ⟨"LeasedPages$Server", "comeUp", "()V"⟩ ∈ lp_BW := lp_t3 133 rfl rfl
theorem bw_614 : Cond.code ⟨"LeasedPages$Server", "comeUp", "()V"⟩ prog_9_method_3_code 1 (Option.none : Option FieldType) ∈ lp_BW := lp_t3 134 rfl rfl
theorem bw_615 : Cond.methodLink "LeasedPagesLaw" 84 ⟨"LeasedPages", "clock", "(I)I"⟩ ∈ lp_BW := lp_t3 135 rfl rfl
theorem bw_616 : Cond.instanceMethod ⟨"LeasedPages", "clock", "(I)I"⟩ ∈ lp_BW := lp_t3 136 rfl rfl
theorem bw_617 : Cond.selects "LeasedPages" ⟨"LeasedPages", "clock", "(I)I"⟩ ⟨"LeasedPages", "clock", "(I)I"⟩ ∈ lp_BW := lp_t3 137 rfl rfl
theorem bw_618 : Cond.code ⟨"LeasedPages", "clock", "(I)I"⟩ prog_1_method_16_code 2 (Option.some FieldType.int) ∈ lp_BW := lp_t3 138 rfl rfl
theorem bw_619 : Cond.methodLink "LeasedPagesLaw" 88 ⟨"LeasedPages", "lease", "(II)I"⟩ ∈ lp_BW := lp_t3 139 rfl rfl
theorem bw_620 : Cond.instanceMethod ⟨"LeasedPages", "lease", "(II)I"⟩ ∈ lp_BW := lp_t3 140 rfl rfl
theorem bw_621 : Cond.selects "LeasedPages" ⟨"LeasedPages", "lease", "(II)I"⟩ ⟨"LeasedPages", "lease", "(II)I"⟩ ∈ lp_BW := lp_t3 141 rfl rfl
theorem bw_622 : Cond.code ⟨"LeasedPages", "lease", "(II)I"⟩ prog_1_method_17_code 4 (Option.some FieldType.int) ∈ lp_BW := lp_t3 142 rfl rfl
theorem bw_623 : Cond.methodLink "LeasedPages" 152 ⟨"LeasedPages$Client", "leaseAndMarks", "(I)I"⟩ ∈ lp_BW := lp_t3 143 rfl rfl
theorem bw_624 : Cond.instanceMethod ⟨"LeasedPages$Client", "leaseAndMarks", "(I)I"⟩ ∈ lp_BW := lp_t3 144 rfl rfl
theorem bw_625 : Cond.selects "LeasedPages$Client" ⟨"LeasedPages$Client", "leaseAndMarks", "(I)I"⟩ ⟨"LeasedPages$Client", "leaseAndMarks", "(I)I"⟩ ∈ lp_BW := lp_t3 145 rfl rfl
theorem bw_626 : Cond.code ⟨"LeasedPages$Client", "leaseAndMarks", "(I)I"⟩ prog_2_method_10_code 4 (Option.some FieldType.int) ∈ lp_BW := lp_t3 146 rfl rfl
theorem bw_627 : Cond.methodLink "LeasedPagesLaw" 92 ⟨"LeasedPages", "dirty", "(I)I"⟩ ∈ lp_BW := lp_t3 147 rfl rfl
theorem bw_628 : Cond.instanceMethod ⟨"LeasedPages", "dirty", "(I)I"⟩ ∈ lp_BW := lp_t3 148 rfl rfl
theorem bw_629 : Cond.selects "LeasedPages" ⟨"LeasedPages", "dirty", "(I)I"⟩ ⟨"LeasedPages", "dirty", "(I)I"⟩ ∈ lp_BW := lp_t3 149 rfl rfl
theorem bw_630 : Cond.code ⟨"LeasedPages", "dirty", "(I)I"⟩ prog_1_method_18_code 3 (Option.some FieldType.int) ∈ lp_BW := lp_t3 150 rfl rfl
theorem bw_631 : Cond.methodLink "LeasedPagesLaw" 96 ⟨"LeasedPages", "held", "(II)I"⟩ ∈ lp_BW := lp_t3 151 rfl rfl
theorem bw_632 : Cond.instanceMethod ⟨"LeasedPages", "held", "(II)I"⟩ ∈ lp_BW := lp_t3 152 rfl rfl
theorem bw_633 : Cond.selects "LeasedPages" ⟨"LeasedPages", "held", "(II)I"⟩ ⟨"LeasedPages", "held", "(II)I"⟩ ∈ lp_BW := lp_t3 153 rfl rfl
theorem bw_634 : Cond.code ⟨"LeasedPages", "held", "(II)I"⟩ prog_1_method_19_code 3 (Option.some FieldType.int) ∈ lp_BW := lp_t3 154 rfl rfl
theorem bw_635 : Cond.methodLink "LeasedPages" 161 ⟨"LeasedPages$Server", "leaseAndRest", "(II)I"⟩ ∈ lp_BW := lp_t3 155 rfl rfl
theorem bw_636 : Cond.instanceMethod ⟨"LeasedPages$Server", "leaseAndRest", "(II)I"⟩ ∈ lp_BW := lp_t3 156 rfl rfl
theorem bw_637 : Cond.selects "LeasedPages$Server" ⟨"LeasedPages$Server", "leaseAndRest", "(II)I"⟩ ⟨"LeasedPages$Server", "leaseAndRest", "(II)I"⟩ ∈ lp_BW := lp_t3 157 rfl rfl
theorem bw_638 : Cond.code ⟨"LeasedPages$Server", "leaseAndRest", "(II)I"⟩ prog_9_method_5_code 3 (Option.some FieldType.int) ∈ lp_BW := lp_t3 158 rfl rfl
theorem bw_639 : Cond.methodLink "LeasedPagesLaw" 100 ⟨"LeasedPages", "waiting", "(I)I"⟩ ∈ lp_BW := lp_t3 159 rfl rfl
theorem bw_640 : Cond.instanceMethod ⟨"LeasedPages", "waiting", "(I)I"⟩ ∈ lp_BW := lp_t3 160 rfl rfl
theorem bw_641 : Cond.selects "LeasedPages" ⟨"LeasedPages", "waiting", "(I)I"⟩ ⟨"LeasedPages", "waiting", "(I)I"⟩ ∈ lp_BW := lp_t3 161 rfl rfl
theorem bw_642 : Cond.code ⟨"LeasedPages", "waiting", "(I)I"⟩ prog_1_method_20_code 2 (Option.some FieldType.int) ∈ lp_BW := lp_t3 162 rfl rfl
theorem bw_643 : Cond.methodLink "LeasedPagesLaw" 104 ⟨"LeasedPages", "stored", "(II)I"⟩ ∈ lp_BW := lp_t3 163 rfl rfl
theorem bw_644 : Cond.instanceMethod ⟨"LeasedPages", "stored", "(II)I"⟩ ∈ lp_BW := lp_t3 164 rfl rfl
theorem bw_645 : Cond.selects "LeasedPages" ⟨"LeasedPages", "stored", "(II)I"⟩ ⟨"LeasedPages", "stored", "(II)I"⟩ ∈ lp_BW := lp_t3 165 rfl rfl
theorem bw_646 : Cond.code ⟨"LeasedPages", "stored", "(II)I"⟩ prog_1_method_21_code 3 (Option.some FieldType.int) ∈ lp_BW := lp_t3 166 rfl rfl
theorem bw_647 : Cond.methodLink "LeasedPagesLaw" 9 ⟨"LeasedPagesLaw", "cell", "([II)I"⟩ ∈ lp_BW := lp_t3 167 rfl rfl
theorem bw_648 : Cond.static ⟨"LeasedPagesLaw", "cell", "([II)I"⟩ ∈ lp_BW := lp_t3 168 rfl rfl
theorem bw_649 : Cond.code ⟨"LeasedPagesLaw", "cell", "([II)I"⟩ method_2_code 2 (Option.some FieldType.int) ∈ lp_BW := lp_t3 169 rfl rfl
theorem bw_650 : Cond.classLink "LeasedPagesLaw" 18 "LeasedPagesModel" ∈ lp_BW := lp_t3 170 rfl rfl
theorem bw_651 : Cond.instantiable "LeasedPagesModel" 44 ∈ lp_BW := lp_t3 171 rfl rfl
theorem bw_652 : Cond.methodLink "LeasedPagesLaw" 20 ⟨"LeasedPagesModel", "<init>", "(I)V"⟩ ∈ lp_BW := lp_t3 172 rfl rfl
theorem bw_653 : Cond.instanceMethod ⟨"LeasedPagesModel", "<init>", "(I)V"⟩ ∈ lp_BW := lp_t3 173 rfl rfl
theorem bw_654 : Cond.code ⟨"LeasedPagesModel", "<init>", "(I)V"⟩ prog_12_method_1_code 3 (Option.none : Option FieldType) ∈ lp_BW := lp_t3 174 rfl rfl
theorem bw_655 : Cond.methodLink "LeasedPagesModel" 1 ⟨"java/lang/Object", "<init>", "()V"⟩ ∈ lp_BW := lp_t3 175 rfl rfl
theorem bw_656 : Cond.fieldLink "LeasedPagesModel" 131 "LeasedPagesModel" "duration" "I" ∈ lp_BW := lp_t3 176 rfl rfl
theorem bw_657 : Cond.fieldLink "LeasedPagesModel" 7 "LeasedPagesModel" "down" "[Z" ∈ lp_BW := lp_t3 177 rfl rfl
theorem bw_658 : Cond.fieldLink "LeasedPagesModel" 13 "LeasedPagesModel" "clocks" "[I" ∈ lp_BW := lp_t3 178 rfl rfl
theorem bw_659 : Cond.fieldLink "LeasedPagesModel" 17 "LeasedPagesModel" "pages" "[I" ∈ lp_BW := lp_t3 179 rfl rfl
theorem bw_660 : Cond.fieldLink "LeasedPagesModel" 20 "LeasedPagesModel" "modes" "[I" ∈ lp_BW := lp_t3 180 rfl rfl
theorem bw_661 : Cond.fieldLink "LeasedPagesModel" 23 "LeasedPagesModel" "ends" "[I" ∈ lp_BW := lp_t3 181 rfl rfl
theorem bw_662 : Cond.fieldLink "LeasedPagesModel" 190 "LeasedPagesModel" "grace" "I" ∈ lp_BW := lp_t3 182 rfl rfl
theorem bw_663 : Cond.fieldLink "LeasedPagesModel" 26 "LeasedPagesModel" "done" "[I" ∈ lp_BW := lp_t3 183 rfl rfl
theorem bw_664 : Cond.fieldLink "LeasedPagesModel" 29 "LeasedPagesModel" "saidKind" "[I" ∈ lp_BW := lp_t3 184 rfl rfl
theorem bw_665 : Cond.fieldLink "LeasedPagesModel" 32 "LeasedPagesModel" "saidFile" "[I" ∈ lp_BW := lp_t3 185 rfl rfl
theorem bw_666 : Cond.fieldLink "LeasedPagesModel" 35 "LeasedPagesModel" "saidMode" "[I" ∈ lp_BW := lp_t3 186 rfl rfl
theorem bw_667 : Cond.fieldLink "LeasedPagesModel" 38 "LeasedPagesModel" "saidMore" "[Z" ∈ lp_BW := lp_t3 187 rfl rfl
theorem bw_668 : Cond.fieldLink "LeasedPagesModel" 41 "LeasedPagesModel" "saidPages" "[I" ∈ lp_BW := lp_t3 188 rfl rfl
theorem bw_669 : Cond.fieldLink "LeasedPagesModel" 44 "LeasedPagesModel" "waitFile" "[I" ∈ lp_BW := lp_t3 189 rfl rfl
theorem bw_670 : Cond.fieldLink "LeasedPagesModel" 47 "LeasedPagesModel" "waitNumber" "[I" ∈ lp_BW := lp_t3 190 rfl rfl
theorem bw_671 : Cond.fieldLink "LeasedPagesModel" 50 "LeasedPagesModel" "waitMode" "[I" ∈ lp_BW := lp_t3 191 rfl rfl
theorem bw_672 : Cond.fieldLink "LeasedPagesModel" 53 "LeasedPagesModel" "waitSince" "[I" ∈ lp_BW := lp_t3 192 rfl rfl
theorem bw_673 : Cond.fieldLink "LeasedPagesModel" 199 "LeasedPagesModel" "arrivals" "I" ∈ lp_BW := lp_t3 193 rfl rfl
theorem bw_674 : Cond.fieldLink "LeasedPagesModel" 56 "LeasedPagesModel" "number" "[I" ∈ lp_BW := lp_t3 194 rfl rfl
theorem bw_675 : Cond.fieldLink "LeasedPagesModel" 59 "LeasedPagesModel" "knownMode" "[I" ∈ lp_BW := lp_t3 195 rfl rfl
theorem bw_676 : Cond.fieldLink "LeasedPagesModel" 62 "LeasedPagesModel" "knownEnd" "[I" ∈ lp_BW := lp_t3 196 rfl rfl
theorem bw_677 : Cond.fieldLink "LeasedPagesModel" 65 "LeasedPagesModel" "recalled" "[Z" ∈ lp_BW := lp_t3 197 rfl rfl
theorem bw_678 : Cond.fieldLink "LeasedPagesModel" 68 "LeasedPagesModel" "missed" "[Z" ∈ lp_BW := lp_t3 198 rfl rfl
theorem bw_679 : Cond.fieldLink "LeasedPagesModel" 71 "LeasedPagesModel" "copies" "[I" ∈ lp_BW := lp_t3 199 rfl rfl
theorem bw_680 : Cond.fieldLink "LeasedPagesModel" 74 "LeasedPagesModel" "dirties" "[I" ∈ lp_BW := lp_t3 200 rfl rfl
theorem bw_681 : Cond.fieldLink "LeasedPagesModel" 77 "LeasedPagesModel" "dirtyPlace" "[I" ∈ lp_BW := lp_t3 201 rfl rfl
theorem bw_682 : Cond.fieldLink "LeasedPagesModel" 80 "LeasedPagesModel" "dirtyValue" "[I" ∈ lp_BW := lp_t3 202 rfl rfl
theorem bw_683 : Cond.fieldLink "LeasedPagesModel" 83 "LeasedPagesModel" "openKind" "[I" ∈ lp_BW := lp_t3 203 rfl rfl
theorem bw_684 : Cond.fieldLink "LeasedPagesModel" 86 "LeasedPagesModel" "openFile" "[I" ∈ lp_BW := lp_t3 204 rfl rfl
theorem bw_685 : Cond.fieldLink "LeasedPagesModel" 89 "LeasedPagesModel" "openMode" "[I" ∈ lp_BW := lp_t3 205 rfl rfl
theorem bw_686 : Cond.fieldLink "LeasedPagesModel" 92 "LeasedPagesModel" "openClaim" "[Z" ∈ lp_BW := lp_t3 206 rfl rfl
theorem bw_687 : Cond.fieldLink "LeasedPagesModel" 95 "LeasedPagesModel" "openPage" "[I" ∈ lp_BW := lp_t3 207 rfl rfl
theorem bw_688 : Cond.fieldLink "LeasedPagesModel" 98 "LeasedPagesModel" "openValue" "[I" ∈ lp_BW := lp_t3 208 rfl rfl
theorem bw_689 : Cond.fieldLink "LeasedPagesModel" 101 "LeasedPagesModel" "openSince" "[I" ∈ lp_BW := lp_t3 209 rfl rfl
theorem bw_690 : Cond.fieldLink "LeasedPagesModel" 135 "LeasedPagesModel" "under" "I" ∈ lp_BW := lp_t3 210 rfl rfl
theorem bw_691 : Cond.fieldLink "LeasedPagesModel" 104 "LeasedPagesModel" "kind" "[I" ∈ lp_BW := lp_t3 211 rfl rfl
theorem bw_692 : Cond.fieldLink "LeasedPagesModel" 107 "LeasedPagesModel" "client" "[I" ∈ lp_BW := lp_t3 212 rfl rfl
theorem bw_693 : Cond.fieldLink "LeasedPagesModel" 110 "LeasedPagesModel" "file" "[I" ∈ lp_BW := lp_t3 213 rfl rfl
theorem bw_694 : Cond.fieldLink "LeasedPagesModel" 113 "LeasedPagesModel" "which" "[I" ∈ lp_BW := lp_t3 214 rfl rfl
theorem bw_695 : Cond.fieldLink "LeasedPagesModel" 116 "LeasedPagesModel" "mode" "[I" ∈ lp_BW := lp_t3 215 rfl rfl
theorem bw_696 : Cond.fieldLink "LeasedPagesModel" 119 "LeasedPagesModel" "yes" "[Z" ∈ lp_BW := lp_t3 216 rfl rfl
theorem bw_697 : Cond.fieldLink "LeasedPagesModel" 122 "LeasedPagesModel" "page" "[I" ∈ lp_BW := lp_t3 217 rfl rfl
theorem bw_698 : Cond.fieldLink "LeasedPagesModel" 125 "LeasedPagesModel" "content" "[I" ∈ lp_BW := lp_t3 218 rfl rfl
theorem bw_699 : Cond.fieldLink "LeasedPagesModel" 128 "LeasedPagesModel" "four" "[I" ∈ lp_BW := lp_t3 219 rfl rfl
theorem bw_700 : Cond.laysFinal "LeasedPagesModel" "LeasedPagesModel" "duration" "I" ∈ lp_BW := lp_t3 220 rfl rfl
theorem bw_702 : Cond.laysFinal "LeasedPagesModel" "LeasedPagesModel" "down" "[Z" ∈ lp_BW := lp_t3 222 rfl rfl
theorem bw_704 : Cond.laysFinal "LeasedPagesModel" "LeasedPagesModel" "clocks" "[I" ∈ lp_BW := lp_t3 224 rfl rfl
theorem bw_706 : Cond.laysFinal "LeasedPagesModel" "LeasedPagesModel" "pages" "[I" ∈ lp_BW := lp_t3 226 rfl rfl
theorem bw_708 : Cond.laysFinal "LeasedPagesModel" "LeasedPagesModel" "modes" "[I" ∈ lp_BW := lp_t3 228 rfl rfl
theorem bw_710 : Cond.laysFinal "LeasedPagesModel" "LeasedPagesModel" "ends" "[I" ∈ lp_BW := lp_t3 230 rfl rfl
theorem bw_712 : Cond.lays "LeasedPagesModel" "LeasedPagesModel" "grace" "I" ∈ lp_BW := lp_t3 232 rfl rfl
theorem bw_714 : Cond.laysFinal "LeasedPagesModel" "LeasedPagesModel" "done" "[I" ∈ lp_BW := lp_t3 234 rfl rfl
theorem bw_716 : Cond.laysFinal "LeasedPagesModel" "LeasedPagesModel" "saidKind" "[I" ∈ lp_BW := lp_t3 236 rfl rfl
theorem bw_718 : Cond.laysFinal "LeasedPagesModel" "LeasedPagesModel" "saidFile" "[I" ∈ lp_BW := lp_t3 238 rfl rfl
theorem bw_720 : Cond.laysFinal "LeasedPagesModel" "LeasedPagesModel" "saidMode" "[I" ∈ lp_BW := lp_t4 0 rfl rfl
theorem bw_722 : Cond.laysFinal "LeasedPagesModel" "LeasedPagesModel" "saidMore" "[Z" ∈ lp_BW := lp_t4 2 rfl rfl
theorem bw_724 : Cond.laysFinal "LeasedPagesModel" "LeasedPagesModel" "saidPages" "[I" ∈ lp_BW := lp_t4 4 rfl rfl
theorem bw_726 : Cond.laysFinal "LeasedPagesModel" "LeasedPagesModel" "waitFile" "[I" ∈ lp_BW := lp_t4 6 rfl rfl
theorem bw_728 : Cond.laysFinal "LeasedPagesModel" "LeasedPagesModel" "waitNumber" "[I" ∈ lp_BW := lp_t4 8 rfl rfl
theorem bw_730 : Cond.laysFinal "LeasedPagesModel" "LeasedPagesModel" "waitMode" "[I" ∈ lp_BW := lp_t4 10 rfl rfl
theorem bw_732 : Cond.laysFinal "LeasedPagesModel" "LeasedPagesModel" "waitSince" "[I" ∈ lp_BW := lp_t4 12 rfl rfl
theorem bw_734 : Cond.lays "LeasedPagesModel" "LeasedPagesModel" "arrivals" "I" ∈ lp_BW := lp_t4 14 rfl rfl
theorem bw_736 : Cond.laysFinal "LeasedPagesModel" "LeasedPagesModel" "number" "[I" ∈ lp_BW := lp_t4 16 rfl rfl
theorem bw_738 : Cond.laysFinal "LeasedPagesModel" "LeasedPagesModel" "knownMode" "[I" ∈ lp_BW := lp_t4 18 rfl rfl
theorem bw_740 : Cond.laysFinal "LeasedPagesModel" "LeasedPagesModel" "knownEnd" "[I" ∈ lp_BW := lp_t4 20 rfl rfl
theorem bw_742 : Cond.laysFinal "LeasedPagesModel" "LeasedPagesModel" "recalled" "[Z" ∈ lp_BW := lp_t4 22 rfl rfl
theorem bw_744 : Cond.laysFinal "LeasedPagesModel" "LeasedPagesModel" "missed" "[Z" ∈ lp_BW := lp_t4 24 rfl rfl
theorem bw_746 : Cond.laysFinal "LeasedPagesModel" "LeasedPagesModel" "copies" "[I" ∈ lp_BW := lp_t4 26 rfl rfl
theorem bw_748 : Cond.laysFinal "LeasedPagesModel" "LeasedPagesModel" "dirties" "[I" ∈ lp_BW := lp_t4 28 rfl rfl
theorem bw_750 : Cond.laysFinal "LeasedPagesModel" "LeasedPagesModel" "dirtyPlace" "[I" ∈ lp_BW := lp_t4 30 rfl rfl
theorem bw_752 : Cond.laysFinal "LeasedPagesModel" "LeasedPagesModel" "dirtyValue" "[I" ∈ lp_BW := lp_t4 32 rfl rfl
theorem bw_754 : Cond.laysFinal "LeasedPagesModel" "LeasedPagesModel" "openKind" "[I" ∈ lp_BW := lp_t4 34 rfl rfl
theorem bw_756 : Cond.laysFinal "LeasedPagesModel" "LeasedPagesModel" "openFile" "[I" ∈ lp_BW := lp_t4 36 rfl rfl
theorem bw_758 : Cond.laysFinal "LeasedPagesModel" "LeasedPagesModel" "openMode" "[I" ∈ lp_BW := lp_t4 38 rfl rfl
theorem bw_760 : Cond.laysFinal "LeasedPagesModel" "LeasedPagesModel" "openClaim" "[Z" ∈ lp_BW := lp_t4 40 rfl rfl
theorem bw_762 : Cond.laysFinal "LeasedPagesModel" "LeasedPagesModel" "openPage" "[I" ∈ lp_BW := lp_t4 42 rfl rfl
theorem bw_764 : Cond.laysFinal "LeasedPagesModel" "LeasedPagesModel" "openValue" "[I" ∈ lp_BW := lp_t4 44 rfl rfl
theorem bw_766 : Cond.laysFinal "LeasedPagesModel" "LeasedPagesModel" "openSince" "[I" ∈ lp_BW := lp_t4 46 rfl rfl
theorem bw_768 : Cond.lays "LeasedPagesModel" "LeasedPagesModel" "under" "I" ∈ lp_BW := lp_t4 48 rfl rfl
theorem bw_770 : Cond.laysFinal "LeasedPagesModel" "LeasedPagesModel" "kind" "[I" ∈ lp_BW := lp_t4 50 rfl rfl
theorem bw_772 : Cond.laysFinal "LeasedPagesModel" "LeasedPagesModel" "client" "[I" ∈ lp_BW := lp_t4 52 rfl rfl
theorem bw_774 : Cond.laysFinal "LeasedPagesModel" "LeasedPagesModel" "file" "[I" ∈ lp_BW := lp_t4 54 rfl rfl
theorem bw_776 : Cond.laysFinal "LeasedPagesModel" "LeasedPagesModel" "which" "[I" ∈ lp_BW := lp_t4 56 rfl rfl
theorem bw_778 : Cond.laysFinal "LeasedPagesModel" "LeasedPagesModel" "mode" "[I" ∈ lp_BW := lp_t4 58 rfl rfl
theorem bw_780 : Cond.laysFinal "LeasedPagesModel" "LeasedPagesModel" "yes" "[Z" ∈ lp_BW := lp_t4 60 rfl rfl
theorem bw_782 : Cond.laysFinal "LeasedPagesModel" "LeasedPagesModel" "page" "[I" ∈ lp_BW := lp_t4 62 rfl rfl
theorem bw_784 : Cond.laysFinal "LeasedPagesModel" "LeasedPagesModel" "content" "[I" ∈ lp_BW := lp_t4 64 rfl rfl
theorem bw_786 : Cond.laysFinal "LeasedPagesModel" "LeasedPagesModel" "four" "[I" ∈ lp_BW := lp_t4 66 rfl rfl
theorem bw_789 : Cond.arrayClass FieldType.boolean ∈ lp_BW := lp_t4 69 rfl rfl
theorem bw_790 : Cond.methodLink "LeasedPagesLaw" 53 ⟨"LeasedPagesModel", "messages", "()I"⟩ ∈ lp_BW := lp_t4 70 rfl rfl
theorem bw_791 : Cond.instanceMethod ⟨"LeasedPagesModel", "messages", "()I"⟩ ∈ lp_BW := lp_t4 71 rfl rfl
theorem bw_792 : Cond.selects "LeasedPagesModel" ⟨"LeasedPagesModel", "messages", "()I"⟩ ⟨"LeasedPagesModel", "messages", "()I"⟩ ∈ lp_BW := lp_t4 72 rfl rfl
theorem bw_793 : Cond.code ⟨"LeasedPagesModel", "messages", "()I"⟩ prog_12_method_5_code 1 (Option.some FieldType.int) ∈ lp_BW := lp_t4 73 rfl rfl
theorem bw_794 : Cond.methodLink "LeasedPagesLaw" 57 ⟨"LeasedPagesModel", "message", "(I)I"⟩ ∈ lp_BW := lp_t4 74 rfl rfl
theorem bw_795 : Cond.instanceMethod ⟨"LeasedPagesModel", "message", "(I)I"⟩ ∈ lp_BW := lp_t4 75 rfl rfl
theorem bw_796 : Cond.selects "LeasedPagesModel" ⟨"LeasedPagesModel", "message", "(I)I"⟩ ⟨"LeasedPagesModel", "message", "(I)I"⟩ ∈ lp_BW := lp_t4 76 rfl rfl
theorem bw_797 : Cond.code ⟨"LeasedPagesModel", "message", "(I)I"⟩ prog_12_method_6_code 2 (Option.some FieldType.int) ∈ lp_BW := lp_t4 77 rfl rfl
theorem bw_798 : Cond.methodLink "LeasedPagesModel" 138 ⟨"LeasedPagesModel", "in", "(III)Z"⟩ ∈ lp_BW := lp_t4 78 rfl rfl
theorem bw_799 : Cond.static ⟨"LeasedPagesModel", "in", "(III)Z"⟩ ∈ lp_BW := lp_t4 79 rfl rfl
theorem bw_800 : Cond.code ⟨"LeasedPagesModel", "in", "(III)Z"⟩ prog_12_method_2_code 3 (Option.some FieldType.boolean) ∈ lp_BW := lp_t4 80 rfl rfl
theorem bw_801 : Cond.constant "LeasedPagesModel" 142 (1000000) ∈ lp_BW := lp_t4 81 rfl rfl
theorem bw_802 : Cond.constant "LeasedPagesModel" 143 (100000) ∈ lp_BW := lp_t4 82 rfl rfl
theorem bw_803 : Cond.methodLink "LeasedPagesLaw" 66 ⟨"LeasedPagesModel", "drop", "(I)Z"⟩ ∈ lp_BW := lp_t4 83 rfl rfl
theorem bw_804 : Cond.instanceMethod ⟨"LeasedPagesModel", "drop", "(I)Z"⟩ ∈ lp_BW := lp_t4 84 rfl rfl
theorem bw_805 : Cond.selects "LeasedPagesModel" ⟨"LeasedPagesModel", "drop", "(I)Z"⟩ ⟨"LeasedPagesModel", "drop", "(I)Z"⟩ ∈ lp_BW := lp_t4 85 rfl rfl
theorem bw_806 : Cond.code ⟨"LeasedPagesModel", "drop", "(I)Z"⟩ prog_12_method_7_code 3 (Option.some FieldType.boolean) ∈ lp_BW := lp_t4 86 rfl rfl
theorem bw_807 : Cond.methodLink "LeasedPagesModel" 144 ⟨"LeasedPagesModel", "move", "(II)V"⟩ ∈ lp_BW := lp_t4 87 rfl rfl
theorem bw_809 : Cond.instanceMethod ⟨"LeasedPagesModel", "move", "(II)V"⟩ ∈ lp_BW := lp_t4 89 rfl rfl
theorem bw_810 : Cond.code ⟨"LeasedPagesModel", "move", "(II)V"⟩ prog_12_method_4_code 4 (Option.none : Option FieldType) ∈ lp_BW := lp_t4 90 rfl rfl
theorem bw_811 : Cond.methodLink "LeasedPagesLaw" 70 ⟨"LeasedPagesModel", "duplicate", "(I)Z"⟩ ∈ lp_BW := lp_t4 91 rfl rfl
theorem bw_812 : Cond.instanceMethod ⟨"LeasedPagesModel", "duplicate", "(I)Z"⟩ ∈ lp_BW := lp_t4 92 rfl rfl
theorem bw_813 : Cond.selects "LeasedPagesModel" ⟨"LeasedPagesModel", "duplicate", "(I)Z"⟩ ⟨"LeasedPagesModel", "duplicate", "(I)Z"⟩ ∈ lp_BW := lp_t4 93 rfl rfl
theorem bw_814 : Cond.code ⟨"LeasedPagesModel", "duplicate", "(I)Z"⟩ prog_12_method_8_code 2 (Option.some FieldType.boolean) ∈ lp_BW := lp_t4 94 rfl rfl
theorem bw_815 : Cond.methodLink "LeasedPagesLaw" 62 ⟨"LeasedPagesModel", "deliver", "(I)Z"⟩ ∈ lp_BW := lp_t4 95 rfl rfl
theorem bw_816 : Cond.instanceMethod ⟨"LeasedPagesModel", "deliver", "(I)Z"⟩ ∈ lp_BW := lp_t4 96 rfl rfl
theorem bw_817 : Cond.selects "LeasedPagesModel" ⟨"LeasedPagesModel", "deliver", "(I)Z"⟩ ⟨"LeasedPagesModel", "deliver", "(I)Z"⟩ ∈ lp_BW := lp_t4 97 rfl rfl
theorem bw_818 : Cond.code ⟨"LeasedPagesModel", "deliver", "(I)Z"⟩ prog_12_method_11_code 10 (Option.some FieldType.boolean) ∈ lp_BW := lp_t4 98 rfl rfl
theorem bw_819 : Cond.methodLink "LeasedPagesModel" 152 ⟨"LeasedPagesModel", "granted", "(IIIZI)V"⟩ ∈ lp_BW := lp_t4 99 rfl rfl
theorem bw_821 : Cond.instanceMethod ⟨"LeasedPagesModel", "granted", "(IIIZI)V"⟩ ∈ lp_BW := lp_t4 101 rfl rfl
theorem bw_822 : Cond.code ⟨"LeasedPagesModel", "granted", "(IIIZI)V"⟩ prog_12_method_24_code 7 (Option.none : Option FieldType) ∈ lp_BW := lp_t4 102 rfl rfl
theorem bw_823 : Cond.methodLink "LeasedPagesModel" 206 ⟨"LeasedPagesModel", "hasDirty", "(II)Z"⟩ ∈ lp_BW := lp_t4 103 rfl rfl
theorem bw_825 : Cond.instanceMethod ⟨"LeasedPagesModel", "hasDirty", "(II)Z"⟩ ∈ lp_BW := lp_t4 105 rfl rfl
theorem bw_826 : Cond.code ⟨"LeasedPagesModel", "hasDirty", "(II)Z"⟩ prog_12_method_22_code 5 (Option.some FieldType.boolean) ∈ lp_BW := lp_t4 106 rfl rfl
theorem bw_827 : Cond.methodLink "LeasedPagesModel" 209 ⟨"LeasedPagesModel", "forget", "(III)V"⟩ ∈ lp_BW := lp_t4 107 rfl rfl
theorem bw_829 : Cond.instanceMethod ⟨"LeasedPagesModel", "forget", "(III)V"⟩ ∈ lp_BW := lp_t4 109 rfl rfl
theorem bw_830 : Cond.code ⟨"LeasedPagesModel", "forget", "(III)V"⟩ prog_12_method_23_code 8 (Option.none : Option FieldType) ∈ lp_BW := lp_t4 110 rfl rfl
theorem bw_831 : Cond.methodLink "LeasedPagesModel" 156 ⟨"LeasedPagesModel", "drop", "(I)Z"⟩ ∈ lp_BW := lp_t4 111 rfl rfl
theorem bw_832 : Cond.methodLink "LeasedPagesModel" 160 ⟨"LeasedPagesModel", "request", "(IIIIIZII)V"⟩ ∈ lp_BW := lp_t4 112 rfl rfl
theorem bw_834 : Cond.instanceMethod ⟨"LeasedPagesModel", "request", "(IIIIIZII)V"⟩ ∈ lp_BW := lp_t4 114 rfl rfl
theorem bw_835 : Cond.code ⟨"LeasedPagesModel", "request", "(IIIIIZII)V"⟩ prog_12_method_17_code 10 (Option.none : Option FieldType) ∈ lp_BW := lp_t4 115 rfl rfl
theorem bw_836 : Cond.methodLink "LeasedPagesModel" 175 ⟨"LeasedPagesModel", "answer", "(I)V"⟩ ∈ lp_BW := lp_t4 116 rfl rfl
theorem bw_838 : Cond.instanceMethod ⟨"LeasedPagesModel", "answer", "(I)V"⟩ ∈ lp_BW := lp_t4 118 rfl rfl
theorem bw_839 : Cond.code ⟨"LeasedPagesModel", "answer", "(I)V"⟩ prog_12_method_10_code 4 (Option.none : Option FieldType) ∈ lp_BW := lp_t4 119 rfl rfl
theorem bw_840 : Cond.methodLink "LeasedPagesModel" 148 ⟨"LeasedPagesModel", "room", "(IIII)I"⟩ ∈ lp_BW := lp_t4 120 rfl rfl
theorem bw_842 : Cond.instanceMethod ⟨"LeasedPagesModel", "room", "(IIII)I"⟩ ∈ lp_BW := lp_t4 122 rfl rfl
theorem bw_843 : Cond.code ⟨"LeasedPagesModel", "room", "(IIII)I"⟩ prog_12_method_3_code 5 (Option.some FieldType.int) ∈ lp_BW := lp_t4 123 rfl rfl
theorem bw_844 : Cond.methodLink "LeasedPagesModel" 183 ⟨"LeasedPagesModel", "askedLease", "(IIIIZ)V"⟩ ∈ lp_BW := lp_t4 124 rfl rfl
theorem bw_846 : Cond.instanceMethod ⟨"LeasedPagesModel", "askedLease", "(IIIIZ)V"⟩ ∈ lp_BW := lp_t4 126 rfl rfl
theorem bw_847 : Cond.code ⟨"LeasedPagesModel", "askedLease", "(IIIIZ)V"⟩ prog_12_method_18_code 8 (Option.none : Option FieldType) ∈ lp_BW := lp_t4 127 rfl rfl
theorem bw_848 : Cond.methodLink "LeasedPagesModel" 171 ⟨"LeasedPagesModel", "has", "(II)Z"⟩ ∈ lp_BW := lp_t4 128 rfl rfl
theorem bw_850 : Cond.instanceMethod ⟨"LeasedPagesModel", "has", "(II)Z"⟩ ∈ lp_BW := lp_t4 130 rfl rfl
theorem bw_851 : Cond.code ⟨"LeasedPagesModel", "has", "(II)Z"⟩ prog_12_method_12_code 3 (Option.some FieldType.boolean) ∈ lp_BW := lp_t4 131 rfl rfl
theorem bw_852 : Cond.methodLink "LeasedPagesModel" 187 ⟨"LeasedPagesModel", "others", "(II)Z"⟩ ∈ lp_BW := lp_t4 132 rfl rfl
theorem bw_854 : Cond.instanceMethod ⟨"LeasedPagesModel", "others", "(II)Z"⟩ ∈ lp_BW := lp_t4 134 rfl rfl
theorem bw_855 : Cond.code ⟨"LeasedPagesModel", "others", "(II)Z"⟩ prog_12_method_14_code 5 (Option.some FieldType.boolean) ∈ lp_BW := lp_t4 135 rfl rfl
theorem bw_856 : Cond.methodLink "LeasedPagesModel" 179 ⟨"LeasedPagesModel", "finish", "(IIII)V"⟩ ∈ lp_BW := lp_t4 136 rfl rfl
theorem bw_858 : Cond.instanceMethod ⟨"LeasedPagesModel", "finish", "(IIII)V"⟩ ∈ lp_BW := lp_t4 138 rfl rfl
theorem bw_859 : Cond.code ⟨"LeasedPagesModel", "finish", "(IIII)V"⟩ prog_12_method_15_code 5 (Option.none : Option FieldType) ∈ lp_BW := lp_t4 139 rfl rfl
theorem bw_860 : Cond.methodLink "LeasedPagesModel" 193 ⟨"LeasedPagesModel", "conflicts", "(III)Z"⟩ ∈ lp_BW := lp_t4 140 rfl rfl
theorem bw_862 : Cond.instanceMethod ⟨"LeasedPagesModel", "conflicts", "(III)Z"⟩ ∈ lp_BW := lp_t4 142 rfl rfl
theorem bw_863 : Cond.code ⟨"LeasedPagesModel", "conflicts", "(III)Z"⟩ prog_12_method_13_code 6 (Option.some FieldType.boolean) ∈ lp_BW := lp_t4 143 rfl rfl
theorem bw_864 : Cond.methodLink "LeasedPagesModel" 196 ⟨"LeasedPagesModel", "grant", "(IIIIZ)V"⟩ ∈ lp_BW := lp_t4 144 rfl rfl
theorem bw_866 : Cond.instanceMethod ⟨"LeasedPagesModel", "grant", "(IIIIZ)V"⟩ ∈ lp_BW := lp_t4 146 rfl rfl
theorem bw_867 : Cond.code ⟨"LeasedPagesModel", "grant", "(IIIIZ)V"⟩ prog_12_method_16_code 7 (Option.none : Option FieldType) ∈ lp_BW := lp_t4 147 rfl rfl
theorem bw_868 : Cond.methodLink "LeasedPagesModel" 164 ⟨"LeasedPagesModel", "serveLines", "()V"⟩ ∈ lp_BW := lp_t4 148 rfl rfl
theorem bw_870 : Cond.instanceMethod ⟨"LeasedPagesModel", "serveLines", "()V"⟩ ∈ lp_BW := lp_t4 150 rfl rfl
theorem bw_871 : Cond.code ⟨"LeasedPagesModel", "serveLines", "()V"⟩ prog_12_method_20_code 3 (Option.none : Option FieldType) ∈ lp_BW := lp_t4 151 rfl rfl
theorem bw_872 : Cond.methodLink "LeasedPagesModel" 202 ⟨"LeasedPagesModel", "first", "(I)I"⟩ ∈ lp_BW := lp_t4 152 rfl rfl
theorem bw_874 : Cond.instanceMethod ⟨"LeasedPagesModel", "first", "(I)I"⟩ ∈ lp_BW := lp_t4 154 rfl rfl
theorem bw_875 : Cond.code ⟨"LeasedPagesModel", "first", "(I)I"⟩ prog_12_method_19_code 4 (Option.some FieldType.int) ∈ lp_BW := lp_t4 155 rfl rfl
theorem bw_876 : Cond.methodLink "LeasedPagesModel" 167 ⟨"LeasedPagesModel", "replied", "(III)V"⟩ ∈ lp_BW := lp_t4 156 rfl rfl
theorem bw_878 : Cond.instanceMethod ⟨"LeasedPagesModel", "replied", "(III)V"⟩ ∈ lp_BW := lp_t4 158 rfl rfl
theorem bw_879 : Cond.code ⟨"LeasedPagesModel", "replied", "(III)V"⟩ prog_12_method_25_code 5 (Option.none : Option FieldType) ∈ lp_BW := lp_t4 159 rfl rfl
theorem bw_880 : Cond.methodLink "LeasedPagesLaw" 25 ⟨"LeasedPagesModel", "acquire", "(III)I"⟩ ∈ lp_BW := lp_t4 160 rfl rfl
theorem bw_881 : Cond.instanceMethod ⟨"LeasedPagesModel", "acquire", "(III)I"⟩ ∈ lp_BW := lp_t4 161 rfl rfl
theorem bw_882 : Cond.selects "LeasedPagesModel" ⟨"LeasedPagesModel", "acquire", "(III)I"⟩ ⟨"LeasedPagesModel", "acquire", "(III)I"⟩ ∈ lp_BW := lp_t4 162 rfl rfl
theorem bw_883 : Cond.code ⟨"LeasedPagesModel", "acquire", "(III)I"⟩ prog_12_method_29_code 6 (Option.some FieldType.int) ∈ lp_BW := lp_t4 163 rfl rfl
theorem bw_884 : Cond.methodLink "LeasedPagesModel" 215 ⟨"LeasedPagesModel", "works", "(I)Z"⟩ ∈ lp_BW := lp_t4 164 rfl rfl
theorem bw_886 : Cond.instanceMethod ⟨"LeasedPagesModel", "works", "(I)Z"⟩ ∈ lp_BW := lp_t4 166 rfl rfl
theorem bw_887 : Cond.code ⟨"LeasedPagesModel", "works", "(I)Z"⟩ prog_12_method_26_code 2 (Option.some FieldType.boolean) ∈ lp_BW := lp_t4 167 rfl rfl
theorem bw_888 : Cond.methodLink "LeasedPagesModel" 218 ⟨"LeasedPagesModel", "lost", "(II)Z"⟩ ∈ lp_BW := lp_t4 168 rfl rfl
theorem bw_890 : Cond.instanceMethod ⟨"LeasedPagesModel", "lost", "(II)Z"⟩ ∈ lp_BW := lp_t4 170 rfl rfl
theorem bw_891 : Cond.code ⟨"LeasedPagesModel", "lost", "(II)Z"⟩ prog_12_method_27_code 4 (Option.some FieldType.boolean) ∈ lp_BW := lp_t4 171 rfl rfl
theorem bw_892 : Cond.methodLink "LeasedPagesModel" 221 ⟨"LeasedPagesModel", "valid", "(II)Z"⟩ ∈ lp_BW := lp_t4 172 rfl rfl
theorem bw_894 : Cond.instanceMethod ⟨"LeasedPagesModel", "valid", "(II)Z"⟩ ∈ lp_BW := lp_t4 174 rfl rfl
theorem bw_895 : Cond.code ⟨"LeasedPagesModel", "valid", "(II)Z"⟩ prog_12_method_21_code 3 (Option.some FieldType.boolean) ∈ lp_BW := lp_t4 175 rfl rfl
theorem bw_896 : Cond.methodLink "LeasedPagesModel" 224 ⟨"LeasedPagesModel", "open", "(IIIIZ)I"⟩ ∈ lp_BW := lp_t4 176 rfl rfl
theorem bw_898 : Cond.instanceMethod ⟨"LeasedPagesModel", "open", "(IIIIZ)I"⟩ ∈ lp_BW := lp_t4 178 rfl rfl
theorem bw_899 : Cond.code ⟨"LeasedPagesModel", "open", "(IIIIZ)I"⟩ prog_12_method_28_code 6 (Option.some FieldType.int) ∈ lp_BW := lp_t4 179 rfl rfl
theorem bw_900 : Cond.methodLink "LeasedPagesModel" 212 ⟨"LeasedPagesModel", "ask", "(I)V"⟩ ∈ lp_BW := lp_t4 180 rfl rfl
theorem bw_902 : Cond.instanceMethod ⟨"LeasedPagesModel", "ask", "(I)V"⟩ ∈ lp_BW := lp_t4 182 rfl rfl
theorem bw_903 : Cond.code ⟨"LeasedPagesModel", "ask", "(I)V"⟩ prog_12_method_9_code 3 (Option.none : Option FieldType) ∈ lp_BW := lp_t4 183 rfl rfl
theorem bw_904 : Cond.methodLink "LeasedPagesLaw" 30 ⟨"LeasedPagesModel", "read", "(IIII)I"⟩ ∈ lp_BW := lp_t4 184 rfl rfl
theorem bw_905 : Cond.instanceMethod ⟨"LeasedPagesModel", "read", "(IIII)I"⟩ ∈ lp_BW := lp_t4 185 rfl rfl
theorem bw_906 : Cond.selects "LeasedPagesModel" ⟨"LeasedPagesModel", "read", "(IIII)I"⟩ ⟨"LeasedPagesModel", "read", "(IIII)I"⟩ ∈ lp_BW := lp_t4 186 rfl rfl
theorem bw_907 : Cond.code ⟨"LeasedPagesModel", "read", "(IIII)I"⟩ prog_12_method_30_code 5 (Option.some FieldType.int) ∈ lp_BW := lp_t4 187 rfl rfl
theorem bw_908 : Cond.methodLink "LeasedPagesLaw" 34 ⟨"LeasedPagesModel", "write", "(IIII)I"⟩ ∈ lp_BW := lp_t4 188 rfl rfl
theorem bw_909 : Cond.instanceMethod ⟨"LeasedPagesModel", "write", "(IIII)I"⟩ ∈ lp_BW := lp_t4 189 rfl rfl
theorem bw_910 : Cond.selects "LeasedPagesModel" ⟨"LeasedPagesModel", "write", "(IIII)I"⟩ ⟨"LeasedPagesModel", "write", "(IIII)I"⟩ ∈ lp_BW := lp_t4 190 rfl rfl
theorem bw_911 : Cond.code ⟨"LeasedPagesModel", "write", "(IIII)I"⟩ prog_12_method_31_code 5 (Option.some FieldType.int) ∈ lp_BW := lp_t4 191 rfl rfl
theorem bw_912 : Cond.methodLink "LeasedPagesLaw" 39 ⟨"LeasedPagesModel", "flush", "(I)I"⟩ ∈ lp_BW := lp_t4 192 rfl rfl
theorem bw_913 : Cond.instanceMethod ⟨"LeasedPagesModel", "flush", "(I)I"⟩ ∈ lp_BW := lp_t4 193 rfl rfl
theorem bw_914 : Cond.selects "LeasedPagesModel" ⟨"LeasedPagesModel", "flush", "(I)I"⟩ ⟨"LeasedPagesModel", "flush", "(I)I"⟩ ∈ lp_BW := lp_t4 194 rfl rfl
theorem bw_915 : Cond.code ⟨"LeasedPagesModel", "flush", "(I)I"⟩ prog_12_method_32_code 3 (Option.some FieldType.int) ∈ lp_BW := lp_t4 195 rfl rfl
theorem bw_916 : Cond.methodLink "LeasedPagesLaw" 44 ⟨"LeasedPagesModel", "close", "(II)I"⟩ ∈ lp_BW := lp_t4 196 rfl rfl
theorem bw_917 : Cond.instanceMethod ⟨"LeasedPagesModel", "close", "(II)I"⟩ ∈ lp_BW := lp_t4 197 rfl rfl
theorem bw_918 : Cond.selects "LeasedPagesModel" ⟨"LeasedPagesModel", "close", "(II)I"⟩ ⟨"LeasedPagesModel", "close", "(II)I"⟩ ∈ lp_BW := lp_t4 198 rfl rfl
theorem bw_919 : Cond.code ⟨"LeasedPagesModel", "close", "(II)I"⟩ prog_12_method_33_code 3 (Option.some FieldType.int) ∈ lp_BW := lp_t4 199 rfl rfl
theorem bw_920 : Cond.methodLink "LeasedPagesLaw" 48 ⟨"LeasedPagesModel", "retry", "(I)I"⟩ ∈ lp_BW := lp_t4 200 rfl rfl
theorem bw_921 : Cond.instanceMethod ⟨"LeasedPagesModel", "retry", "(I)I"⟩ ∈ lp_BW := lp_t4 201 rfl rfl
theorem bw_922 : Cond.selects "LeasedPagesModel" ⟨"LeasedPagesModel", "retry", "(I)I"⟩ ⟨"LeasedPagesModel", "retry", "(I)I"⟩ ∈ lp_BW := lp_t4 202 rfl rfl
theorem bw_923 : Cond.code ⟨"LeasedPagesModel", "retry", "(I)I"⟩ prog_12_method_34_code 2 (Option.some FieldType.int) ∈ lp_BW := lp_t4 203 rfl rfl
theorem bw_924 : Cond.methodLink "LeasedPagesLaw" 75 ⟨"LeasedPagesModel", "tick", "(II)Z"⟩ ∈ lp_BW := lp_t4 204 rfl rfl
theorem bw_925 : Cond.instanceMethod ⟨"LeasedPagesModel", "tick", "(II)Z"⟩ ∈ lp_BW := lp_t4 205 rfl rfl
theorem bw_926 : Cond.selects "LeasedPagesModel" ⟨"LeasedPagesModel", "tick", "(II)Z"⟩ ⟨"LeasedPagesModel", "tick", "(II)Z"⟩ ∈ lp_BW := lp_t4 206 rfl rfl
theorem bw_927 : Cond.code ⟨"LeasedPagesModel", "tick", "(II)Z"⟩ prog_12_method_35_code 5 (Option.some FieldType.boolean) ∈ lp_BW := lp_t4 207 rfl rfl
theorem bw_928 : Cond.methodLink "LeasedPagesLaw" 79 ⟨"LeasedPagesModel", "crash", "(I)Z"⟩ ∈ lp_BW := lp_t4 208 rfl rfl
theorem bw_929 : Cond.instanceMethod ⟨"LeasedPagesModel", "crash", "(I)Z"⟩ ∈ lp_BW := lp_t4 209 rfl rfl
theorem bw_930 : Cond.selects "LeasedPagesModel" ⟨"LeasedPagesModel", "crash", "(I)Z"⟩ ⟨"LeasedPagesModel", "crash", "(I)Z"⟩ ∈ lp_BW := lp_t4 210 rfl rfl
theorem bw_931 : Cond.code ⟨"LeasedPagesModel", "crash", "(I)Z"⟩ prog_12_method_36_code 3 (Option.some FieldType.boolean) ∈ lp_BW := lp_t4 211 rfl rfl
theorem bw_932 : Cond.methodLink "LeasedPagesLaw" 83 ⟨"LeasedPagesModel", "restart", "(I)Z"⟩ ∈ lp_BW := lp_t4 212 rfl rfl
theorem bw_933 : Cond.instanceMethod ⟨"LeasedPagesModel", "restart", "(I)Z"⟩ ∈ lp_BW := lp_t4 213 rfl rfl
theorem bw_934 : Cond.selects "LeasedPagesModel" ⟨"LeasedPagesModel", "restart", "(I)Z"⟩ ⟨"LeasedPagesModel", "restart", "(I)Z"⟩ ∈ lp_BW := lp_t4 214 rfl rfl
theorem bw_935 : Cond.code ⟨"LeasedPagesModel", "restart", "(I)Z"⟩ prog_12_method_37_code 2 (Option.some FieldType.boolean) ∈ lp_BW := lp_t4 215 rfl rfl
theorem bw_936 : Cond.methodLink "LeasedPagesLaw" 87 ⟨"LeasedPagesModel", "clock", "(I)I"⟩ ∈ lp_BW := lp_t4 216 rfl rfl
theorem bw_937 : Cond.instanceMethod ⟨"LeasedPagesModel", "clock", "(I)I"⟩ ∈ lp_BW := lp_t4 217 rfl rfl
theorem bw_938 : Cond.selects "LeasedPagesModel" ⟨"LeasedPagesModel", "clock", "(I)I"⟩ ⟨"LeasedPagesModel", "clock", "(I)I"⟩ ∈ lp_BW := lp_t4 218 rfl rfl
theorem bw_939 : Cond.code ⟨"LeasedPagesModel", "clock", "(I)I"⟩ prog_12_method_38_code 2 (Option.some FieldType.int) ∈ lp_BW := lp_t4 219 rfl rfl
theorem bw_940 : Cond.methodLink "LeasedPagesLaw" 91 ⟨"LeasedPagesModel", "lease", "(II)I"⟩ ∈ lp_BW := lp_t4 220 rfl rfl
theorem bw_941 : Cond.instanceMethod ⟨"LeasedPagesModel", "lease", "(II)I"⟩ ∈ lp_BW := lp_t4 221 rfl rfl
theorem bw_942 : Cond.selects "LeasedPagesModel" ⟨"LeasedPagesModel", "lease", "(II)I"⟩ ⟨"LeasedPagesModel", "lease", "(II)I"⟩ ∈ lp_BW := lp_t4 222 rfl rfl
theorem bw_943 : Cond.code ⟨"LeasedPagesModel", "lease", "(II)I"⟩ prog_12_method_39_code 3 (Option.some FieldType.int) ∈ lp_BW := lp_t4 223 rfl rfl
theorem bw_944 : Cond.methodLink "LeasedPagesLaw" 95 ⟨"LeasedPagesModel", "dirty", "(I)I"⟩ ∈ lp_BW := lp_t4 224 rfl rfl
theorem bw_945 : Cond.instanceMethod ⟨"LeasedPagesModel", "dirty", "(I)I"⟩ ∈ lp_BW := lp_t4 225 rfl rfl
theorem bw_946 : Cond.selects "LeasedPagesModel" ⟨"LeasedPagesModel", "dirty", "(I)I"⟩ ⟨"LeasedPagesModel", "dirty", "(I)I"⟩ ∈ lp_BW := lp_t4 226 rfl rfl
theorem bw_947 : Cond.code ⟨"LeasedPagesModel", "dirty", "(I)I"⟩ prog_12_method_40_code 2 (Option.some FieldType.int) ∈ lp_BW := lp_t4 227 rfl rfl
theorem bw_948 : Cond.methodLink "LeasedPagesLaw" 99 ⟨"LeasedPagesModel", "held", "(II)I"⟩ ∈ lp_BW := lp_t4 228 rfl rfl
theorem bw_949 : Cond.instanceMethod ⟨"LeasedPagesModel", "held", "(II)I"⟩ ∈ lp_BW := lp_t4 229 rfl rfl
theorem bw_950 : Cond.selects "LeasedPagesModel" ⟨"LeasedPagesModel", "held", "(II)I"⟩ ⟨"LeasedPagesModel", "held", "(II)I"⟩ ∈ lp_BW := lp_t4 230 rfl rfl
theorem bw_951 : Cond.code ⟨"LeasedPagesModel", "held", "(II)I"⟩ prog_12_method_41_code 3 (Option.some FieldType.int) ∈ lp_BW := lp_t4 231 rfl rfl
theorem bw_952 : Cond.methodLink "LeasedPagesLaw" 103 ⟨"LeasedPagesModel", "waiting", "(I)I"⟩ ∈ lp_BW := lp_t4 232 rfl rfl
theorem bw_953 : Cond.instanceMethod ⟨"LeasedPagesModel", "waiting", "(I)I"⟩ ∈ lp_BW := lp_t4 233 rfl rfl
theorem bw_954 : Cond.selects "LeasedPagesModel" ⟨"LeasedPagesModel", "waiting", "(I)I"⟩ ⟨"LeasedPagesModel", "waiting", "(I)I"⟩ ∈ lp_BW := lp_t4 234 rfl rfl
theorem bw_955 : Cond.code ⟨"LeasedPagesModel", "waiting", "(I)I"⟩ prog_12_method_42_code 4 (Option.some FieldType.int) ∈ lp_BW := lp_t4 235 rfl rfl
theorem bw_956 : Cond.methodLink "LeasedPagesLaw" 107 ⟨"LeasedPagesModel", "stored", "(II)I"⟩ ∈ lp_BW := lp_t4 236 rfl rfl
theorem bw_957 : Cond.instanceMethod ⟨"LeasedPagesModel", "stored", "(II)I"⟩ ∈ lp_BW := lp_t4 237 rfl rfl
theorem bw_958 : Cond.selects "LeasedPagesModel" ⟨"LeasedPagesModel", "stored", "(II)I"⟩ ⟨"LeasedPagesModel", "stored", "(II)I"⟩ ∈ lp_BW := lp_t4 238 rfl rfl
theorem bw_959 : Cond.code ⟨"LeasedPagesModel", "stored", "(II)I"⟩ prog_12_method_43_code 3 (Option.some FieldType.int) ∈ lp_BW := lp_t4 239 rfl rfl
theorem bs_0 : Cond.selects "LeasedPages" ⟨"LeasedPages", "clientThatIsUp", "(I)LLeasedPages$Client;"⟩ ⟨"LeasedPages", "clientThatIsUp", "(I)LLeasedPages$Client;"⟩ ∈ lp_BW := lp_sl 0 rfl rfl
theorem bs_1 : Cond.selects "LeasedPages$Client" ⟨"LeasedPages$Client", "sendNew", "(LLeasedPages$Request;)I"⟩ ⟨"LeasedPages$Client", "sendNew", "(LLeasedPages$Request;)I"⟩ ∈ lp_BW := lp_sl 1 rfl rfl
theorem bs_2 : Cond.selects "LeasedPages$Server" ⟨"LeasedPages$Server", "waitsAlready", "(LLeasedPages$Request;)Z"⟩ ⟨"LeasedPages$Server", "waitsAlready", "(LLeasedPages$Request;)Z"⟩ ∈ lp_BW := lp_sl 2 rfl rfl
theorem bs_3 : Cond.selects "LeasedPages$Line" ⟨"LeasedPages$Line", "placeOf", "(I)I"⟩ ⟨"LeasedPages$Line", "placeOf", "(I)I"⟩ ∈ lp_BW := lp_sl 3 rfl rfl
theorem bs_4 : Cond.selects "LeasedPages$Server" ⟨"LeasedPages$Server", "takeOutOfLines", "(I)V"⟩ ⟨"LeasedPages$Server", "takeOutOfLines", "(I)V"⟩ ∈ lp_BW := lp_sl 4 rfl rfl
theorem bs_5 : Cond.selects "LeasedPages$Server" ⟨"LeasedPages$Server", "serveLease", "(LLeasedPages$Request;)V"⟩ ⟨"LeasedPages$Server", "serveLease", "(LLeasedPages$Request;)V"⟩ ∈ lp_BW := lp_sl 5 rfl rfl
theorem bs_6 : Cond.selects "LeasedPages$Server" ⟨"LeasedPages$Server", "hasLease", "(II)Z"⟩ ⟨"LeasedPages$Server", "hasLease", "(II)Z"⟩ ∈ lp_BW := lp_sl 6 rfl rfl
theorem bs_7 : Cond.selects "LeasedPages$Server" ⟨"LeasedPages$Server", "finish", "(LLeasedPages$Reply;)V"⟩ ⟨"LeasedPages$Server", "finish", "(LLeasedPages$Reply;)V"⟩ ∈ lp_BW := lp_sl 7 rfl rfl
theorem bs_8 : Cond.selects "LeasedPages$Server" ⟨"LeasedPages$Server", "conflictsWithAny", "(LLeasedPages$Request;)Z"⟩ ⟨"LeasedPages$Server", "conflictsWithAny", "(LLeasedPages$Request;)Z"⟩ ∈ lp_BW := lp_sl 8 rfl rfl
theorem bs_9 : Cond.selects "LeasedPages$Server" ⟨"LeasedPages$Server", "conflicts", "(LLeasedPages$Request;I)Z"⟩ ⟨"LeasedPages$Server", "conflicts", "(LLeasedPages$Request;I)Z"⟩ ∈ lp_BW := lp_sl 9 rfl rfl
theorem bs_10 : Cond.selects "LeasedPages$Server" ⟨"LeasedPages$Server", "grant", "(LLeasedPages$Request;)V"⟩ ⟨"LeasedPages$Server", "grant", "(LLeasedPages$Request;)V"⟩ ∈ lp_BW := lp_sl 10 rfl rfl
theorem bs_11 : Cond.selects "LeasedPages$Server" ⟨"LeasedPages$Server", "recallConflicting", "(LLeasedPages$Request;)V"⟩ ⟨"LeasedPages$Server", "recallConflicting", "(LLeasedPages$Request;)V"⟩ ∈ lp_BW := lp_sl 11 rfl rfl
theorem bs_12 : Cond.selects "LeasedPages$Server" ⟨"LeasedPages$Server", "serveStore", "(LLeasedPages$Request;)V"⟩ ⟨"LeasedPages$Server", "serveStore", "(LLeasedPages$Request;)V"⟩ ∈ lp_BW := lp_sl 12 rfl rfl
theorem bs_13 : Cond.selects "LeasedPages$Server" ⟨"LeasedPages$Server", "serveRelease", "(LLeasedPages$Request;)V"⟩ ⟨"LeasedPages$Server", "serveRelease", "(LLeasedPages$Request;)V"⟩ ∈ lp_BW := lp_sl 13 rfl rfl
theorem bs_14 : Cond.selects "LeasedPages$Server" ⟨"LeasedPages$Server", "goThroughLines", "()V"⟩ ⟨"LeasedPages$Server", "goThroughLines", "()V"⟩ ∈ lp_BW := lp_sl 14 rfl rfl
theorem bs_15 : Cond.selects "LeasedPages$Client" ⟨"LeasedPages$Client", "takeLease", "(LLeasedPages$Reply;)V"⟩ ⟨"LeasedPages$Client", "takeLease", "(LLeasedPages$Reply;)V"⟩ ∈ lp_BW := lp_sl 15 rfl rfl
theorem bs_16 : Cond.selects "LeasedPages$Client" ⟨"LeasedPages$Client", "removeAllWritesTo", "(I)V"⟩ ⟨"LeasedPages$Client", "removeAllWritesTo", "(I)V"⟩ ∈ lp_BW := lp_sl 16 rfl rfl
theorem bs_17 : Cond.selects "LeasedPages$Client" ⟨"LeasedPages$Client", "keepWrites", "(I)V"⟩ ⟨"LeasedPages$Client", "keepWrites", "(I)V"⟩ ∈ lp_BW := lp_sl 17 rfl rfl
theorem bs_18 : Cond.selects "LeasedPages$Client" ⟨"LeasedPages$Client", "redoWritesOn", "(I)V"⟩ ⟨"LeasedPages$Client", "redoWritesOn", "(I)V"⟩ ∈ lp_BW := lp_sl 18 rfl rfl
theorem bs_19 : Cond.selects "LeasedPages$Client" ⟨"LeasedPages$Client", "loseLease", "(I)V"⟩ ⟨"LeasedPages$Client", "loseLease", "(I)V"⟩ ∈ lp_BW := lp_sl 19 rfl rfl
theorem bs_20 : Cond.selects "LeasedPages$Client" ⟨"LeasedPages$Client", "removeFirstWriteTo", "(I)V"⟩ ⟨"LeasedPages$Client", "removeFirstWriteTo", "(I)V"⟩ ∈ lp_BW := lp_sl 20 rfl rfl
theorem bs_21 : Cond.selects "LeasedPages" ⟨"LeasedPages", "isUp", "(I)Z"⟩ ⟨"LeasedPages", "isUp", "(I)Z"⟩ ∈ lp_BW := lp_sl 21 rfl rfl
theorem bs_22 : Cond.selects "LeasedPages$Server" ⟨"LeasedPages$Server", "endLeases", "()V"⟩ ⟨"LeasedPages$Server", "endLeases", "()V"⟩ ∈ lp_BW := lp_sl 22 rfl rfl
theorem bs_23 : Cond.selects "LeasedPagesModel" ⟨"LeasedPagesModel", "move", "(II)V"⟩ ⟨"LeasedPagesModel", "move", "(II)V"⟩ ∈ lp_BW := lp_sl 23 rfl rfl
theorem bs_24 : Cond.selects "LeasedPagesModel" ⟨"LeasedPagesModel", "granted", "(IIIZI)V"⟩ ⟨"LeasedPagesModel", "granted", "(IIIZI)V"⟩ ∈ lp_BW := lp_sl 24 rfl rfl
theorem bs_25 : Cond.selects "LeasedPagesModel" ⟨"LeasedPagesModel", "hasDirty", "(II)Z"⟩ ⟨"LeasedPagesModel", "hasDirty", "(II)Z"⟩ ∈ lp_BW := lp_sl 25 rfl rfl
theorem bs_26 : Cond.selects "LeasedPagesModel" ⟨"LeasedPagesModel", "forget", "(III)V"⟩ ⟨"LeasedPagesModel", "forget", "(III)V"⟩ ∈ lp_BW := lp_sl 26 rfl rfl
theorem bs_27 : Cond.selects "LeasedPagesModel" ⟨"LeasedPagesModel", "request", "(IIIIIZII)V"⟩ ⟨"LeasedPagesModel", "request", "(IIIIIZII)V"⟩ ∈ lp_BW := lp_sl 27 rfl rfl
theorem bs_28 : Cond.selects "LeasedPagesModel" ⟨"LeasedPagesModel", "answer", "(I)V"⟩ ⟨"LeasedPagesModel", "answer", "(I)V"⟩ ∈ lp_BW := lp_sl 28 rfl rfl
theorem bs_29 : Cond.selects "LeasedPagesModel" ⟨"LeasedPagesModel", "room", "(IIII)I"⟩ ⟨"LeasedPagesModel", "room", "(IIII)I"⟩ ∈ lp_BW := lp_sl 29 rfl rfl
theorem bs_30 : Cond.selects "LeasedPagesModel" ⟨"LeasedPagesModel", "askedLease", "(IIIIZ)V"⟩ ⟨"LeasedPagesModel", "askedLease", "(IIIIZ)V"⟩ ∈ lp_BW := lp_sl 30 rfl rfl
theorem bs_31 : Cond.selects "LeasedPagesModel" ⟨"LeasedPagesModel", "has", "(II)Z"⟩ ⟨"LeasedPagesModel", "has", "(II)Z"⟩ ∈ lp_BW := lp_sl 31 rfl rfl
theorem bs_32 : Cond.selects "LeasedPagesModel" ⟨"LeasedPagesModel", "others", "(II)Z"⟩ ⟨"LeasedPagesModel", "others", "(II)Z"⟩ ∈ lp_BW := lp_sl 32 rfl rfl
theorem bs_33 : Cond.selects "LeasedPagesModel" ⟨"LeasedPagesModel", "finish", "(IIII)V"⟩ ⟨"LeasedPagesModel", "finish", "(IIII)V"⟩ ∈ lp_BW := lp_sl 33 rfl rfl
theorem bs_34 : Cond.selects "LeasedPagesModel" ⟨"LeasedPagesModel", "conflicts", "(III)Z"⟩ ⟨"LeasedPagesModel", "conflicts", "(III)Z"⟩ ∈ lp_BW := lp_sl 34 rfl rfl
theorem bs_35 : Cond.selects "LeasedPagesModel" ⟨"LeasedPagesModel", "grant", "(IIIIZ)V"⟩ ⟨"LeasedPagesModel", "grant", "(IIIIZ)V"⟩ ∈ lp_BW := lp_sl 35 rfl rfl
theorem bs_36 : Cond.selects "LeasedPagesModel" ⟨"LeasedPagesModel", "serveLines", "()V"⟩ ⟨"LeasedPagesModel", "serveLines", "()V"⟩ ∈ lp_BW := lp_sl 36 rfl rfl
theorem bs_37 : Cond.selects "LeasedPagesModel" ⟨"LeasedPagesModel", "first", "(I)I"⟩ ⟨"LeasedPagesModel", "first", "(I)I"⟩ ∈ lp_BW := lp_sl 37 rfl rfl
theorem bs_38 : Cond.selects "LeasedPagesModel" ⟨"LeasedPagesModel", "replied", "(III)V"⟩ ⟨"LeasedPagesModel", "replied", "(III)V"⟩ ∈ lp_BW := lp_sl 38 rfl rfl
theorem bs_39 : Cond.selects "LeasedPagesModel" ⟨"LeasedPagesModel", "works", "(I)Z"⟩ ⟨"LeasedPagesModel", "works", "(I)Z"⟩ ∈ lp_BW := lp_sl 39 rfl rfl
theorem bs_40 : Cond.selects "LeasedPagesModel" ⟨"LeasedPagesModel", "lost", "(II)Z"⟩ ⟨"LeasedPagesModel", "lost", "(II)Z"⟩ ∈ lp_BW := lp_sl 40 rfl rfl
theorem bs_41 : Cond.selects "LeasedPagesModel" ⟨"LeasedPagesModel", "valid", "(II)Z"⟩ ⟨"LeasedPagesModel", "valid", "(II)Z"⟩ ∈ lp_BW := lp_sl 41 rfl rfl
theorem bs_42 : Cond.selects "LeasedPagesModel" ⟨"LeasedPagesModel", "open", "(IIIIZ)I"⟩ ⟨"LeasedPagesModel", "open", "(IIIIZ)I"⟩ ∈ lp_BW := lp_sl 42 rfl rfl
theorem bs_43 : Cond.selects "LeasedPagesModel" ⟨"LeasedPagesModel", "ask", "(I)V"⟩ ⟨"LeasedPagesModel", "ask", "(I)V"⟩ ∈ lp_BW := lp_sl 43 rfl rfl
theorem nw_0 : Cond.methodLinkNest "LeasedPages" 20 ⟨"LeasedPages$Network", "<init>", "()V"⟩ "LeasedPages" ∈ lp_NW := List.mem_of_getElem? (i := 0) rfl
theorem nw_1 : Cond.fieldLinkNest "LeasedPages" 85 "LeasedPages$Network" "count" "I" "LeasedPages" ∈ lp_NW := List.mem_of_getElem? (i := 1) rfl
theorem nw_2 : Cond.methodLinkNest "LeasedPages$Server" 55 ⟨"LeasedPages$Line", "<init>", "()V"⟩ "LeasedPages" ∈ lp_NW := List.mem_of_getElem? (i := 2) rfl
theorem nw_3 : Cond.fieldLinkNest "LeasedPages$Server" 114 "LeasedPages$Line" "size" "I" "LeasedPages" ∈ lp_NW := List.mem_of_getElem? (i := 3) rfl
theorem nw_4 : Cond.fieldLinkNest "LeasedPages" 168 "LeasedPages$Line" "size" "I" "LeasedPages" ∈ lp_NW := List.mem_of_getElem? (i := 4) rfl
theorem nw_5 : Cond.fieldLinkNest "LeasedPages" 173 "LeasedPages$Server" "pages" "[[I" "LeasedPages" ∈ lp_NW := List.mem_of_getElem? (i := 5) rfl
theorem nw_6 : Cond.fieldLinkNest "LeasedPages" 164 "LeasedPages$Server" "lines" "[LLeasedPages$Line;" "LeasedPages" ∈ lp_NW := List.mem_of_getElem? (i := 6) rfl
theorem nw_7 : Cond.fieldLinkNest "LeasedPages" 177 "LeasedPages$Server" "up" "Z" "LeasedPages" ∈ lp_NW := List.mem_of_getElem? (i := 7) rfl
theorem nw_8 : Cond.fieldLinkNest "LeasedPages" 151 "LeasedPages$Server" "now" "I" "LeasedPages" ∈ lp_NW := List.mem_of_getElem? (i := 8) rfl
theorem nw_9 : Cond.methodLinkNest "LeasedPages$Client" 54 ⟨"LeasedPages$Copy", "<init>", "()V"⟩ "LeasedPages" ∈ lp_NW := List.mem_of_getElem? (i := 9) rfl
theorem nw_10 : Cond.fieldLinkNest "LeasedPages$Client" 84 "LeasedPages$Copy" "pages" "[I" "LeasedPages" ∈ lp_NW := List.mem_of_getElem? (i := 10) rfl
theorem nw_11 : Cond.fieldLinkNest "LeasedPages$Client" 101 "LeasedPages$Copy" "mode" "I" "LeasedPages" ∈ lp_NW := List.mem_of_getElem? (i := 11) rfl
theorem nw_12 : Cond.fieldLinkNest "LeasedPages$Client" 139 "LeasedPages$Copy" "validUntil" "I" "LeasedPages" ∈ lp_NW := List.mem_of_getElem? (i := 12) rfl
theorem nw_13 : Cond.fieldLinkNest "LeasedPages$Client" 104 "LeasedPages$Copy" "recalled" "Z" "LeasedPages" ∈ lp_NW := List.mem_of_getElem? (i := 13) rfl
theorem nw_14 : Cond.fieldLinkNest "LeasedPages$Client" 88 "LeasedPages$Copy" "lost" "Z" "LeasedPages" ∈ lp_NW := List.mem_of_getElem? (i := 14) rfl
theorem nw_15 : Cond.fieldLinkNest "LeasedPages" 155 "LeasedPages$Client" "writeCount" "I" "LeasedPages" ∈ lp_NW := List.mem_of_getElem? (i := 15) rfl
theorem nw_16 : Cond.fieldLinkNest "LeasedPages" 147 "LeasedPages$Client" "up" "Z" "LeasedPages" ∈ lp_NW := List.mem_of_getElem? (i := 16) rfl
theorem nw_17 : Cond.fieldLinkNest "LeasedPages" 137 "LeasedPages$Client" "now" "I" "LeasedPages" ∈ lp_NW := List.mem_of_getElem? (i := 17) rfl
theorem nw_18 : Cond.fieldLinkNest "LeasedPages" 51 "LeasedPages$Client" "open" "LLeasedPages$Request;" "LeasedPages" ∈ lp_NW := List.mem_of_getElem? (i := 18) rfl
theorem nw_19 : Cond.fieldLinkNest "LeasedPages$Reply" 19 "LeasedPages$Request" "mode" "I" "LeasedPages" ∈ lp_NW := List.mem_of_getElem? (i := 19) rfl
theorem nw_20 : Cond.fieldLinkNest "LeasedPages$Server" 145 "LeasedPages$Request" "mode" "I" "LeasedPages" ∈ lp_NW := List.mem_of_getElem? (i := 20) rfl
theorem nw_21 : Cond.fieldLinkNest "LeasedPages$Server" 124 "LeasedPages$Request" "claim" "Z" "LeasedPages" ∈ lp_NW := List.mem_of_getElem? (i := 21) rfl
theorem nw_22 : Cond.fieldLinkNest "LeasedPages$Server" 139 "LeasedPages$Request" "page" "I" "LeasedPages" ∈ lp_NW := List.mem_of_getElem? (i := 22) rfl
theorem nw_23 : Cond.fieldLinkNest "LeasedPages$Server" 142 "LeasedPages$Request" "value" "I" "LeasedPages" ∈ lp_NW := List.mem_of_getElem? (i := 23) rfl
theorem nw_24 : Cond.castable "[I" "java/lang/Cloneable" ∈ lp_NW := List.mem_of_getElem? (i := 24) rfl
theorem nw_25 : Cond.castable "LeasedPages$Request" "LeasedPages$Request" ∈ lp_NW := List.mem_of_getElem? (i := 25) rfl
theorem nw_26 : Cond.castable "LeasedPages$Reply" "LeasedPages$Reply" ∈ lp_NW := List.mem_of_getElem? (i := 26) rfl
theorem nw_27 : Cond.castable "LeasedPages$Reply" "LeasedPages$Message" ∈ lp_NW := List.mem_of_getElem? (i := 27) rfl
theorem nw_28 : Cond.castable "LeasedPages$Request" "LeasedPages$Message" ∈ lp_NW := List.mem_of_getElem? (i := 28) rfl
theorem ao_0 : FieldType.object "LeasedPages$Message" ∈ lp_AO := List.mem_of_getElem? (i := 0) rfl
theorem ao_1 : FieldType.array FieldType.int ∈ lp_AO := List.mem_of_getElem? (i := 1) rfl
theorem ao_2 : FieldType.object "LeasedPages$Reply" ∈ lp_AO := List.mem_of_getElem? (i := 2) rfl
theorem ao_3 : FieldType.object "LeasedPages$Line" ∈ lp_AO := List.mem_of_getElem? (i := 3) rfl
theorem ao_4 : FieldType.object "LeasedPages$Request" ∈ lp_AO := List.mem_of_getElem? (i := 4) rfl
theorem ao_5 : FieldType.object "LeasedPages$Client" ∈ lp_AO := List.mem_of_getElem? (i := 5) rfl
theorem ao_6 : FieldType.object "LeasedPages$Copy" ∈ lp_AO := List.mem_of_getElem? (i := 6) rfl
theorem ao_7 : FieldType.object "LeasedPages$Write" ∈ lp_AO := List.mem_of_getElem? (i := 7) rfl
theorem lp_in0 : ∀ w ∈ u_ws "LeasedPages" lp_T0 3, w ∈ lp_BW := List.forall_mem_cons.mpr ⟨bw_190, List.forall_mem_cons.mpr ⟨bw_192, List.forall_mem_cons.mpr ⟨bw_194, fun _ h => absurd h List.not_mem_nil⟩⟩⟩
theorem lp_in1 : ∀ w ∈ u_ws "LeasedPages$Network" lp_T1 2, w ∈ lp_BW := List.forall_mem_cons.mpr ⟨bw_40, List.forall_mem_cons.mpr ⟨bw_42, fun _ h => absurd h List.not_mem_nil⟩⟩
theorem lp_in2 : ∀ w ∈ u_ws "LeasedPages$Server" lp_T2 11, w ∈ lp_BW := List.forall_mem_cons.mpr ⟨bw_89, List.forall_mem_cons.mpr ⟨bw_91, List.forall_mem_cons.mpr ⟨bw_93, List.forall_mem_cons.mpr ⟨bw_95, List.forall_mem_cons.mpr ⟨bw_97, List.forall_mem_cons.mpr ⟨bw_99, List.forall_mem_cons.mpr ⟨bw_101, List.forall_mem_cons.mpr ⟨bw_103, List.forall_mem_cons.mpr ⟨bw_105, List.forall_mem_cons.mpr ⟨bw_107, List.forall_mem_cons.mpr ⟨bw_109, fun _ h => absurd h List.not_mem_nil⟩⟩⟩⟩⟩⟩⟩⟩⟩⟩⟩
theorem lp_in3 : ∀ w ∈ u_ws "LeasedPages$Line" lp_T3 2, w ∈ lp_BW := List.forall_mem_cons.mpr ⟨bw_68, List.forall_mem_cons.mpr ⟨bw_70, fun _ h => absurd h List.not_mem_nil⟩⟩
theorem lp_in4 : ∀ w ∈ u_ws "LeasedPages$Client" lp_T4 11, w ∈ lp_BW := List.forall_mem_cons.mpr ⟨bw_164, List.forall_mem_cons.mpr ⟨bw_166, List.forall_mem_cons.mpr ⟨bw_168, List.forall_mem_cons.mpr ⟨bw_170, List.forall_mem_cons.mpr ⟨bw_172, List.forall_mem_cons.mpr ⟨bw_174, List.forall_mem_cons.mpr ⟨bw_176, List.forall_mem_cons.mpr ⟨bw_178, List.forall_mem_cons.mpr ⟨bw_180, List.forall_mem_cons.mpr ⟨bw_182, List.forall_mem_cons.mpr ⟨bw_184, fun _ h => absurd h List.not_mem_nil⟩⟩⟩⟩⟩⟩⟩⟩⟩⟩⟩
theorem lp_in5 : ∀ w ∈ u_ws "LeasedPages$Copy" lp_T5 5, w ∈ lp_BW := List.forall_mem_cons.mpr ⟨bw_138, List.forall_mem_cons.mpr ⟨bw_140, List.forall_mem_cons.mpr ⟨bw_142, List.forall_mem_cons.mpr ⟨bw_144, List.forall_mem_cons.mpr ⟨bw_146, fun _ h => absurd h List.not_mem_nil⟩⟩⟩⟩⟩
theorem lp_in6 : ∀ w ∈ u_ws "LeasedPages$Message" lp_T6 4, w ∈ lp_BW := List.forall_mem_cons.mpr ⟨bw_498, List.forall_mem_cons.mpr ⟨bw_499, List.forall_mem_cons.mpr ⟨bw_500, List.forall_mem_cons.mpr ⟨bw_501, fun _ h => absurd h List.not_mem_nil⟩⟩⟩⟩
theorem lp_in7 : ∀ w ∈ u_ws "LeasedPages$Request" lp_T7 8, w ∈ lp_BW := List.forall_mem_cons.mpr ⟨bw_286, List.forall_mem_cons.mpr ⟨bw_288, List.forall_mem_cons.mpr ⟨bw_290, List.forall_mem_cons.mpr ⟨bw_292, List.forall_mem_cons.mpr ⟨bw_278, List.forall_mem_cons.mpr ⟨bw_280, List.forall_mem_cons.mpr ⟨bw_282, List.forall_mem_cons.mpr ⟨bw_284, fun _ h => absurd h List.not_mem_nil⟩⟩⟩⟩⟩⟩⟩⟩
theorem lp_in8 : ∀ w ∈ u_ws "LeasedPages$Reply" lp_T8 7, w ∈ lp_BW := List.forall_mem_cons.mpr ⟨bw_459, List.forall_mem_cons.mpr ⟨bw_460, List.forall_mem_cons.mpr ⟨bw_461, List.forall_mem_cons.mpr ⟨bw_462, List.forall_mem_cons.mpr ⟨bw_453, List.forall_mem_cons.mpr ⟨bw_455, List.forall_mem_cons.mpr ⟨bw_457, fun _ h => absurd h List.not_mem_nil⟩⟩⟩⟩⟩⟩⟩
theorem lp_in9 : ∀ w ∈ u_ws "LeasedPages$Write" lp_T9 3, w ∈ lp_BW := List.forall_mem_cons.mpr ⟨bw_340, List.forall_mem_cons.mpr ⟨bw_342, List.forall_mem_cons.mpr ⟨bw_344, fun _ h => absurd h List.not_mem_nil⟩⟩⟩
theorem lp_in10 : ∀ w ∈ u_ws "LeasedPagesModel" lp_T10 44, w ∈ lp_BW := List.forall_mem_cons.mpr ⟨bw_700, List.forall_mem_cons.mpr ⟨bw_702, List.forall_mem_cons.mpr ⟨bw_704, List.forall_mem_cons.mpr ⟨bw_706, List.forall_mem_cons.mpr ⟨bw_708, List.forall_mem_cons.mpr ⟨bw_710, List.forall_mem_cons.mpr ⟨bw_712, List.forall_mem_cons.mpr ⟨bw_714, List.forall_mem_cons.mpr ⟨bw_716, List.forall_mem_cons.mpr ⟨bw_718, List.forall_mem_cons.mpr ⟨bw_720, List.forall_mem_cons.mpr ⟨bw_722, List.forall_mem_cons.mpr ⟨bw_724, List.forall_mem_cons.mpr ⟨bw_726, List.forall_mem_cons.mpr ⟨bw_728, List.forall_mem_cons.mpr ⟨bw_730, List.forall_mem_cons.mpr ⟨bw_732, List.forall_mem_cons.mpr ⟨bw_734, List.forall_mem_cons.mpr ⟨bw_736, List.forall_mem_cons.mpr ⟨bw_738, List.forall_mem_cons.mpr ⟨bw_740, List.forall_mem_cons.mpr ⟨bw_742, List.forall_mem_cons.mpr ⟨bw_744, List.forall_mem_cons.mpr ⟨bw_746, List.forall_mem_cons.mpr ⟨bw_748, List.forall_mem_cons.mpr ⟨bw_750, List.forall_mem_cons.mpr ⟨bw_752, List.forall_mem_cons.mpr ⟨bw_754, List.forall_mem_cons.mpr ⟨bw_756, List.forall_mem_cons.mpr ⟨bw_758, List.forall_mem_cons.mpr ⟨bw_760, List.forall_mem_cons.mpr ⟨bw_762, List.forall_mem_cons.mpr ⟨bw_764, List.forall_mem_cons.mpr ⟨bw_766, List.forall_mem_cons.mpr ⟨bw_768, List.forall_mem_cons.mpr ⟨bw_770, List.forall_mem_cons.mpr ⟨bw_772, List.forall_mem_cons.mpr ⟨bw_774, List.forall_mem_cons.mpr ⟨bw_776, List.forall_mem_cons.mpr ⟨bw_778, List.forall_mem_cons.mpr ⟨bw_780, List.forall_mem_cons.mpr ⟨bw_782, List.forall_mem_cons.mpr ⟨bw_784, List.forall_mem_cons.mpr ⟨bw_786, fun _ h => absurd h List.not_mem_nil⟩⟩⟩⟩⟩⟩⟩⟩⟩⟩⟩⟩⟩⟩⟩⟩⟩⟩⟩⟩⟩⟩⟩⟩⟩⟩⟩⟩⟩⟩⟩⟩⟩⟩⟩⟩⟩⟩⟩⟩⟩⟩⟩⟩
theorem lp_cls {P : Nat → vw_C → Prop} (h0 : P 0 ("LeasedPages", lp_T0, 3)) (h1 : P 1 ("LeasedPages$Network", lp_T1, 2)) (h2 : P 2 ("LeasedPages$Server", lp_T2, 11)) (h3 : P 3 ("LeasedPages$Line", lp_T3, 2)) (h4 : P 4 ("LeasedPages$Client", lp_T4, 11)) (h5 : P 5 ("LeasedPages$Copy", lp_T5, 5)) (h6 : P 6 ("LeasedPages$Message", lp_T6, 4)) (h7 : P 7 ("LeasedPages$Request", lp_T7, 8)) (h8 : P 8 ("LeasedPages$Reply", lp_T8, 7)) (h9 : P 9 ("LeasedPages$Write", lp_T9, 3)) (h10 : P 10 ("LeasedPagesModel", lp_T10, 44)) : ∀ (ci : Nat) (r : vw_C), lp_CL[ci]? = some r → P ci r
  | 0, r, h => by cases h; exact h0
  | 1, r, h => by cases h; exact h1
  | 2, r, h => by cases h; exact h2
  | 3, r, h => by cases h; exact h3
  | 4, r, h => by cases h; exact h4
  | 5, r, h => by cases h; exact h5
  | 6, r, h => by cases h; exact h6
  | 7, r, h => by cases h; exact h7
  | 8, r, h => by cases h; exact h8
  | 9, r, h => by cases h; exact h9
  | 10, r, h => by cases h; exact h10
  | n + 11, r, h => by cases h
theorem lp_in : ∀ (ci : Nat) (r : vw_C), lp_CL[ci]? = some r → ∀ w ∈ u_ws r.1 r.2.1 r.2.2, w ∈ lp_BW := lp_cls (P := fun _ r => ∀ w ∈ u_ws r.1 r.2.1 r.2.2, w ∈ lp_BW) lp_in0 lp_in1 lp_in2 lp_in3 lp_in4 lp_in5 lp_in6 lp_in7 lp_in8 lp_in9 lp_in10
theorem lp_nm : ∀ (ci : Nat) (r : vw_C), lp_CL[ci]? = some r → ∀ a, a < r.2.2 → ∀ b, b < r.2.2 → a ≠ b → (r.2.1 a).2.1 ≠ (r.2.1 b).2.1 := lp_cls (P := fun _ r => ∀ a, a < r.2.2 → ∀ b, b < r.2.2 → a ≠ b → (r.2.1 a).2.1 ≠ (r.2.1 b).2.1) lp_nm0 lp_nm1 lp_nm2 lp_nm3 lp_nm4 lp_nm5 lp_nm6 lp_nm7 lp_nm8 lp_nm9 lp_nm10
end
section
/-! The picture of the heap: every cell made since the law began stands at base + its number. Ints and booleans in one
table, references in another, shapes (array of a kind and its length, or object of a class) in a third. -/
abbrev ha_V : Type := Int32 ⊕ Option Nat
/-- where the cell of number k stands: 0 is the law's script (an old cell), the others were made since, one behind another -/
def ha_a (b : Nat × Nat) (k : Nat) : Nat := if k = 0 then b.2 else b.1 + k
theorem ha_p (b : Nat × Nat) {k : Nat} (h : 0 < k) : ha_a b k = b.1 + k := if_neg (by omega)
theorem ha_0 (b : Nat × Nat) : ha_a b 0 = b.2 := rfl
def ha_v (b : Nat × Nat) : ha_V → Value
  | .inl x => .int x
  | .inr r => va_rf (r.map (ha_a b))
theorem ha_cat (b : Nat × Nat) (v : ha_V) : (ha_v b v).category = 1 := by
  rcases v with x | r
  · rfl
  · cases r <;> rfl
theorem ha_catS (b : Nat × Nat) (st : List ha_V) : ((st.map (ha_v b)).map fun v => v.category).sum = st.length := by
  induction st with
  | nil => rfl
  | cons v st ih => simp only [List.map_cons, List.sum_cons, ih, ha_cat, List.length_cons]; omega
abbrev ha_H : Type := (Nat → Nat → Int32) × (Nat → Nat → Option Nat) × (Nat → (Nat × Nat) ⊕ Nat) × Nat
def hp_I (h : ha_H) (a k : Nat) : Int32 := h.1 a k
def hp_R (h : ha_H) (a k : Nat) : Option Nat := h.2.1 a k
def hp_S (h : ha_H) (a : Nat) : (Nat × Nat) ⊕ Nat := h.2.2.1 a
def hp_n (h : ha_H) : Nat := h.2.2.2
def hp_u {α : Type} (f : Nat → Nat → α) (a k : Nat) (v : α) : Nat → Nat → α := fun x y => if x = a ∧ y = k then v else f x y
def hp_sI (h : ha_H) (a k : Nat) (v : Int32) : ha_H := (hp_u h.1 a k v, h.2.1, h.2.2.1, h.2.2.2)
def hp_sR (h : ha_H) (a k : Nat) (v : Option Nat) : ha_H := (h.1, hp_u h.2.1 a k v, h.2.2.1, h.2.2.2)
def hp_new (h : ha_H) (sh : (Nat × Nat) ⊕ Nat) : ha_H := (fun x y => if x = h.2.2.2 then 0 else h.1 x y, fun x y => if x = h.2.2.2 then none else h.2.1 x y, fun x => if x = h.2.2.2 then sh else h.2.2.1 x, h.2.2.2 + 1)
theorem hp_I_sI (h : ha_H) (a k x y : Nat) (v : Int32) : hp_I (hp_sI h a k v) x y = if x = a ∧ y = k then v else hp_I h x y := rfl
theorem hp_R_sI (h : ha_H) (a k x y : Nat) (v : Int32) : hp_R (hp_sI h a k v) x y = hp_R h x y := rfl
theorem hp_S_sI (h : ha_H) (a k x : Nat) (v : Int32) : hp_S (hp_sI h a k v) x = hp_S h x := rfl
theorem hp_n_sI (h : ha_H) (a k : Nat) (v : Int32) : hp_n (hp_sI h a k v) = hp_n h := rfl
theorem hp_R_sR (h : ha_H) (a k x y : Nat) (v : Option Nat) : hp_R (hp_sR h a k v) x y = if x = a ∧ y = k then v else hp_R h x y := rfl
theorem hp_I_sR (h : ha_H) (a k x y : Nat) (v : Option Nat) : hp_I (hp_sR h a k v) x y = hp_I h x y := rfl
theorem hp_S_sR (h : ha_H) (a k x : Nat) (v : Option Nat) : hp_S (hp_sR h a k v) x = hp_S h x := rfl
theorem hp_n_sR (h : ha_H) (a k : Nat) (v : Option Nat) : hp_n (hp_sR h a k v) = hp_n h := rfl
theorem hp_I_new (h : ha_H) (sh : (Nat × Nat) ⊕ Nat) (x y : Nat) : hp_I (hp_new h sh) x y = if x = hp_n h then 0 else hp_I h x y := rfl
theorem hp_R_new (h : ha_H) (sh : (Nat × Nat) ⊕ Nat) (x y : Nat) : hp_R (hp_new h sh) x y = if x = hp_n h then none else hp_R h x y := rfl
theorem hp_S_new (h : ha_H) (sh : (Nat × Nat) ⊕ Nat) (x : Nat) : hp_S (hp_new h sh) x = if x = hp_n h then sh else hp_S h x := rfl
theorem hp_n_new (h : ha_H) (sh : (Nat × Nat) ⊕ Nat) : hp_n (hp_new h sh) = hp_n h + 1 := rfl
/-- a field holds a reference -/
def hp_isR (T : u_T) (j : Nat) : Bool := !((T j).2.2.1 == "I" || (T j).2.2.1 == "Z")
def hp_V (b : Nat × Nat) (T : u_T) (h : ha_H) (a : Nat) : Nat → Value := fun j => if hp_isR T j = true then ha_v b (.inr (hp_R h a j)) else .int (hp_I h a j)
/-- what an array of kind t holds (kinds 0, 1: ints, booleans; from 2 on: references) -/
def hp_F (b : Nat × Nat) (t : Nat) (h : ha_H) (a : Nat) : Nat → Value := fun j => if t < 2 then .int (hp_I h a j) else ha_v b (.inr (hp_R h a j))
def hp_at (b : Nat × Nat) (D : va_G) (cA : Nat → ClassId) (h : ha_H) (k : Nat) (H : Heap) : Prop := match hp_S h k with
  | .inl q => H[ha_a b k]? = some (arrV (cA q.1) q.2 (hp_F b q.1 h k))
  | .inr ci => ∃ r : vw_C, lp_CL[ci]? = some r ∧ t_OB (ha_a b k) (D.1 ci) r.2.2 (D.2 ci) H (hp_V b r.2.1 h k)
def hp_ok (h : ha_H) (a : Nat) : Prop := 0 < a ∧ a < hp_n h
def hp_P (b : Nat × Nat) (D : va_G) (cA : Nat → ClassId) (h : ha_H) (H : Heap) : Prop := H.size = b.1 + hp_n h ∧ 0 < hp_n h ∧ ∀ k, hp_ok h k → hp_at b D cA h k H
theorem hp_at.kept {b : Nat × Nat} {D : va_G} {cA : Nat → ClassId} {h h' : ha_H} {k : Nat} {H H' : Heap} (hk : hp_at b D cA h k H) (hq : H'[ha_a b k]? = H[ha_a b k]?) (hI : ∀ j, hp_I h' k j = hp_I h k j) (hR : ∀ j, hp_R h' k j = hp_R h k j) (hS : hp_S h' k = hp_S h k) : hp_at b D cA h' k H' := by
  unfold hp_at at hk ⊢
  rw [hS]
  have e1 : ∀ T, hp_V b T h' k = hp_V b T h k := fun T => funext fun j => by unfold hp_V; rw [hI, hR]
  have e2 : ∀ t, hp_F b t h' k = hp_F b t h k := fun t => funext fun j => by unfold hp_F; rw [hI, hR]
  cases hs : hp_S h k with
  | inl q =>
    rw [hs] at hk
    dsimp only at hk ⊢
    rw [e2, hq]
    exact hk
  | inr ci =>
    rw [hs] at hk
    obtain ⟨r, h1, h2⟩ := hk
    refine ⟨r, h1, ?_⟩
    rw [e1]
    exact h2.kept hq
theorem hp_P.set {b : Nat × Nat} {D : va_G} {cA : Nat → ClassId} {h h' : ha_H} {a : Nat} {H H' : Heap} (hP : hp_P b D cA h H) (h0 : hp_ok h a) (z : H'.size = H.size) (oq : ∀ q : Nat, q ≠ ha_a b a → H'[q]? = H[q]?) (ha : hp_at b D cA h' a H') (hn : hp_n h' = hp_n h) (hI : ∀ k, k ≠ a → ∀ j, hp_I h' k j = hp_I h k j) (hR : ∀ k, k ≠ a → ∀ j, hp_R h' k j = hp_R h k j) (hS : ∀ k, hp_S h' k = hp_S h k) : hp_P b D cA h' H' := by
  refine ⟨by rw [z, hn]; exact hP.1, by rw [hn]; exact hP.2.1, fun k hk => ?_⟩
  unfold hp_ok at hk
  rw [hn] at hk
  by_cases e : k = a
  · subst e
    exact ha
  · exact (hP.2.2 k hk).kept (oq _ (by rw [ha_p b hk.1, ha_p b h0.1]; omega)) (hI k e) (hR k e) (hS k)
theorem hp_P.grow {b : Nat × Nat} {D : va_G} {cA : Nat → ClassId} {h h' : ha_H} {H H' : Heap} (hP : hp_P b D cA h H) (z : H'.size = H.size + 1) (oq : ∀ q : Nat, q < H.size → H'[q]? = H[q]?) (hn : hp_n h' = hp_n h + 1) (ha : hp_at b D cA h' (hp_n h) H') (hI : ∀ k, k < hp_n h → ∀ j, hp_I h' k j = hp_I h k j) (hR : ∀ k, k < hp_n h → ∀ j, hp_R h' k j = hp_R h k j) (hS : ∀ k, k < hp_n h → hp_S h' k = hp_S h k) : hp_P b D cA h' H' := by
  refine ⟨by rw [z, hn, hP.1]; omega, by omega, fun k hk => ?_⟩
  unfold hp_ok at hk
  rw [hn] at hk
  by_cases e : k = hp_n h
  · subst e
    exact ha
  · have hk' : k < hp_n h := by omega
    exact (hP.2.2 k ⟨hk.1, hk'⟩).kept (oq _ (by rw [hP.1, ha_p b hk.1]; omega)) (hI k hk') (hR k hk') (hS k hk')
theorem hp_P.push {b : Nat × Nat} {D : va_G} {cA : Nat → ClassId} {h : ha_H} {H H' : Heap} {sh : (Nat × Nat) ⊕ Nat} (hP : hp_P b D cA h H) (z : H'.size = H.size + 1) (oq : ∀ q : Nat, q < H.size → H'[q]? = H[q]?) (ha : hp_at b D cA (hp_new h sh) (hp_n h) H') : hp_P b D cA (hp_new h sh) H' :=
  hP.grow z oq rfl ha (fun k hk j => by rw [hp_I_new, if_neg (by omega)]) (fun k hk j => by rw [hp_R_new, if_neg (by omega)]) (fun k hk => by rw [hp_S_new, if_neg (by omega)])
/-- what the tables say: classes, array kinds, nest words -/
def hp_ty (cA : Nat → ClassId) : List (ClassId × FieldType) := lp_AT.mapIdx (fun t ty => (cA t, ty))
def hp_K (D : va_G) (cA : Nat → ClassId) (U : State) : Prop := va_K D lp_CL (hp_ty cA) U ∧ (∀ w ∈ lp_NW, va_Nw w U) ∧ (∀ t ∈ lp_AO, (Cond.arrayOver t).before #[] U = true) ∧ ∀ q ∈ lp_NC, va_Nc q.1 q.2 U
theorem hp_tyAt {cA : Nat → ClassId} {t : Nat} {ty : FieldType} (h : lp_AT[t]? = some ty) : (hp_ty cA)[t]? = some (cA t, ty) := by
  unfold hp_ty
  rw [List.getElem?_mapIdx, h]
  rfl
theorem hp_K.arr {D : va_G} {cA : Nat → ClassId} {U : State} (hK : hp_K D cA U) {t : Nat} {ty : FieldType} (h : lp_AT[t]? = some ty) : ArrOfT U (cA t) ty := (hK.1.2 t _ (hp_tyAt h)).1
theorem hp_K.ra {D : va_G} {cA : Nat → ClassId} {U : State} (hK : hp_K D cA U) {t : Nat} {ty : FieldType} (h : lp_AT[t]? = some ty) : va_RA U (cA t) ty := (hK.1.2 t _ (hp_tyAt h)).2
/-- the locals -/
def lo_L (b : Nat × Nat) (L : List (Option ha_V)) (ls : Array Slot) (nL : Nat) : Prop := ls.size = nL ∧ lv_wf ls ∧ ∀ (i : Nat) (v : ha_V), L[i]? = some (some v) → ls[i]? = some (.val (ha_v b v))
def lo_ps (b : Nat × Nat) (L : List (Option ha_V)) : List (Nat × Value) := (List.range L.length).filterMap (fun i => (L[i]?.join).map (fun v => (i, ha_v b v)))
theorem lo_in {b : Nat × Nat} {L : List (Option ha_V)} {i : Nat} {v : ha_V} (h : L[i]? = some (some v)) : (i, ha_v b v) ∈ lo_ps b L := by
  have hi : i < L.length := (List.getElem?_eq_some_iff.mp h).1
  refine List.mem_filterMap.mpr ⟨i, List.mem_range.mpr hi, ?_⟩
  rw [h]
  rfl
theorem lo_has {b : Nat × Nat} {L : List (Option ha_V)} {ls : Array Slot} {nL : Nat} (h : lo_L b L ls nL) : lv_has ls nL (lo_ps b L) := by
  refine ⟨h.1, h.2.1, fun q hq => ?_⟩
  obtain ⟨i, -, hi⟩ := List.mem_filterMap.mp hq
  cases hx : L[i]? with
  | none => rw [hx] at hi; cases hi
  | some o =>
    cases o with
    | none => rw [hx] at hi; cases hi
    | some v =>
      rw [hx] at hi
      cases hi
      exact h.2.2 i v hx
/-- a value is stored in a local -/
theorem lo_set {b : Nat × Nat} {L : List (Option ha_V)} {ls' : Array Slot} {nL i : Nat} {v : ha_V} (h : lv_has ls' nL ((i, ha_v b v) :: (lo_ps b L).filter (fun q => !(q.1 == i) && !(q.1 + 1 == i && q.2.category == 2)))) : lo_L b (L.set i (some v)) ls' nL := by
  refine ⟨h.1, h.2.1, fun j w hj => ?_⟩
  by_cases e : j = i
  · subst e
    have hl : j < L.length := by
      have := (List.getElem?_eq_some_iff.mp hj).1
      simpa using this
    rw [List.getElem?_set_self hl] at hj
    cases hj
    exact h.2.2 (j, ha_v b v) List.mem_cons_self
  · rw [List.getElem?_set_ne (Ne.symm e)] at hj
    refine h.2.2 (j, ha_v b w) (List.mem_cons_of_mem _ (List.mem_filter.mpr ⟨lo_in hj, ?_⟩))
    simp [e, ha_cat]
theorem lo_args (b : Nat × Nat) : ∀ (av : List ha_V) (n i : Nat) (v : ha_V), av[i]? = some v → (n + i, ha_v b v) ∈ lv_args n (av.map (ha_v b))
  | [], n, i, v, h => by simp at h
  | w :: av, n, i, v, h => by
    rw [List.map_cons, lv_args]
    rw [if_neg (by rw [ha_cat]; omega)]
    cases i with
    | zero =>
      rw [List.getElem?_cons_zero] at h
      cases h
      exact List.mem_cons_self
    | succ i =>
      rw [List.getElem?_cons_succ] at h
      have := lo_args b av (n + 1) i v h
      rw [show n + 1 + i = n + (i + 1) by omega] at this
      exact List.mem_cons_of_mem _ this
def lo_0 (av : List ha_V) (n : Nat) : List (Option ha_V) := av.map some ++ List.replicate (n - av.length) none
theorem lo_slen (b : Nat × Nat) (av : List ha_V) : (lg_sl (av.map (ha_v b))).length = av.length := by
  induction av with
  | nil => rfl
  | cons w av ih =>
    unfold lg_sl at ih ⊢
    rw [List.map_cons, List.flatMap_cons, if_neg (by rw [ha_cat]; omega), List.length_append, ih]
    simp only [List.length_cons, List.length_nil]
    omega
theorem lo_entry (b : Nat × Nat) (av : List ha_V) {n : Nat} (h : av.length ≤ n) : lo_L b (lo_0 av n) ((lg_sl (av.map (ha_v b)) ++ List.replicate (n - (lg_sl (av.map (ha_v b))).length) Slot.unset).toArray) n := by
  obtain ⟨h1, h2, h3⟩ := lv_entry (av.map (ha_v b)) (n := n) (by rw [lo_slen]; exact h)
  refine ⟨h1, h2, fun i v hi => ?_⟩
  unfold lo_0 at hi
  by_cases hl : i < av.length
  · rw [List.getElem?_append_left (by rw [List.length_map]; exact hl), List.getElem?_map] at hi
    cases hx : av[i]? with
    | none => rw [hx] at hi; cases hi
    | some w =>
      rw [hx] at hi
      cases hi
      have := h3 _ (lo_args b av 0 i v hx)
      rw [Nat.zero_add] at this
      exact this
  · rw [List.getElem?_append_right (by rw [List.length_map]; omega)] at hi
    have := List.eq_of_mem_replicate (List.mem_of_getElem? hi)
    cases this
/-- a class's field types, and what a new object's fields hold -/
theorem lp_ty : ∀ (ci : Nat) (r : vw_C), lp_CL[ci]? = some r → ∃ ty : Nat → FieldType, (∀ k, k < r.2.2 → parseFieldDescriptor (r.2.1 k).2.2.1 = some (ty k)) ∧ ∀ k, k < r.2.2 → defaultValue (ty k) = if hp_isR r.2.1 k = true then .null else .int 0 :=
  lp_cls (P := fun _ r => ∃ ty : Nat → FieldType, (∀ k, k < r.2.2 → parseFieldDescriptor (r.2.1 k).2.2.1 = some (ty k)) ∧ ∀ k, k < r.2.2 → defaultValue (ty k) = if hp_isR r.2.1 k = true then .null else .int 0) ⟨lp_y0, lp_ty0, by decide +kernel⟩ ⟨lp_y1, lp_ty1, by decide +kernel⟩ ⟨lp_y2, lp_ty2, by decide +kernel⟩ ⟨lp_y3, lp_ty3, by decide +kernel⟩ ⟨lp_y4, lp_ty4, by decide +kernel⟩ ⟨lp_y5, lp_ty5, by decide +kernel⟩ ⟨lp_y6, lp_ty6, by decide +kernel⟩ ⟨lp_y7, lp_ty7, by decide +kernel⟩ ⟨lp_y8, lp_ty8, by decide +kernel⟩ ⟨lp_y9, lp_ty9, by decide +kernel⟩ ⟨lp_y10, lp_ty10, by decide +kernel⟩
end
section
/-! A method's walk over the picture: rn_W says that from this place the method comes to its end with 'post'; rn_M is its contract. -/
abbrev mt_X : Type := MethodName × ByteArray × Nat × Option FieldType
def rn_ws (X : mt_X) : List Cond := Cond.code X.1 X.2.1 X.2.2.1 X.2.2.2 :: lp_BW
abbrev mt_G : Type := Launch × Nat × (Nat → Int32)
def rn_R (z : Nat × Nat × Nat) : Room := { frames := z.1, cells := z.2.1, slots := z.2.2, locals := 40 * z.1 + 6 }
def rn_Q (b : Nat × Nat) (D : va_G) (cA : Nat → ClassId) (post : Option ha_V → ha_H → Prop) : Array Value → State → Outcome → State → Prop := fun _ st oc t => (∃ (r : Option ha_V) (h' : ha_H), oc = .returned (r.map (ha_v b)) ∧ post r h' ∧ hp_P b D cA h' t.heap) ∧ va_F (fun q => b.1 < q) st t
def rn_P (G : mt_G) (b : Nat × Nat) (D : va_G) (cA : Nat → ClassId) (h : ha_H) (U : State) : Prop := hp_P b D cA h U.heap ∧ hp_K D cA U ∧ va_X b.2 G.2.1 G.2.2 U U.heap ∧ b.2 ≤ b.1
def rn_M (G : mt_G) (X : mt_X) (z : Nat × Nat × Nat) (av : List ha_V) (h : ha_H) (post : Option ha_V → ha_H → Prop) : Prop := ∀ (b : Nat × Nat) (D : va_G) (cA : Nat → ClassId), Met G.1 X.1 (rn_ws X) (rn_R z) (va_Pc (av.map (ha_v b)) (rn_P G b D cA h)) (rn_Q b D cA post) z.2.1 z.2.2 (fun q => b.1 < q)
def cx_F (G : mt_G) (X : mt_X) (b : Nat × Nat) (D : va_G) (cA : Nat → ClassId) (p : Program) (s : State) (m : MethodId) (args : Array Value) (meth : Method) (c : Code) : Prop :=
  p.tables.exec = Jvm.exec ∧ c.code = X.2.1 ∧ c.maxLocals = X.2.2.1 ∧ meth.sig.returnType = X.2.2.2 ∧ meth.locks = false ∧ (∀ w ∈ rn_ws X, w.before args s = true) ∧ s.vm.findClass X.1.cls = some m.cls ∧ meth.name = X.1.name ∧ hp_K D cA s ∧ b.1 < s.heap.size ∧ va_X b.2 G.2.1 G.2.2 s s.heap ∧ b.2 ≤ b.1
def rn_W (G : mt_G) (X : mt_X) (z : Nat × Nat × Nat) (rc rs pc : Nat) (L : List (Option ha_V)) (st : List ha_V) (h : ha_H) (post : Option ha_V → ha_H → Prop) : Prop :=
  ∀ (b : Nat × Nat) (D : va_G) (cA : Nat → ClassId) (p : Program) (e : Env) (s : State) (m : MethodId) (args : Array Value) (below : List Frame) (meth : Method) (c : Code), cx_F G X b D cA p s m args meth c → ∀ (H : Heap) (locs : List Loc) (ls : Array Slot) (cells slots : Nat), hp_P b D cA h H → va_S (fun q => b.1 < q) s.heap H locs → lo_L b L ls X.2.2.1 → cells + rc = z.2.1 → slots + rs = z.2.2 →
    W p G.1 e (rn_R z) s m args below meth c H locs cells slots (MQ below (rn_Q b D cA post) args s z.2.1 z.2.2 (fun q => b.1 < q)) (F0 m pc ls (st.map (ha_v b)))
theorem rn_of {G : mt_G} {X : mt_X} {z : Nat × Nat × Nat} {av : List ha_V} {h : ha_H} {post : Option ha_V → ha_H → Prop} (hy : plainName X.1.cls = true) (hn : av.length ≤ X.2.2.1) (k : rn_W G X z z.2.1 z.2.2 0 (lo_0 av X.2.2.1) [] h post) : rn_M G X z av h post := by
  intro b D cA
  refine Met.ofW (cc := X.2.1) (maxL := X.2.2.1) (ret := X.2.2.2) hy rfl ?_
  intro p e s m args below meth c s₁ B hml hv
  obtain ⟨rfl, hP, hK, hX, h2⟩ := hv
  rw [lg_entry_eq]
  exact k b D cA p e s m _ below meth c ⟨B.exec, B.bytes, hml, B.returns, B.notSynchronized, atoms_spec (ws := rn_ws X) B.pre, findClass_of_methodNamed B.named, (name_of_methodNamed B.named B.method).1, hK, by rw [hP.1]; have := hP.2.1; omega, hX, h2⟩ s.heap [] _ 0 0 hP va_S.rf (lo_entry b av hn) (by omega) (by omega)
section RW
variable {G : mt_G} {X : mt_X} {z : Nat × Nat × Nat} {rc rs pc : Nat} {L L' : List (Option ha_V)} {st : List ha_V} {h : ha_H} {post : Option ha_V → ha_H → Prop}
theorem rw_iconst {n : Int} {x : Int32} (hd : decode X.2.1 pc = .ok (.iconst n, 1)) (hx : Int32.ofInt n = x) (k : rn_W G X z rc rs (pc + 1) L (.inl x :: st) h post) : rn_W G X z rc rs pc L st h post := by
  intro b D cA p e s m args below meth c F H locs ls cells slots hP hS hL hc hs
  exact lv_iconst F.1 F.2.1 hd hx (k _ _ _ _ _ _ _ _ _ _ _ F _ _ _ _ _ hP hS hL hc hs)
theorem rw_bipush {n : Int} {x : Int32} (hd : decode X.2.1 pc = .ok (.bipush n, 2)) (hx : (Int8.ofInt n).toInt32 = x) (k : rn_W G X z rc rs (pc + 2) L (.inl x :: st) h post) : rn_W G X z rc rs pc L st h post := by
  intro b D cA p e s m args below meth c F H locs ls cells slots hP hS hL hc hs
  exact lv_bipush F.1 F.2.1 hd hx (k _ _ _ _ _ _ _ _ _ _ _ F _ _ _ _ _ hP hS hL hc hs)
theorem rw_sipush {n : Int} {x : Int32} (hd : decode X.2.1 pc = .ok (.sipush n, 3)) (hx : (Int16.ofInt n).toInt32 = x) (k : rn_W G X z rc rs (pc + 3) L (.inl x :: st) h post) : rn_W G X z rc rs pc L st h post := by
  intro b D cA p e s m args below meth c F H locs ls cells slots hP hS hL hc hs
  exact lv_sipush F.1 F.2.1 hd hx (k _ _ _ _ _ _ _ _ _ _ _ F _ _ _ _ _ hP hS hL hc hs)
theorem rw_ldc {idx : Nat} {x : Int32} (hd : decode X.2.1 pc = .ok (.ldc idx, 2)) (hw : Cond.constant X.1.cls idx x ∈ lp_BW) (k : rn_W G X z rc rs (pc + 2) L (.inl x :: st) h post) : rn_W G X z rc rs pc L st h post := by
  intro b D cA p e s m args below meth c F H locs ls cells slots hP hS hL hc hs
  exact lv_ldc F.1 F.2.1 F.2.2.2.2.2.2.1 (F.2.2.2.2.2.1 _ (List.mem_cons_of_mem _ hw)) hd (k _ _ _ _ _ _ _ _ _ _ _ F _ _ _ _ _ hP hS hL hc hs)
theorem rw_null  (hd : decode X.2.1 pc = .ok (.aconst_null, 1)) (k : rn_W G X z rc rs (pc + 1) L (.inr none :: st) h post) : rn_W G X z rc rs pc L st h post := by
  intro b D cA p e s m args below meth c F H locs ls cells slots hP hS hL hc hs
  exact lv_null F.1 F.2.1 hd (k _ _ _ _ _ _ _ _ _ _ _ F _ _ _ _ _ hP hS hL hc hs)
theorem rw_iload_n {i : Fin 4} {x : Int32} (hd : decode X.2.1 pc = .ok (.iload_n i, 1)) (hv : L[(i : Nat)]? = some (some (.inl x))) (k : rn_W G X z rc rs (pc + 1) L (.inl x :: st) h post) : rn_W G X z rc rs pc L st h post := by
  intro b D cA p e s m args below meth c F H locs ls cells slots hP hS hL hc hs
  exact lv_iload_n F.1 F.2.1 hd rfl (hL.2.2 _ _ hv) (k _ _ _ _ _ _ _ _ _ _ _ F _ _ _ _ _ hP hS hL hc hs)
theorem rw_iload {i : Nat} {x : Int32} (hd : decode X.2.1 pc = .ok (.iload i, 2)) (hv : L[i]? = some (some (.inl x))) (k : rn_W G X z rc rs (pc + 2) L (.inl x :: st) h post) : rn_W G X z rc rs pc L st h post := by
  intro b D cA p e s m args below meth c F H locs ls cells slots hP hS hL hc hs
  exact lv_iload F.1 F.2.1 hd (hL.2.2 _ _ hv) (k _ _ _ _ _ _ _ _ _ _ _ F _ _ _ _ _ hP hS hL hc hs)
theorem rw_aload_n {i : Fin 4} {r : Option Nat} (hd : decode X.2.1 pc = .ok (.aload_n i, 1)) (hv : L[(i : Nat)]? = some (some (.inr r))) (k : rn_W G X z rc rs (pc + 1) L (.inr r :: st) h post) : rn_W G X z rc rs pc L st h post := by
  intro b D cA p e s m args below meth c F H locs ls cells slots hP hS hL hc hs
  cases r with
  | none => exact lv_aload_nN F.1 F.2.1 hd rfl (hL.2.2 _ _ hv) (k _ _ _ _ _ _ _ _ _ _ _ F _ _ _ _ _ hP hS hL hc hs)
  | some a => exact lv_aload_n F.1 F.2.1 hd rfl (hL.2.2 _ _ hv) (k _ _ _ _ _ _ _ _ _ _ _ F _ _ _ _ _ hP hS hL hc hs)
theorem rw_aload {i : Nat} {r : Option Nat} (hd : decode X.2.1 pc = .ok (.aload i, 2)) (hv : L[i]? = some (some (.inr r))) (k : rn_W G X z rc rs (pc + 2) L (.inr r :: st) h post) : rn_W G X z rc rs pc L st h post := by
  intro b D cA p e s m args below meth c F H locs ls cells slots hP hS hL hc hs
  cases r with
  | none => exact lv_aloadN F.1 F.2.1 hd (hL.2.2 _ _ hv) (k _ _ _ _ _ _ _ _ _ _ _ F _ _ _ _ _ hP hS hL hc hs)
  | some a => exact lv_aload F.1 F.2.1 hd (hL.2.2 _ _ hv) (k _ _ _ _ _ _ _ _ _ _ _ F _ _ _ _ _ hP hS hL hc hs)
theorem rw_istore_n {i : Fin 4} {x : Int32} (hd : decode X.2.1 pc = .ok (.istore_n i, 1)) (hi : (i : Nat) < X.2.2.1) (he : L.set i (some (.inl x)) = L') (k : rn_W G X z rc rs (pc + 1) L' st h post) : rn_W G X z rc rs pc L (.inl x :: st) h post := by
  intro b D cA p e s m args below meth c F H locs ls cells slots hP hS hL hc hs
  subst he
  exact lv_istore_n F.1 F.2.1 hd rfl (lo_has hL) hi rfl (fun ls' h' => k _ _ _ _ _ _ _ _ _ _ _ F _ _ _ _ _ hP hS (lo_set h') hc hs)
theorem rw_istore {i : Nat} {x : Int32} (hd : decode X.2.1 pc = .ok (.istore i, 2)) (hi : i < X.2.2.1) (he : L.set i (some (.inl x)) = L') (k : rn_W G X z rc rs (pc + 2) L' st h post) : rn_W G X z rc rs pc L (.inl x :: st) h post := by
  intro b D cA p e s m args below meth c F H locs ls cells slots hP hS hL hc hs
  subst he
  exact lv_istore F.1 F.2.1 hd (lo_has hL) hi rfl (fun ls' h' => k _ _ _ _ _ _ _ _ _ _ _ F _ _ _ _ _ hP hS (lo_set h') hc hs)
theorem rw_astore_n {i : Fin 4} {r : Option Nat} (hd : decode X.2.1 pc = .ok (.astore_n i, 1)) (hi : (i : Nat) < X.2.2.1) (he : L.set i (some (.inr r)) = L') (k : rn_W G X z rc rs (pc + 1) L' st h post) : rn_W G X z rc rs pc L (.inr r :: st) h post := by
  intro b D cA p e s m args below meth c F H locs ls cells slots hP hS hL hc hs
  subst he
  cases r with
  | none => exact lv_astore_nN F.1 F.2.1 hd rfl (lo_has hL) hi rfl (fun ls' h' => k _ _ _ _ _ _ _ _ _ _ _ F _ _ _ _ _ hP hS (lo_set (v := .inr none) h') hc hs)
  | some a => exact lv_astore_n F.1 F.2.1 hd rfl (lo_has hL) hi rfl (fun ls' h' => k _ _ _ _ _ _ _ _ _ _ _ F _ _ _ _ _ hP hS (lo_set (v := .inr (some a)) h') hc hs)
theorem rw_astore {i : Nat} {r : Option Nat} (hd : decode X.2.1 pc = .ok (.astore i, 2)) (hi : i < X.2.2.1) (he : L.set i (some (.inr r)) = L') (k : rn_W G X z rc rs (pc + 2) L' st h post) : rn_W G X z rc rs pc L (.inr r :: st) h post := by
  intro b D cA p e s m args below meth c F H locs ls cells slots hP hS hL hc hs
  subst he
  cases r with
  | none => exact lv_astoreN F.1 F.2.1 hd (lo_has hL) hi rfl (fun ls' h' => k _ _ _ _ _ _ _ _ _ _ _ F _ _ _ _ _ hP hS (lo_set (v := .inr none) h') hc hs)
  | some a => exact lv_astore F.1 F.2.1 hd (lo_has hL) hi rfl (fun ls' h' => k _ _ _ _ _ _ _ _ _ _ _ F _ _ _ _ _ hP hS (lo_set (v := .inr (some a)) h') hc hs)
theorem rw_iinc {i : Nat} {n : Int} {x y : Int32} (hd : decode X.2.1 pc = .ok (.iinc i n, 3)) (hi : i < X.2.2.1) (hv : L[i]? = some (some (.inl x))) (hy : x + Int32.ofInt n = y) (he : L.set i (some (.inl y)) = L') (k : rn_W G X z rc rs (pc + 3) L' st h post) : rn_W G X z rc rs pc L st h post := by
  intro b D cA p e s m args below meth c F H locs ls cells slots hP hS hL hc hs
  subst he
  obtain ⟨j, hj⟩ := List.getElem?_of_mem (lo_in (b := b) hv)
  exact lv_iinc (k := j) F.1 F.2.1 hd (lo_has hL) hj hy hi rfl (fun ls' h' => k _ _ _ _ _ _ _ _ _ _ _ F _ _ _ _ _ hP hS (lo_set (v := .inl y) h') hc hs)
theorem rw_iadd {x y v : Int32} (hd : decode X.2.1 pc = .ok (.iadd, 1)) (hv : x + y = v) (k : rn_W G X z rc rs (pc + 1) L (.inl v :: st) h post) : rn_W G X z rc rs pc L (.inl y :: .inl x :: st) h post := by
  intro b D cA p e s m args below meth c F H locs ls cells slots hP hS hL hc hs
  subst hv
  exact lv_iadd F.1 F.2.1 hd (k _ _ _ _ _ _ _ _ _ _ _ F _ _ _ _ _ hP hS hL hc hs)
theorem rw_isub {x y v : Int32} (hd : decode X.2.1 pc = .ok (.isub, 1)) (hv : x - y = v) (k : rn_W G X z rc rs (pc + 1) L (.inl v :: st) h post) : rn_W G X z rc rs pc L (.inl y :: .inl x :: st) h post := by
  intro b D cA p e s m args below meth c F H locs ls cells slots hP hS hL hc hs
  subst hv
  exact lv_isub F.1 F.2.1 hd (k _ _ _ _ _ _ _ _ _ _ _ F _ _ _ _ _ hP hS hL hc hs)
theorem rw_imul {x y v : Int32} (hd : decode X.2.1 pc = .ok (.imul, 1)) (hv : x * y = v) (k : rn_W G X z rc rs (pc + 1) L (.inl v :: st) h post) : rn_W G X z rc rs pc L (.inl y :: .inl x :: st) h post := by
  intro b D cA p e s m args below meth c F H locs ls cells slots hP hS hL hc hs
  subst hv
  exact lv_imul F.1 F.2.1 hd (k _ _ _ _ _ _ _ _ _ _ _ F _ _ _ _ _ hP hS hL hc hs)
theorem rw_iand {x y v : Int32} (hd : decode X.2.1 pc = .ok (.iand, 1)) (hv : x &&& y = v) (k : rn_W G X z rc rs (pc + 1) L (.inl v :: st) h post) : rn_W G X z rc rs pc L (.inl y :: .inl x :: st) h post := by
  intro b D cA p e s m args below meth c F H locs ls cells slots hP hS hL hc hs
  subst hv
  exact lv_iand F.1 F.2.1 hd (k _ _ _ _ _ _ _ _ _ _ _ F _ _ _ _ _ hP hS hL hc hs)
theorem rw_idiv {x y v : Int32} (hd : decode X.2.1 pc = .ok (.idiv, 1)) (hne : ¬ y = 0) (hv : x / y = v) (k : rn_W G X z rc rs (pc + 1) L (.inl v :: st) h post) : rn_W G X z rc rs pc L (.inl y :: .inl x :: st) h post := by
  intro b D cA p e s m args below meth c F H locs ls cells slots hP hS hL hc hs
  subst hv
  exact lv_idiv F.1 F.2.1 hd hne (k _ _ _ _ _ _ _ _ _ _ _ F _ _ _ _ _ hP hS hL hc hs)
theorem rw_irem {x y v : Int32} (hd : decode X.2.1 pc = .ok (.irem, 1)) (hne : ¬ y = 0) (hv : x - x / y * y = v) (k : rn_W G X z rc rs (pc + 1) L (.inl v :: st) h post) : rn_W G X z rc rs pc L (.inl y :: .inl x :: st) h post := by
  intro b D cA p e s m args below meth c F H locs ls cells slots hP hS hL hc hs
  subst hv
  exact lv_irem F.1 F.2.1 hd hne (k _ _ _ _ _ _ _ _ _ _ _ F _ _ _ _ _ hP hS hL hc hs)
theorem rw_dup {v : ha_V} (hd : decode X.2.1 pc = .ok (.dup, 1)) (k : rn_W G X z rc rs (pc + 1) L (v :: v :: st) h post) : rn_W G X z rc rs pc L (v :: st) h post := by
  intro b D cA p e s m args below meth c F H locs ls cells slots hP hS hL hc hs
  exact lv_dup F.1 F.2.1 hd (ha_cat b v) (k _ _ _ _ _ _ _ _ _ _ _ F _ _ _ _ _ hP hS hL hc hs)
theorem rw_pop {v : ha_V} (hd : decode X.2.1 pc = .ok (.pop, 1)) (k : rn_W G X z rc rs (pc + 1) L st h post) : rn_W G X z rc rs pc L (v :: st) h post := by
  intro b D cA p e s m args below meth c F H locs ls cells slots hP hS hL hc hs
  exact lv_pop F.1 F.2.1 hd (ha_cat b v) (k _ _ _ _ _ _ _ _ _ _ _ F _ _ _ _ _ hP hS hL hc hs)
theorem rw_dup2 {v w : ha_V} (hd : decode X.2.1 pc = .ok (.dup2, 1)) (k : rn_W G X z rc rs (pc + 1) L (v :: w :: v :: w :: st) h post) : rn_W G X z rc rs pc L (v :: w :: st) h post := by
  intro b D cA p e s m args below meth c F H locs ls cells slots hP hS hL hc hs
  exact lv_dup2_11 F.1 F.2.1 hd (ha_cat b v) (ha_cat b w) (k _ _ _ _ _ _ _ _ _ _ _ F _ _ _ _ _ hP hS hL hc hs)
theorem rw_ifeq {x : Int32} {off : Int} {tgt : Nat} (hd : decode X.2.1 pc = .ok (.ifCond .eq off, 3)) (ht : (pc : Int) + off = (tgt : Int)) (kt : x = 0 → rn_W G X z rc rs tgt L st h post) (kf : ¬ x = 0 → rn_W G X z rc rs (pc + 3) L st h post) : rn_W G X z rc rs pc L (.inl x :: st) h post := by
  intro b D cA p e s m args below meth c F H locs ls cells slots hP hS hL hc hs
  exact lv_if_eq F.1 F.2.1 hd ht (fun hx => kt hx _ _ _ _ _ _ _ _ _ _ _ F _ _ _ _ _ hP hS hL hc hs) (fun hx => kf hx _ _ _ _ _ _ _ _ _ _ _ F _ _ _ _ _ hP hS hL hc hs)
theorem rw_iflt {x : Int32} {off : Int} {tgt : Nat} (hd : decode X.2.1 pc = .ok (.ifCond .lt off, 3)) (ht : (pc : Int) + off = (tgt : Int)) (kt : x < 0 → rn_W G X z rc rs tgt L st h post) (kf : ¬ x < 0 → rn_W G X z rc rs (pc + 3) L st h post) : rn_W G X z rc rs pc L (.inl x :: st) h post := by
  intro b D cA p e s m args below meth c F H locs ls cells slots hP hS hL hc hs
  exact lv_if_lt F.1 F.2.1 hd ht (fun hx => kt hx _ _ _ _ _ _ _ _ _ _ _ F _ _ _ _ _ hP hS hL hc hs) (fun hx => kf hx _ _ _ _ _ _ _ _ _ _ _ F _ _ _ _ _ hP hS hL hc hs)
theorem rw_ifgt {x : Int32} {off : Int} {tgt : Nat} (hd : decode X.2.1 pc = .ok (.ifCond .gt off, 3)) (ht : (pc : Int) + off = (tgt : Int)) (kt : 0 < x → rn_W G X z rc rs tgt L st h post) (kf : ¬ 0 < x → rn_W G X z rc rs (pc + 3) L st h post) : rn_W G X z rc rs pc L (.inl x :: st) h post := by
  intro b D cA p e s m args below meth c F H locs ls cells slots hP hS hL hc hs
  exact lv_if_gt F.1 F.2.1 hd ht (fun hx => kt hx _ _ _ _ _ _ _ _ _ _ _ F _ _ _ _ _ hP hS hL hc hs) (fun hx => kf hx _ _ _ _ _ _ _ _ _ _ _ F _ _ _ _ _ hP hS hL hc hs)
theorem rw_ifle {x : Int32} {off : Int} {tgt : Nat} (hd : decode X.2.1 pc = .ok (.ifCond .le off, 3)) (ht : (pc : Int) + off = (tgt : Int)) (kt : x ≤ 0 → rn_W G X z rc rs tgt L st h post) (kf : ¬ x ≤ 0 → rn_W G X z rc rs (pc + 3) L st h post) : rn_W G X z rc rs pc L (.inl x :: st) h post := by
  intro b D cA p e s m args below meth c F H locs ls cells slots hP hS hL hc hs
  exact lv_if_le F.1 F.2.1 hd ht (fun hx => kt hx _ _ _ _ _ _ _ _ _ _ _ F _ _ _ _ _ hP hS hL hc hs) (fun hx => kf hx _ _ _ _ _ _ _ _ _ _ _ F _ _ _ _ _ hP hS hL hc hs)
theorem rw_icmpeq {x y : Int32} {off : Int} {tgt : Nat} (hd : decode X.2.1 pc = .ok (.if_icmp .eq off, 3)) (ht : (pc : Int) + off = (tgt : Int)) (kt : x = y → rn_W G X z rc rs tgt L st h post) (kf : ¬ x = y → rn_W G X z rc rs (pc + 3) L st h post) : rn_W G X z rc rs pc L (.inl y :: .inl x :: st) h post := by
  intro b D cA p e s m args below meth c F H locs ls cells slots hP hS hL hc hs
  exact lv_icmp_eq F.1 F.2.1 hd ht (fun hx => kt hx _ _ _ _ _ _ _ _ _ _ _ F _ _ _ _ _ hP hS hL hc hs) (fun hx => kf hx _ _ _ _ _ _ _ _ _ _ _ F _ _ _ _ _ hP hS hL hc hs)
theorem rw_icmplt {x y : Int32} {off : Int} {tgt : Nat} (hd : decode X.2.1 pc = .ok (.if_icmp .lt off, 3)) (ht : (pc : Int) + off = (tgt : Int)) (kt : x < y → rn_W G X z rc rs tgt L st h post) (kf : ¬ x < y → rn_W G X z rc rs (pc + 3) L st h post) : rn_W G X z rc rs pc L (.inl y :: .inl x :: st) h post := by
  intro b D cA p e s m args below meth c F H locs ls cells slots hP hS hL hc hs
  exact lv_icmp_lt F.1 F.2.1 hd ht (fun hx => kt hx _ _ _ _ _ _ _ _ _ _ _ F _ _ _ _ _ hP hS hL hc hs) (fun hx => kf hx _ _ _ _ _ _ _ _ _ _ _ F _ _ _ _ _ hP hS hL hc hs)
theorem rw_icmpgt {x y : Int32} {off : Int} {tgt : Nat} (hd : decode X.2.1 pc = .ok (.if_icmp .gt off, 3)) (ht : (pc : Int) + off = (tgt : Int)) (kt : y < x → rn_W G X z rc rs tgt L st h post) (kf : ¬ y < x → rn_W G X z rc rs (pc + 3) L st h post) : rn_W G X z rc rs pc L (.inl y :: .inl x :: st) h post := by
  intro b D cA p e s m args below meth c F H locs ls cells slots hP hS hL hc hs
  exact lv_icmp_gt F.1 F.2.1 hd ht (fun hx => kt hx _ _ _ _ _ _ _ _ _ _ _ F _ _ _ _ _ hP hS hL hc hs) (fun hx => kf hx _ _ _ _ _ _ _ _ _ _ _ F _ _ _ _ _ hP hS hL hc hs)
theorem rw_icmple {x y : Int32} {off : Int} {tgt : Nat} (hd : decode X.2.1 pc = .ok (.if_icmp .le off, 3)) (ht : (pc : Int) + off = (tgt : Int)) (kt : x ≤ y → rn_W G X z rc rs tgt L st h post) (kf : ¬ x ≤ y → rn_W G X z rc rs (pc + 3) L st h post) : rn_W G X z rc rs pc L (.inl y :: .inl x :: st) h post := by
  intro b D cA p e s m args below meth c F H locs ls cells slots hP hS hL hc hs
  exact lv_icmp_le F.1 F.2.1 hd ht (fun hx => kt hx _ _ _ _ _ _ _ _ _ _ _ F _ _ _ _ _ hP hS hL hc hs) (fun hx => kf hx _ _ _ _ _ _ _ _ _ _ _ F _ _ _ _ _ hP hS hL hc hs)
theorem rw_ifne {x : Int32} {off : Int} {tgt : Nat} (hd : decode X.2.1 pc = .ok (.ifCond .ne off, 3)) (ht : (pc : Int) + off = (tgt : Int)) (kt : ¬ x = 0 → rn_W G X z rc rs tgt L st h post) (kf : x = 0 → rn_W G X z rc rs (pc + 3) L st h post) : rn_W G X z rc rs pc L (.inl x :: st) h post := by
  intro b D cA p e s m args below meth c F H locs ls cells slots hP hS hL hc hs
  exact lv_if_ne F.1 F.2.1 hd ht (fun hx => kt hx _ _ _ _ _ _ _ _ _ _ _ F _ _ _ _ _ hP hS hL hc hs) (fun hx => kf hx _ _ _ _ _ _ _ _ _ _ _ F _ _ _ _ _ hP hS hL hc hs)
theorem rw_icmpne {x y : Int32} {off : Int} {tgt : Nat} (hd : decode X.2.1 pc = .ok (.if_icmp .ne off, 3)) (ht : (pc : Int) + off = (tgt : Int)) (kt : ¬ x = y → rn_W G X z rc rs tgt L st h post) (kf : x = y → rn_W G X z rc rs (pc + 3) L st h post) : rn_W G X z rc rs pc L (.inl y :: .inl x :: st) h post := by
  intro b D cA p e s m args below meth c F H locs ls cells slots hP hS hL hc hs
  exact lv_icmp_ne F.1 F.2.1 hd ht (fun hx => kt hx _ _ _ _ _ _ _ _ _ _ _ F _ _ _ _ _ hP hS hL hc hs) (fun hx => kf hx _ _ _ _ _ _ _ _ _ _ _ F _ _ _ _ _ hP hS hL hc hs)
theorem rw_ifge {x : Int32} {off : Int} {tgt : Nat} (hd : decode X.2.1 pc = .ok (.ifCond .ge off, 3)) (ht : (pc : Int) + off = (tgt : Int)) (kt : 0 ≤ x → rn_W G X z rc rs tgt L st h post) (kf : ¬ 0 ≤ x → rn_W G X z rc rs (pc + 3) L st h post) : rn_W G X z rc rs pc L (.inl x :: st) h post := by
  intro b D cA p e s m args below meth c F H locs ls cells slots hP hS hL hc hs
  exact lv_if_ge F.1 F.2.1 hd ht (fun hx => kt hx _ _ _ _ _ _ _ _ _ _ _ F _ _ _ _ _ hP hS hL hc hs) (fun hx => kf hx _ _ _ _ _ _ _ _ _ _ _ F _ _ _ _ _ hP hS hL hc hs)
theorem rw_icmpge {x y : Int32} {off : Int} {tgt : Nat} (hd : decode X.2.1 pc = .ok (.if_icmp .ge off, 3)) (ht : (pc : Int) + off = (tgt : Int)) (kt : y ≤ x → rn_W G X z rc rs tgt L st h post) (kf : ¬ y ≤ x → rn_W G X z rc rs (pc + 3) L st h post) : rn_W G X z rc rs pc L (.inl y :: .inl x :: st) h post := by
  intro b D cA p e s m args below meth c F H locs ls cells slots hP hS hL hc hs
  exact lv_icmp_ge F.1 F.2.1 hd ht (fun hx => kt hx _ _ _ _ _ _ _ _ _ _ _ F _ _ _ _ _ hP hS hL hc hs) (fun hx => kf hx _ _ _ _ _ _ _ _ _ _ _ F _ _ _ _ _ hP hS hL hc hs)
theorem rw_ifnull {r : Option Nat} {off : Int} {tgt : Nat} (hd : decode X.2.1 pc = .ok (.ifnull off, 3)) (ht : (pc : Int) + off = (tgt : Int)) (kt : r = none → rn_W G X z rc rs tgt L st h post) (kf : ∀ a, r = some a → rn_W G X z rc rs (pc + 3) L st h post) : rn_W G X z rc rs pc L (.inr r :: st) h post := by
  intro b D cA p e s m args below meth c F H locs ls cells slots hP hS hL hc hs
  cases r with
  | none => exact lv_ifnullN F.1 F.2.1 hd ht (kt rfl _ _ _ _ _ _ _ _ _ _ _ F _ _ _ _ _ hP hS hL hc hs)
  | some a => exact lv_ifnull F.1 F.2.1 hd (kf a rfl _ _ _ _ _ _ _ _ _ _ _ F _ _ _ _ _ hP hS hL hc hs)
theorem rw_ifnonnull {r : Option Nat} {off : Int} {tgt : Nat} (hd : decode X.2.1 pc = .ok (.ifnonnull off, 3)) (ht : (pc : Int) + off = (tgt : Int)) (kt : ∀ a, r = some a → rn_W G X z rc rs tgt L st h post) (kf : r = none → rn_W G X z rc rs (pc + 3) L st h post) : rn_W G X z rc rs pc L (.inr r :: st) h post := by
  intro b D cA p e s m args below meth c F H locs ls cells slots hP hS hL hc hs
  cases r with
  | none => exact lv_ifnonnullN F.1 F.2.1 hd (kf rfl _ _ _ _ _ _ _ _ _ _ _ F _ _ _ _ _ hP hS hL hc hs)
  | some a => exact lv_ifnonnull F.1 F.2.1 hd ht (kt a rfl _ _ _ _ _ _ _ _ _ _ _ F _ _ _ _ _ hP hS hL hc hs)
theorem rw_goto {off : Int} {tgt : Nat} (hd : decode X.2.1 pc = .ok (.goto off, 3)) (ht : (pc : Int) + off = (tgt : Int)) (k : rn_W G X z rc rs tgt L st h post) : rn_W G X z rc rs pc L st h post := by
  intro b D cA p e s m args below meth c F H locs ls cells slots hP hS hL hc hs
  exact lv_goto F.1 F.2.1 hd ht (k _ _ _ _ _ _ _ _ _ _ _ F _ _ _ _ _ hP hS hL hc hs)
theorem rw_tabOut {dflt lo hi : Int} {offs : Array Int} {len tgt : Nat} {x : Int32} (hd : decode X.2.1 pc = .ok (.tableswitch dflt lo hi offs, len)) (hx : x.toInt < lo ∨ hi < x.toInt) (ht : (pc : Int) + dflt = (tgt : Int)) (k : rn_W G X z rc rs tgt L st h post) : rn_W G X z rc rs pc L (.inl x :: st) h post := by
  intro b D cA p e s m args below meth c F H locs ls cells slots hP hS hL hc hs
  exact lv_tableOut F.1 F.2.1 hd hx ht (k _ _ _ _ _ _ _ _ _ _ _ F _ _ _ _ _ hP hS hL hc hs)
theorem rw_tabIn {dflt lo hi off : Int} {offs : Array Int} {len tgt : Nat} {x : Int32} (hd : decode X.2.1 pc = .ok (.tableswitch dflt lo hi offs, len)) (h1 : ¬ x.toInt < lo) (h2 : ¬ hi < x.toInt) (ho : offs[(x.toInt - lo).toNat]? = some off) (ht : (pc : Int) + off = (tgt : Int)) (k : rn_W G X z rc rs tgt L st h post) : rn_W G X z rc rs pc L (.inl x :: st) h post := by
  intro b D cA p e s m args below meth c F H locs ls cells slots hP hS hL hc hs
  exact lv_tableIn F.1 F.2.1 hd h1 h2 ho ht (k _ _ _ _ _ _ _ _ _ _ _ F _ _ _ _ _ hP hS hL hc hs)
theorem rw_vret (hd : decode X.2.1 pc = .ok (.return_, 1)) (hr : X.2.2.2 = none) (hq : post none h) : rn_W G X z rc rs pc L [] h post := by
  intro b D cA p e s m args below meth c F H locs ls cells slots hP hS hL hc hs
  exact W.widen (by omega) (by omega) (W.vret F.1 F.2.1 (F.2.2.2.1.trans hr) (fun t ht hW => ⟨⟨none, h, rfl, hq, by rw [ht]; exact hP⟩, hS.F ht⟩) hS.2.2 hd F.2.2.2.2.1)
theorem rw_iret {x : Int32} (hd : decode X.2.1 pc = .ok (.ireturn, 1)) (hr : X.2.2.2 = some .int) (hq : post (some (.inl x)) h) : rn_W G X z rc rs pc L [.inl x] h post := by
  intro b D cA p e s m args below meth c F H locs ls cells slots hP hS hL hc hs
  exact W.widen (by omega) (by omega) (W.iret (v := x) F.1 F.2.1 (F.2.2.2.1.trans hr) (fun t ht hW => ⟨⟨some (.inl x), h, rfl, hq, by rw [ht]; exact hP⟩, hS.F ht⟩) hS.2.2 hd F.2.2.2.2.1)
theorem rw_zret {x : Int32} (hd : decode X.2.1 pc = .ok (.ireturn, 1)) (hr : X.2.2.2 = some .boolean) (hx : x = 0 ∨ x = 1) (hq : post (some (.inl x)) h) : rn_W G X z rc rs pc L [.inl x] h post := by
  intro b D cA p e s m args below meth c F H locs ls cells slots hP hS hL hc hs
  exact W.widen (by omega) (by omega) (W.zret (v := x) F.1 F.2.1 (F.2.2.2.1.trans hr) (by rcases hx with rfl | rfl <;> rfl) (fun t ht hW => ⟨⟨some (.inl x), h, rfl, hq, by rw [ht]; exact hP⟩, hS.F ht⟩) hS.2.2 hd F.2.2.2.2.1)
theorem rw_aret {r : Option Nat} {rt : FieldType} (hd : decode X.2.1 pc = .ok (.areturn, 1)) (hr : X.2.2.2 = some rt) (hrt : (∃ n, rt = .object n) ∨ ∃ t, rt = .array t) (hq : post (some (.inr r)) h) : rn_W G X z rc rs pc L [.inr r] h post := by
  intro b D cA p e s m args below meth c F H locs ls cells slots hP hS hL hc hs
  exact W.widen (by omega) (by omega) (W.aret (v := ha_v b (.inr r)) F.1 F.2.1 (F.2.2.2.1.trans hr) hrt (va_rf_or _) (fun t ht hW => ⟨⟨some (.inr r), h, rfl, hq, by rw [ht]; exact hP⟩, hS.F ht⟩) hS.2.2 hd F.2.2.2.2.1)
end RW
end
section
/-! Fields: links by their places in the words; reads and writes. -/
def fl_lk (own : String) (idx : Nat) (ref n d : String) : Prop := Cond.fieldLink own idx ref n d ∈ lp_BW ∨ ∃ host, Cond.fieldLinkNest own idx ref n d host ∈ lp_NW
def fl_sm (r : vw_C) (ref : String) (k : Nat) : Prop := ref = (r.2.1 k).1 ∨ Cond.sameField ref (r.2.1 k).1 (r.2.1 k).2.1 (r.2.1 k).2.2.1 ∈ lp_BW
def fl_ok (own : String) (idx ci k : Nat) (rf : Bool) : Prop := ∃ (r : vw_C) (ref : String), lp_CL[ci]? = some r ∧ k < r.2.2 ∧ fl_lk own idx ref (r.2.1 k).2.1 (r.2.1 k).2.2.1 ∧ fl_sm r ref k ∧ hp_isR r.2.1 k = rf
def pf_ok (y : MethodName) (idx ci k : Nat) (rf : Bool) (ty : FieldType) : Prop := ∃ (r : vw_C) (ref : String), lp_CL[ci]? = some r ∧ k < r.2.2 ∧ fl_sm r ref k ∧ hp_isR r.2.1 k = rf ∧ parseFieldDescriptor (r.2.1 k).2.2.1 = some ty ∧ (((r.2.1 k).2.2.2 = false ∧ fl_lk y.cls idx ref (r.2.1 k).2.1 (r.2.1 k).2.2.1) ∨ ((r.2.1 k).2.2.2 = true ∧ (r.2.1 k).1 = y.cls ∧ y.name = "<init>" ∧ Cond.fieldLink y.cls idx ref (r.2.1 k).2.1 (r.2.1 k).2.2.1 ∈ lp_BW))
theorem cx_F.bw {G : mt_G} {X : mt_X} {b : Nat × Nat} {D : va_G} {cA : Nat → ClassId} {p : Program} {s : State} {m : MethodId} {args : Array Value} {meth : Method} {c : Code} (F : cx_F G X b D cA p s m args meth c) : ∀ w ∈ lp_BW, w.before args s = true := fun w h => F.2.2.2.2.2.1 w (List.mem_cons_of_mem _ h)
theorem cx_F.own {G : mt_G} {X : mt_X} {b : Nat × Nat} {D : va_G} {cA : Nat → ClassId} {p : Program} {s : State} {m : MethodId} {args : Array Value} {meth : Method} {c : Code} (F : cx_F G X b D cA p s m args meth c) : s.vm.findClass X.1.cls = some m.cls := F.2.2.2.2.2.2.1
theorem cx_F.nm {G : mt_G} {X : mt_X} {b : Nat × Nat} {D : va_G} {cA : Nat → ClassId} {p : Program} {s : State} {m : MethodId} {args : Array Value} {meth : Method} {c : Code} (F : cx_F G X b D cA p s m args meth c) : meth.name = X.1.name := F.2.2.2.2.2.2.2.1
theorem cx_F.K {G : mt_G} {X : mt_X} {b : Nat × Nat} {D : va_G} {cA : Nat → ClassId} {p : Program} {s : State} {m : MethodId} {args : Array Value} {meth : Method} {c : Code} (F : cx_F G X b D cA p s m args meth c) : hp_K D cA s := F.2.2.2.2.2.2.2.2.1
theorem cx_F.nw {G : mt_G} {X : mt_X} {b : Nat × Nat} {D : va_G} {cA : Nat → ClassId} {p : Program} {s : State} {m : MethodId} {args : Array Value} {meth : Method} {c : Code} (F : cx_F G X b D cA p s m args meth c) {w : Cond} (hw : w.onTables = true) (h : w ∈ lp_NW) : w.before args s = true := va_Nw.use hw (F.K.2.1 w h)
theorem hp_obj {b : Nat × Nat} {D : va_G} {cA : Nat → ClassId} {h : ha_H} {H : Heap} {a ci : Nat} {r : vw_C} (hP : hp_P b D cA h H) (ha : hp_ok h a) (hs : hp_S h a = .inr ci) (hc : lp_CL[ci]? = some r) : t_OB (ha_a b a) (D.1 ci) r.2.2 (D.2 ci) H (hp_V b r.2.1 h a) := by
  have hat := hP.2.2 a ha
  unfold hp_at at hat
  rw [hs] at hat
  obtain ⟨r', h1, h2⟩ := hat
  cases h1.symm.trans hc
  exact h2
theorem hp_arr {b : Nat × Nat} {D : va_G} {cA : Nat → ClassId} {h : ha_H} {H : Heap} {a t n : Nat} (hP : hp_P b D cA h H) (ha : hp_ok h a) (hs : hp_S h a = .inl (t, n)) : H[ha_a b a]? = some (arrV (cA t) n (hp_F b t h a)) := by
  have hat := hP.2.2 a ha
  unfold hp_at at hat
  rw [hs] at hat
  exact hat
theorem fl_use {D : va_G} {cA : Nat → ClassId} {s : State} {args : Array Value} (hK : hp_K D cA s) (hts : ∀ w ∈ lp_BW, w.before args s = true) {ci k : Nat} {r : vw_C} {ref : String} (hc : lp_CL[ci]? = some r) (hk : k < r.2.2) (hsame : fl_sm r ref k) :
    ∃ (cf : Nat) (kf : Class) (fi : Nat) (f : Field) (kC : Class), s.fieldFound? (r.2.1 k).1 (r.2.1 k).2.1 (r.2.1 k).2.2.1 = some (cf, kf, fi, f) ∧ s.fieldFound? ref (r.2.1 k).2.1 (r.2.1 k).2.2.1 = some (cf, kf, fi, f) ∧ f.slot = D.2 ci k ∧ f.isStatic = false ∧ s.vm.findClass r.1 = some (D.1 ci) ∧ s.vm.classes[D.1 ci]? = some kC ∧ kC.kind = .ordinary := by
  obtain ⟨hSl, hfc, kC, hkC, hkind⟩ := hK.1.1 ci r hc
  obtain ⟨cf, kf, fi, f, hi, hsl⟩ := hSl k hk
  refine ⟨cf, kf, fi, f, kC, hi, ?_, hsl, (u_facts hfc hkC (u_lays hts (lp_in ci r hc) hk) hi).1, hfc, hkC, hkind⟩
  rcases hsame with rfl | hm
  · exact hi
  · exact u_same (hts _ hm) _ hi
section RF
variable {G : mt_G} {X : mt_X} {z : Nat × Nat × Nat} {rc rs pc : Nat} {L L' : List (Option ha_V)} {st : List ha_V} {h : ha_H} {post : Option ha_V → ha_H → Prop}
theorem rw_getI {a idx ci kk : Nat} {x : Int32} (hl : fl_ok X.1.cls idx ci kk false) (hd : decode X.2.1 pc = .ok (.getfield idx, 3)) (ha : hp_ok h a) (hs : hp_S h a = .inr ci) (hx : hp_I h a kk = x) (k : rn_W G X z rc rs (pc + 3) L (.inl x :: st) h post) : rn_W G X z rc rs pc L (.inr (some a) :: st) h post := by
  intro b D cA p e s m args below meth c F H locs ls cells slots hP hS hL hc hs'
  obtain ⟨r, ref, hcl, hk, hlk, hsm, hrf⟩ := hl
  obtain ⟨cell, q1, q2, q3, q4⟩ := hp_obj hP ha hs hcl
  obtain ⟨cf, kf, fi, f, kC, hi, hi', hsl, hst, -⟩ := fl_use F.K F.bw hcl hk hsm
  have hslot : cell.slots[f.slot]? = some (.int x) := by
    rw [hsl, q4 kk hk]
    unfold hp_V
    rw [hrf, if_neg (by decide), hx]
  rcases hlk with hlk | ⟨host, hlk⟩
  · exact W.getf F.1 F.2.1 F.own (F.bw _ hlk) hi' hst q1 (by rw [q3]; exact fun h => by cases h) hslot rfl rfl hd (k _ _ _ _ _ _ _ _ _ _ _ F _ _ _ _ _ hP hS hL hc hs')
  · exact va_Wgetf F.1 F.2.1 F.own (F.nw rfl hlk) hi' hst q1 (by rw [q3]; exact fun h => by cases h) hslot rfl rfl hd (k _ _ _ _ _ _ _ _ _ _ _ F _ _ _ _ _ hP hS hL hc hs')
theorem rw_getR {a idx ci kk : Nat} {x : Option Nat} (hl : fl_ok X.1.cls idx ci kk true) (hd : decode X.2.1 pc = .ok (.getfield idx, 3)) (ha : hp_ok h a) (hs : hp_S h a = .inr ci) (hx : hp_R h a kk = x) (k : rn_W G X z rc rs (pc + 3) L (.inr x :: st) h post) : rn_W G X z rc rs pc L (.inr (some a) :: st) h post := by
  intro b D cA p e s m args below meth c F H locs ls cells slots hP hS hL hc hs'
  obtain ⟨r, ref, hcl, hk, hlk, hsm, hrf⟩ := hl
  obtain ⟨cell, q1, q2, q3, q4⟩ := hp_obj hP ha hs hcl
  obtain ⟨cf, kf, fi, f, kC, hi, hi', hsl, hst, -⟩ := fl_use F.K F.bw hcl hk hsm
  have hslot : cell.slots[f.slot]? = some (ha_v b (.inr x)) := by
    rw [hsl, q4 kk hk]
    unfold hp_V
    rw [hrf, if_pos rfl, hx]
  rcases hlk with hlk | ⟨host, hlk⟩
  · exact W.getf F.1 F.2.1 F.own (F.bw _ hlk) hi' hst q1 (by rw [q3]; exact fun h => by cases h) hslot rfl rfl hd (k _ _ _ _ _ _ _ _ _ _ _ F _ _ _ _ _ hP hS hL hc hs')
  · exact va_Wgetf F.1 F.2.1 F.own (F.nw rfl hlk) hi' hst q1 (by rw [q3]; exact fun h => by cases h) hslot rfl rfl hd (k _ _ _ _ _ _ _ _ _ _ _ F _ _ _ _ _ hP hS hL hc hs')
theorem pf_core {p : Program} {e : Env} {R : Room} {s : State} {m : MethodId} {args : Array Value} {below : List Frame} {meth : Method} {c : Code} {H : Heap} {locs : List Loc} {cells slots : Nat} {Q : State → Prop} {b : Nat × Nat} {D : va_G} {cA : Nat → ClassId} {ls : Array Slot} {rest : List Value} {h' : ha_H} {a idx ci kk : Nat} {rf : Bool} {ty : FieldType} {v : Value}
    (hl : pf_ok X.1 idx ci kk rf ty) (F : cx_F G X b D cA p s m args meth c) (hd : decode X.2.1 pc = .ok (.putfield idx, 3)) (hP : hp_P b D cA h H) (hS : va_S (fun q => b.1 < q) s.heap H locs) (ha : hp_ok h a) (hs : hp_S h a = .inr ci) (hnar : narrow ty v = v) (hfit : fits ty v = true)
    (hn' : hp_n h' = hp_n h) (hI : ∀ k, k ≠ a → ∀ j, hp_I h' k j = hp_I h k j) (hR : ∀ k, k ≠ a → ∀ j, hp_R h' k j = hp_R h k j) (hSh : ∀ k, hp_S h' k = hp_S h k) (hV : ∀ r : vw_C, hp_isR r.2.1 kk = rf → ∀ j, updV (hp_V b r.2.1 h a) kk v j = hp_V b r.2.1 h' a j)
    (kx : ∀ (H' : Heap) (locs' : List Loc), hp_P b D cA h' H' → va_S (fun q => b.1 < q) s.heap H' locs' → W p G.1 e R s m args below meth c H' locs' cells slots Q (F0 m (pc + 3) ls rest)) : W p G.1 e R s m args below meth c H locs cells slots Q (F0 m pc ls (v :: .ref (ha_a b a) :: rest)) := by
  obtain ⟨r, ref, hcl, hk, hsm, hrf, hpd, hfin⟩ := hl
  obtain ⟨cell, q1, q2, q3, q4⟩ := hp_obj hP ha hs hcl
  obtain ⟨cf, kf, fi, f, kC, hi, hi', hsl, hst, hfc, hkC, hkind⟩ := fl_use F.K F.bw hcl hk hsm
  obtain ⟨ty0, hty, -⟩ := lp_ty ci r hcl
  have hap := va_apart (own := r.1) F.bw (lp_in ci r hcl) ty0 hty (lp_nm ci r hcl) F.K.1 hcl
  have hlt : f.slot < cell.slots.size := by rw [hsl]; exact k2_hasslot (q4 kk hk)
  have fin : ∀ H' : Heap, H'[ha_a b a]? = some (cell.setSlot f.slot v) → H'.size = H.size → (∀ q, q ≠ ha_a b a → H'[q]? = H[q]?) → W p G.1 e R s m args below meth c H' (locs ++ [⟨ha_a b a, f.slot⟩]) cells slots Q (F0 m (pc + 3) ls rest) := by
    intro H' e1 e2 e3
    refine kx H' _ (hP.set ha e2 e3 ?_ hn' hI hR hSh) (hS.put e2 e3 (by rw [ha_p b ha.1]; have := ha.1; show b.1 < b.1 + a; omega))
    unfold hp_at
    rw [hSh, hs]
    refine ⟨r, hcl, t_OB.to (V := updV (hp_V b r.2.1 h a) kk v) ⟨_, e1, q2, q3, ?_⟩ (fun j _ => hV r hrf j)⟩
    rw [hsl]
    exact t_set q4 hap hk v
  have hlay := F.bw _ (lp_in ci r hcl _ (u_in_lay hk))
  unfold u_lay at hlay
  rcases hfin with ⟨hff, hlk⟩ | ⟨hff, hown, hin, hlk⟩
  · rw [if_neg (by rw [hff]; decide)] at hlay
    have h6 := u_store hfc hkC hkind hlay hi hpd hnar hfit
    rcases hlk with hlk | ⟨host, hlk⟩
    · exact W.putK F.1 F.2.1 (f := f) ⟨F.own, F.bw _ hlk, ⟨_, _, _, hi'⟩, hst⟩ (by rw [q2]; exact h6) q1 q3 hlt rfl rfl hd fin
    · exact va_WputK F.1 F.2.1 (f := f) F.own (F.nw rfl hlk) hi' hst (by rw [q2]; exact h6) q1 q3 hlt rfl rfl hd fin
  · rw [if_pos hff] at hlay
    have hcf : m.cls = cf := by
      obtain ⟨_, _, c', _, _, _, -, -, hf', -, -, -, hown2, -⟩ := Cond.laysFinal_spec hlay
      have e1 : c' = cf := by have := hi.symm.trans hf'; simp at this; exact this.1.symm
      rw [hown] at hown2
      rw [← e1]
      exact Option.some.inj (F.own.symm.trans hown2)
    have h6 := u_fits hfc hkC hkind (Or.inr hlay) hi hpd hnar hfit
    exact W.putFinK F.1 F.2.1 F.own (F.bw _ hlk) hi' hst hcf (F.nm.trans hin) (by rw [q2]; exact h6) q1 q3 hlt rfl rfl hd fin
theorem hp_V_sI {b : Nat × Nat} {T : u_T} {h : ha_H} {a k : Nat} {x : Int32} (hT : hp_isR T k = false) (j : Nat) : updV (hp_V b T h a) k (.int x) j = hp_V b T (hp_sI h a k x) a j := by
  unfold updV hp_V
  rw [hp_I_sI, hp_R_sI]
  by_cases e : j = k
  · subst e
    simp [hT]
  · simp [e]
theorem hp_V_sR {b : Nat × Nat} {T : u_T} {h : ha_H} {a k : Nat} {x : Option Nat} (hT : hp_isR T k = true) (j : Nat) : updV (hp_V b T h a) k (ha_v b (.inr x)) j = hp_V b T (hp_sR h a k x) a j := by
  unfold updV hp_V
  rw [hp_I_sR, hp_R_sR]
  by_cases e : j = k
  · subst e
    simp [hT]
  · simp [e]
theorem hp_I_ne {h : ha_H} {a k : Nat} {x : Int32} : ∀ y, y ≠ a → ∀ j, hp_I (hp_sI h a k x) y j = hp_I h y j := fun y hy j => by rw [hp_I_sI, if_neg (fun q => hy q.1)]
theorem hp_R_ne {h : ha_H} {a k : Nat} {x : Option Nat} : ∀ y, y ≠ a → ∀ j, hp_R (hp_sR h a k x) y j = hp_R h y j := fun y hy j => by rw [hp_R_sR, if_neg (fun q => hy q.1)]
theorem rw_putI {a idx ci kk : Nat} {x : Int32} (hl : pf_ok X.1 idx ci kk false .int) (hd : decode X.2.1 pc = .ok (.putfield idx, 3)) (ha : hp_ok h a) (hs : hp_S h a = .inr ci) (k : rn_W G X z rc rs (pc + 3) L st (hp_sI h a kk x) post) : rn_W G X z rc rs pc L (.inl x :: .inr (some a) :: st) h post := by
  intro b D cA p e s m args below meth c F H locs ls cells slots hP hS hL hc hs'
  exact pf_core (v := .int x) (h' := hp_sI h a kk x) hl F hd hP hS ha hs rfl rfl rfl hp_I_ne (fun _ _ _ => rfl) (fun _ => rfl) (fun r hr j => hp_V_sI hr j) (fun H' locs' hP hS => k _ _ _ _ _ _ _ _ _ _ _ F _ _ _ _ _ hP hS hL hc hs')
theorem rw_putZ {a idx ci kk : Nat} {x : Int32} (hl : pf_ok X.1 idx ci kk false .boolean) (hd : decode X.2.1 pc = .ok (.putfield idx, 3)) (ha : hp_ok h a) (hs : hp_S h a = .inr ci) (hx : x = 0 ∨ x = 1) (k : rn_W G X z rc rs (pc + 3) L st (hp_sI h a kk x) post) : rn_W G X z rc rs pc L (.inl x :: .inr (some a) :: st) h post := by
  intro b D cA p e s m args below meth c F H locs ls cells slots hP hS hL hc hs'
  exact pf_core (v := .int x) (h' := hp_sI h a kk x) hl F hd hP hS ha hs (by rcases hx with rfl | rfl <;> rfl) (by rcases hx with rfl | rfl <;> rfl) rfl hp_I_ne (fun _ _ _ => rfl) (fun _ => rfl) (fun r hr j => hp_V_sI hr j) (fun H' locs' hP hS => k _ _ _ _ _ _ _ _ _ _ _ F _ _ _ _ _ hP hS hL hc hs')
theorem rw_putR {a idx ci kk : Nat} {ty : FieldType} {x : Option Nat} (hl : pf_ok X.1 idx ci kk true ty) (hty : (∃ n, ty = .object n) ∨ ∃ t, ty = .array t) (hd : decode X.2.1 pc = .ok (.putfield idx, 3)) (ha : hp_ok h a) (hs : hp_S h a = .inr ci) (k : rn_W G X z rc rs (pc + 3) L st (hp_sR h a kk x) post) : rn_W G X z rc rs pc L (.inr x :: .inr (some a) :: st) h post := by
  intro b D cA p e s m args below meth c F H locs ls cells slots hP hS hL hc hs'
  refine pf_core (v := ha_v b (.inr x)) (h' := hp_sR h a kk x) hl F hd hP hS ha hs ?_ ?_ rfl (fun _ _ _ => rfl) hp_R_ne (fun _ => rfl) (fun r hr j => hp_V_sR hr j) (fun H' locs' hP hS => k _ _ _ _ _ _ _ _ _ _ _ F _ _ _ _ _ hP hS hL hc hs')
  · rcases hty with ⟨n, rfl⟩ | ⟨t, rfl⟩ <;> cases x <;> rfl
  · rcases hty with ⟨n, rfl⟩ | ⟨t, rfl⟩ <;> cases x <;> rfl
end RF
end
section
/-! Arrays and new cells. -/
def ix_ok (x : Int32) (n i : Nat) : Prop := vp_in x n ∧ x.toNatClampNeg = i
theorem ix_nI {i n : Nat} (h : i < n) (hn : n < 2 ^ 31) : ix_ok (nI i) n i := ⟨vp_in_nI h hn, nI_clamp (by omega)⟩
theorem ix_lt {x : Int32} {n i : Nat} (h : ix_ok x n i) : i < n := h.2 ▸ Nat.not_le.mp fun q => h.1 (Or.inr q)
def st_ok (t ci : Nat) : Prop := ∃ (E : String) (r : vw_C), lp_AT[t]? = some (.object E) ∧ lp_CL[ci]? = some r ∧ (r.1 = E ∨ Cond.castable r.1 E ∈ lp_NW)
def nw_ok (own : String) (idx ci N : Nat) : Prop := ∃ r : vw_C, lp_CL[ci]? = some r ∧ r.2.2 = N ∧ Cond.classLink own idx r.1 ∈ lp_BW ∧ Cond.instantiable r.1 r.2.2 ∈ lp_BW ∧ Cond.initialized r.1 ∈ lp_BW
theorem ha_lt (b : Nat × Nat) {k : Nat} (h : 0 < k) : b.1 < ha_a b k := by rw [ha_p b h]; omega
theorem hp_P.sz {b : Nat × Nat} {D : va_G} {cA : Nat → ClassId} {h : ha_H} {H : Heap} (hP : hp_P b D cA h H) : H.size = ha_a b (hp_n h) := by rw [ha_p b hP.2.1]; exact hP.1
section RA
variable {G : mt_G} {X : mt_X} {z : Nat × Nat × Nat} {rc rs rc' rs' pc : Nat} {L L' : List (Option ha_V)} {st : List ha_V} {h : ha_H} {post : Option ha_V → ha_H → Prop}
theorem rw_iald {a n i : Nat} {x v : Int32} (hd : decode X.2.1 pc = .ok (.iaload, 1)) (ha : hp_ok h a) (hs : hp_S h a = .inl (0, n)) (hx : ix_ok x n i) (hv : hp_I h a i = v) (k : rn_W G X z rc rs (pc + 1) L (.inl v :: st) h post) : rn_W G X z rc rs pc L (.inl x :: .inr (some a) :: st) h post := by
  intro b D cA p e s m args below meth c F H locs ls cells slots hP hS hL hc hs'
  refine W.iald (v := .int v) F.1 F.2.1 (hp_arr hP ha hs) (F.K.arr (t := 0) lp_AT0 n _) (fun q => by cases q) (by rw [arrV_size]; exact hx.1) ?_ rfl rfl hd (k _ _ _ _ _ _ _ _ _ _ _ F _ _ _ _ _ hP hS hL hc hs')
  rw [hx.2, arrV_read _ _ (ix_lt hx)]
  unfold hp_F
  rw [if_pos (by decide), hv]
theorem rw_zald {a n i : Nat} {x v : Int32} (hd : decode X.2.1 pc = .ok (.baload, 1)) (ha : hp_ok h a) (hs : hp_S h a = .inl (1, n)) (hx : ix_ok x n i) (hv : hp_I h a i = v) (k : rn_W G X z rc rs (pc + 1) L (.inl v :: st) h post) : rn_W G X z rc rs pc L (.inl x :: .inr (some a) :: st) h post := by
  intro b D cA p e s m args below meth c F H locs ls cells slots hP hS hL hc hs'
  refine W.zald (v := .int v) F.1 F.2.1 (hp_arr hP ha hs) (F.K.arr (t := 1) lp_AT1 n _) (fun q => by cases q) (by rw [arrV_size]; exact hx.1) ?_ rfl rfl hd (k _ _ _ _ _ _ _ _ _ _ _ F _ _ _ _ _ hP hS hL hc hs')
  rw [hx.2, arrV_read _ _ (ix_lt hx)]
  unfold hp_F
  rw [if_pos (by decide), hv]
theorem rw_aald {a t n i : Nat} {x : Int32} {v : Option Nat} {ty : FieldType} (ht : lp_AT[t]? = some ty) (hr : ty.isReference = true ∧ ¬ t < 2) (hd : decode X.2.1 pc = .ok (.aaload, 1)) (ha : hp_ok h a) (hs : hp_S h a = .inl (t, n)) (hx : ix_ok x n i) (hv : hp_R h a i = v) (k : rn_W G X z rc rs (pc + 1) L (.inr v :: st) h post) : rn_W G X z rc rs pc L (.inl x :: .inr (some a) :: st) h post := by
  intro b D cA p e s m args below meth c F H locs ls cells slots hP hS hL hc hs'
  refine W.aald (v := ha_v b (.inr v)) F.1 F.2.1 (hp_arr hP ha hs) (F.K.arr ht n _) hr.1 (fun q => by cases q) (by rw [arrV_size]; exact hx.1) ?_ rfl rfl hd (k _ _ _ _ _ _ _ _ _ _ _ F _ _ _ _ _ hP hS hL hc hs')
  rw [hx.2, arrV_read _ _ (ix_lt hx)]
  unfold hp_F
  rw [if_neg hr.2, hv]
theorem rw_alen {a t n : Nat} {x : Int32} {ty : FieldType} (ht : lp_AT[t]? = some ty) (hd : decode X.2.1 pc = .ok (.arraylength, 1)) (ha : hp_ok h a) (hs : hp_S h a = .inl (t, n)) (hx : nI n = x) (k : rn_W G X z rc rs (pc + 1) L (.inl x :: st) h post) : rn_W G X z rc rs pc L (.inr (some a) :: st) h post := by
  intro b D cA p e s m args below meth c F H locs ls cells slots hP hS hL hc hs'
  exact W.alen (n := x) F.1 F.2.1 (hp_arr hP ha hs) (F.K.arr ht n _) (by rw [arrV_size]; exact hx) rfl rfl hd (k _ _ _ _ _ _ _ _ _ _ _ F _ _ _ _ _ hP hS hL hc hs')
theorem hp_F_sI {b : Nat × Nat} {t : Nat} {h : ha_H} {a k : Nat} {x : Int32} (ht : t < 2) : updV (hp_F b t h a) k (.int x) = hp_F b t (hp_sI h a k x) a := by
  funext j
  unfold updV hp_F
  rw [hp_I_sI, if_pos ht, if_pos ht]
  by_cases e : j = k
  · simp [e]
  · simp [e]
theorem hp_F_sR {b : Nat × Nat} {t : Nat} {h : ha_H} {a k : Nat} {x : Option Nat} (ht : ¬ t < 2) : updV (hp_F b t h a) k (ha_v b (.inr x)) = hp_F b t (hp_sR h a k x) a := by
  funext j
  unfold updV hp_F
  rw [hp_R_sR, if_neg ht, if_neg ht]
  by_cases e : j = k
  · simp [e]
  · simp [e]
theorem rw_iast {a n i : Nat} {x v : Int32} (hd : decode X.2.1 pc = .ok (.iastore, 1)) (ha : hp_ok h a) (hs : hp_S h a = .inl (0, n)) (hx : ix_ok x n i) (k : rn_W G X z rc rs (pc + 1) L st (hp_sI h a i v) post) : rn_W G X z rc rs pc L (.inl v :: .inl x :: .inr (some a) :: st) h post := by
  intro b D cA p e s m args below meth c F H locs ls cells slots hP hS hL hc hs'
  refine W.iast (x := v) F.1 F.2.1 (hp_arr hP ha hs) (F.K.arr (t := 0) lp_AT0 n _) (fun q => by cases q) (by rw [arrV_size]; exact hx.1) rfl rfl hd (fun H' e1 e2 e3 => k _ _ _ _ _ _ _ _ _ _ _ F _ _ _ _ _ (hP.set ha e2 e3 ?_ rfl hp_I_ne (fun _ _ _ => rfl) (fun _ => rfl)) (hS.put e2 e3 (ha_lt b ha.1)) hL hc hs')
  unfold hp_at
  rw [hp_S_sI, hs]
  show H'[ha_a b a]? = some (arrV (cA 0) n (hp_F b 0 (hp_sI h a i v) a))
  rw [e1, hx.2, arrV_store, hp_F_sI (by decide)]
theorem rw_zast {a n i : Nat} {x v : Int32} (hv : v = 0 ∨ v = 1) (hd : decode X.2.1 pc = .ok (.bastore, 1)) (ha : hp_ok h a) (hs : hp_S h a = .inl (1, n)) (hx : ix_ok x n i) (k : rn_W G X z rc rs (pc + 1) L st (hp_sI h a i v) post) : rn_W G X z rc rs pc L (.inl v :: .inl x :: .inr (some a) :: st) h post := by
  intro b D cA p e s m args below meth c F H locs ls cells slots hP hS hL hc hs'
  have hnar : narrow .boolean (.int v) = .int v := by rcases hv with rfl | rfl <;> rfl
  refine W.zast (x := v) F.1 F.2.1 (hp_arr hP ha hs) (F.K.arr (t := 1) lp_AT1 n _) (fun q => by cases q) (by rw [arrV_size]; exact hx.1) rfl rfl hd (fun H' e1 e2 e3 => k _ _ _ _ _ _ _ _ _ _ _ F _ _ _ _ _ (hP.set ha e2 e3 ?_ rfl hp_I_ne (fun _ _ _ => rfl) (fun _ => rfl)) (hS.put e2 e3 (ha_lt b ha.1)) hL hc hs')
  unfold hp_at
  rw [hp_S_sI, hs]
  show H'[ha_a b a]? = some (arrV (cA 1) n (hp_F b 1 (hp_sI h a i v) a))
  rw [e1, hx.2, hnar, arrV_store, hp_F_sI (by decide)]
theorem rw_aastN {a t n i : Nat} {x : Int32} {C : String} (ht : lp_AT[t]? = some (.object C)) (h2 : ¬ t < 2) (hd : decode X.2.1 pc = .ok (.aastore, 1)) (ha : hp_ok h a) (hs : hp_S h a = .inl (t, n)) (hx : ix_ok x n i) (k : rn_W G X z rc rs (pc + 1) L st (hp_sR h a i none) post) : rn_W G X z rc rs pc L (.inr none :: .inl x :: .inr (some a) :: st) h post := by
  intro b D cA p e s m args below meth c F H locs ls cells slots hP hS hL hc hs'
  refine va_WaastN (C := C) F.1 F.2.1 (hp_arr hP ha hs) (F.K.arr ht n _) (fun q => by cases q) (by rw [arrV_size]; exact hx.1) rfl rfl hd (fun H' e1 e2 e3 => k _ _ _ _ _ _ _ _ _ _ _ F _ _ _ _ _ (hP.set ha e2 e3 ?_ rfl (fun _ _ _ => rfl) hp_R_ne (fun _ => rfl)) (hS.put e2 e3 (ha_lt b ha.1)) hL hc hs')
  unfold hp_at
  rw [hp_S_sR, hs]
  show H'[ha_a b a]? = some (arrV (cA t) n (hp_F b t (hp_sR h a i none) a))
  rw [e1, hx.2, arrV_store, ← hp_F_sR h2]
  rfl
theorem rw_aast {a t n i w ci : Nat} {x : Int32} (hst : st_ok t ci) (h2 : ¬ t < 2) (hd : decode X.2.1 pc = .ok (.aastore, 1)) (ha : hp_ok h a) (hs : hp_S h a = .inl (t, n)) (hx : ix_ok x n i) (hw : hp_ok h w) (hws : hp_S h w = .inr ci) (k : rn_W G X z rc rs (pc + 1) L st (hp_sR h a i (some w)) post) : rn_W G X z rc rs pc L (.inr (some w) :: .inl x :: .inr (some a) :: st) h post := by
  intro b D cA p e s m args below meth c F H locs ls cells slots hP hS hL hc hs'
  obtain ⟨E, r, ht, hcl, hcast⟩ := hst
  obtain ⟨cell, q1, q2, q3, q4⟩ := hp_obj hP hw hws hcl
  obtain ⟨hfc, kC, hkC, -⟩ := (F.K.1.1 ci r hcl).2
  obtain ⟨kA, comp, k1, k2, k3, -⟩ := F.K.ra ht
  obtain ⟨kE, hkE, -⟩ := Vm.findClass_spec k3
  have hasg : s.vm.assignable (D.1 ci) comp = true := by
    rcases hcast with rfl | hcast
    · cases hfc.symm.trans k3
      exact va_asg _ _
    · obtain ⟨c0, t0, f1, f2, f3⟩ := Cond.castable_spec (F.nw rfl hcast)
      cases hfc.symm.trans f1
      cases k3.symm.trans f2
      exact f3
  refine W.aast (v := ha_a b w) F.1 F.2.1 (hp_arr hP ha hs) (fun q h => by cases h) (fun h => by cases h) k1 k2 rfl hkE ⟨fun q => hx.1 (Or.inl q), by rw [arrV_size, hx.2]; exact ix_lt hx⟩ q1 (fun q h => by rw [q3] at h; cases h) (by rw [q2]; exact hkC) (by rw [q2]; exact hasg) rfl rfl hd (fun H' e1 e2 e3 => k _ _ _ _ _ _ _ _ _ _ _ F _ _ _ _ _ (hP.set ha e2 e3 ?_ rfl (fun _ _ _ => rfl) hp_R_ne (fun _ => rfl)) (hS.put e2 e3 (ha_lt b ha.1)) hL hc hs')
  unfold hp_at
  rw [hp_S_sR, hs]
  show H'[ha_a b a]? = some (arrV (cA t) n (hp_F b t (hp_sR h a i (some w)) a))
  rw [e1, hx.2, arrV_store, ← hp_F_sR h2]
  rfl
theorem va_S.up {A : Nat → Prop} {H0 H H1 : Heap} {locs : List Loc} (hS : va_S A H0 H locs) (z : H1.size = H.size + 1) (o : ∀ q, q < H.size → H1[q]? = H[q]?) : va_S A H0 H1 locs := ⟨by have := hS.1; omega, fun q h1 h2 => (o q (Nat.lt_of_lt_of_le h1 hS.1)).trans (hS.2.1 q h1 h2), hS.2.2⟩
theorem rw_new {idx ci N : Nat} (hl : nw_ok X.1.cls idx ci N) (hd : decode X.2.1 pc = .ok (.new idx, 3)) (hrc : rc' + 1 = rc) (hrs : rs' + N = rs) (k : rn_W G X z rc' rs' (pc + 3) L (.inr (some (hp_n h)) :: st) (hp_new h (.inr ci)) post) : rn_W G X z rc rs pc L st h post := by
  intro b D cA p e s m args below meth c F H locs ls cells slots hP hS hL hc hs'
  obtain ⟨r, hcl, rfl, hlk, hinst, hini⟩ := hl
  have hKn := F.K.1.1 ci r hcl
  obtain ⟨ty, hty, hdf⟩ := lp_ty ci r hcl
  refine W.newcK F.1 F.2.1 F.own (F.bw _ hlk) (F.bw _ hinst) (F.bw _ hini) rfl hd (show cells + 1 ≤ z.2.1 by omega) (show slots + r.2.2 ≤ z.2.2 by omega) hKn.2.1 hP.sz fun H1 kC hkC e1 z1 o1 => ?_
  rw [← hP.sz] at z1 o1
  refine k _ _ _ _ _ _ _ _ _ _ _ F _ _ _ _ _ (hP.push z1 o1 ?_) (hS.up z1 o1) hL (by omega) (by omega)
  unfold hp_at
  rw [hp_S_new, if_pos rfl]
  refine ⟨r, hcl, (u_born ty F.bw (lp_in ci r hcl) hKn hkC e1 hty).to (fun j hj => ?_)⟩
  rw [hdf j hj]
  unfold hp_V
  rw [hp_I_new, hp_R_new, if_pos rfl, if_pos rfl]
  rfl
theorem rw_newa {at' : ArrayType} {t N : Nat} {x : Int32} (ht : lp_AT[t]? = some (newarray.typeOf at')) (h2 : t < 2) (hw : Cond.arrayClass (newarray.typeOf at') ∈ lp_BW) (hdv : defaultValue (newarray.typeOf at') = .int 0) (hra : ∀ U cA, va_RA U cA (newarray.typeOf at') → U.vm.findClass ("[" ++ (newarray.typeOf at').toString) = some cA) (hd : decode X.2.1 pc = .ok (.newarray at', 2)) (hx : ¬ x < 0) (hN : x.toNatClampNeg = N) (hB : N * componentBytes (newarray.typeOf at') ≤ 536870912) (hrc : rc' + 1 = rc) (hrs : rs' + N = rs)
    (k : rn_W G X z rc' rs' (pc + 2) L (.inr (some (hp_n h)) :: st) (hp_new h (.inl (t, N))) post) : rn_W G X z rc rs pc L (.inl x :: st) h post := by
  intro b D cA p e s m args below meth c F H locs ls cells slots hP hS hL hc hs'
  refine va_newaK F.1 F.2.1 (F.bw _ hw) rfl hd rfl hx hN hB (show cells + 1 ≤ z.2.1 by omega) (show slots + N ≤ z.2.2 by omega) hP.sz fun H1 cA' e1 z1 o1 hAr hNm => ?_
  rw [← hP.sz] at z1 o1
  cases (hra s (cA t) (F.K.ra ht)).symm.trans hNm
  refine k _ _ _ _ _ _ _ _ _ _ _ F _ _ _ _ _ (hP.push z1 o1 ?_) (hS.up z1 o1) hL (by omega) (by omega)
  unfold hp_at
  rw [hp_S_new, if_pos rfl]
  show H1[ha_a b (hp_n h)]? = some (arrV (cA t) N (hp_F b t _ (hp_n h)))
  rw [e1]
  congr 2
  funext j
  unfold hp_F
  rw [hdv, if_pos h2, hp_I_new, if_pos rfl]
theorem rw_newq {idx t N : Nat} {C : String} {x : Int32} (ht : lp_AT[t]? = some (.object C)) (h2 : ¬ t < 2) (hlk : Cond.classLink X.1.cls idx C ∈ lp_BW) (hov : FieldType.object C ∈ lp_AO) (hd : decode X.2.1 pc = .ok (.anewarray idx, 3)) (hx : ¬ x < 0) (hN : x.toNatClampNeg = N) (hB : N * 4 ≤ 536870912) (hrc : rc' + 1 = rc) (hrs : rs' + N = rs)
    (k : rn_W G X z rc' rs' (pc + 3) L (.inr (some (hp_n h)) :: st) (hp_new h (.inl (t, N))) post) : rn_W G X z rc rs pc L (.inl x :: st) h post := by
  intro b D cA p e s m args below meth c F H locs ls cells slots hP hS hL hc hs'
  subst hN
  refine W.anew F.1 F.2.1 F.own (F.bw _ hlk) (F.K.2.2.1 _ hov) rfl hd rfl hx hB (show cells + 1 ≤ z.2.1 by omega) (show slots + _ ≤ z.2.2 by omega) fun cA' kA comp f1 f2 f3 f4 => ?_
  obtain ⟨kA2, comp2, k1, k2, k3, k4⟩ := F.K.ra ht
  cases k4.symm.trans f1
  have e0 : H.size = ha_a b (hp_n h) := hP.sz
  generalize hH1 : H.push ({ cls := cA t, slots := Array.replicate x.toNatClampNeg .null, vm := .none } : Cell) = H1
  have z1 : H1.size = H.size + 1 := by rw [← hH1, Array.size_push]
  have e1 : H1[ha_a b (hp_n h)]? = some (arrV (cA t) x.toNatClampNeg (fun _ => .null)) := by rw [← hH1, ← e0, Array.getElem?_push_size, ← arrV_new]
  have o1 : ∀ q : Nat, q < H.size → H1[q]? = H[q]? := fun q hq => by rw [← hH1, Array.getElem?_push, if_neg (Nat.ne_of_lt hq)]
  have hfin := k b D cA p e s m args below meth c F H1 locs ls (cells + 1) (slots + x.toNatClampNeg) (hP.push z1 o1 (by
    unfold hp_at
    rw [hp_S_new, if_pos rfl]
    show H1[ha_a b (hp_n h)]? = some (arrV (cA t) x.toNatClampNeg (hp_F b t _ (hp_n h)))
    rw [e1]
    congr 2
    funext j
    unfold hp_F
    rw [if_neg h2, hp_R_new, if_pos rfl]
    rfl)) (hS.up z1 o1) hL (by omega) (by omega)
  rw [show (List.map (ha_v b) (.inr (some (hp_n h)) :: st)) = Value.ref H.size :: List.map (ha_v b) st by rw [e0]; rfl] at hfin
  exact hfin
end RA
end
section
/-! Calls: the callee's contract, whatever it makes. -/
def rn_i (post : Int32 → ha_H → Prop) : Option ha_V → ha_H → Prop := fun r h' => ∃ x, r = some (.inl x) ∧ post x h'
def rn_v (post : ha_H → Prop) : Option ha_V → ha_H → Prop := fun r h' => r = none ∧ post h'
def rn_r (post : Option Nat → ha_H → Prop) : Option ha_V → ha_H → Prop := fun r h' => ∃ x, r = some (.inr x) ∧ post x h'
def ml_ok (own : String) (idx : Nat) (X' : mt_X) (n : Nat) : Prop := Cond.code X'.1 X'.2.1 X'.2.2.1 X'.2.2.2 ∈ lp_BW ∧ Cond.initialized X'.1.cls ∈ lp_BW ∧ (X'.1.cls ≠ "java/lang/invoke/MethodHandle" ∧ X'.1.cls ≠ "java/lang/invoke/VarHandle" ∧ (parseMethodDescriptor X'.1.desc).map (fun d => d.parameters.length) = some n) ∧ X'.2.2.1 ≤ 21 ∧ (Cond.methodLink own idx X'.1 ∈ lp_BW ∨ ∃ host, Cond.methodLinkNest own idx X'.1 host ∈ lp_NW)
def lp_nk : Cond → Bool
  | .fieldLinkNest .. => true
  | .methodLinkNest .. => true
  | .castable .. => true
  | _ => false
theorem lp_nks : ∀ w ∈ lp_NW, lp_nk w = true := by decide +kernel
theorem lp_tab : ∀ w ∈ lp_NW, w.onTables = true := by decide +kernel
theorem lp_warm (w : Cond) (h : lp_nk w = true) {s U : State} (hW : s.WarmedH U.vm) (hZ : va_Nw w s) : va_Nw w U := by
  cases w <;> first | exact va_Nw.warmF hW hZ | exact va_Nw.warmM hW hZ | exact va_Nw.warmC hW hZ | (simp [lp_nk] at h)
theorem ao_movedA {t : FieldType} {u U : State} (hvm : u.vm.Alike U.vm) (h : (Cond.arrayOver (.array t)).before #[] u = true) : (Cond.arrayOver (.array t)).before #[] U = true := by
  obtain ⟨comp, c, k, h1, h2, h3, h4, h5⟩ := arrayOverA_spec h
  obtain ⟨k', hk', he⟩ := hvm.2.2 _ _ h3
  have hi : (U.vm.classes.findIdx? fun (x : Class) => match x.kind with | .array component _ => component == comp | _ => false) = some c := by
    rw [hvm.findIdx?_eq _ (fun _ => rfl)]
    exact h2
  have hkind : k'.kind = .array comp (.array t) := by rw [he]; exact h4
  have f1 : U.vm.findClass (FieldType.array t).toString = some comp := by rw [hvm.findClass]; exact h1
  have f2 : U.vm.findClass ("[" ++ (FieldType.array t).toString) = some c := by rw [hvm.findClass]; exact h5
  unfold Cond.before Cond.holds
  simp only [Cond.value]
  rw [f1, Option.bind_some]
  refine (congrArg (fun o : Option Nat => (o.bind (fun c => (U.vm.classes[c]?).map fun (k : Class) => match k.kind with | .array _ ty => decide (ty = FieldType.array t) && decide (U.vm.findClass ("[" ++ (FieldType.array t).toString) = some c) | _ => false) == some true)) hi).trans ?_
  simp [hk', hkind, f2]
def lp_ak : FieldType → Bool
  | .object _ => true
  | .array _ => true
  | _ => false
theorem lp_aks : ∀ t ∈ lp_AO, lp_ak t = true := by decide +kernel
theorem ao_moved (t : FieldType) (ht : lp_ak t = true) {u U : State} (hvm : u.vm.Alike U.vm) (h : (Cond.arrayOver t).before #[] u = true) : (Cond.arrayOver t).before #[] U = true := by
  cases t <;> first | exact va_AO.moved hvm h | exact ao_movedA hvm h | (simp [lp_ak] at ht)
theorem hp_K.moved {D : va_G} {cA : Nat → ClassId} {s U : State} (hW : s.WarmedH U.vm) (hK : hp_K D cA s) : hp_K D cA U := ⟨va_K.moved hW.alike hK.1, fun w hw => lp_warm w (lp_nks w hw) hW (hK.2.1 w hw), fun t ht => ao_moved t (lp_aks t ht) hW.alike (hK.2.2.1 t ht), fun q hq => (hK.2.2.2 q hq).moved hW.alike⟩
theorem hp_K.same {D : va_G} {cA : Nat → ClassId} {u U : State} (e : u.vm = U.vm) (hK : hp_K D cA u) : hp_K D cA U := by
  have ha : u.vm.Alike U.vm := by rw [e]; exact Vm.Alike.refl U.vm
  exact ⟨va_K.moved ha hK.1, fun w hw => va_Nw.same (lp_tab w hw) e (hK.2.1 w hw), fun t ht => ao_moved t (lp_aks t ht) ha (hK.2.2.1 t ht), fun q hq => (hK.2.2.2 q hq).moved ha⟩
theorem ws_good {X X' : mt_X} (hm : Cond.code X'.1 X'.2.1 X'.2.2.1 X'.2.2.2 ∈ lp_BW) : GoodIn (rn_ws X) (rn_ws X') := by
  intro w hw
  rcases List.mem_cons.mp hw with rfl | hw
  · exact ⟨List.mem_cons_of_mem _ hm, Or.inl rfl⟩
  · exact ⟨List.mem_cons_of_mem _ hw, lp_good w hw⟩
theorem rn_blind {G : mt_G} {b : Nat × Nat} {D : va_G} {cA : Nat → ClassId} {h : ha_H} {av : List ha_V} : FrameBlind (va_Pc (av.map (ha_v b)) (rn_P G b D cA h)) := by
  intro a U g mk q
  exact ⟨q.1, q.2.1, hp_K.same (u := U) (U := U.calling g mk a) rfl q.2.2.1, va_X.moved (u := U) (U := U.calling g mk a) (Vm.Alike.refl U.vm) q.2.2.2.1, q.2.2.2.2⟩
theorem rn_pre {G : mt_G} {X : mt_X} {b : Nat × Nat} {D : va_G} {cA : Nat → ClassId} {p : Program} {s : State} {m : MethodId} {args : Array Value} {meth : Method} {c : Code} {h : ha_H} {H : Heap} {locs : List Loc} (F : cx_F G X b D cA p s m args meth c) (hP : hp_P b D cA h H) (hS : va_S (fun q => b.1 < q) s.heap H locs) (U : State) (hU : U.heap = H) (hW : s.WarmedH U.vm) : rn_P G b D cA h U := by
  obtain ⟨-, -, -, -, -, -, -, -, hK, hb, hX, h2⟩ := F
  refine ⟨by rw [hU]; exact hP, hK.moved hW, va_X.moved hW.alike (hX.kept ?_), h2⟩
  rw [hU]
  exact hS.2.1 b.2 (by omega) (by omega)
section RC0
variable {p : Program} {l : Launch} {e : Env} {R : Room} {s : State} {m : MethodId} {args : Array Value} {below : List Frame} {meth : Method} {c : Code} {H : Heap} {locs : List Loc} {cells slots : Nat} {Q : State → Prop}
theorem rn_cont {pc : Nat} {ls : Array Slot} {rest st0 : List Value} {a : Array Value} {H0 : Heap} {mc ms : Nat} {b : Nat × Nat} {D : va_G} {cA : Nat → ClassId} {post : Option ha_V → ha_H → Prop} (hr : va_Run p l e R s m args below meth c H locs cells slots mc ms (F0 m pc ls st0) rest (rn_Q b D cA post a) (fun q => b.1 < q)) (hS : va_S (fun q => b.1 < q) H0 H locs)
    (kk : ∀ (r : Option ha_V) (h' : ha_H) (H1 : Heap) (locs1 : List Loc), post r h' → hp_P b D cA h' H1 → va_S (fun q => b.1 < q) H0 H1 locs1 → W p l e R s m args below meth c H1 locs1 (cells + mc) (slots + ms) Q (F0 m (pc + 3) ls ((r.map (ha_v b)).toList ++ rest))) : W p l e R s m args below meth c H locs cells slots Q (F0 m pc ls st0) := by
  intro T hT X
  obtain ⟨v, st₀, t, T', L, h0, X', hL, e1, e2, ⟨⟨r, h', hv, hp, hb⟩, hz, hk⟩, st⟩ := hr T hT X
  cases hv
  rw [h0] at hz hk
  obtain ⟨t2, a1, b1⟩ := kk r h' T'.heap (locs ++ L) hp (by rw [e1]; exact hb)
    ⟨Nat.le_trans hS.1 (by rw [e1]; exact hz), fun q h1 h2 => by rw [e1, hk q (Nat.lt_of_lt_of_le h1 hS.1) h2]; exact hS.2.1 q h1 h2, fun q hq => by
      rcases List.mem_append.mp hq with h | h
      · exact hS.2.2 q h
      · exact hL q h⟩ T' rfl X'
  exact ⟨t2, st t2 a1, b1⟩
end RC0
section RC
variable {G : mt_G} {X X' : mt_X} {z z' : Nat × Nat × Nat} {rc rs rc' rs' pc : Nat} {L : List (Option ha_V)} {st stk av : List ha_V} {h : ha_H} {post post' : Option ha_V → ha_H → Prop}
theorem ml_B {idx n : Nat} {s : State} {args : Array Value} (hl : ml_ok X.1.cls idx X' n) (hts : ∀ w ∈ rn_ws X, w.before args s = true) (hz : z'.1 + 1 ≤ z.1) (hlk : Cond.methodLink X.1.cls idx X'.1 ∈ lp_BW) : CallB (rn_R z) s args X.1.cls idx X'.1 X'.2.1 X'.2.2.1 X'.2.2.2 (rn_ws X') (rn_R z') z'.2.1 z'.2.2 n :=
  callB_of n hts (ws_good hl.1) rfl rfl rfl (hts _ (List.mem_cons_of_mem _ hl.2.1)) (hts _ (List.mem_cons_of_mem _ hlk)) hl.2.2.1 ⟨hz, by show 8 + (X'.2.2.1 + 11) + (40 * z'.1 + 6) ≤ 40 * z.1 + 6; have := hl.2.2.2.1; omega⟩
theorem ml_N {idx n : Nat} {s : State} {args : Array Value} {host : String} (hl : ml_ok X.1.cls idx X' n) (hts : ∀ w ∈ rn_ws X, w.before args s = true) (hz : z'.1 + 1 ≤ z.1) (hlk : va_Nw (.methodLinkNest X.1.cls idx X'.1 host) s) : va_CN (rn_R z) s args X.1.cls idx X'.1 host X'.2.1 X'.2.2.1 X'.2.2.2 (rn_ws X') (rn_R z') z'.2.1 z'.2.2 n :=
  va_cnB n hts (ws_good hl.1) rfl rfl rfl hlk (hts _ (List.mem_cons_of_mem _ hl.2.1)) hl.2.2.1 ⟨hz, by show 8 + (X'.2.2.1 + 11) + (40 * z'.1 + 6) ≤ 40 * z.1 + 6; have := hl.2.2.2.1; omega⟩
theorem st_room {m : MethodId} {ls : Array Slot} {b : Nat × Nat} {sk : List Value} (h8 : st.length ≤ 8) : 2 * (F0 m pc ls sk).monitorRoom + ((st.map (ha_v b)).map fun v => v.category).sum ≤ 8 := lv_room (by rw [ha_catS]; exact h8)
theorem rw_callS {idx n : Nat} (hl : ml_ok X.1.cls idx X' n) (hst : Cond.static X'.1 ∈ lp_BW) (hd : decode X.2.1 pc = .ok (.invokestatic idx, 3)) (hM : rn_M G X' z' av h post') (hn : av.length = n) (hk : av.reverse ++ st = stk) (h8 : st.length ≤ 8) (hz : z'.1 + 1 ≤ z.1) (hrc : rc' + z'.2.1 = rc) (hrs : rs' + z'.2.2 = rs)
    (kk : ∀ r h', post' r h' → rn_W G X z rc' rs' (pc + 3) L (r.toList ++ st) h' post) : rn_W G X z rc rs pc L stk h post := by
  intro b D cA p e s m args below meth c F H locs ls cells slots hP hS hL hc hs
  subst hk
  have hpre : PreS s H (va_Pc (av.map (ha_v b)) (rn_P G b D cA h)) (av.map (ha_v b)) := ⟨rn_blind, fun U hU hW => ⟨rfl, rn_pre F hP hS U hU hW⟩⟩
  have hstk : (F0 m pc ls ((av.reverse ++ st).map (ha_v b))).stack = (av.map (ha_v b)).reverse ++ st.map (ha_v b) := by show (av.reverse ++ st).map (ha_v b) = _; rw [List.map_append, List.map_reverse]
  have key : va_Run p G.1 e (rn_R z) s m args below meth c H locs cells slots z'.2.1 z'.2.2 (F0 m pc ls ((av.reverse ++ st).map (ha_v b))) (st.map (ha_v b)) (rn_Q b D cA post' (av.map (ha_v b)).toArray) (fun q => b.1 < q) := by
    rcases hl.2.2.2.2 with hlk | ⟨host, hlk⟩
    · exact va_runS (nL := X.2.2.1) ⟨F.1, F.2.1, F.2.2.1, F.own, F.2.2.2.2.2.1⟩ (hM b D cA) ⟨ml_B hl F.2.2.2.2.2.1 hz hlk, F.bw _ hst⟩ hpre rfl (by rw [List.length_map]; exact hn) hL.1 hstk (st_room h8) hd ⟨by show cells + z'.2.1 ≤ z.2.1; omega, by show slots + z'.2.2 ≤ z.2.2; omega⟩
    · exact va_runSN (nL := X.2.2.1) ⟨F.1, F.2.1, F.2.2.1, F.own, F.2.2.2.2.2.1⟩ (hM b D cA) ⟨ml_N hl F.2.2.2.2.2.1 hz (F.K.2.1 _ hlk), F.bw _ hst, trivial⟩ hpre rfl (by rw [List.length_map]; exact hn) hL.1 hstk (st_room h8) hd ⟨by show cells + z'.2.1 ≤ z.2.1; omega, by show slots + z'.2.2 ≤ z.2.2; omega⟩
  refine rn_cont key hS (fun r h' H1 locs1 hq hP1 hS1 => ?_)
  have := kk r h' hq b D cA p e s m args below meth c F H1 locs1 ls (cells + z'.2.1) (slots + z'.2.2) hP1 hS1 hL (by omega) (by omega)
  rw [List.map_append] at this
  cases r <;> exact this
theorem rw_callI {idx n a : Nat} (hl : ml_ok X.1.cls idx X' n) (hin : Cond.instanceMethod X'.1 ∈ lp_BW) (hnm : X'.1.name = "<init>") (hrt : X'.2.2.2 = none) (hd : decode X.2.1 pc = .ok (.invokespecial idx, 3)) (hM : rn_M G X' z' (.inr (some a) :: av) h post') (hn : av.length = n) (hk : av.reverse ++ .inr (some a) :: st = stk) (h8 : st.length ≤ 8) (hz : z'.1 + 1 ≤ z.1) (hrc : rc' + z'.2.1 = rc) (hrs : rs' + z'.2.2 = rs)
    (kk : ∀ r h', post' r h' → rn_W G X z rc' rs' (pc + 3) L (r.toList ++ st) h' post) : rn_W G X z rc rs pc L stk h post := by
  intro b D cA p e s m args below meth c F H locs ls cells slots hP hS hL hc hs
  subst hk
  have hpre : PreS s H (va_Pc ((.inr (some a) :: av : List ha_V).map (ha_v b)) (rn_P G b D cA h)) (.ref (ha_a b a) :: av.map (ha_v b)) := ⟨rn_blind, fun U hU hW => ⟨rfl, rn_pre F hP hS U hU hW⟩⟩
  have hstk : (F0 m pc ls ((av.reverse ++ .inr (some a) :: st).map (ha_v b))).stack = (av.map (ha_v b)).reverse ++ .ref (ha_a b a) :: st.map (ha_v b) := by show (av.reverse ++ .inr (some a) :: st).map (ha_v b) = _; rw [List.map_append, List.map_reverse]; rfl
  have key : va_Run p G.1 e (rn_R z) s m args below meth c H locs cells slots z'.2.1 z'.2.2 (F0 m pc ls ((av.reverse ++ .inr (some a) :: st).map (ha_v b))) (st.map (ha_v b)) (rn_Q b D cA post' (.ref (ha_a b a) :: av.map (ha_v b)).toArray) (fun q => b.1 < q) := by
    rcases hl.2.2.2.2 with hlk | ⟨host, hlk⟩
    · have cb := ml_B (z := z) (z' := z') hl F.2.2.2.2.2.1 hz hlk
      rw [hrt] at cb
      exact va_runI (nL := X.2.2.1) ⟨F.1, F.2.1, F.2.2.1, F.own, F.2.2.2.2.2.1⟩ (hM b D cA) ⟨cb, hnm, F.bw _ hin⟩ hpre rfl (by rw [List.length_map]; exact hn) hL.1 hstk (st_room h8) hd ⟨by show cells + z'.2.1 ≤ z.2.1; omega, by show slots + z'.2.2 ≤ z.2.2; omega⟩
    · have cb := ml_N (z := z) (z' := z') hl F.2.2.2.2.2.1 hz (F.K.2.1 _ hlk)
      rw [hrt] at cb
      exact va_runIN (nL := X.2.2.1) ⟨F.1, F.2.1, F.2.2.1, F.own, F.2.2.2.2.2.1⟩ (hM b D cA) ⟨cb, hnm, F.bw _ hin⟩ hpre rfl (by rw [List.length_map]; exact hn) hL.1 hstk (st_room h8) hd ⟨by show cells + z'.2.1 ≤ z.2.1; omega, by show slots + z'.2.2 ≤ z.2.2; omega⟩
  refine rn_cont key hS (fun r h' H1 locs1 hq hP1 hS1 => ?_)
  have := kk r h' hq b D cA p e s m args below meth c F H1 locs1 ls (cells + z'.2.1) (slots + z'.2.2) hP1 hS1 hL (by omega) (by omega)
  rw [List.map_append] at this
  cases r <;> exact this
theorem rw_callV {idx n a ci : Nat} {C : vw_C} (hl : ml_ok X.1.cls idx X' n) (hin : Cond.instanceMethod X'.1 ∈ lp_BW) (hcl : lp_CL[ci]? = some C) (hse : Cond.selects C.1 X'.1 X'.1 ∈ lp_BW) (hd : decode X.2.1 pc = .ok (.invokevirtual idx, 3)) (ha : hp_ok h a) (hsh : hp_S h a = .inr ci) (hM : rn_M G X' z' (.inr (some a) :: av) h post') (hn : av.length = n) (hk : av.reverse ++ .inr (some a) :: st = stk) (h8 : st.length ≤ 8) (hz : z'.1 + 1 ≤ z.1) (hrc : rc' + z'.2.1 = rc) (hrs : rs' + z'.2.2 = rs)
    (kk : ∀ r h', post' r h' → rn_W G X z rc' rs' (pc + 3) L (r.toList ++ st) h' post) : rn_W G X z rc rs pc L stk h post := by
  intro b D cA p e s m args below meth c F H locs ls cells slots hP hS hL hc hs
  subst hk
  obtain ⟨cell, q1, q2, q3, -⟩ := hp_obj hP ha hsh hcl
  have hfc := (F.K.1.1 ci C hcl).2.1
  have hpre : PreV s H C.1 (ha_a b a) (va_Pc ((.inr (some a) :: av : List ha_V).map (ha_v b)) (rn_P G b D cA h)) (av.map (ha_v b)) := ⟨rn_blind, ⟨cell, q1, by rw [q3]; rfl, by rw [q2]; exact hfc⟩, fun U hU hW => ⟨rfl, rn_pre F hP hS U hU hW⟩⟩
  have hstk : (F0 m pc ls ((av.reverse ++ .inr (some a) :: st).map (ha_v b))).stack = (av.map (ha_v b)).reverse ++ .ref (ha_a b a) :: st.map (ha_v b) := by show (av.reverse ++ .inr (some a) :: st).map (ha_v b) = _; rw [List.map_append, List.map_reverse]; rfl
  have key : va_Run p G.1 e (rn_R z) s m args below meth c H locs cells slots z'.2.1 z'.2.2 (F0 m pc ls ((av.reverse ++ .inr (some a) :: st).map (ha_v b))) (st.map (ha_v b)) (rn_Q b D cA post' (.ref (ha_a b a) :: av.map (ha_v b)).toArray) (fun q => b.1 < q) := by
    rcases hl.2.2.2.2 with hlk | ⟨host, hlk⟩
    · exact va_runV (nL := X.2.2.1) ⟨F.1, F.2.1, F.2.2.1, F.own, F.2.2.2.2.2.1⟩ (hM b D cA) ⟨ml_B hl F.2.2.2.2.2.1 hz hlk, F.bw _ hin, F.bw _ hse⟩ hpre rfl (by rw [List.length_map]; exact hn) hL.1 hstk (st_room h8) hd ⟨by show cells + z'.2.1 ≤ z.2.1; omega, by show slots + z'.2.2 ≤ z.2.2; omega⟩
    · exact va_runVN (nL := X.2.2.1) ⟨F.1, F.2.1, F.2.2.1, F.own, F.2.2.2.2.2.1⟩ (hM b D cA) ⟨ml_N hl F.2.2.2.2.2.1 hz (F.K.2.1 _ hlk), F.bw _ hin, F.bw _ hse⟩ hpre rfl (by rw [List.length_map]; exact hn) hL.1 hstk (st_room h8) hd ⟨by show cells + z'.2.1 ≤ z.2.1; omega, by show slots + z'.2.2 ≤ z.2.2; omega⟩
  refine rn_cont key hS (fun r h' H1 locs1 hq hP1 hS1 => ?_)
  have := kk r h' hq b D cA p e s m args below meth c F H1 locs1 ls (cells + z'.2.1) (slots + z'.2.2) hP1 hS1 hL (by omega) (by omega)
  rw [List.map_append] at this
  cases r <;> exact this
end RC
end
section
/-! Object.<init>, Math.max and Math.min, instanceof and casts, clone of an int array, System.arraycopy of ints. -/
/-- the heap with a copy of the int array a -/
def hp_cl (h : ha_H) (a : Nat) : ha_H := (fun x y => if x = h.2.2.2 then h.1 a y else h.1 x y, h.2.1, fun x => if x = h.2.2.2 then h.2.2.1 a else h.2.2.1 x, h.2.2.2 + 1)
theorem hp_I_cl (h : ha_H) (a x y : Nat) : hp_I (hp_cl h a) x y = if x = hp_n h then hp_I h a y else hp_I h x y := rfl
theorem hp_R_cl (h : ha_H) (a x y : Nat) : hp_R (hp_cl h a) x y = hp_R h x y := rfl
theorem hp_S_cl (h : ha_H) (a x : Nat) : hp_S (hp_cl h a) x = if x = hp_n h then hp_S h a else hp_S h x := rfl
theorem hp_n_cl (h : ha_H) (a : Nat) : hp_n (hp_cl h a) = hp_n h + 1 := rfl
/-- n ints of the array a0 from place sp on, laid into the array a from place dp on -/
def hp_cp (h : ha_H) (a0 sp a dp n : Nat) : ha_H := (fun x y => if x = a then va_cpy (h.1 a0) (h.1 a) sp dp n y else h.1 x y, h.2.1, h.2.2.1, h.2.2.2)
theorem hp_I_cp (h : ha_H) (a0 sp a dp n x y : Nat) : hp_I (hp_cp h a0 sp a dp n) x y = if x = a then va_cpy (hp_I h a0) (hp_I h a) sp dp n y else hp_I h x y := rfl
theorem hp_F0 (b : Nat × Nat) (h : ha_H) (a : Nat) : hp_F b 0 h a = fun j => .int (hp_I h a j) := by
  funext j
  unfold hp_F
  rw [if_pos (by decide)]
theorem hp_w5 : nativeFrameWords "java/lang/System" "arraycopy" 5 ≤ 60 := by decide +kernel
section RS
variable {G : mt_G} {X : mt_X} {z : Nat × Nat × Nat} {rc rs rc' rs' pc : Nat} {L : List (Option ha_V)} {st : List ha_V} {h : ha_H} {post : Option ha_V → ha_H → Prop}
theorem rw_objInit {idx a : Nat} (hlk : Cond.methodLink X.1.cls idx Lib.objectInit ∈ lp_BW) (hin : Cond.instanceMethod Lib.objectInit ∈ lp_BW) (hcd : Cond.code Lib.objectInit ⟨#[0xb1]⟩ 1 none ∈ lp_BW) (hd : decode X.2.1 pc = .ok (.invokespecial idx, 3)) (hz : 1 ≤ z.1) (h8 : st.length ≤ 8) (k : rn_W G X z rc rs (pc + 3) L st h post) : rn_W G X z rc rs pc L (.inr (some a) :: st) h post := by
  intro b D cA p e s m args below meth c F H locs ls cells slots hP hS hL hc hs
  exact W.objInit F.1 F.2.1 F.own (F.bw _ hlk) (F.bw _ hin) (F.bw _ hcd) rfl (hL.1.trans F.2.2.1.symm) rfl hd hz (by show 2 * 0 + _ + 12 ≤ 40 * z.1 + 6; have h0 : ((st.map (ha_v b)).map fun v => v.category).sum = st.length := ha_catS b st; omega) (k _ _ _ _ _ _ _ _ _ _ _ F _ _ _ _ _ hP hS hL hc hs)
theorem rw_mmax {idx : Nat} {x y v : Int32} (hlk : Cond.methodLink X.1.cls idx Lib.Math.max.name ∈ lp_BW) (hst : Cond.static Lib.Math.max.name ∈ lp_BW) (hin : Cond.initialized "java/lang/Math" ∈ lp_BW) (hcd : Cond.code Lib.Math.max.name Lib.Math.max.code 2 (some .int) ∈ lp_BW) (hd : decode X.2.1 pc = .ok (.invokestatic idx, 3)) (hz : 1 ≤ z.1) (h8 : st.length ≤ 8) (hv : (if x < y then y else x) = v) (k : rn_W G X z rc rs (pc + 3) L (.inl v :: st) h post) : rn_W G X z rc rs pc L (.inl y :: .inl x :: st) h post := by
  intro b D cA p e s m args below meth c F H locs ls cells slots hP hS hL hc hs
  subst hv
  have h0 : ((st.map (ha_v b)).map fun v => v.category).sum = st.length := ha_catS b st
  exact va_mmax F.1 F.2.1 (F.2.2.1.trans hL.1.symm) F.own (F.bw _ hlk) (F.bw _ hst) (F.bw _ hin) (F.bw _ hcd) hz (by show _ + 13 ≤ 40 * z.1 + 6; omega) (by show cells ≤ z.2.1; omega) (by show slots ≤ z.2.2; omega) hd (k _ _ _ _ _ _ _ _ _ _ _ F _ _ _ _ _ hP hS hL hc hs)
theorem rw_mmin {idx : Nat} {x y v : Int32} (hlk : Cond.methodLink X.1.cls idx Lib.Math.min.name ∈ lp_BW) (hst : Cond.static Lib.Math.min.name ∈ lp_BW) (hin : Cond.initialized "java/lang/Math" ∈ lp_BW) (hcd : Cond.code Lib.Math.min.name Lib.Math.min.code 2 (some .int) ∈ lp_BW) (hd : decode X.2.1 pc = .ok (.invokestatic idx, 3)) (hz : 1 ≤ z.1) (h8 : st.length ≤ 8) (hv : (if y < x then y else x) = v) (k : rn_W G X z rc rs (pc + 3) L (.inl v :: st) h post) : rn_W G X z rc rs pc L (.inl y :: .inl x :: st) h post := by
  intro b D cA p e s m args below meth c F H locs ls cells slots hP hS hL hc hs
  subst hv
  have h0 : ((st.map (ha_v b)).map fun v => v.category).sum = st.length := ha_catS b st
  exact va_mmin F.1 F.2.1 (F.2.2.1.trans hL.1.symm) F.own (F.bw _ hlk) (F.bw _ hst) (F.bw _ hin) (F.bw _ hcd) hz (by show _ + 13 ≤ 40 * z.1 + 6; omega) (by show cells ≤ z.2.1; omega) (by show slots ≤ z.2.2; omega) hd (k _ _ _ _ _ _ _ _ _ _ _ F _ _ _ _ _ hP hS hL hc hs)
theorem rw_castNull {idx : Nat} (hd : decode X.2.1 pc = .ok (.checkcast idx, 3)) (k : rn_W G X z rc rs (pc + 3) L (.inr none :: st) h post) : rn_W G X z rc rs pc L (.inr none :: st) h post := by
  intro b D cA p e s m args below meth c F H locs ls cells slots hP hS hL hc hs
  exact lv_castN F.1 F.2.1 hd (k _ _ _ _ _ _ _ _ _ _ _ F _ _ _ _ _ hP hS hL hc hs)
/-- an object of exactly the class asked for -/
theorem rw_castS {idx a ci : Nat} {r : vw_C} (hcl : lp_CL[ci]? = some r) (hlk : Cond.classLink X.1.cls idx r.1 ∈ lp_BW) (hd : decode X.2.1 pc = .ok (.checkcast idx, 3)) (ha : hp_ok h a) (hs : hp_S h a = .inr ci) (k : rn_W G X z rc rs (pc + 3) L (.inr (some a) :: st) h post) : rn_W G X z rc rs pc L (.inr (some a) :: st) h post := by
  intro b D cA p e s m args below meth c F H locs ls cells slots hP hS hL hc hs'
  obtain ⟨cell, q1, q2, q3, q4⟩ := hp_obj hP ha hs hcl
  have hC := (F.K.1.1 ci r hcl).2
  exact va_castS F.1 F.2.1 F.own (F.bw _ hlk) hC ⟨cell, q1, by rw [q3]; rfl, by rw [q2]; exact hC.1⟩ hd (k _ _ _ _ _ _ _ _ _ _ _ F _ _ _ _ _ hP hS hL hc hs')
theorem rw_instS {idx a ci : Nat} {r : vw_C} (hcl : lp_CL[ci]? = some r) (hlk : Cond.classLink X.1.cls idx r.1 ∈ lp_BW) (hd : decode X.2.1 pc = .ok (.instanceof idx, 3)) (ha : hp_ok h a) (hs : hp_S h a = .inr ci) (k : rn_W G X z rc rs (pc + 3) L (.inl 1 :: st) h post) : rn_W G X z rc rs pc L (.inr (some a) :: st) h post := by
  intro b D cA p e s m args below meth c F H locs ls cells slots hP hS hL hc hs'
  obtain ⟨cell, q1, q2, q3, q4⟩ := hp_obj hP ha hs hcl
  have hC := (F.K.1.1 ci r hcl).2
  exact va_instS F.1 F.2.1 F.own (F.bw _ hlk) hC ⟨cell, q1, by rw [q3]; rfl, by rw [q2]; exact hC.1⟩ hd (k _ _ _ _ _ _ _ _ _ _ _ F _ _ _ _ _ hP hS hL hc hs')
theorem rw_instNo {idx a ci : Nat} {r : vw_C} {nm : String} (hcl : lp_CL[ci]? = some r) (hlk : Cond.classLink X.1.cls idx nm ∈ lp_BW) (hnc : (r.1, nm) ∈ lp_NC) (hd : decode X.2.1 pc = .ok (.instanceof idx, 3)) (ha : hp_ok h a) (hs : hp_S h a = .inr ci) (k : rn_W G X z rc rs (pc + 3) L (.inl 0 :: st) h post) : rn_W G X z rc rs pc L (.inr (some a) :: st) h post := by
  intro b D cA p e s m args below meth c F H locs ls cells slots hP hS hL hc hs'
  obtain ⟨cell, q1, q2, q3, q4⟩ := hp_obj hP ha hs hcl
  have hC := (F.K.1.1 ci r hcl).2
  exact va_instNo F.1 F.2.1 F.own (F.bw _ hlk) (F.K.2.2.2 _ hnc) ⟨cell, q1, by rw [q3]; rfl, by rw [q2]; exact hC.1⟩ hd (k _ _ _ _ _ _ _ _ _ _ _ F _ _ _ _ _ hP hS hL hc hs')
theorem rw_castA {idx a n : Nat} (hlk : Cond.classLink X.1.cls idx "[I" ∈ lp_BW) (hd : decode X.2.1 pc = .ok (.checkcast idx, 3)) (ha : hp_ok h a) (hs : hp_S h a = .inl (0, n)) (k : rn_W G X z rc rs (pc + 3) L (.inr (some a) :: st) h post) : rn_W G X z rc rs pc L (.inr (some a) :: st) h post := by
  intro b D cA p e s m args below meth c F H locs ls cells slots hP hS hL hc hs'
  have hcell := hp_arr hP ha hs
  have hnm : s.vm.findClass "[I" = some (cA 0) := va_nm_int (F.K.ra (t := 0) lp_AT0)
  intro T hT X0
  obtain ⟨vm', X', stp⟩ := X0.checkcastYes F.1 F.own (F.bw _ hlk) (by rw [hT]; exact hcell) rfl hnm (va_asg _ _) (g := F0 m pc ls ((.inr (some a) :: st : List ha_V).map (ha_v b))) rfl rfl (by rw [F.2.1]; exact hd)
  obtain ⟨t, a1, b1⟩ := k _ _ _ _ _ _ _ _ _ _ _ F _ _ _ _ _ hP hS hL hc hs' (T.setVm vm') hT X'
  exact ⟨t, stp t a1, b1⟩
theorem rw_clone {idx a n : Nat} (hlk : Cond.methodLink X.1.cls idx ⟨"[I", "clone", "()Ljava/lang/Object;"⟩ ∈ lp_BW) (hsm : Cond.sameMethod "[I" "java/lang/Object" "clone" "()Ljava/lang/Object;" ∈ lp_BW) (hnat : Cond.native ⟨"java/lang/Object", "clone", "()Ljava/lang/Object;"⟩ ∈ lp_BW) (hins : Cond.instanceMethod ⟨"java/lang/Object", "clone", "()Ljava/lang/Object;"⟩ ∈ lp_BW)
    (hse : Cond.selects "[I" ⟨"[I", "clone", "()Ljava/lang/Object;"⟩ ⟨"java/lang/Object", "clone", "()Ljava/lang/Object;"⟩ ∈ lp_BW) (hcl : Cond.castable "[I" "java/lang/Cloneable" ∈ lp_NW) (hd : decode X.2.1 pc = .ok (.invokevirtual idx, 3)) (ha : hp_ok h a) (hs : hp_S h a = .inl (0, n)) (hz : 1 ≤ z.1) (h8 : st.length ≤ 8) (hrc : rc' + 1 = rc) (hrs : rs' + n = rs)
    (k : rn_W G X z rc' rs' (pc + 3) L (.inr (some (hp_n h)) :: st) (hp_cl h a) post) : rn_W G X z rc rs pc L (.inr (some a) :: st) h post := by
  intro b D cA p e s m args below meth c F H locs ls cells slots hP hS hL hc hs'
  have hcell := hp_arr hP ha hs
  have hnm : s.vm.findClass "[I" = some (cA 0) := va_nm_int (F.K.ra (t := 0) lp_AT0)
  have hAr := F.K.arr (t := 0) lp_AT0
  obtain ⟨c0, t0', f1, f2, f3⟩ := Cond.castable_spec (F.nw rfl hcl)
  cases hnm.symm.trans f1
  intro T hT X0
  obtain ⟨-, kA, hkA, comp, hkind⟩ := State.isArrayOf_alike X0.warmed.alike (hAr 0 (fun _ => .null))
  obtain ⟨-, kS, hkS, compS, hkindS⟩ := hAr 0 (fun _ => .null)
  have hsz : (arrV (cA 0) n (hp_F b 0 h a)).slots.size = n := arrV_size _ _ _
  have h0 : ((st.map (ha_v b)).map fun v => v.category).sum = st.length := ha_catS b st
  obtain ⟨vm', X', stp⟩ := X0.cloneArray F.1 F.own (F.bw _ hlk) (F.bw _ hsm) (F.bw _ hnat) (F.bw _ hins) (F.bw _ hse) (a := ha_a b a) (cell := arrV (cA 0) n (hp_F b 0 h a)) (by rw [hT]; exact hcell) (fun k h => by cases h) (fun h => by cases h) hnm f2 f3
    (fun i v hv => by
      have hk' : T.vm.classes[cA 0]? = some kA := hkA
      have hfv : fits .int v = true := by
        refine va_fit (F := hp_F b 0 h a) (fun j _ => ?_) i v hv
        rw [hp_F0]
        rfl
      show T.fitsSlot (cA 0) .none i v = true
      simpa [State.fitsSlot, State.slotType?, hk', hkind] using hfv)
    (g := F0 m pc ls ((.inr (some a) :: st : List ha_V).map (ha_v b))) rfl (hL.1.trans F.2.2.1.symm) rfl (by rw [F.2.1]; exact hd) hz (by show 2 * 0 + ((st.map (ha_v b)).map fun v => v.category).sum + 14 ≤ 40 * z.1 + 6; omega) (show cells + 1 ≤ z.2.1 by omega) (by rw [hsz]; show slots + n ≤ z.2.2; omega) (hloader := Vm.clonesLoader_of_array hkS hkindS)
  rw [hsz] at X'
  have e0 : H.size = ha_a b (hp_n h) := hP.sz
  generalize hH1 : H.push (arrV (cA 0) n (hp_F b 0 h a)) = H1
  have z1 : H1.size = H.size + 1 := by rw [← hH1, Array.size_push]
  have e1 : H1[ha_a b (hp_n h)]? = some (arrV (cA 0) n (hp_F b 0 h a)) := by rw [← hH1, ← e0, Array.getElem?_push_size]
  have o1 : ∀ q : Nat, q < H.size → H1[q]? = H[q]? := fun q hq => by rw [← hH1, Array.getElem?_push, if_neg (Nat.ne_of_lt hq)]
  have hP1 : hp_P b D cA (hp_cl h a) H1 := by
    refine hP.grow z1 o1 rfl ?_ (fun k hk j => by rw [hp_I_cl, if_neg (by omega)]) (fun _ _ _ => rfl) (fun k hk => by rw [hp_S_cl, if_neg (by omega)])
    unfold hp_at
    rw [hp_S_cl, if_pos rfl, hs]
    show H1[ha_a b (hp_n h)]? = some (arrV (cA 0) n (hp_F b 0 (hp_cl h a) (hp_n h)))
    rw [e1, hp_F0, hp_F0]
    congr 2
    funext j
    rw [hp_I_cl, if_pos rfl]
  obtain ⟨t, b1, b2⟩ := k _ _ _ _ _ _ _ _ _ _ _ F H1 locs ls (cells + 1) (slots + n) hP1 (hS.up z1 o1) hL (by omega) (by omega) ((T.setVm vm').pushCell (arrV (cA 0) n (hp_F b 0 h a))) (by rw [← hH1, ← hT]; rfl) X'
  refine ⟨t, stp t ?_, b2⟩
  rw [hT, e0]
  exact b1
theorem rw_copy {idx a0 a n0 n1 n : Nat} {sp dp nn : Int32} (hlk : Cond.methodLink X.1.cls idx arraycopyName ∈ lp_BW) (hnat : Cond.native arraycopyName ∈ lp_BW) (hst : Cond.static arraycopyName ∈ lp_BW) (hini : Cond.initialized "java/lang/System" ∈ lp_BW) (hd : decode X.2.1 pc = .ok (.invokestatic idx, 3)) (ha0 : hp_ok h a0) (hs0 : hp_S h a0 = .inl (0, n0)) (ha : hp_ok h a) (hs1 : hp_S h a = .inl (0, n1))
    (h1 : ¬ sp < 0) (h2 : ¬ dp < 0) (h3 : ¬ nn < 0) (hnn : nn.toNatClampNeg = n) (h4 : sp.toNatClampNeg + n ≤ n0) (h5 : dp.toNatClampNeg + n ≤ n1) (hz : 2 ≤ z.1) (h8 : st.length ≤ 8)
    (k : rn_W G X z rc rs (pc + 3) L st (hp_cp h a0 sp.toNatClampNeg a dp.toNatClampNeg n) post) : rn_W G X z rc rs pc L (.inl nn :: .inl dp :: .inr (some a) :: .inl sp :: .inr (some a0) :: st) h post := by
  intro b D cA p e s m args below meth c F H locs ls cells slots hP hS hL hc hs'
  subst hnn
  have hc0 := hp_arr hP ha0 hs0
  have hc1 := hp_arr hP ha hs1
  rw [hp_F0] at hc0 hc1
  have tn : ∀ z : Int32, ¬ z < 0 → z.toInt = (z.toNatClampNeg : Int) := by
    intro z hz
    have hz0 : (0 : Int) ≤ z.toInt := by
      have := Int32.not_lt.mp hz
      simpa using Int32.le_iff_toInt_le.mp this
    show z.toInt = ((z.toInt.toNat : Nat) : Int)
    omega
  have hAr := F.K.arr (t := 0) lp_AT0
  obtain ⟨-, k0, hk0, cm0, hkk0⟩ := hAr n0 (fun j => .int (hp_I h a0 j))
  have h0 : ((st.map (ha_v b)).map fun v => v.category).sum = st.length := ha_catS b st
  intro T hT X0
  obtain ⟨vm', X', stp⟩ := X0.arraycopy F.1 F.own (F.bw _ hlk) (F.bw _ hnat) (F.bw _ hst) (F.bw _ hini) (src := ha_a b a0) (dst := ha_a b a) (cs := arrV (cA 0) n0 (fun j => .int (hp_I h a0 j))) (cd := arrV (cA 0) n1 (fun j => .int (hp_I h a j))) (srcPos := sp) (destPos := dp) (n := nn) (by rw [hT]; exact hc0) (by rw [hT]; exact hc1)
    (fun _ h => by cases h) (fun _ h => by cases h) (fun h => by cases h) (fun h => by cases h) hk0 hk0 hkk0 hkk0 (by simp [refKind]) h1 h2 h3
    (by rw [tn sp h1, tn nn h3, arrV_size]; omega)
    (by rw [tn dp h2, tn nn h3, arrV_size]; omega)
    (fun vm₁ _ i hi => by
      have e : (arrV (cA 0) n0 (fun j => .int (hp_I h a0 j))).slots.getD (sp.toNatClampNeg + i) .null = .int (hp_I h a0 (sp.toNatClampNeg + i)) := by
        rw [Array.getD_eq_getD_getElem?, arrV_read _ _ (by omega)]
        rfl
      rw [e]
      exact ⟨rfl, trivial⟩)
    (g := F0 m pc ls ((.inl nn :: .inl dp :: .inr (some a) :: .inl sp :: .inr (some a0) :: st : List ha_V).map (ha_v b))) rfl (hL.1.trans F.2.2.1.symm) (rest := st.map (ha_v b)) rfl (by rw [F.2.1]; exact hd) (show 1 ≤ z.1 by omega) (by show 2 * 0 + ((st.map (ha_v b)).map fun v => v.category).sum + (nativeFrameWords "java/lang/System" "arraycopy" 5 + 11) ≤ 40 * z.1 + 6; have hw5 := hp_w5; omega)
  have e1 : copied (arrV (cA 0) n0 (fun j => .int (hp_I h a0 j))) (arrV (cA 0) n1 (fun j => .int (hp_I h a j))) sp dp nn = arrV (cA 0) n1 (fun j => .int (va_cpy (hp_I h a0) (hp_I h a) sp.toNatClampNeg dp.toNatClampNeg nn.toNatClampNeg j)) := va_copied (fun z => .int z) (cA 0) (cA 0) (hp_I h a0) (hp_I h a) h4
  rw [e1] at X' stp
  generalize hC : arrV (cA 0) n1 (fun j => .int (va_cpy (hp_I h a0) (hp_I h a) sp.toNatClampNeg dp.toNatClampNeg nn.toNatClampNeg j)) = C at X' stp
  have hl : ha_a b a < H.size := (Array.getElem?_eq_some_iff.mp hc1).1
  have hheap : ((T.setVm vm').setCell (ha_a b a) C).heap = H.setIfInBounds (ha_a b a) C := by rw [← hT]; rfl
  have oq : ∀ q : Nat, q ≠ ha_a b a → (H.setIfInBounds (ha_a b a) C)[q]? = H[q]? := fun q hq => by simp [Array.getElem?_setIfInBounds, Ne.symm hq]
  have hP1 : hp_P b D cA (hp_cp h a0 sp.toNatClampNeg a dp.toNatClampNeg nn.toNatClampNeg) (H.setIfInBounds (ha_a b a) C) := by
    refine hP.set ha (by simp) oq ?_ rfl (fun k hk j => by rw [hp_I_cp, if_neg hk]) (fun _ _ _ => rfl) (fun _ => rfl)
    unfold hp_at
    rw [show hp_S (hp_cp h a0 sp.toNatClampNeg a dp.toNatClampNeg nn.toNatClampNeg) a = hp_S h a from rfl, hs1]
    show (H.setIfInBounds (ha_a b a) C)[ha_a b a]? = some (arrV (cA 0) n1 (hp_F b 0 (hp_cp h a0 sp.toNatClampNeg a dp.toNatClampNeg nn.toNatClampNeg) a))
    rw [hp_F0]
    have e2 : (fun j => Value.int (hp_I (hp_cp h a0 sp.toNatClampNeg a dp.toNatClampNeg nn.toNatClampNeg) a j)) = fun j => .int (va_cpy (hp_I h a0) (hp_I h a) sp.toNatClampNeg dp.toNatClampNeg nn.toNatClampNeg j) := by
      funext j
      rw [hp_I_cp, if_pos rfl]
    rw [e2, hC]
    simp [Array.getElem?_setIfInBounds, hl]
  obtain ⟨t, a1, b1⟩ := k _ _ _ _ _ _ _ _ _ _ _ F _ _ ls cells slots hP1 ⟨by simp; exact hS.1, fun q g1 g2 => by
      rw [oq q (fun e => g2 (by rw [e]; exact ha_lt b ha.1))]
      exact hS.2.1 q g1 g2, fun q hq => by
      rcases List.mem_append.mp hq with h | h
      · exact hS.2.2 q h
      · obtain ⟨z, -, hz⟩ := List.mem_map.mp h
        rw [← hz]
        exact ha_lt b ha.1⟩ hL hc hs' _ hheap X'
  exact ⟨t, stp t a1, b1⟩
end RS
end
section
/-! new int[N][K]; calls by the kind of their answer. -/
/-- the heap with a new grid: its outer array is the next cell, the rows stand behind it -/
def hp_mu (h : ha_H) (N K : Nat) : ha_H := (fun x y => if h.2.2.2 ≤ x then 0 else h.1 x y, fun x y => if x = h.2.2.2 then (if y < N then some (h.2.2.2 + 1 + y) else none) else if h.2.2.2 ≤ x then none else h.2.1 x y, fun x => if x = h.2.2.2 then .inl (9, N) else if h.2.2.2 ≤ x then .inl (0, K) else h.2.2.1 x, h.2.2.2 + 1 + N)
theorem hp_I_mu (h : ha_H) (N K x y : Nat) : hp_I (hp_mu h N K) x y = if hp_n h ≤ x then 0 else hp_I h x y := rfl
theorem hp_R_mu (h : ha_H) (N K x y : Nat) : hp_R (hp_mu h N K) x y = if x = hp_n h then (if y < N then some (hp_n h + 1 + y) else none) else if hp_n h ≤ x then none else hp_R h x y := rfl
theorem hp_S_mu (h : ha_H) (N K x : Nat) : hp_S (hp_mu h N K) x = if x = hp_n h then .inl (9, N) else if hp_n h ≤ x then .inl (0, K) else hp_S h x := rfl
theorem hp_n_mu (h : ha_H) (N K : Nat) : hp_n (hp_mu h N K) = hp_n h + 1 + N := rfl
theorem mu_outer (c : ClassId) (N h0 : Nat) : ∀ i : Nat, Jvm.Free.Multi.outerC c N h0 i = arrV c N (fun j => if j < i then .ref (h0 + 1 + j) else .null)
  | 0 => by
    show ({ cls := c, slots := Array.replicate N .null, vm := .none } : Cell) = _
    rw [arrV_new]
    refine congrArg (arrV c N) (funext fun j => ?_)
    simp
  | i + 1 => by
    show (Jvm.Free.Multi.outerC c N h0 i).setSlot i (.ref (h0 + 1 + i)) = _
    rw [mu_outer c N h0 i, arrV_store]
    refine congrArg (arrV c N) (funext fun j => ?_)
    unfold updV
    by_cases e : j = i
    · subst e
      simp
    · by_cases h : j < i
      · simp [e, h, Nat.lt_succ_of_lt h]
      · simp [e, h, show ¬ j < i + 1 by omega]
theorem mu_inner (c : ClassId) (K : Nat) : Jvm.Free.Multi.innerC c K (defaultValue .int) = arrV c K (fun _ => .int 0) := arrV_new c K (.int 0)
theorem mu_nm : "[" ++ (FieldType.array .int).toString = "[[I" := by decide +kernel
section RG
variable {G : mt_G} {X X' : mt_X} {z z' : Nat × Nat × Nat} {rc rs rc' rs' pc : Nat} {L : List (Option ha_V)} {st stk av : List ha_V} {h : ha_H} {post : Option ha_V → ha_H → Prop}
theorem rw_multi {idx N K : Nat} {x y : Int32} (hlk : Cond.classLink X.1.cls idx "[[I" ∈ lp_BW) (hac : Cond.arrayClass .int ∈ lp_BW) (hao : FieldType.array .int ∈ lp_AO) (hd : decode X.2.1 pc = .ok (.multianewarray idx 2, 4)) (hx : ¬ x < 0) (hy : ¬ y < 0) (hN : x.toNatClampNeg = N) (hK : y.toNatClampNeg = K) (hB : N ≤ 1000 ∧ K ≤ 1000) (hrc : rc' + (1 + N) = rc) (hrs : rs' + (N + N * K) = rs)
    (k : rn_W G X z rc' rs' (pc + 4) L (.inr (some (hp_n h)) :: st) (hp_mu h N K) post) : rn_W G X z rc rs pc L (.inl y :: .inl x :: st) h post := by
  intro b D cA p e s m args below meth c F H locs ls cells slots hP hS hL hc hs
  subst hN
  subst hK
  intro T hT X0
  have hw : (Cond.classLink X.1.cls idx ("[" ++ (FieldType.array .int).toString)).before args s = true := by rw [mu_nm]; exact F.bw _ hlk
  obtain ⟨vm₁, cO, comp, -, fA, fC, -, -, X', stp⟩ := X0.multianewarray2F F.1 F.own hw (F.K.2.2.1 _ hao) (F.bw _ hac) (g := F0 m pc ls ((.inl y :: .inl x :: st : List ha_V).map (ha_v b))) rfl (by rw [F.2.1]; exact hd) (n := x) (k := y) (rest := st.map (ha_v b)) rfl hx hy (by omega) (by show _ * 4 ≤ _; omega) (by omega) rfl rfl (show cells + (1 + x.toNatClampNeg) ≤ z.2.1 by omega) (show slots + (x.toNatClampNeg + x.toNatClampNeg * y.toNatClampNeg) ≤ z.2.2 by omega)
  have h0 : s.vm.findClass ("[" ++ FieldType.int.toString) = some (cA 0) := F.K.ra (t := 0) lp_AT0
  have h9 : s.vm.findClass ("[" ++ (FieldType.array .int).toString) = some (cA 9) := F.K.ra (t := 9) rfl
  have hc0 : (FieldType.array .int).toString = "[" ++ FieldType.int.toString := by decide +kernel
  rw [hc0] at fC
  cases h9.symm.trans fA
  cases h0.symm.trans fC
  have hn : 0 < hp_n h := hP.2.1
  have eH : H.size = b.1 + hp_n h := hP.1
  have hTh : (T.setVm vm₁).heap = H := hT
  generalize hF : Jvm.Free.Multi.fill (T.setVm vm₁) (cA 9) (cA 0) x.toNatClampNeg y.toNatClampNeg (defaultValue .int) x.toNatClampNeg = Fl at X' stp
  obtain ⟨f1, f2, -, -⟩ := Jvm.Free.Multi.fill_facts (T.setVm vm₁) (cA 9) (cA 0) x.toNatClampNeg y.toNatClampNeg (defaultValue .int) x.toNatClampNeg
  rw [hF, hTh] at f1 f2
  rw [mu_outer] at f2
  have hold : ∀ q : Nat, q < H.size → Fl.heap[q]? = H[q]? := fun q hq => by
    have := Jvm.Free.Multi.fill_old (T.setVm vm₁) (cA 9) (cA 0) x.toNatClampNeg y.toNatClampNeg (defaultValue .int) (a := q) (by rw [hTh]; exact hq) x.toNatClampNeg
    rw [hF, hTh] at this
    exact this
  have hrow : ∀ j : Nat, j < x.toNatClampNeg → Fl.heap[H.size + 1 + j]? = some (arrV (cA 0) y.toNatClampNeg (fun _ => .int 0)) := fun j hj => by
    have := Jvm.Free.Multi.fill_inner (T.setVm vm₁) (cA 9) (cA 0) x.toNatClampNeg y.toNatClampNeg (defaultValue .int) x.toNatClampNeg j hj
    rw [hF, hTh, mu_inner] at this
    exact this
  have hP1 : hp_P b D cA (hp_mu h x.toNatClampNeg y.toNatClampNeg) Fl.heap := by
    refine ⟨by rw [f1, hp_n_mu, eH]; omega, by rw [hp_n_mu]; omega, fun q hq => ?_⟩
    unfold hp_ok at hq
    rw [hp_n_mu] at hq
    by_cases e1 : q = hp_n h
    · subst e1
      unfold hp_at
      rw [hp_S_mu, if_pos rfl]
      show Fl.heap[ha_a b (hp_n h)]? = some (arrV (cA 9) x.toNatClampNeg (hp_F b 9 _ (hp_n h)))
      rw [ha_p b hn, ← eH, f2]
      refine congrArg some (congrArg (arrV (cA 9) x.toNatClampNeg) (funext fun j => ?_))
      unfold hp_F
      rw [if_neg (show ¬ (9 : Nat) < 2 by decide), hp_R_mu, if_pos rfl]
      by_cases hj : j < x.toNatClampNeg
      · rw [if_pos hj, if_pos hj]
        show Value.ref _ = Value.ref (ha_a b (hp_n h + 1 + j))
        have e8 : ha_a b (hp_n h + 1 + j) = b.1 + (hp_n h + 1 + j) := ha_p b (by omega)
        have e7 : H.size + 1 + j = ha_a b (hp_n h + 1 + j) := by rw [e8, eH]; exact (by omega : b.1 + hp_n h + 1 + j = b.1 + (hp_n h + 1 + j))
        exact congrArg Value.ref e7
      · rw [if_neg hj, if_neg hj]
        rfl
    · by_cases e2 : hp_n h ≤ q
      · unfold hp_at
        rw [hp_S_mu, if_neg e1, if_pos e2]
        show Fl.heap[ha_a b q]? = some (arrV (cA 0) y.toNatClampNeg (hp_F b 0 _ q))
        rw [hp_F0, ha_p b hq.1, show b.1 + q = H.size + 1 + (q - hp_n h - 1) by omega, hrow _ (by omega)]
        refine congrArg some (congrArg (arrV (cA 0) y.toNatClampNeg) (funext fun j => ?_))
        rw [hp_I_mu, if_pos e2]
      · refine (hP.2.2 q ⟨hq.1, by omega⟩).kept (hold _ (by rw [eH, ha_p b hq.1]; omega)) (fun j => ?_) (fun j => ?_) ?_
        · rw [hp_I_mu, if_neg e2]
        · rw [hp_R_mu, if_neg e1, if_neg e2]
        · rw [hp_S_mu, if_neg e1, if_neg e2]
  obtain ⟨t, a1, b1⟩ := k b D cA p e s m args below meth c F Fl.heap locs ls (cells + 1 + x.toNatClampNeg) (slots + x.toNatClampNeg + x.toNatClampNeg * y.toNatClampNeg) hP1 ⟨by rw [f1]; have := hS.1; omega, fun q g1 g2 => (hold q (Nat.lt_of_lt_of_le g1 hS.1)).trans (hS.2.1 q g1 g2), hS.2.2⟩ hL (by omega) (by omega) Fl rfl X'
  refine ⟨t, stp t ?_, b1⟩
  have e9 : T.heap.size = ha_a b (hp_n h) := by rw [hT]; exact hP.sz
  rw [e9]
  exact a1
theorem rw_si {idx n : Nat} {q : Int32 → ha_H → Prop} (hl : ml_ok X.1.cls idx X' n) (hst : Cond.static X'.1 ∈ lp_BW) (hd : decode X.2.1 pc = .ok (.invokestatic idx, 3)) (hM : rn_M G X' z' av h (rn_i q)) (hn : av.length = n) (hk : av.reverse ++ st = stk) (h8 : st.length ≤ 8) (hz : z'.1 + 1 ≤ z.1) (hrc : rc' + z'.2.1 = rc) (hrs : rs' + z'.2.2 = rs)
    (kk : ∀ x h', q x h' → rn_W G X z rc' rs' (pc + 3) L (.inl x :: st) h' post) : rn_W G X z rc rs pc L stk h post :=
  rw_callS hl hst hd hM hn hk h8 hz hrc hrs (fun r h' hq => by obtain ⟨x, rfl, hx⟩ := hq; exact kk x h' hx)
theorem rw_sv {idx n : Nat} {q : ha_H → Prop} (hl : ml_ok X.1.cls idx X' n) (hst : Cond.static X'.1 ∈ lp_BW) (hd : decode X.2.1 pc = .ok (.invokestatic idx, 3)) (hM : rn_M G X' z' av h (rn_v q)) (hn : av.length = n) (hk : av.reverse ++ st = stk) (h8 : st.length ≤ 8) (hz : z'.1 + 1 ≤ z.1) (hrc : rc' + z'.2.1 = rc) (hrs : rs' + z'.2.2 = rs)
    (kk : ∀ h', q h' → rn_W G X z rc' rs' (pc + 3) L st h' post) : rn_W G X z rc rs pc L stk h post :=
  rw_callS hl hst hd hM hn hk h8 hz hrc hrs (fun r h' hq => by obtain ⟨rfl, hx⟩ := hq; exact kk h' hx)
theorem rw_sr {idx n : Nat} {q : Option Nat → ha_H → Prop} (hl : ml_ok X.1.cls idx X' n) (hst : Cond.static X'.1 ∈ lp_BW) (hd : decode X.2.1 pc = .ok (.invokestatic idx, 3)) (hM : rn_M G X' z' av h (rn_r q)) (hn : av.length = n) (hk : av.reverse ++ st = stk) (h8 : st.length ≤ 8) (hz : z'.1 + 1 ≤ z.1) (hrc : rc' + z'.2.1 = rc) (hrs : rs' + z'.2.2 = rs)
    (kk : ∀ x h', q x h' → rn_W G X z rc' rs' (pc + 3) L (.inr x :: st) h' post) : rn_W G X z rc rs pc L stk h post :=
  rw_callS hl hst hd hM hn hk h8 hz hrc hrs (fun r h' hq => by obtain ⟨x, rfl, hx⟩ := hq; exact kk x h' hx)
theorem rw_iv {idx n a : Nat} {q : ha_H → Prop} (hl : ml_ok X.1.cls idx X' n) (hin : Cond.instanceMethod X'.1 ∈ lp_BW) (hnm : X'.1.name = "<init>") (hrt : X'.2.2.2 = none) (hd : decode X.2.1 pc = .ok (.invokespecial idx, 3)) (hM : rn_M G X' z' (.inr (some a) :: av) h (rn_v q)) (hn : av.length = n) (hk : av.reverse ++ .inr (some a) :: st = stk) (h8 : st.length ≤ 8) (hz : z'.1 + 1 ≤ z.1) (hrc : rc' + z'.2.1 = rc) (hrs : rs' + z'.2.2 = rs)
    (kk : ∀ h', q h' → rn_W G X z rc' rs' (pc + 3) L st h' post) : rn_W G X z rc rs pc L stk h post :=
  rw_callI hl hin hnm hrt hd hM hn hk h8 hz hrc hrs (fun r h' hq => by obtain ⟨rfl, hx⟩ := hq; exact kk h' hx)
theorem rw_vi {idx n a ci : Nat} {C : vw_C} {q : Int32 → ha_H → Prop} (hl : ml_ok X.1.cls idx X' n) (hin : Cond.instanceMethod X'.1 ∈ lp_BW) (hcl : lp_CL[ci]? = some C) (hse : Cond.selects C.1 X'.1 X'.1 ∈ lp_BW) (hd : decode X.2.1 pc = .ok (.invokevirtual idx, 3)) (ha : hp_ok h a) (hsh : hp_S h a = .inr ci) (hM : rn_M G X' z' (.inr (some a) :: av) h (rn_i q)) (hn : av.length = n) (hk : av.reverse ++ .inr (some a) :: st = stk) (h8 : st.length ≤ 8) (hz : z'.1 + 1 ≤ z.1) (hrc : rc' + z'.2.1 = rc) (hrs : rs' + z'.2.2 = rs)
    (kk : ∀ x h', q x h' → rn_W G X z rc' rs' (pc + 3) L (.inl x :: st) h' post) : rn_W G X z rc rs pc L stk h post :=
  rw_callV hl hin hcl hse hd ha hsh hM hn hk h8 hz hrc hrs (fun r h' hq => by obtain ⟨x, rfl, hx⟩ := hq; exact kk x h' hx)
theorem rw_vv {idx n a ci : Nat} {C : vw_C} {q : ha_H → Prop} (hl : ml_ok X.1.cls idx X' n) (hin : Cond.instanceMethod X'.1 ∈ lp_BW) (hcl : lp_CL[ci]? = some C) (hse : Cond.selects C.1 X'.1 X'.1 ∈ lp_BW) (hd : decode X.2.1 pc = .ok (.invokevirtual idx, 3)) (ha : hp_ok h a) (hsh : hp_S h a = .inr ci) (hM : rn_M G X' z' (.inr (some a) :: av) h (rn_v q)) (hn : av.length = n) (hk : av.reverse ++ .inr (some a) :: st = stk) (h8 : st.length ≤ 8) (hz : z'.1 + 1 ≤ z.1) (hrc : rc' + z'.2.1 = rc) (hrs : rs' + z'.2.2 = rs)
    (kk : ∀ h', q h' → rn_W G X z rc' rs' (pc + 3) L st h' post) : rn_W G X z rc rs pc L stk h post :=
  rw_callV hl hin hcl hse hd ha hsh hM hn hk h8 hz hrc hrs (fun r h' hq => by obtain ⟨rfl, hx⟩ := hq; exact kk h' hx)
theorem rw_vr {idx n a ci : Nat} {C : vw_C} {q : Option Nat → ha_H → Prop} (hl : ml_ok X.1.cls idx X' n) (hin : Cond.instanceMethod X'.1 ∈ lp_BW) (hcl : lp_CL[ci]? = some C) (hse : Cond.selects C.1 X'.1 X'.1 ∈ lp_BW) (hd : decode X.2.1 pc = .ok (.invokevirtual idx, 3)) (ha : hp_ok h a) (hsh : hp_S h a = .inr ci) (hM : rn_M G X' z' (.inr (some a) :: av) h (rn_r q)) (hn : av.length = n) (hk : av.reverse ++ .inr (some a) :: st = stk) (h8 : st.length ≤ 8) (hz : z'.1 + 1 ≤ z.1) (hrc : rc' + z'.2.1 = rc) (hrs : rs' + z'.2.2 = rs)
    (kk : ∀ x h', q x h' → rn_W G X z rc' rs' (pc + 3) L (.inr x :: st) h' post) : rn_W G X z rc rs pc L stk h post :=
  rw_callV hl hin hcl hse hd ha hsh hM hn hk h8 hz hrc hrs (fun r h' hq => by obtain ⟨x, rfl, hx⟩ := hq; exact kk x h' hx)
end RG
end
section
/-! Method constants and decode rows, written by wip/whole/gen/code.py out of the listing. -/
def xL_init : mt_X := (⟨"LeasedPages", "<init>", "(I)V"⟩, prog_1_method_1_code, 4, (Option.none : Option FieldType))
theorem dL_init_0 : decode xL_init.2.1 0 = .ok (.aload_n 0, 1) := by decide +kernel
theorem dL_init_1 : decode xL_init.2.1 1 = .ok (.invokespecial 1, 3) := by decide +kernel
theorem dL_init_4 : decode xL_init.2.1 4 = .ok (.bipush 8, 2) := by decide +kernel
theorem dL_init_6 : decode xL_init.2.1 6 = .ok (.sipush 200, 3) := by decide +kernel
theorem dL_init_9 : decode xL_init.2.1 9 = .ok (.iload_n 1, 1) := by decide +kernel
theorem dL_init_10 : decode xL_init.2.1 10 = .ok (.invokestatic 9, 3) := by decide +kernel
theorem dL_init_13 : decode xL_init.2.1 13 = .ok (.invokestatic 15, 3) := by decide +kernel
theorem dL_init_16 : decode xL_init.2.1 16 = .ok (.istore_n 2, 1) := by decide +kernel
theorem dL_init_17 : decode xL_init.2.1 17 = .ok (.aload_n 0, 1) := by decide +kernel
theorem dL_init_18 : decode xL_init.2.1 18 = .ok (.new 18, 3) := by decide +kernel
theorem dL_init_21 : decode xL_init.2.1 21 = .ok (.dup, 1) := by decide +kernel
theorem dL_init_22 : decode xL_init.2.1 22 = .ok (.invokespecial 20, 3) := by decide +kernel
theorem dL_init_25 : decode xL_init.2.1 25 = .ok (.putfield 21, 3) := by decide +kernel
theorem dL_init_28 : decode xL_init.2.1 28 = .ok (.aload_n 0, 1) := by decide +kernel
theorem dL_init_29 : decode xL_init.2.1 29 = .ok (.new 25, 3) := by decide +kernel
theorem dL_init_32 : decode xL_init.2.1 32 = .ok (.dup, 1) := by decide +kernel
theorem dL_init_33 : decode xL_init.2.1 33 = .ok (.aload_n 0, 1) := by decide +kernel
theorem dL_init_34 : decode xL_init.2.1 34 = .ok (.getfield 21, 3) := by decide +kernel
theorem dL_init_37 : decode xL_init.2.1 37 = .ok (.iload_n 2, 1) := by decide +kernel
theorem dL_init_38 : decode xL_init.2.1 38 = .ok (.invokespecial 27, 3) := by decide +kernel
theorem dL_init_41 : decode xL_init.2.1 41 = .ok (.putfield 30, 3) := by decide +kernel
theorem dL_init_44 : decode xL_init.2.1 44 = .ok (.aload_n 0, 1) := by decide +kernel
theorem dL_init_45 : decode xL_init.2.1 45 = .ok (.iconst 3, 1) := by decide +kernel
theorem dL_init_46 : decode xL_init.2.1 46 = .ok (.anewarray 34, 3) := by decide +kernel
theorem dL_init_49 : decode xL_init.2.1 49 = .ok (.putfield 36, 3) := by decide +kernel
theorem dL_init_52 : decode xL_init.2.1 52 = .ok (.iconst 0, 1) := by decide +kernel
theorem dL_init_53 : decode xL_init.2.1 53 = .ok (.istore_n 3, 1) := by decide +kernel
theorem dL_init_54 : decode xL_init.2.1 54 = .ok (.iload_n 3, 1) := by decide +kernel
theorem dL_init_55 : decode xL_init.2.1 55 = .ok (.iconst 3, 1) := by decide +kernel
theorem dL_init_56 : decode xL_init.2.1 56 = .ok (.if_icmp .ge 32, 3) := by decide +kernel
theorem dL_init_59 : decode xL_init.2.1 59 = .ok (.aload_n 0, 1) := by decide +kernel
theorem dL_init_60 : decode xL_init.2.1 60 = .ok (.getfield 36, 3) := by decide +kernel
theorem dL_init_63 : decode xL_init.2.1 63 = .ok (.iload_n 3, 1) := by decide +kernel
theorem dL_init_64 : decode xL_init.2.1 64 = .ok (.new 34, 3) := by decide +kernel
theorem dL_init_67 : decode xL_init.2.1 67 = .ok (.dup, 1) := by decide +kernel
theorem dL_init_68 : decode xL_init.2.1 68 = .ok (.iload_n 3, 1) := by decide +kernel
theorem dL_init_69 : decode xL_init.2.1 69 = .ok (.iload_n 2, 1) := by decide +kernel
theorem dL_init_70 : decode xL_init.2.1 70 = .ok (.iconst 2, 1) := by decide +kernel
theorem dL_init_71 : decode xL_init.2.1 71 = .ok (.idiv, 1) := by decide +kernel
theorem dL_init_72 : decode xL_init.2.1 72 = .ok (.iconst 2, 1) := by decide +kernel
theorem dL_init_73 : decode xL_init.2.1 73 = .ok (.isub, 1) := by decide +kernel
theorem dL_init_74 : decode xL_init.2.1 74 = .ok (.aload_n 0, 1) := by decide +kernel
theorem dL_init_75 : decode xL_init.2.1 75 = .ok (.getfield 21, 3) := by decide +kernel
theorem dL_init_78 : decode xL_init.2.1 78 = .ok (.invokespecial 40, 3) := by decide +kernel
theorem dL_init_81 : decode xL_init.2.1 81 = .ok (.aastore, 1) := by decide +kernel
theorem dL_init_82 : decode xL_init.2.1 82 = .ok (.iinc 3 1, 3) := by decide +kernel
theorem dL_init_85 : decode xL_init.2.1 85 = .ok (.goto (-31), 3) := by decide +kernel
theorem dL_init_88 : decode xL_init.2.1 88 = .ok (.return_, 1) := by decide +kernel
def xL_acquire : mt_X := (⟨"LeasedPages", "acquire", "(III)I"⟩, prog_1_method_2_code, 5, (Option.some FieldType.int))
theorem dL_acquire_0 : decode xL_acquire.2.1 0 = .ok (.aload_n 0, 1) := by decide +kernel
theorem dL_acquire_1 : decode xL_acquire.2.1 1 = .ok (.iload_n 1, 1) := by decide +kernel
theorem dL_acquire_2 : decode xL_acquire.2.1 2 = .ok (.invokevirtual 43, 3) := by decide +kernel
theorem dL_acquire_5 : decode xL_acquire.2.1 5 = .ok (.astore 4, 2) := by decide +kernel
theorem dL_acquire_7 : decode xL_acquire.2.1 7 = .ok (.aload 4, 2) := by decide +kernel
theorem dL_acquire_9 : decode xL_acquire.2.1 9 = .ok (.ifnull 28, 3) := by decide +kernel
theorem dL_acquire_12 : decode xL_acquire.2.1 12 = .ok (.iload_n 2, 1) := by decide +kernel
theorem dL_acquire_13 : decode xL_acquire.2.1 13 = .ok (.invokestatic 47, 3) := by decide +kernel
theorem dL_acquire_16 : decode xL_acquire.2.1 16 = .ok (.ifCond .eq 21, 3) := by decide +kernel
theorem dL_acquire_19 : decode xL_acquire.2.1 19 = .ok (.iload_n 3, 1) := by decide +kernel
theorem dL_acquire_20 : decode xL_acquire.2.1 20 = .ok (.iconst 1, 1) := by decide +kernel
theorem dL_acquire_21 : decode xL_acquire.2.1 21 = .ok (.if_icmp .lt 16, 3) := by decide +kernel
theorem dL_acquire_24 : decode xL_acquire.2.1 24 = .ok (.iload_n 3, 1) := by decide +kernel
theorem dL_acquire_25 : decode xL_acquire.2.1 25 = .ok (.iconst 2, 1) := by decide +kernel
theorem dL_acquire_26 : decode xL_acquire.2.1 26 = .ok (.if_icmp .gt 11, 3) := by decide +kernel
theorem dL_acquire_29 : decode xL_acquire.2.1 29 = .ok (.aload 4, 2) := by decide +kernel
theorem dL_acquire_31 : decode xL_acquire.2.1 31 = .ok (.getfield 51, 3) := by decide +kernel
theorem dL_acquire_34 : decode xL_acquire.2.1 34 = .ok (.ifnull 5, 3) := by decide +kernel
theorem dL_acquire_37 : decode xL_acquire.2.1 37 = .ok (.iconst (-1), 1) := by decide +kernel
theorem dL_acquire_38 : decode xL_acquire.2.1 38 = .ok (.ireturn, 1) := by decide +kernel
theorem dL_acquire_39 : decode xL_acquire.2.1 39 = .ok (.aload 4, 2) := by decide +kernel
theorem dL_acquire_41 : decode xL_acquire.2.1 41 = .ok (.iload_n 2, 1) := by decide +kernel
theorem dL_acquire_42 : decode xL_acquire.2.1 42 = .ok (.iload_n 3, 1) := by decide +kernel
theorem dL_acquire_43 : decode xL_acquire.2.1 43 = .ok (.invokevirtual 55, 3) := by decide +kernel
theorem dL_acquire_46 : decode xL_acquire.2.1 46 = .ok (.ireturn, 1) := by decide +kernel
def xL_read : mt_X := (⟨"LeasedPages", "read", "(IIII)I"⟩, prog_1_method_3_code, 6, (Option.some FieldType.int))
theorem dL_read_0 : decode xL_read.2.1 0 = .ok (.aload_n 0, 1) := by decide +kernel
theorem dL_read_1 : decode xL_read.2.1 1 = .ok (.iload_n 1, 1) := by decide +kernel
theorem dL_read_2 : decode xL_read.2.1 2 = .ok (.invokevirtual 43, 3) := by decide +kernel
theorem dL_read_5 : decode xL_read.2.1 5 = .ok (.astore 5, 2) := by decide +kernel
theorem dL_read_7 : decode xL_read.2.1 7 = .ok (.aload 5, 2) := by decide +kernel
theorem dL_read_9 : decode xL_read.2.1 9 = .ok (.ifnull 28, 3) := by decide +kernel
theorem dL_read_12 : decode xL_read.2.1 12 = .ok (.iload_n 2, 1) := by decide +kernel
theorem dL_read_13 : decode xL_read.2.1 13 = .ok (.invokestatic 47, 3) := by decide +kernel
theorem dL_read_16 : decode xL_read.2.1 16 = .ok (.ifCond .eq 21, 3) := by decide +kernel
theorem dL_read_19 : decode xL_read.2.1 19 = .ok (.iload_n 3, 1) := by decide +kernel
theorem dL_read_20 : decode xL_read.2.1 20 = .ok (.invokestatic 58, 3) := by decide +kernel
theorem dL_read_23 : decode xL_read.2.1 23 = .ok (.ifCond .eq 14, 3) := by decide +kernel
theorem dL_read_26 : decode xL_read.2.1 26 = .ok (.iload 4, 2) := by decide +kernel
theorem dL_read_28 : decode xL_read.2.1 28 = .ok (.ifCond .lt 9, 3) := by decide +kernel
theorem dL_read_31 : decode xL_read.2.1 31 = .ok (.iload 4, 2) := by decide +kernel
theorem dL_read_33 : decode xL_read.2.1 33 = .ok (.iconst 1, 1) := by decide +kernel
theorem dL_read_34 : decode xL_read.2.1 34 = .ok (.if_icmp .le 5, 3) := by decide +kernel
theorem dL_read_37 : decode xL_read.2.1 37 = .ok (.iconst (-1), 1) := by decide +kernel
theorem dL_read_38 : decode xL_read.2.1 38 = .ok (.ireturn, 1) := by decide +kernel
theorem dL_read_39 : decode xL_read.2.1 39 = .ok (.iload 4, 2) := by decide +kernel
theorem dL_read_41 : decode xL_read.2.1 41 = .ok (.ifCond .ne 13, 3) := by decide +kernel
theorem dL_read_44 : decode xL_read.2.1 44 = .ok (.aload 5, 2) := by decide +kernel
theorem dL_read_46 : decode xL_read.2.1 46 = .ok (.iload_n 2, 1) := by decide +kernel
theorem dL_read_47 : decode xL_read.2.1 47 = .ok (.iload_n 3, 1) := by decide +kernel
theorem dL_read_48 : decode xL_read.2.1 48 = .ok (.invokevirtual 61, 3) := by decide +kernel
theorem dL_read_51 : decode xL_read.2.1 51 = .ok (.goto 9, 3) := by decide +kernel
theorem dL_read_54 : decode xL_read.2.1 54 = .ok (.aload 5, 2) := by decide +kernel
theorem dL_read_56 : decode xL_read.2.1 56 = .ok (.iload_n 2, 1) := by decide +kernel
theorem dL_read_57 : decode xL_read.2.1 57 = .ok (.invokevirtual 64, 3) := by decide +kernel
theorem dL_read_60 : decode xL_read.2.1 60 = .ok (.ireturn, 1) := by decide +kernel
def xL_write : mt_X := (⟨"LeasedPages", "write", "(IIII)I"⟩, prog_1_method_4_code, 6, (Option.some FieldType.int))
theorem dL_write_0 : decode xL_write.2.1 0 = .ok (.aload_n 0, 1) := by decide +kernel
theorem dL_write_1 : decode xL_write.2.1 1 = .ok (.iload_n 1, 1) := by decide +kernel
theorem dL_write_2 : decode xL_write.2.1 2 = .ok (.invokevirtual 43, 3) := by decide +kernel
theorem dL_write_5 : decode xL_write.2.1 5 = .ok (.astore 5, 2) := by decide +kernel
theorem dL_write_7 : decode xL_write.2.1 7 = .ok (.aload 5, 2) := by decide +kernel
theorem dL_write_9 : decode xL_write.2.1 9 = .ok (.ifnull 17, 3) := by decide +kernel
theorem dL_write_12 : decode xL_write.2.1 12 = .ok (.iload_n 2, 1) := by decide +kernel
theorem dL_write_13 : decode xL_write.2.1 13 = .ok (.invokestatic 47, 3) := by decide +kernel
theorem dL_write_16 : decode xL_write.2.1 16 = .ok (.ifCond .eq 10, 3) := by decide +kernel
theorem dL_write_19 : decode xL_write.2.1 19 = .ok (.iload_n 3, 1) := by decide +kernel
theorem dL_write_20 : decode xL_write.2.1 20 = .ok (.invokestatic 58, 3) := by decide +kernel
theorem dL_write_23 : decode xL_write.2.1 23 = .ok (.ifCond .ne 5, 3) := by decide +kernel
theorem dL_write_26 : decode xL_write.2.1 26 = .ok (.iconst (-1), 1) := by decide +kernel
theorem dL_write_27 : decode xL_write.2.1 27 = .ok (.ireturn, 1) := by decide +kernel
theorem dL_write_28 : decode xL_write.2.1 28 = .ok (.aload 5, 2) := by decide +kernel
theorem dL_write_30 : decode xL_write.2.1 30 = .ok (.iload_n 2, 1) := by decide +kernel
theorem dL_write_31 : decode xL_write.2.1 31 = .ok (.iload_n 3, 1) := by decide +kernel
theorem dL_write_32 : decode xL_write.2.1 32 = .ok (.iload 4, 2) := by decide +kernel
theorem dL_write_34 : decode xL_write.2.1 34 = .ok (.invokevirtual 68, 3) := by decide +kernel
theorem dL_write_37 : decode xL_write.2.1 37 = .ok (.ireturn, 1) := by decide +kernel
def xL_flush : mt_X := (⟨"LeasedPages", "flush", "(I)I"⟩, prog_1_method_5_code, 3, (Option.some FieldType.int))
theorem dL_flush_0 : decode xL_flush.2.1 0 = .ok (.aload_n 0, 1) := by decide +kernel
theorem dL_flush_1 : decode xL_flush.2.1 1 = .ok (.iload_n 1, 1) := by decide +kernel
theorem dL_flush_2 : decode xL_flush.2.1 2 = .ok (.invokevirtual 43, 3) := by decide +kernel
theorem dL_flush_5 : decode xL_flush.2.1 5 = .ok (.astore_n 2, 1) := by decide +kernel
theorem dL_flush_6 : decode xL_flush.2.1 6 = .ok (.aload_n 2, 1) := by decide +kernel
theorem dL_flush_7 : decode xL_flush.2.1 7 = .ok (.ifnull 10, 3) := by decide +kernel
theorem dL_flush_10 : decode xL_flush.2.1 10 = .ok (.aload_n 2, 1) := by decide +kernel
theorem dL_flush_11 : decode xL_flush.2.1 11 = .ok (.getfield 51, 3) := by decide +kernel
theorem dL_flush_14 : decode xL_flush.2.1 14 = .ok (.ifnull 5, 3) := by decide +kernel
theorem dL_flush_17 : decode xL_flush.2.1 17 = .ok (.iconst (-1), 1) := by decide +kernel
theorem dL_flush_18 : decode xL_flush.2.1 18 = .ok (.ireturn, 1) := by decide +kernel
theorem dL_flush_19 : decode xL_flush.2.1 19 = .ok (.aload_n 2, 1) := by decide +kernel
theorem dL_flush_20 : decode xL_flush.2.1 20 = .ok (.invokevirtual 72, 3) := by decide +kernel
theorem dL_flush_23 : decode xL_flush.2.1 23 = .ok (.ireturn, 1) := by decide +kernel
def xL_close : mt_X := (⟨"LeasedPages", "close", "(II)I"⟩, prog_1_method_6_code, 4, (Option.some FieldType.int))
theorem dL_close_0 : decode xL_close.2.1 0 = .ok (.aload_n 0, 1) := by decide +kernel
theorem dL_close_1 : decode xL_close.2.1 1 = .ok (.iload_n 1, 1) := by decide +kernel
theorem dL_close_2 : decode xL_close.2.1 2 = .ok (.invokevirtual 43, 3) := by decide +kernel
theorem dL_close_5 : decode xL_close.2.1 5 = .ok (.astore_n 3, 1) := by decide +kernel
theorem dL_close_6 : decode xL_close.2.1 6 = .ok (.aload_n 3, 1) := by decide +kernel
theorem dL_close_7 : decode xL_close.2.1 7 = .ok (.ifnull 25, 3) := by decide +kernel
theorem dL_close_10 : decode xL_close.2.1 10 = .ok (.iload_n 2, 1) := by decide +kernel
theorem dL_close_11 : decode xL_close.2.1 11 = .ok (.invokestatic 47, 3) := by decide +kernel
theorem dL_close_14 : decode xL_close.2.1 14 = .ok (.ifCond .eq 18, 3) := by decide +kernel
theorem dL_close_17 : decode xL_close.2.1 17 = .ok (.aload_n 3, 1) := by decide +kernel
theorem dL_close_18 : decode xL_close.2.1 18 = .ok (.getfield 51, 3) := by decide +kernel
theorem dL_close_21 : decode xL_close.2.1 21 = .ok (.ifnonnull 11, 3) := by decide +kernel
theorem dL_close_24 : decode xL_close.2.1 24 = .ok (.aload_n 3, 1) := by decide +kernel
theorem dL_close_25 : decode xL_close.2.1 25 = .ok (.iload_n 2, 1) := by decide +kernel
theorem dL_close_26 : decode xL_close.2.1 26 = .ok (.invokevirtual 76, 3) := by decide +kernel
theorem dL_close_29 : decode xL_close.2.1 29 = .ok (.ifCond .eq 5, 3) := by decide +kernel
theorem dL_close_32 : decode xL_close.2.1 32 = .ok (.iconst (-1), 1) := by decide +kernel
theorem dL_close_33 : decode xL_close.2.1 33 = .ok (.ireturn, 1) := by decide +kernel
theorem dL_close_34 : decode xL_close.2.1 34 = .ok (.aload_n 3, 1) := by decide +kernel
theorem dL_close_35 : decode xL_close.2.1 35 = .ok (.iload_n 2, 1) := by decide +kernel
theorem dL_close_36 : decode xL_close.2.1 36 = .ok (.invokevirtual 79, 3) := by decide +kernel
theorem dL_close_39 : decode xL_close.2.1 39 = .ok (.ireturn, 1) := by decide +kernel
def xL_retry : mt_X := (⟨"LeasedPages", "retry", "(I)I"⟩, prog_1_method_7_code, 3, (Option.some FieldType.int))
theorem dL_retry_0 : decode xL_retry.2.1 0 = .ok (.aload_n 0, 1) := by decide +kernel
theorem dL_retry_1 : decode xL_retry.2.1 1 = .ok (.iload_n 1, 1) := by decide +kernel
theorem dL_retry_2 : decode xL_retry.2.1 2 = .ok (.invokevirtual 43, 3) := by decide +kernel
theorem dL_retry_5 : decode xL_retry.2.1 5 = .ok (.astore_n 2, 1) := by decide +kernel
theorem dL_retry_6 : decode xL_retry.2.1 6 = .ok (.aload_n 2, 1) := by decide +kernel
theorem dL_retry_7 : decode xL_retry.2.1 7 = .ok (.ifnonnull 7, 3) := by decide +kernel
theorem dL_retry_10 : decode xL_retry.2.1 10 = .ok (.iconst (-1), 1) := by decide +kernel
theorem dL_retry_11 : decode xL_retry.2.1 11 = .ok (.goto 7, 3) := by decide +kernel
theorem dL_retry_14 : decode xL_retry.2.1 14 = .ok (.aload_n 2, 1) := by decide +kernel
theorem dL_retry_15 : decode xL_retry.2.1 15 = .ok (.invokevirtual 82, 3) := by decide +kernel
theorem dL_retry_18 : decode xL_retry.2.1 18 = .ok (.ireturn, 1) := by decide +kernel
def xL_messages : mt_X := (⟨"LeasedPages", "messages", "()I"⟩, prog_1_method_8_code, 1, (Option.some FieldType.int))
theorem dL_messages_0 : decode xL_messages.2.1 0 = .ok (.aload_n 0, 1) := by decide +kernel
theorem dL_messages_1 : decode xL_messages.2.1 1 = .ok (.getfield 21, 3) := by decide +kernel
theorem dL_messages_4 : decode xL_messages.2.1 4 = .ok (.getfield 85, 3) := by decide +kernel
theorem dL_messages_7 : decode xL_messages.2.1 7 = .ok (.ireturn, 1) := by decide +kernel
def xL_message : mt_X := (⟨"LeasedPages", "message", "(I)I"⟩, prog_1_method_9_code, 3, (Option.some FieldType.int))
theorem dL_message_0 : decode xL_message.2.1 0 = .ok (.aload_n 0, 1) := by decide +kernel
theorem dL_message_1 : decode xL_message.2.1 1 = .ok (.getfield 21, 3) := by decide +kernel
theorem dL_message_4 : decode xL_message.2.1 4 = .ok (.iload_n 1, 1) := by decide +kernel
theorem dL_message_5 : decode xL_message.2.1 5 = .ok (.invokevirtual 89, 3) := by decide +kernel
theorem dL_message_8 : decode xL_message.2.1 8 = .ok (.astore_n 2, 1) := by decide +kernel
theorem dL_message_9 : decode xL_message.2.1 9 = .ok (.aload_n 2, 1) := by decide +kernel
theorem dL_message_10 : decode xL_message.2.1 10 = .ok (.ifnonnull 7, 3) := by decide +kernel
theorem dL_message_13 : decode xL_message.2.1 13 = .ok (.iconst (-1), 1) := by decide +kernel
theorem dL_message_14 : decode xL_message.2.1 14 = .ok (.goto 7, 3) := by decide +kernel
theorem dL_message_17 : decode xL_message.2.1 17 = .ok (.aload_n 2, 1) := by decide +kernel
theorem dL_message_18 : decode xL_message.2.1 18 = .ok (.invokevirtual 93, 3) := by decide +kernel
theorem dL_message_21 : decode xL_message.2.1 21 = .ok (.ireturn, 1) := by decide +kernel
def xL_deliver : mt_X := (⟨"LeasedPages", "deliver", "(I)Z"⟩, prog_1_method_10_code, 5, (Option.some FieldType.boolean))
theorem dL_deliver_0 : decode xL_deliver.2.1 0 = .ok (.aload_n 0, 1) := by decide +kernel
theorem dL_deliver_1 : decode xL_deliver.2.1 1 = .ok (.getfield 21, 3) := by decide +kernel
theorem dL_deliver_4 : decode xL_deliver.2.1 4 = .ok (.iload_n 1, 1) := by decide +kernel
theorem dL_deliver_5 : decode xL_deliver.2.1 5 = .ok (.invokevirtual 98, 3) := by decide +kernel
theorem dL_deliver_8 : decode xL_deliver.2.1 8 = .ok (.astore_n 2, 1) := by decide +kernel
theorem dL_deliver_9 : decode xL_deliver.2.1 9 = .ok (.aload_n 2, 1) := by decide +kernel
theorem dL_deliver_10 : decode xL_deliver.2.1 10 = .ok (.ifnonnull 5, 3) := by decide +kernel
theorem dL_deliver_13 : decode xL_deliver.2.1 13 = .ok (.iconst 0, 1) := by decide +kernel
theorem dL_deliver_14 : decode xL_deliver.2.1 14 = .ok (.ireturn, 1) := by decide +kernel
theorem dL_deliver_15 : decode xL_deliver.2.1 15 = .ok (.aload_n 2, 1) := by decide +kernel
theorem dL_deliver_16 : decode xL_deliver.2.1 16 = .ok (.instanceof 101, 3) := by decide +kernel
theorem dL_deliver_19 : decode xL_deliver.2.1 19 = .ok (.ifCond .eq 19, 3) := by decide +kernel
theorem dL_deliver_22 : decode xL_deliver.2.1 22 = .ok (.aload_n 2, 1) := by decide +kernel
theorem dL_deliver_23 : decode xL_deliver.2.1 23 = .ok (.checkcast 101, 3) := by decide +kernel
theorem dL_deliver_26 : decode xL_deliver.2.1 26 = .ok (.astore_n 3, 1) := by decide +kernel
theorem dL_deliver_27 : decode xL_deliver.2.1 27 = .ok (.aload_n 0, 1) := by decide +kernel
theorem dL_deliver_28 : decode xL_deliver.2.1 28 = .ok (.getfield 30, 3) := by decide +kernel
theorem dL_deliver_31 : decode xL_deliver.2.1 31 = .ok (.aload_n 3, 1) := by decide +kernel
theorem dL_deliver_32 : decode xL_deliver.2.1 32 = .ok (.invokevirtual 103, 3) := by decide +kernel
theorem dL_deliver_35 : decode xL_deliver.2.1 35 = .ok (.goto 50, 3) := by decide +kernel
theorem dL_deliver_38 : decode xL_deliver.2.1 38 = .ok (.aload_n 2, 1) := by decide +kernel
theorem dL_deliver_39 : decode xL_deliver.2.1 39 = .ok (.instanceof 107, 3) := by decide +kernel
theorem dL_deliver_42 : decode xL_deliver.2.1 42 = .ok (.ifCond .eq 27, 3) := by decide +kernel
theorem dL_deliver_45 : decode xL_deliver.2.1 45 = .ok (.aload_n 2, 1) := by decide +kernel
theorem dL_deliver_46 : decode xL_deliver.2.1 46 = .ok (.checkcast 107, 3) := by decide +kernel
theorem dL_deliver_49 : decode xL_deliver.2.1 49 = .ok (.astore 4, 2) := by decide +kernel
theorem dL_deliver_51 : decode xL_deliver.2.1 51 = .ok (.aload_n 0, 1) := by decide +kernel
theorem dL_deliver_52 : decode xL_deliver.2.1 52 = .ok (.getfield 36, 3) := by decide +kernel
theorem dL_deliver_55 : decode xL_deliver.2.1 55 = .ok (.aload 4, 2) := by decide +kernel
theorem dL_deliver_57 : decode xL_deliver.2.1 57 = .ok (.getfield 109, 3) := by decide +kernel
theorem dL_deliver_60 : decode xL_deliver.2.1 60 = .ok (.aaload, 1) := by decide +kernel
theorem dL_deliver_61 : decode xL_deliver.2.1 61 = .ok (.aload 4, 2) := by decide +kernel
theorem dL_deliver_63 : decode xL_deliver.2.1 63 = .ok (.invokevirtual 112, 3) := by decide +kernel
theorem dL_deliver_66 : decode xL_deliver.2.1 66 = .ok (.goto 19, 3) := by decide +kernel
theorem dL_deliver_69 : decode xL_deliver.2.1 69 = .ok (.aload_n 0, 1) := by decide +kernel
theorem dL_deliver_70 : decode xL_deliver.2.1 70 = .ok (.getfield 36, 3) := by decide +kernel
theorem dL_deliver_73 : decode xL_deliver.2.1 73 = .ok (.aload_n 2, 1) := by decide +kernel
theorem dL_deliver_74 : decode xL_deliver.2.1 74 = .ok (.getfield 116, 3) := by decide +kernel
theorem dL_deliver_77 : decode xL_deliver.2.1 77 = .ok (.aaload, 1) := by decide +kernel
theorem dL_deliver_78 : decode xL_deliver.2.1 78 = .ok (.aload_n 2, 1) := by decide +kernel
theorem dL_deliver_79 : decode xL_deliver.2.1 79 = .ok (.getfield 117, 3) := by decide +kernel
theorem dL_deliver_82 : decode xL_deliver.2.1 82 = .ok (.invokevirtual 120, 3) := by decide +kernel
theorem dL_deliver_85 : decode xL_deliver.2.1 85 = .ok (.iconst 1, 1) := by decide +kernel
theorem dL_deliver_86 : decode xL_deliver.2.1 86 = .ok (.ireturn, 1) := by decide +kernel
def xL_drop : mt_X := (⟨"LeasedPages", "drop", "(I)Z"⟩, prog_1_method_11_code, 2, (Option.some FieldType.boolean))
theorem dL_drop_0 : decode xL_drop.2.1 0 = .ok (.aload_n 0, 1) := by decide +kernel
theorem dL_drop_1 : decode xL_drop.2.1 1 = .ok (.getfield 21, 3) := by decide +kernel
theorem dL_drop_4 : decode xL_drop.2.1 4 = .ok (.iload_n 1, 1) := by decide +kernel
theorem dL_drop_5 : decode xL_drop.2.1 5 = .ok (.invokevirtual 98, 3) := by decide +kernel
theorem dL_drop_8 : decode xL_drop.2.1 8 = .ok (.ifnull 7, 3) := by decide +kernel
theorem dL_drop_11 : decode xL_drop.2.1 11 = .ok (.iconst 1, 1) := by decide +kernel
theorem dL_drop_12 : decode xL_drop.2.1 12 = .ok (.goto 4, 3) := by decide +kernel
theorem dL_drop_15 : decode xL_drop.2.1 15 = .ok (.iconst 0, 1) := by decide +kernel
theorem dL_drop_16 : decode xL_drop.2.1 16 = .ok (.ireturn, 1) := by decide +kernel
def xL_duplicate : mt_X := (⟨"LeasedPages", "duplicate", "(I)Z"⟩, prog_1_method_12_code, 3, (Option.some FieldType.boolean))
theorem dL_duplicate_0 : decode xL_duplicate.2.1 0 = .ok (.aload_n 0, 1) := by decide +kernel
theorem dL_duplicate_1 : decode xL_duplicate.2.1 1 = .ok (.getfield 21, 3) := by decide +kernel
theorem dL_duplicate_4 : decode xL_duplicate.2.1 4 = .ok (.iload_n 1, 1) := by decide +kernel
theorem dL_duplicate_5 : decode xL_duplicate.2.1 5 = .ok (.invokevirtual 89, 3) := by decide +kernel
theorem dL_duplicate_8 : decode xL_duplicate.2.1 8 = .ok (.astore_n 2, 1) := by decide +kernel
theorem dL_duplicate_9 : decode xL_duplicate.2.1 9 = .ok (.aload_n 2, 1) := by decide +kernel
theorem dL_duplicate_10 : decode xL_duplicate.2.1 10 = .ok (.ifnull 18, 3) := by decide +kernel
theorem dL_duplicate_13 : decode xL_duplicate.2.1 13 = .ok (.aload_n 0, 1) := by decide +kernel
theorem dL_duplicate_14 : decode xL_duplicate.2.1 14 = .ok (.getfield 21, 3) := by decide +kernel
theorem dL_duplicate_17 : decode xL_duplicate.2.1 17 = .ok (.aload_n 2, 1) := by decide +kernel
theorem dL_duplicate_18 : decode xL_duplicate.2.1 18 = .ok (.invokevirtual 124, 3) := by decide +kernel
theorem dL_duplicate_21 : decode xL_duplicate.2.1 21 = .ok (.ifCond .eq 7, 3) := by decide +kernel
theorem dL_duplicate_24 : decode xL_duplicate.2.1 24 = .ok (.iconst 1, 1) := by decide +kernel
theorem dL_duplicate_25 : decode xL_duplicate.2.1 25 = .ok (.goto 4, 3) := by decide +kernel
theorem dL_duplicate_28 : decode xL_duplicate.2.1 28 = .ok (.iconst 0, 1) := by decide +kernel
theorem dL_duplicate_29 : decode xL_duplicate.2.1 29 = .ok (.ireturn, 1) := by decide +kernel
def xL_tick : mt_X := (⟨"LeasedPages", "tick", "(II)Z"⟩, prog_1_method_13_code, 3, (Option.some FieldType.boolean))
theorem dL_tick_0 : decode xL_tick.2.1 0 = .ok (.iload_n 1, 1) := by decide +kernel
theorem dL_tick_1 : decode xL_tick.2.1 1 = .ok (.invokestatic 128, 3) := by decide +kernel
theorem dL_tick_4 : decode xL_tick.2.1 4 = .ok (.ifCond .eq 22, 3) := by decide +kernel
theorem dL_tick_7 : decode xL_tick.2.1 7 = .ok (.aload_n 0, 1) := by decide +kernel
theorem dL_tick_8 : decode xL_tick.2.1 8 = .ok (.iload_n 1, 1) := by decide +kernel
theorem dL_tick_9 : decode xL_tick.2.1 9 = .ok (.invokevirtual 131, 3) := by decide +kernel
theorem dL_tick_12 : decode xL_tick.2.1 12 = .ok (.ifCond .eq 14, 3) := by decide +kernel
theorem dL_tick_15 : decode xL_tick.2.1 15 = .ok (.iload_n 2, 1) := by decide +kernel
theorem dL_tick_16 : decode xL_tick.2.1 16 = .ok (.iconst 1, 1) := by decide +kernel
theorem dL_tick_17 : decode xL_tick.2.1 17 = .ok (.if_icmp .lt 9, 3) := by decide +kernel
theorem dL_tick_20 : decode xL_tick.2.1 20 = .ok (.iload_n 2, 1) := by decide +kernel
theorem dL_tick_21 : decode xL_tick.2.1 21 = .ok (.bipush 100, 2) := by decide +kernel
theorem dL_tick_23 : decode xL_tick.2.1 23 = .ok (.if_icmp .le 5, 3) := by decide +kernel
theorem dL_tick_26 : decode xL_tick.2.1 26 = .ok (.iconst 0, 1) := by decide +kernel
theorem dL_tick_27 : decode xL_tick.2.1 27 = .ok (.ireturn, 1) := by decide +kernel
theorem dL_tick_28 : decode xL_tick.2.1 28 = .ok (.iload_n 1, 1) := by decide +kernel
theorem dL_tick_29 : decode xL_tick.2.1 29 = .ok (.iconst 3, 1) := by decide +kernel
theorem dL_tick_30 : decode xL_tick.2.1 30 = .ok (.if_icmp .ne 14, 3) := by decide +kernel
theorem dL_tick_33 : decode xL_tick.2.1 33 = .ok (.aload_n 0, 1) := by decide +kernel
theorem dL_tick_34 : decode xL_tick.2.1 34 = .ok (.getfield 30, 3) := by decide +kernel
theorem dL_tick_37 : decode xL_tick.2.1 37 = .ok (.iload_n 2, 1) := by decide +kernel
theorem dL_tick_38 : decode xL_tick.2.1 38 = .ok (.invokevirtual 134, 3) := by decide +kernel
theorem dL_tick_41 : decode xL_tick.2.1 41 = .ok (.goto 18, 3) := by decide +kernel
theorem dL_tick_44 : decode xL_tick.2.1 44 = .ok (.aload_n 0, 1) := by decide +kernel
theorem dL_tick_45 : decode xL_tick.2.1 45 = .ok (.getfield 36, 3) := by decide +kernel
theorem dL_tick_48 : decode xL_tick.2.1 48 = .ok (.iload_n 1, 1) := by decide +kernel
theorem dL_tick_49 : decode xL_tick.2.1 49 = .ok (.aaload, 1) := by decide +kernel
theorem dL_tick_50 : decode xL_tick.2.1 50 = .ok (.dup, 1) := by decide +kernel
theorem dL_tick_51 : decode xL_tick.2.1 51 = .ok (.getfield 137, 3) := by decide +kernel
theorem dL_tick_54 : decode xL_tick.2.1 54 = .ok (.iload_n 2, 1) := by decide +kernel
theorem dL_tick_55 : decode xL_tick.2.1 55 = .ok (.iadd, 1) := by decide +kernel
theorem dL_tick_56 : decode xL_tick.2.1 56 = .ok (.putfield 137, 3) := by decide +kernel
theorem dL_tick_59 : decode xL_tick.2.1 59 = .ok (.iconst 1, 1) := by decide +kernel
theorem dL_tick_60 : decode xL_tick.2.1 60 = .ok (.ireturn, 1) := by decide +kernel
def xL_crash : mt_X := (⟨"LeasedPages", "crash", "(I)Z"⟩, prog_1_method_14_code, 2, (Option.some FieldType.boolean))
theorem dL_crash_0 : decode xL_crash.2.1 0 = .ok (.iload_n 1, 1) := by decide +kernel
theorem dL_crash_1 : decode xL_crash.2.1 1 = .ok (.invokestatic 128, 3) := by decide +kernel
theorem dL_crash_4 : decode xL_crash.2.1 4 = .ok (.ifCond .eq 11, 3) := by decide +kernel
theorem dL_crash_7 : decode xL_crash.2.1 7 = .ok (.aload_n 0, 1) := by decide +kernel
theorem dL_crash_8 : decode xL_crash.2.1 8 = .ok (.iload_n 1, 1) := by decide +kernel
theorem dL_crash_9 : decode xL_crash.2.1 9 = .ok (.invokevirtual 131, 3) := by decide +kernel
theorem dL_crash_12 : decode xL_crash.2.1 12 = .ok (.ifCond .ne 5, 3) := by decide +kernel
theorem dL_crash_15 : decode xL_crash.2.1 15 = .ok (.iconst 0, 1) := by decide +kernel
theorem dL_crash_16 : decode xL_crash.2.1 16 = .ok (.ireturn, 1) := by decide +kernel
theorem dL_crash_17 : decode xL_crash.2.1 17 = .ok (.iload_n 1, 1) := by decide +kernel
theorem dL_crash_18 : decode xL_crash.2.1 18 = .ok (.iconst 3, 1) := by decide +kernel
theorem dL_crash_19 : decode xL_crash.2.1 19 = .ok (.if_icmp .ne 13, 3) := by decide +kernel
theorem dL_crash_22 : decode xL_crash.2.1 22 = .ok (.aload_n 0, 1) := by decide +kernel
theorem dL_crash_23 : decode xL_crash.2.1 23 = .ok (.getfield 30, 3) := by decide +kernel
theorem dL_crash_26 : decode xL_crash.2.1 26 = .ok (.invokevirtual 140, 3) := by decide +kernel
theorem dL_crash_29 : decode xL_crash.2.1 29 = .ok (.goto 12, 3) := by decide +kernel
theorem dL_crash_32 : decode xL_crash.2.1 32 = .ok (.aload_n 0, 1) := by decide +kernel
theorem dL_crash_33 : decode xL_crash.2.1 33 = .ok (.getfield 36, 3) := by decide +kernel
theorem dL_crash_36 : decode xL_crash.2.1 36 = .ok (.iload_n 1, 1) := by decide +kernel
theorem dL_crash_37 : decode xL_crash.2.1 37 = .ok (.aaload, 1) := by decide +kernel
theorem dL_crash_38 : decode xL_crash.2.1 38 = .ok (.invokevirtual 143, 3) := by decide +kernel
theorem dL_crash_41 : decode xL_crash.2.1 41 = .ok (.iconst 1, 1) := by decide +kernel
theorem dL_crash_42 : decode xL_crash.2.1 42 = .ok (.ireturn, 1) := by decide +kernel
def xL_restart : mt_X := (⟨"LeasedPages", "restart", "(I)Z"⟩, prog_1_method_15_code, 2, (Option.some FieldType.boolean))
theorem dL_restart_0 : decode xL_restart.2.1 0 = .ok (.iload_n 1, 1) := by decide +kernel
theorem dL_restart_1 : decode xL_restart.2.1 1 = .ok (.invokestatic 128, 3) := by decide +kernel
theorem dL_restart_4 : decode xL_restart.2.1 4 = .ok (.ifCond .eq 11, 3) := by decide +kernel
theorem dL_restart_7 : decode xL_restart.2.1 7 = .ok (.aload_n 0, 1) := by decide +kernel
theorem dL_restart_8 : decode xL_restart.2.1 8 = .ok (.iload_n 1, 1) := by decide +kernel
theorem dL_restart_9 : decode xL_restart.2.1 9 = .ok (.invokevirtual 131, 3) := by decide +kernel
theorem dL_restart_12 : decode xL_restart.2.1 12 = .ok (.ifCond .eq 5, 3) := by decide +kernel
theorem dL_restart_15 : decode xL_restart.2.1 15 = .ok (.iconst 0, 1) := by decide +kernel
theorem dL_restart_16 : decode xL_restart.2.1 16 = .ok (.ireturn, 1) := by decide +kernel
theorem dL_restart_17 : decode xL_restart.2.1 17 = .ok (.iload_n 1, 1) := by decide +kernel
theorem dL_restart_18 : decode xL_restart.2.1 18 = .ok (.iconst 3, 1) := by decide +kernel
theorem dL_restart_19 : decode xL_restart.2.1 19 = .ok (.if_icmp .ne 13, 3) := by decide +kernel
theorem dL_restart_22 : decode xL_restart.2.1 22 = .ok (.aload_n 0, 1) := by decide +kernel
theorem dL_restart_23 : decode xL_restart.2.1 23 = .ok (.getfield 30, 3) := by decide +kernel
theorem dL_restart_26 : decode xL_restart.2.1 26 = .ok (.invokevirtual 144, 3) := by decide +kernel
theorem dL_restart_29 : decode xL_restart.2.1 29 = .ok (.goto 13, 3) := by decide +kernel
theorem dL_restart_32 : decode xL_restart.2.1 32 = .ok (.aload_n 0, 1) := by decide +kernel
theorem dL_restart_33 : decode xL_restart.2.1 33 = .ok (.getfield 36, 3) := by decide +kernel
theorem dL_restart_36 : decode xL_restart.2.1 36 = .ok (.iload_n 1, 1) := by decide +kernel
theorem dL_restart_37 : decode xL_restart.2.1 37 = .ok (.aaload, 1) := by decide +kernel
theorem dL_restart_38 : decode xL_restart.2.1 38 = .ok (.iconst 1, 1) := by decide +kernel
theorem dL_restart_39 : decode xL_restart.2.1 39 = .ok (.putfield 147, 3) := by decide +kernel
theorem dL_restart_42 : decode xL_restart.2.1 42 = .ok (.iconst 1, 1) := by decide +kernel
theorem dL_restart_43 : decode xL_restart.2.1 43 = .ok (.ireturn, 1) := by decide +kernel
def xL_clock : mt_X := (⟨"LeasedPages", "clock", "(I)I"⟩, prog_1_method_16_code, 2, (Option.some FieldType.int))
theorem dL_clock_0 : decode xL_clock.2.1 0 = .ok (.iload_n 1, 1) := by decide +kernel
theorem dL_clock_1 : decode xL_clock.2.1 1 = .ok (.invokestatic 128, 3) := by decide +kernel
theorem dL_clock_4 : decode xL_clock.2.1 4 = .ok (.ifCond .ne 5, 3) := by decide +kernel
theorem dL_clock_7 : decode xL_clock.2.1 7 = .ok (.iconst (-1), 1) := by decide +kernel
theorem dL_clock_8 : decode xL_clock.2.1 8 = .ok (.ireturn, 1) := by decide +kernel
theorem dL_clock_9 : decode xL_clock.2.1 9 = .ok (.iload_n 1, 1) := by decide +kernel
theorem dL_clock_10 : decode xL_clock.2.1 10 = .ok (.iconst 3, 1) := by decide +kernel
theorem dL_clock_11 : decode xL_clock.2.1 11 = .ok (.if_icmp .ne 13, 3) := by decide +kernel
theorem dL_clock_14 : decode xL_clock.2.1 14 = .ok (.aload_n 0, 1) := by decide +kernel
theorem dL_clock_15 : decode xL_clock.2.1 15 = .ok (.getfield 30, 3) := by decide +kernel
theorem dL_clock_18 : decode xL_clock.2.1 18 = .ok (.getfield 151, 3) := by decide +kernel
theorem dL_clock_21 : decode xL_clock.2.1 21 = .ok (.goto 12, 3) := by decide +kernel
theorem dL_clock_24 : decode xL_clock.2.1 24 = .ok (.aload_n 0, 1) := by decide +kernel
theorem dL_clock_25 : decode xL_clock.2.1 25 = .ok (.getfield 36, 3) := by decide +kernel
theorem dL_clock_28 : decode xL_clock.2.1 28 = .ok (.iload_n 1, 1) := by decide +kernel
theorem dL_clock_29 : decode xL_clock.2.1 29 = .ok (.aaload, 1) := by decide +kernel
theorem dL_clock_30 : decode xL_clock.2.1 30 = .ok (.getfield 137, 3) := by decide +kernel
theorem dL_clock_33 : decode xL_clock.2.1 33 = .ok (.ireturn, 1) := by decide +kernel
def xL_lease : mt_X := (⟨"LeasedPages", "lease", "(II)I"⟩, prog_1_method_17_code, 4, (Option.some FieldType.int))
theorem dL_lease_0 : decode xL_lease.2.1 0 = .ok (.aload_n 0, 1) := by decide +kernel
theorem dL_lease_1 : decode xL_lease.2.1 1 = .ok (.iload_n 1, 1) := by decide +kernel
theorem dL_lease_2 : decode xL_lease.2.1 2 = .ok (.invokevirtual 43, 3) := by decide +kernel
theorem dL_lease_5 : decode xL_lease.2.1 5 = .ok (.astore_n 3, 1) := by decide +kernel
theorem dL_lease_6 : decode xL_lease.2.1 6 = .ok (.aload_n 3, 1) := by decide +kernel
theorem dL_lease_7 : decode xL_lease.2.1 7 = .ok (.ifnull 10, 3) := by decide +kernel
theorem dL_lease_10 : decode xL_lease.2.1 10 = .ok (.iload_n 2, 1) := by decide +kernel
theorem dL_lease_11 : decode xL_lease.2.1 11 = .ok (.invokestatic 47, 3) := by decide +kernel
theorem dL_lease_14 : decode xL_lease.2.1 14 = .ok (.ifCond .ne 7, 3) := by decide +kernel
theorem dL_lease_17 : decode xL_lease.2.1 17 = .ok (.iconst (-1), 1) := by decide +kernel
theorem dL_lease_18 : decode xL_lease.2.1 18 = .ok (.goto 8, 3) := by decide +kernel
theorem dL_lease_21 : decode xL_lease.2.1 21 = .ok (.aload_n 3, 1) := by decide +kernel
theorem dL_lease_22 : decode xL_lease.2.1 22 = .ok (.iload_n 2, 1) := by decide +kernel
theorem dL_lease_23 : decode xL_lease.2.1 23 = .ok (.invokevirtual 152, 3) := by decide +kernel
theorem dL_lease_26 : decode xL_lease.2.1 26 = .ok (.ireturn, 1) := by decide +kernel
def xL_dirty : mt_X := (⟨"LeasedPages", "dirty", "(I)I"⟩, prog_1_method_18_code, 3, (Option.some FieldType.int))
theorem dL_dirty_0 : decode xL_dirty.2.1 0 = .ok (.aload_n 0, 1) := by decide +kernel
theorem dL_dirty_1 : decode xL_dirty.2.1 1 = .ok (.iload_n 1, 1) := by decide +kernel
theorem dL_dirty_2 : decode xL_dirty.2.1 2 = .ok (.invokevirtual 43, 3) := by decide +kernel
theorem dL_dirty_5 : decode xL_dirty.2.1 5 = .ok (.astore_n 2, 1) := by decide +kernel
theorem dL_dirty_6 : decode xL_dirty.2.1 6 = .ok (.aload_n 2, 1) := by decide +kernel
theorem dL_dirty_7 : decode xL_dirty.2.1 7 = .ok (.ifnonnull 7, 3) := by decide +kernel
theorem dL_dirty_10 : decode xL_dirty.2.1 10 = .ok (.iconst (-1), 1) := by decide +kernel
theorem dL_dirty_11 : decode xL_dirty.2.1 11 = .ok (.goto 7, 3) := by decide +kernel
theorem dL_dirty_14 : decode xL_dirty.2.1 14 = .ok (.aload_n 2, 1) := by decide +kernel
theorem dL_dirty_15 : decode xL_dirty.2.1 15 = .ok (.getfield 155, 3) := by decide +kernel
theorem dL_dirty_18 : decode xL_dirty.2.1 18 = .ok (.ireturn, 1) := by decide +kernel
def xL_held : mt_X := (⟨"LeasedPages", "held", "(II)I"⟩, prog_1_method_19_code, 3, (Option.some FieldType.int))
theorem dL_held_0 : decode xL_held.2.1 0 = .ok (.iload_n 1, 1) := by decide +kernel
theorem dL_held_1 : decode xL_held.2.1 1 = .ok (.invokestatic 158, 3) := by decide +kernel
theorem dL_held_4 : decode xL_held.2.1 4 = .ok (.ifCond .eq 22, 3) := by decide +kernel
theorem dL_held_7 : decode xL_held.2.1 7 = .ok (.iload_n 2, 1) := by decide +kernel
theorem dL_held_8 : decode xL_held.2.1 8 = .ok (.invokestatic 47, 3) := by decide +kernel
theorem dL_held_11 : decode xL_held.2.1 11 = .ok (.ifCond .eq 15, 3) := by decide +kernel
theorem dL_held_14 : decode xL_held.2.1 14 = .ok (.aload_n 0, 1) := by decide +kernel
theorem dL_held_15 : decode xL_held.2.1 15 = .ok (.getfield 30, 3) := by decide +kernel
theorem dL_held_18 : decode xL_held.2.1 18 = .ok (.iload_n 1, 1) := by decide +kernel
theorem dL_held_19 : decode xL_held.2.1 19 = .ok (.iload_n 2, 1) := by decide +kernel
theorem dL_held_20 : decode xL_held.2.1 20 = .ok (.invokevirtual 161, 3) := by decide +kernel
theorem dL_held_23 : decode xL_held.2.1 23 = .ok (.goto 4, 3) := by decide +kernel
theorem dL_held_26 : decode xL_held.2.1 26 = .ok (.iconst (-1), 1) := by decide +kernel
theorem dL_held_27 : decode xL_held.2.1 27 = .ok (.ireturn, 1) := by decide +kernel
def xL_waiting : mt_X := (⟨"LeasedPages", "waiting", "(I)I"⟩, prog_1_method_20_code, 2, (Option.some FieldType.int))
theorem dL_waiting_0 : decode xL_waiting.2.1 0 = .ok (.iload_n 1, 1) := by decide +kernel
theorem dL_waiting_1 : decode xL_waiting.2.1 1 = .ok (.invokestatic 47, 3) := by decide +kernel
theorem dL_waiting_4 : decode xL_waiting.2.1 4 = .ok (.ifCond .eq 18, 3) := by decide +kernel
theorem dL_waiting_7 : decode xL_waiting.2.1 7 = .ok (.aload_n 0, 1) := by decide +kernel
theorem dL_waiting_8 : decode xL_waiting.2.1 8 = .ok (.getfield 30, 3) := by decide +kernel
theorem dL_waiting_11 : decode xL_waiting.2.1 11 = .ok (.getfield 164, 3) := by decide +kernel
theorem dL_waiting_14 : decode xL_waiting.2.1 14 = .ok (.iload_n 1, 1) := by decide +kernel
theorem dL_waiting_15 : decode xL_waiting.2.1 15 = .ok (.aaload, 1) := by decide +kernel
theorem dL_waiting_16 : decode xL_waiting.2.1 16 = .ok (.getfield 168, 3) := by decide +kernel
theorem dL_waiting_19 : decode xL_waiting.2.1 19 = .ok (.goto 4, 3) := by decide +kernel
theorem dL_waiting_22 : decode xL_waiting.2.1 22 = .ok (.iconst (-1), 1) := by decide +kernel
theorem dL_waiting_23 : decode xL_waiting.2.1 23 = .ok (.ireturn, 1) := by decide +kernel
def xL_stored : mt_X := (⟨"LeasedPages", "stored", "(II)I"⟩, prog_1_method_21_code, 3, (Option.some FieldType.int))
theorem dL_stored_0 : decode xL_stored.2.1 0 = .ok (.iload_n 1, 1) := by decide +kernel
theorem dL_stored_1 : decode xL_stored.2.1 1 = .ok (.invokestatic 47, 3) := by decide +kernel
theorem dL_stored_4 : decode xL_stored.2.1 4 = .ok (.ifCond .eq 24, 3) := by decide +kernel
theorem dL_stored_7 : decode xL_stored.2.1 7 = .ok (.iload_n 2, 1) := by decide +kernel
theorem dL_stored_8 : decode xL_stored.2.1 8 = .ok (.invokestatic 58, 3) := by decide +kernel
theorem dL_stored_11 : decode xL_stored.2.1 11 = .ok (.ifCond .eq 17, 3) := by decide +kernel
theorem dL_stored_14 : decode xL_stored.2.1 14 = .ok (.aload_n 0, 1) := by decide +kernel
theorem dL_stored_15 : decode xL_stored.2.1 15 = .ok (.getfield 30, 3) := by decide +kernel
theorem dL_stored_18 : decode xL_stored.2.1 18 = .ok (.getfield 173, 3) := by decide +kernel
theorem dL_stored_21 : decode xL_stored.2.1 21 = .ok (.iload_n 1, 1) := by decide +kernel
theorem dL_stored_22 : decode xL_stored.2.1 22 = .ok (.aaload, 1) := by decide +kernel
theorem dL_stored_23 : decode xL_stored.2.1 23 = .ok (.iload_n 2, 1) := by decide +kernel
theorem dL_stored_24 : decode xL_stored.2.1 24 = .ok (.iaload, 1) := by decide +kernel
theorem dL_stored_25 : decode xL_stored.2.1 25 = .ok (.goto 4, 3) := by decide +kernel
theorem dL_stored_28 : decode xL_stored.2.1 28 = .ok (.iconst 0, 1) := by decide +kernel
theorem dL_stored_29 : decode xL_stored.2.1 29 = .ok (.ireturn, 1) := by decide +kernel
def xL_isClient : mt_X := (⟨"LeasedPages", "isClient", "(I)Z"⟩, prog_1_method_22_code, 1, (Option.some FieldType.boolean))
theorem dL_isClient_0 : decode xL_isClient.2.1 0 = .ok (.iload_n 0, 1) := by decide +kernel
theorem dL_isClient_1 : decode xL_isClient.2.1 1 = .ok (.ifCond .lt 12, 3) := by decide +kernel
theorem dL_isClient_4 : decode xL_isClient.2.1 4 = .ok (.iload_n 0, 1) := by decide +kernel
theorem dL_isClient_5 : decode xL_isClient.2.1 5 = .ok (.iconst 3, 1) := by decide +kernel
theorem dL_isClient_6 : decode xL_isClient.2.1 6 = .ok (.if_icmp .ge 7, 3) := by decide +kernel
theorem dL_isClient_9 : decode xL_isClient.2.1 9 = .ok (.iconst 1, 1) := by decide +kernel
theorem dL_isClient_10 : decode xL_isClient.2.1 10 = .ok (.goto 4, 3) := by decide +kernel
theorem dL_isClient_13 : decode xL_isClient.2.1 13 = .ok (.iconst 0, 1) := by decide +kernel
theorem dL_isClient_14 : decode xL_isClient.2.1 14 = .ok (.ireturn, 1) := by decide +kernel
def xL_isNode : mt_X := (⟨"LeasedPages", "isNode", "(I)Z"⟩, prog_1_method_23_code, 1, (Option.some FieldType.boolean))
theorem dL_isNode_0 : decode xL_isNode.2.1 0 = .ok (.iload_n 0, 1) := by decide +kernel
theorem dL_isNode_1 : decode xL_isNode.2.1 1 = .ok (.invokestatic 158, 3) := by decide +kernel
theorem dL_isNode_4 : decode xL_isNode.2.1 4 = .ok (.ifCond .ne 8, 3) := by decide +kernel
theorem dL_isNode_7 : decode xL_isNode.2.1 7 = .ok (.iload_n 0, 1) := by decide +kernel
theorem dL_isNode_8 : decode xL_isNode.2.1 8 = .ok (.iconst 3, 1) := by decide +kernel
theorem dL_isNode_9 : decode xL_isNode.2.1 9 = .ok (.if_icmp .ne 7, 3) := by decide +kernel
theorem dL_isNode_12 : decode xL_isNode.2.1 12 = .ok (.iconst 1, 1) := by decide +kernel
theorem dL_isNode_13 : decode xL_isNode.2.1 13 = .ok (.goto 4, 3) := by decide +kernel
theorem dL_isNode_16 : decode xL_isNode.2.1 16 = .ok (.iconst 0, 1) := by decide +kernel
theorem dL_isNode_17 : decode xL_isNode.2.1 17 = .ok (.ireturn, 1) := by decide +kernel
def xL_isFile : mt_X := (⟨"LeasedPages", "isFile", "(I)Z"⟩, prog_1_method_24_code, 1, (Option.some FieldType.boolean))
theorem dL_isFile_0 : decode xL_isFile.2.1 0 = .ok (.iload_n 0, 1) := by decide +kernel
theorem dL_isFile_1 : decode xL_isFile.2.1 1 = .ok (.ifCond .lt 12, 3) := by decide +kernel
theorem dL_isFile_4 : decode xL_isFile.2.1 4 = .ok (.iload_n 0, 1) := by decide +kernel
theorem dL_isFile_5 : decode xL_isFile.2.1 5 = .ok (.iconst 4, 1) := by decide +kernel
theorem dL_isFile_6 : decode xL_isFile.2.1 6 = .ok (.if_icmp .ge 7, 3) := by decide +kernel
theorem dL_isFile_9 : decode xL_isFile.2.1 9 = .ok (.iconst 1, 1) := by decide +kernel
theorem dL_isFile_10 : decode xL_isFile.2.1 10 = .ok (.goto 4, 3) := by decide +kernel
theorem dL_isFile_13 : decode xL_isFile.2.1 13 = .ok (.iconst 0, 1) := by decide +kernel
theorem dL_isFile_14 : decode xL_isFile.2.1 14 = .ok (.ireturn, 1) := by decide +kernel
def xL_isPage : mt_X := (⟨"LeasedPages", "isPage", "(I)Z"⟩, prog_1_method_25_code, 1, (Option.some FieldType.boolean))
theorem dL_isPage_0 : decode xL_isPage.2.1 0 = .ok (.iload_n 0, 1) := by decide +kernel
theorem dL_isPage_1 : decode xL_isPage.2.1 1 = .ok (.ifCond .lt 12, 3) := by decide +kernel
theorem dL_isPage_4 : decode xL_isPage.2.1 4 = .ok (.iload_n 0, 1) := by decide +kernel
theorem dL_isPage_5 : decode xL_isPage.2.1 5 = .ok (.iconst 4, 1) := by decide +kernel
theorem dL_isPage_6 : decode xL_isPage.2.1 6 = .ok (.if_icmp .ge 7, 3) := by decide +kernel
theorem dL_isPage_9 : decode xL_isPage.2.1 9 = .ok (.iconst 1, 1) := by decide +kernel
theorem dL_isPage_10 : decode xL_isPage.2.1 10 = .ok (.goto 4, 3) := by decide +kernel
theorem dL_isPage_13 : decode xL_isPage.2.1 13 = .ok (.iconst 0, 1) := by decide +kernel
theorem dL_isPage_14 : decode xL_isPage.2.1 14 = .ok (.ireturn, 1) := by decide +kernel
def xL_isUp : mt_X := (⟨"LeasedPages", "isUp", "(I)Z"⟩, prog_1_method_26_code, 2, (Option.some FieldType.boolean))
theorem dL_isUp_0 : decode xL_isUp.2.1 0 = .ok (.iload_n 1, 1) := by decide +kernel
theorem dL_isUp_1 : decode xL_isUp.2.1 1 = .ok (.iconst 3, 1) := by decide +kernel
theorem dL_isUp_2 : decode xL_isUp.2.1 2 = .ok (.if_icmp .ne 13, 3) := by decide +kernel
theorem dL_isUp_5 : decode xL_isUp.2.1 5 = .ok (.aload_n 0, 1) := by decide +kernel
theorem dL_isUp_6 : decode xL_isUp.2.1 6 = .ok (.getfield 30, 3) := by decide +kernel
theorem dL_isUp_9 : decode xL_isUp.2.1 9 = .ok (.getfield 177, 3) := by decide +kernel
theorem dL_isUp_12 : decode xL_isUp.2.1 12 = .ok (.goto 12, 3) := by decide +kernel
theorem dL_isUp_15 : decode xL_isUp.2.1 15 = .ok (.aload_n 0, 1) := by decide +kernel
theorem dL_isUp_16 : decode xL_isUp.2.1 16 = .ok (.getfield 36, 3) := by decide +kernel
theorem dL_isUp_19 : decode xL_isUp.2.1 19 = .ok (.iload_n 1, 1) := by decide +kernel
theorem dL_isUp_20 : decode xL_isUp.2.1 20 = .ok (.aaload, 1) := by decide +kernel
theorem dL_isUp_21 : decode xL_isUp.2.1 21 = .ok (.getfield 147, 3) := by decide +kernel
theorem dL_isUp_24 : decode xL_isUp.2.1 24 = .ok (.ireturn, 1) := by decide +kernel
def xL_clientThatIsUp : mt_X := (⟨"LeasedPages", "clientThatIsUp", "(I)LLeasedPages$Client;"⟩, prog_1_method_27_code, 2, (Option.some (FieldType.object "LeasedPages$Client")))
theorem dL_clientThatIsUp_0 : decode xL_clientThatIsUp.2.1 0 = .ok (.iload_n 1, 1) := by decide +kernel
theorem dL_clientThatIsUp_1 : decode xL_clientThatIsUp.2.1 1 = .ok (.invokestatic 158, 3) := by decide +kernel
theorem dL_clientThatIsUp_4 : decode xL_clientThatIsUp.2.1 4 = .ok (.ifCond .eq 24, 3) := by decide +kernel
theorem dL_clientThatIsUp_7 : decode xL_clientThatIsUp.2.1 7 = .ok (.aload_n 0, 1) := by decide +kernel
theorem dL_clientThatIsUp_8 : decode xL_clientThatIsUp.2.1 8 = .ok (.getfield 36, 3) := by decide +kernel
theorem dL_clientThatIsUp_11 : decode xL_clientThatIsUp.2.1 11 = .ok (.iload_n 1, 1) := by decide +kernel
theorem dL_clientThatIsUp_12 : decode xL_clientThatIsUp.2.1 12 = .ok (.aaload, 1) := by decide +kernel
theorem dL_clientThatIsUp_13 : decode xL_clientThatIsUp.2.1 13 = .ok (.getfield 147, 3) := by decide +kernel
theorem dL_clientThatIsUp_16 : decode xL_clientThatIsUp.2.1 16 = .ok (.ifCond .eq 12, 3) := by decide +kernel
theorem dL_clientThatIsUp_19 : decode xL_clientThatIsUp.2.1 19 = .ok (.aload_n 0, 1) := by decide +kernel
theorem dL_clientThatIsUp_20 : decode xL_clientThatIsUp.2.1 20 = .ok (.getfield 36, 3) := by decide +kernel
theorem dL_clientThatIsUp_23 : decode xL_clientThatIsUp.2.1 23 = .ok (.iload_n 1, 1) := by decide +kernel
theorem dL_clientThatIsUp_24 : decode xL_clientThatIsUp.2.1 24 = .ok (.aaload, 1) := by decide +kernel
theorem dL_clientThatIsUp_25 : decode xL_clientThatIsUp.2.1 25 = .ok (.goto 4, 3) := by decide +kernel
theorem dL_clientThatIsUp_28 : decode xL_clientThatIsUp.2.1 28 = .ok (.aconst_null, 1) := by decide +kernel
theorem dL_clientThatIsUp_29 : decode xL_clientThatIsUp.2.1 29 = .ok (.areturn, 1) := by decide +kernel
def xK_init : mt_X := (⟨"LeasedPages$Copy", "<init>", "()V"⟩, prog_3_method_1_code, 1, (Option.none : Option FieldType))
theorem dK_init_0 : decode xK_init.2.1 0 = .ok (.aload_n 0, 1) := by decide +kernel
theorem dK_init_1 : decode xK_init.2.1 1 = .ok (.invokespecial 3, 3) := by decide +kernel
theorem dK_init_4 : decode xK_init.2.1 4 = .ok (.aload_n 0, 1) := by decide +kernel
theorem dK_init_5 : decode xK_init.2.1 5 = .ok (.iconst 4, 1) := by decide +kernel
theorem dK_init_6 : decode xK_init.2.1 6 = .ok (.newarray .int, 2) := by decide +kernel
theorem dK_init_8 : decode xK_init.2.1 8 = .ok (.putfield 9, 3) := by decide +kernel
theorem dK_init_11 : decode xK_init.2.1 11 = .ok (.aload_n 0, 1) := by decide +kernel
theorem dK_init_12 : decode xK_init.2.1 12 = .ok (.iconst 0, 1) := by decide +kernel
theorem dK_init_13 : decode xK_init.2.1 13 = .ok (.putfield 15, 3) := by decide +kernel
theorem dK_init_16 : decode xK_init.2.1 16 = .ok (.aload_n 0, 1) := by decide +kernel
theorem dK_init_17 : decode xK_init.2.1 17 = .ok (.iconst 0, 1) := by decide +kernel
theorem dK_init_18 : decode xK_init.2.1 18 = .ok (.putfield 19, 3) := by decide +kernel
theorem dK_init_21 : decode xK_init.2.1 21 = .ok (.aload_n 0, 1) := by decide +kernel
theorem dK_init_22 : decode xK_init.2.1 22 = .ok (.iconst 0, 1) := by decide +kernel
theorem dK_init_23 : decode xK_init.2.1 23 = .ok (.putfield 22, 3) := by decide +kernel
theorem dK_init_26 : decode xK_init.2.1 26 = .ok (.aload_n 0, 1) := by decide +kernel
theorem dK_init_27 : decode xK_init.2.1 27 = .ok (.iconst 0, 1) := by decide +kernel
theorem dK_init_28 : decode xK_init.2.1 28 = .ok (.putfield 26, 3) := by decide +kernel
theorem dK_init_31 : decode xK_init.2.1 31 = .ok (.return_, 1) := by decide +kernel
def xK_allows : mt_X := (⟨"LeasedPages$Copy", "allows", "(II)Z"⟩, prog_3_method_2_code, 3, (Option.some FieldType.boolean))
theorem dK_allows_0 : decode xK_allows.2.1 0 = .ok (.aload_n 0, 1) := by decide +kernel
theorem dK_allows_1 : decode xK_allows.2.1 1 = .ok (.getfield 15, 3) := by decide +kernel
theorem dK_allows_4 : decode xK_allows.2.1 4 = .ok (.iload_n 1, 1) := by decide +kernel
theorem dK_allows_5 : decode xK_allows.2.1 5 = .ok (.if_icmp .lt 15, 3) := by decide +kernel
theorem dK_allows_8 : decode xK_allows.2.1 8 = .ok (.iload_n 2, 1) := by decide +kernel
theorem dK_allows_9 : decode xK_allows.2.1 9 = .ok (.aload_n 0, 1) := by decide +kernel
theorem dK_allows_10 : decode xK_allows.2.1 10 = .ok (.getfield 19, 3) := by decide +kernel
theorem dK_allows_13 : decode xK_allows.2.1 13 = .ok (.if_icmp .ge 7, 3) := by decide +kernel
theorem dK_allows_16 : decode xK_allows.2.1 16 = .ok (.iconst 1, 1) := by decide +kernel
theorem dK_allows_17 : decode xK_allows.2.1 17 = .ok (.goto 4, 3) := by decide +kernel
theorem dK_allows_20 : decode xK_allows.2.1 20 = .ok (.iconst 0, 1) := by decide +kernel
theorem dK_allows_21 : decode xK_allows.2.1 21 = .ok (.ireturn, 1) := by decide +kernel
def xK_takeLostMark : mt_X := (⟨"LeasedPages$Copy", "takeLostMark", "()Z"⟩, prog_3_method_3_code, 2, (Option.some FieldType.boolean))
theorem dK_takeLostMark_0 : decode xK_takeLostMark.2.1 0 = .ok (.aload_n 0, 1) := by decide +kernel
theorem dK_takeLostMark_1 : decode xK_takeLostMark.2.1 1 = .ok (.getfield 26, 3) := by decide +kernel
theorem dK_takeLostMark_4 : decode xK_takeLostMark.2.1 4 = .ok (.istore_n 1, 1) := by decide +kernel
theorem dK_takeLostMark_5 : decode xK_takeLostMark.2.1 5 = .ok (.aload_n 0, 1) := by decide +kernel
theorem dK_takeLostMark_6 : decode xK_takeLostMark.2.1 6 = .ok (.iconst 0, 1) := by decide +kernel
theorem dK_takeLostMark_7 : decode xK_takeLostMark.2.1 7 = .ok (.putfield 26, 3) := by decide +kernel
theorem dK_takeLostMark_10 : decode xK_takeLostMark.2.1 10 = .ok (.iload_n 1, 1) := by decide +kernel
theorem dK_takeLostMark_11 : decode xK_takeLostMark.2.1 11 = .ok (.ireturn, 1) := by decide +kernel
def xK_forget : mt_X := (⟨"LeasedPages$Copy", "forget", "()V"⟩, prog_3_method_4_code, 1, (Option.none : Option FieldType))
theorem dK_forget_0 : decode xK_forget.2.1 0 = .ok (.aload_n 0, 1) := by decide +kernel
theorem dK_forget_1 : decode xK_forget.2.1 1 = .ok (.getfield 9, 3) := by decide +kernel
theorem dK_forget_4 : decode xK_forget.2.1 4 = .ok (.iconst 0, 1) := by decide +kernel
theorem dK_forget_5 : decode xK_forget.2.1 5 = .ok (.invokestatic 29, 3) := by decide +kernel
theorem dK_forget_8 : decode xK_forget.2.1 8 = .ok (.aload_n 0, 1) := by decide +kernel
theorem dK_forget_9 : decode xK_forget.2.1 9 = .ok (.iconst 0, 1) := by decide +kernel
theorem dK_forget_10 : decode xK_forget.2.1 10 = .ok (.putfield 15, 3) := by decide +kernel
theorem dK_forget_13 : decode xK_forget.2.1 13 = .ok (.aload_n 0, 1) := by decide +kernel
theorem dK_forget_14 : decode xK_forget.2.1 14 = .ok (.iconst 0, 1) := by decide +kernel
theorem dK_forget_15 : decode xK_forget.2.1 15 = .ok (.putfield 19, 3) := by decide +kernel
theorem dK_forget_18 : decode xK_forget.2.1 18 = .ok (.aload_n 0, 1) := by decide +kernel
theorem dK_forget_19 : decode xK_forget.2.1 19 = .ok (.iconst 0, 1) := by decide +kernel
theorem dK_forget_20 : decode xK_forget.2.1 20 = .ok (.putfield 22, 3) := by decide +kernel
theorem dK_forget_23 : decode xK_forget.2.1 23 = .ok (.aload_n 0, 1) := by decide +kernel
theorem dK_forget_24 : decode xK_forget.2.1 24 = .ok (.iconst 0, 1) := by decide +kernel
theorem dK_forget_25 : decode xK_forget.2.1 25 = .ok (.putfield 26, 3) := by decide +kernel
theorem dK_forget_28 : decode xK_forget.2.1 28 = .ok (.return_, 1) := by decide +kernel
def xQ_init : mt_X := (⟨"LeasedPages$Line", "<init>", "()V"⟩, prog_4_method_1_code, 1, (Option.none : Option FieldType))
theorem dQ_init_0 : decode xQ_init.2.1 0 = .ok (.aload_n 0, 1) := by decide +kernel
theorem dQ_init_1 : decode xQ_init.2.1 1 = .ok (.invokespecial 3, 3) := by decide +kernel
theorem dQ_init_4 : decode xQ_init.2.1 4 = .ok (.aload_n 0, 1) := by decide +kernel
theorem dQ_init_5 : decode xQ_init.2.1 5 = .ok (.iconst 3, 1) := by decide +kernel
theorem dQ_init_6 : decode xQ_init.2.1 6 = .ok (.anewarray 9, 3) := by decide +kernel
theorem dQ_init_9 : decode xQ_init.2.1 9 = .ok (.putfield 11, 3) := by decide +kernel
theorem dQ_init_12 : decode xQ_init.2.1 12 = .ok (.aload_n 0, 1) := by decide +kernel
theorem dQ_init_13 : decode xQ_init.2.1 13 = .ok (.iconst 0, 1) := by decide +kernel
theorem dQ_init_14 : decode xQ_init.2.1 14 = .ok (.putfield 17, 3) := by decide +kernel
theorem dQ_init_17 : decode xQ_init.2.1 17 = .ok (.return_, 1) := by decide +kernel
def xQ_first : mt_X := (⟨"LeasedPages$Line", "first", "()LLeasedPages$Request;"⟩, prog_4_method_2_code, 1, (Option.some (FieldType.object "LeasedPages$Request")))
theorem dQ_first_0 : decode xQ_first.2.1 0 = .ok (.aload_n 0, 1) := by decide +kernel
theorem dQ_first_1 : decode xQ_first.2.1 1 = .ok (.getfield 17, 3) := by decide +kernel
theorem dQ_first_4 : decode xQ_first.2.1 4 = .ok (.ifCond .le 12, 3) := by decide +kernel
theorem dQ_first_7 : decode xQ_first.2.1 7 = .ok (.aload_n 0, 1) := by decide +kernel
theorem dQ_first_8 : decode xQ_first.2.1 8 = .ok (.getfield 11, 3) := by decide +kernel
theorem dQ_first_11 : decode xQ_first.2.1 11 = .ok (.iconst 0, 1) := by decide +kernel
theorem dQ_first_12 : decode xQ_first.2.1 12 = .ok (.aaload, 1) := by decide +kernel
theorem dQ_first_13 : decode xQ_first.2.1 13 = .ok (.goto 4, 3) := by decide +kernel
theorem dQ_first_16 : decode xQ_first.2.1 16 = .ok (.aconst_null, 1) := by decide +kernel
theorem dQ_first_17 : decode xQ_first.2.1 17 = .ok (.areturn, 1) := by decide +kernel
def xQ_ofClient : mt_X := (⟨"LeasedPages$Line", "ofClient", "(I)LLeasedPages$Request;"⟩, prog_4_method_3_code, 3, (Option.some (FieldType.object "LeasedPages$Request")))
theorem dQ_ofClient_0 : decode xQ_ofClient.2.1 0 = .ok (.aload_n 0, 1) := by decide +kernel
theorem dQ_ofClient_1 : decode xQ_ofClient.2.1 1 = .ok (.iload_n 1, 1) := by decide +kernel
theorem dQ_ofClient_2 : decode xQ_ofClient.2.1 2 = .ok (.invokevirtual 21, 3) := by decide +kernel
theorem dQ_ofClient_5 : decode xQ_ofClient.2.1 5 = .ok (.istore_n 2, 1) := by decide +kernel
theorem dQ_ofClient_6 : decode xQ_ofClient.2.1 6 = .ok (.iload_n 2, 1) := by decide +kernel
theorem dQ_ofClient_7 : decode xQ_ofClient.2.1 7 = .ok (.aload_n 0, 1) := by decide +kernel
theorem dQ_ofClient_8 : decode xQ_ofClient.2.1 8 = .ok (.getfield 17, 3) := by decide +kernel
theorem dQ_ofClient_11 : decode xQ_ofClient.2.1 11 = .ok (.if_icmp .ge 12, 3) := by decide +kernel
theorem dQ_ofClient_14 : decode xQ_ofClient.2.1 14 = .ok (.aload_n 0, 1) := by decide +kernel
theorem dQ_ofClient_15 : decode xQ_ofClient.2.1 15 = .ok (.getfield 11, 3) := by decide +kernel
theorem dQ_ofClient_18 : decode xQ_ofClient.2.1 18 = .ok (.iload_n 2, 1) := by decide +kernel
theorem dQ_ofClient_19 : decode xQ_ofClient.2.1 19 = .ok (.aaload, 1) := by decide +kernel
theorem dQ_ofClient_20 : decode xQ_ofClient.2.1 20 = .ok (.goto 4, 3) := by decide +kernel
theorem dQ_ofClient_23 : decode xQ_ofClient.2.1 23 = .ok (.aconst_null, 1) := by decide +kernel
theorem dQ_ofClient_24 : decode xQ_ofClient.2.1 24 = .ok (.areturn, 1) := by decide +kernel
def xQ_add : mt_X := (⟨"LeasedPages$Line", "add", "(LLeasedPages$Request;)V"⟩, prog_4_method_4_code, 2, (Option.none : Option FieldType))
theorem dQ_add_0 : decode xQ_add.2.1 0 = .ok (.aload_n 0, 1) := by decide +kernel
theorem dQ_add_1 : decode xQ_add.2.1 1 = .ok (.getfield 17, 3) := by decide +kernel
theorem dQ_add_4 : decode xQ_add.2.1 4 = .ok (.iconst 3, 1) := by decide +kernel
theorem dQ_add_5 : decode xQ_add.2.1 5 = .ok (.if_icmp .ge 23, 3) := by decide +kernel
theorem dQ_add_8 : decode xQ_add.2.1 8 = .ok (.aload_n 0, 1) := by decide +kernel
theorem dQ_add_9 : decode xQ_add.2.1 9 = .ok (.getfield 11, 3) := by decide +kernel
theorem dQ_add_12 : decode xQ_add.2.1 12 = .ok (.aload_n 0, 1) := by decide +kernel
theorem dQ_add_13 : decode xQ_add.2.1 13 = .ok (.getfield 17, 3) := by decide +kernel
theorem dQ_add_16 : decode xQ_add.2.1 16 = .ok (.aload_n 1, 1) := by decide +kernel
theorem dQ_add_17 : decode xQ_add.2.1 17 = .ok (.aastore, 1) := by decide +kernel
theorem dQ_add_18 : decode xQ_add.2.1 18 = .ok (.aload_n 0, 1) := by decide +kernel
theorem dQ_add_19 : decode xQ_add.2.1 19 = .ok (.dup, 1) := by decide +kernel
theorem dQ_add_20 : decode xQ_add.2.1 20 = .ok (.getfield 17, 3) := by decide +kernel
theorem dQ_add_23 : decode xQ_add.2.1 23 = .ok (.iconst 1, 1) := by decide +kernel
theorem dQ_add_24 : decode xQ_add.2.1 24 = .ok (.iadd, 1) := by decide +kernel
theorem dQ_add_25 : decode xQ_add.2.1 25 = .ok (.putfield 17, 3) := by decide +kernel
theorem dQ_add_28 : decode xQ_add.2.1 28 = .ok (.return_, 1) := by decide +kernel
def xQ_takeOut : mt_X := (⟨"LeasedPages$Line", "takeOut", "(I)V"⟩, prog_4_method_5_code, 4, (Option.none : Option FieldType))
theorem dQ_takeOut_0 : decode xQ_takeOut.2.1 0 = .ok (.aload_n 0, 1) := by decide +kernel
theorem dQ_takeOut_1 : decode xQ_takeOut.2.1 1 = .ok (.iload_n 1, 1) := by decide +kernel
theorem dQ_takeOut_2 : decode xQ_takeOut.2.1 2 = .ok (.invokevirtual 21, 3) := by decide +kernel
theorem dQ_takeOut_5 : decode xQ_takeOut.2.1 5 = .ok (.istore_n 2, 1) := by decide +kernel
theorem dQ_takeOut_6 : decode xQ_takeOut.2.1 6 = .ok (.iload_n 2, 1) := by decide +kernel
theorem dQ_takeOut_7 : decode xQ_takeOut.2.1 7 = .ok (.aload_n 0, 1) := by decide +kernel
theorem dQ_takeOut_8 : decode xQ_takeOut.2.1 8 = .ok (.getfield 17, 3) := by decide +kernel
theorem dQ_takeOut_11 : decode xQ_takeOut.2.1 11 = .ok (.if_icmp .ge 53, 3) := by decide +kernel
theorem dQ_takeOut_14 : decode xQ_takeOut.2.1 14 = .ok (.aload_n 0, 1) := by decide +kernel
theorem dQ_takeOut_15 : decode xQ_takeOut.2.1 15 = .ok (.dup, 1) := by decide +kernel
theorem dQ_takeOut_16 : decode xQ_takeOut.2.1 16 = .ok (.getfield 17, 3) := by decide +kernel
theorem dQ_takeOut_19 : decode xQ_takeOut.2.1 19 = .ok (.iconst 1, 1) := by decide +kernel
theorem dQ_takeOut_20 : decode xQ_takeOut.2.1 20 = .ok (.isub, 1) := by decide +kernel
theorem dQ_takeOut_21 : decode xQ_takeOut.2.1 21 = .ok (.putfield 17, 3) := by decide +kernel
theorem dQ_takeOut_24 : decode xQ_takeOut.2.1 24 = .ok (.iload_n 2, 1) := by decide +kernel
theorem dQ_takeOut_25 : decode xQ_takeOut.2.1 25 = .ok (.istore_n 3, 1) := by decide +kernel
theorem dQ_takeOut_26 : decode xQ_takeOut.2.1 26 = .ok (.iload_n 3, 1) := by decide +kernel
theorem dQ_takeOut_27 : decode xQ_takeOut.2.1 27 = .ok (.aload_n 0, 1) := by decide +kernel
theorem dQ_takeOut_28 : decode xQ_takeOut.2.1 28 = .ok (.getfield 17, 3) := by decide +kernel
theorem dQ_takeOut_31 : decode xQ_takeOut.2.1 31 = .ok (.if_icmp .ge 23, 3) := by decide +kernel
theorem dQ_takeOut_34 : decode xQ_takeOut.2.1 34 = .ok (.aload_n 0, 1) := by decide +kernel
theorem dQ_takeOut_35 : decode xQ_takeOut.2.1 35 = .ok (.getfield 11, 3) := by decide +kernel
theorem dQ_takeOut_38 : decode xQ_takeOut.2.1 38 = .ok (.iload_n 3, 1) := by decide +kernel
theorem dQ_takeOut_39 : decode xQ_takeOut.2.1 39 = .ok (.aload_n 0, 1) := by decide +kernel
theorem dQ_takeOut_40 : decode xQ_takeOut.2.1 40 = .ok (.getfield 11, 3) := by decide +kernel
theorem dQ_takeOut_43 : decode xQ_takeOut.2.1 43 = .ok (.iload_n 3, 1) := by decide +kernel
theorem dQ_takeOut_44 : decode xQ_takeOut.2.1 44 = .ok (.iconst 1, 1) := by decide +kernel
theorem dQ_takeOut_45 : decode xQ_takeOut.2.1 45 = .ok (.iadd, 1) := by decide +kernel
theorem dQ_takeOut_46 : decode xQ_takeOut.2.1 46 = .ok (.aaload, 1) := by decide +kernel
theorem dQ_takeOut_47 : decode xQ_takeOut.2.1 47 = .ok (.aastore, 1) := by decide +kernel
theorem dQ_takeOut_48 : decode xQ_takeOut.2.1 48 = .ok (.iinc 3 1, 3) := by decide +kernel
theorem dQ_takeOut_51 : decode xQ_takeOut.2.1 51 = .ok (.goto (-25), 3) := by decide +kernel
theorem dQ_takeOut_54 : decode xQ_takeOut.2.1 54 = .ok (.aload_n 0, 1) := by decide +kernel
theorem dQ_takeOut_55 : decode xQ_takeOut.2.1 55 = .ok (.getfield 11, 3) := by decide +kernel
theorem dQ_takeOut_58 : decode xQ_takeOut.2.1 58 = .ok (.aload_n 0, 1) := by decide +kernel
theorem dQ_takeOut_59 : decode xQ_takeOut.2.1 59 = .ok (.getfield 17, 3) := by decide +kernel
theorem dQ_takeOut_62 : decode xQ_takeOut.2.1 62 = .ok (.aconst_null, 1) := by decide +kernel
theorem dQ_takeOut_63 : decode xQ_takeOut.2.1 63 = .ok (.aastore, 1) := by decide +kernel
theorem dQ_takeOut_64 : decode xQ_takeOut.2.1 64 = .ok (.return_, 1) := by decide +kernel
def xQ_clear : mt_X := (⟨"LeasedPages$Line", "clear", "()V"⟩, prog_4_method_6_code, 2, (Option.none : Option FieldType))
theorem dQ_clear_0 : decode xQ_clear.2.1 0 = .ok (.iconst 0, 1) := by decide +kernel
theorem dQ_clear_1 : decode xQ_clear.2.1 1 = .ok (.istore_n 1, 1) := by decide +kernel
theorem dQ_clear_2 : decode xQ_clear.2.1 2 = .ok (.iload_n 1, 1) := by decide +kernel
theorem dQ_clear_3 : decode xQ_clear.2.1 3 = .ok (.iconst 3, 1) := by decide +kernel
theorem dQ_clear_4 : decode xQ_clear.2.1 4 = .ok (.if_icmp .ge 16, 3) := by decide +kernel
theorem dQ_clear_7 : decode xQ_clear.2.1 7 = .ok (.aload_n 0, 1) := by decide +kernel
theorem dQ_clear_8 : decode xQ_clear.2.1 8 = .ok (.getfield 11, 3) := by decide +kernel
theorem dQ_clear_11 : decode xQ_clear.2.1 11 = .ok (.iload_n 1, 1) := by decide +kernel
theorem dQ_clear_12 : decode xQ_clear.2.1 12 = .ok (.aconst_null, 1) := by decide +kernel
theorem dQ_clear_13 : decode xQ_clear.2.1 13 = .ok (.aastore, 1) := by decide +kernel
theorem dQ_clear_14 : decode xQ_clear.2.1 14 = .ok (.iinc 1 1, 3) := by decide +kernel
theorem dQ_clear_17 : decode xQ_clear.2.1 17 = .ok (.goto (-15), 3) := by decide +kernel
theorem dQ_clear_20 : decode xQ_clear.2.1 20 = .ok (.aload_n 0, 1) := by decide +kernel
theorem dQ_clear_21 : decode xQ_clear.2.1 21 = .ok (.iconst 0, 1) := by decide +kernel
theorem dQ_clear_22 : decode xQ_clear.2.1 22 = .ok (.putfield 17, 3) := by decide +kernel
theorem dQ_clear_25 : decode xQ_clear.2.1 25 = .ok (.return_, 1) := by decide +kernel
def xQ_placeOf : mt_X := (⟨"LeasedPages$Line", "placeOf", "(I)I"⟩, prog_4_method_7_code, 3, (Option.some FieldType.int))
theorem dQ_placeOf_0 : decode xQ_placeOf.2.1 0 = .ok (.iconst 0, 1) := by decide +kernel
theorem dQ_placeOf_1 : decode xQ_placeOf.2.1 1 = .ok (.istore_n 2, 1) := by decide +kernel
theorem dQ_placeOf_2 : decode xQ_placeOf.2.1 2 = .ok (.iload_n 2, 1) := by decide +kernel
theorem dQ_placeOf_3 : decode xQ_placeOf.2.1 3 = .ok (.aload_n 0, 1) := by decide +kernel
theorem dQ_placeOf_4 : decode xQ_placeOf.2.1 4 = .ok (.getfield 17, 3) := by decide +kernel
theorem dQ_placeOf_7 : decode xQ_placeOf.2.1 7 = .ok (.if_icmp .ge 24, 3) := by decide +kernel
theorem dQ_placeOf_10 : decode xQ_placeOf.2.1 10 = .ok (.aload_n 0, 1) := by decide +kernel
theorem dQ_placeOf_11 : decode xQ_placeOf.2.1 11 = .ok (.getfield 11, 3) := by decide +kernel
theorem dQ_placeOf_14 : decode xQ_placeOf.2.1 14 = .ok (.iload_n 2, 1) := by decide +kernel
theorem dQ_placeOf_15 : decode xQ_placeOf.2.1 15 = .ok (.aaload, 1) := by decide +kernel
theorem dQ_placeOf_16 : decode xQ_placeOf.2.1 16 = .ok (.getfield 25, 3) := by decide +kernel
theorem dQ_placeOf_19 : decode xQ_placeOf.2.1 19 = .ok (.iload_n 1, 1) := by decide +kernel
theorem dQ_placeOf_20 : decode xQ_placeOf.2.1 20 = .ok (.if_icmp .ne 5, 3) := by decide +kernel
theorem dQ_placeOf_23 : decode xQ_placeOf.2.1 23 = .ok (.iload_n 2, 1) := by decide +kernel
theorem dQ_placeOf_24 : decode xQ_placeOf.2.1 24 = .ok (.ireturn, 1) := by decide +kernel
theorem dQ_placeOf_25 : decode xQ_placeOf.2.1 25 = .ok (.iinc 2 1, 3) := by decide +kernel
theorem dQ_placeOf_28 : decode xQ_placeOf.2.1 28 = .ok (.goto (-26), 3) := by decide +kernel
theorem dQ_placeOf_31 : decode xQ_placeOf.2.1 31 = .ok (.aload_n 0, 1) := by decide +kernel
theorem dQ_placeOf_32 : decode xQ_placeOf.2.1 32 = .ok (.getfield 17, 3) := by decide +kernel
theorem dQ_placeOf_35 : decode xQ_placeOf.2.1 35 = .ok (.ireturn, 1) := by decide +kernel
def xG_init : mt_X := (⟨"LeasedPages$Message", "<init>", "(IIII)V"⟩, prog_5_method_1_code, 5, (Option.none : Option FieldType))
theorem dG_init_0 : decode xG_init.2.1 0 = .ok (.aload_n 0, 1) := by decide +kernel
theorem dG_init_1 : decode xG_init.2.1 1 = .ok (.invokespecial 1, 3) := by decide +kernel
theorem dG_init_4 : decode xG_init.2.1 4 = .ok (.aload_n 0, 1) := by decide +kernel
theorem dG_init_5 : decode xG_init.2.1 5 = .ok (.iload_n 1, 1) := by decide +kernel
theorem dG_init_6 : decode xG_init.2.1 6 = .ok (.putfield 7, 3) := by decide +kernel
theorem dG_init_9 : decode xG_init.2.1 9 = .ok (.aload_n 0, 1) := by decide +kernel
theorem dG_init_10 : decode xG_init.2.1 10 = .ok (.iload_n 2, 1) := by decide +kernel
theorem dG_init_11 : decode xG_init.2.1 11 = .ok (.putfield 13, 3) := by decide +kernel
theorem dG_init_14 : decode xG_init.2.1 14 = .ok (.aload_n 0, 1) := by decide +kernel
theorem dG_init_15 : decode xG_init.2.1 15 = .ok (.iload_n 3, 1) := by decide +kernel
theorem dG_init_16 : decode xG_init.2.1 16 = .ok (.putfield 16, 3) := by decide +kernel
theorem dG_init_19 : decode xG_init.2.1 19 = .ok (.aload_n 0, 1) := by decide +kernel
theorem dG_init_20 : decode xG_init.2.1 20 = .ok (.iload 4, 2) := by decide +kernel
theorem dG_init_22 : decode xG_init.2.1 22 = .ok (.putfield 19, 3) := by decide +kernel
theorem dG_init_25 : decode xG_init.2.1 25 = .ok (.return_, 1) := by decide +kernel
def xG_code : mt_X := (⟨"LeasedPages$Message", "code", "()I"⟩, prog_5_method_2_code, 1, (Option.some FieldType.int))
theorem dG_code_0 : decode xG_code.2.1 0 = .ok (.ldc 22, 2) := by decide +kernel
theorem dG_code_2 : decode xG_code.2.1 2 = .ok (.aload_n 0, 1) := by decide +kernel
theorem dG_code_3 : decode xG_code.2.1 3 = .ok (.getfield 7, 3) := by decide +kernel
theorem dG_code_6 : decode xG_code.2.1 6 = .ok (.imul, 1) := by decide +kernel
theorem dG_code_7 : decode xG_code.2.1 7 = .ok (.ldc 23, 2) := by decide +kernel
theorem dG_code_9 : decode xG_code.2.1 9 = .ok (.aload_n 0, 1) := by decide +kernel
theorem dG_code_10 : decode xG_code.2.1 10 = .ok (.getfield 13, 3) := by decide +kernel
theorem dG_code_13 : decode xG_code.2.1 13 = .ok (.imul, 1) := by decide +kernel
theorem dG_code_14 : decode xG_code.2.1 14 = .ok (.iadd, 1) := by decide +kernel
theorem dG_code_15 : decode xG_code.2.1 15 = .ok (.sipush 10000, 3) := by decide +kernel
theorem dG_code_18 : decode xG_code.2.1 18 = .ok (.aload_n 0, 1) := by decide +kernel
theorem dG_code_19 : decode xG_code.2.1 19 = .ok (.getfield 16, 3) := by decide +kernel
theorem dG_code_22 : decode xG_code.2.1 22 = .ok (.imul, 1) := by decide +kernel
theorem dG_code_23 : decode xG_code.2.1 23 = .ok (.iadd, 1) := by decide +kernel
theorem dG_code_24 : decode xG_code.2.1 24 = .ok (.aload_n 0, 1) := by decide +kernel
theorem dG_code_25 : decode xG_code.2.1 25 = .ok (.getfield 19, 3) := by decide +kernel
theorem dG_code_28 : decode xG_code.2.1 28 = .ok (.iadd, 1) := by decide +kernel
theorem dG_code_29 : decode xG_code.2.1 29 = .ok (.ireturn, 1) := by decide +kernel
def xN_init : mt_X := (⟨"LeasedPages$Network", "<init>", "()V"⟩, prog_6_method_1_code, 1, (Option.none : Option FieldType))
theorem dN_init_0 : decode xN_init.2.1 0 = .ok (.aload_n 0, 1) := by decide +kernel
theorem dN_init_1 : decode xN_init.2.1 1 = .ok (.invokespecial 3, 3) := by decide +kernel
theorem dN_init_4 : decode xN_init.2.1 4 = .ok (.aload_n 0, 1) := by decide +kernel
theorem dN_init_5 : decode xN_init.2.1 5 = .ok (.bipush 60, 2) := by decide +kernel
theorem dN_init_7 : decode xN_init.2.1 7 = .ok (.anewarray 9, 3) := by decide +kernel
theorem dN_init_10 : decode xN_init.2.1 10 = .ok (.putfield 11, 3) := by decide +kernel
theorem dN_init_13 : decode xN_init.2.1 13 = .ok (.aload_n 0, 1) := by decide +kernel
theorem dN_init_14 : decode xN_init.2.1 14 = .ok (.iconst 0, 1) := by decide +kernel
theorem dN_init_15 : decode xN_init.2.1 15 = .ok (.putfield 17, 3) := by decide +kernel
theorem dN_init_18 : decode xN_init.2.1 18 = .ok (.return_, 1) := by decide +kernel
def xN_send : mt_X := (⟨"LeasedPages$Network", "send", "(LLeasedPages$Message;)Z"⟩, prog_6_method_2_code, 2, (Option.some FieldType.boolean))
theorem dN_send_0 : decode xN_send.2.1 0 = .ok (.aload_n 0, 1) := by decide +kernel
theorem dN_send_1 : decode xN_send.2.1 1 = .ok (.getfield 17, 3) := by decide +kernel
theorem dN_send_4 : decode xN_send.2.1 4 = .ok (.bipush 60, 2) := by decide +kernel
theorem dN_send_6 : decode xN_send.2.1 6 = .ok (.if_icmp .lt 5, 3) := by decide +kernel
theorem dN_send_9 : decode xN_send.2.1 9 = .ok (.iconst 0, 1) := by decide +kernel
theorem dN_send_10 : decode xN_send.2.1 10 = .ok (.ireturn, 1) := by decide +kernel
theorem dN_send_11 : decode xN_send.2.1 11 = .ok (.aload_n 0, 1) := by decide +kernel
theorem dN_send_12 : decode xN_send.2.1 12 = .ok (.getfield 11, 3) := by decide +kernel
theorem dN_send_15 : decode xN_send.2.1 15 = .ok (.aload_n 0, 1) := by decide +kernel
theorem dN_send_16 : decode xN_send.2.1 16 = .ok (.getfield 17, 3) := by decide +kernel
theorem dN_send_19 : decode xN_send.2.1 19 = .ok (.aload_n 1, 1) := by decide +kernel
theorem dN_send_20 : decode xN_send.2.1 20 = .ok (.aastore, 1) := by decide +kernel
theorem dN_send_21 : decode xN_send.2.1 21 = .ok (.aload_n 0, 1) := by decide +kernel
theorem dN_send_22 : decode xN_send.2.1 22 = .ok (.dup, 1) := by decide +kernel
theorem dN_send_23 : decode xN_send.2.1 23 = .ok (.getfield 17, 3) := by decide +kernel
theorem dN_send_26 : decode xN_send.2.1 26 = .ok (.iconst 1, 1) := by decide +kernel
theorem dN_send_27 : decode xN_send.2.1 27 = .ok (.iadd, 1) := by decide +kernel
theorem dN_send_28 : decode xN_send.2.1 28 = .ok (.putfield 17, 3) := by decide +kernel
theorem dN_send_31 : decode xN_send.2.1 31 = .ok (.iconst 1, 1) := by decide +kernel
theorem dN_send_32 : decode xN_send.2.1 32 = .ok (.ireturn, 1) := by decide +kernel
def xN_at : mt_X := (⟨"LeasedPages$Network", "at", "(I)LLeasedPages$Message;"⟩, prog_6_method_3_code, 2, (Option.some (FieldType.object "LeasedPages$Message")))
theorem dN_at_0 : decode xN_at.2.1 0 = .ok (.iload_n 1, 1) := by decide +kernel
theorem dN_at_1 : decode xN_at.2.1 1 = .ok (.ifCond .lt 20, 3) := by decide +kernel
theorem dN_at_4 : decode xN_at.2.1 4 = .ok (.iload_n 1, 1) := by decide +kernel
theorem dN_at_5 : decode xN_at.2.1 5 = .ok (.aload_n 0, 1) := by decide +kernel
theorem dN_at_6 : decode xN_at.2.1 6 = .ok (.getfield 17, 3) := by decide +kernel
theorem dN_at_9 : decode xN_at.2.1 9 = .ok (.if_icmp .ge 12, 3) := by decide +kernel
theorem dN_at_12 : decode xN_at.2.1 12 = .ok (.aload_n 0, 1) := by decide +kernel
theorem dN_at_13 : decode xN_at.2.1 13 = .ok (.getfield 11, 3) := by decide +kernel
theorem dN_at_16 : decode xN_at.2.1 16 = .ok (.iload_n 1, 1) := by decide +kernel
theorem dN_at_17 : decode xN_at.2.1 17 = .ok (.aaload, 1) := by decide +kernel
theorem dN_at_18 : decode xN_at.2.1 18 = .ok (.goto 4, 3) := by decide +kernel
theorem dN_at_21 : decode xN_at.2.1 21 = .ok (.aconst_null, 1) := by decide +kernel
theorem dN_at_22 : decode xN_at.2.1 22 = .ok (.areturn, 1) := by decide +kernel
def xN_takeOut : mt_X := (⟨"LeasedPages$Network", "takeOut", "(I)LLeasedPages$Message;"⟩, prog_6_method_4_code, 4, (Option.some (FieldType.object "LeasedPages$Message")))
theorem dN_takeOut_0 : decode xN_takeOut.2.1 0 = .ok (.aload_n 0, 1) := by decide +kernel
theorem dN_takeOut_1 : decode xN_takeOut.2.1 1 = .ok (.iload_n 1, 1) := by decide +kernel
theorem dN_takeOut_2 : decode xN_takeOut.2.1 2 = .ok (.invokevirtual 21, 3) := by decide +kernel
theorem dN_takeOut_5 : decode xN_takeOut.2.1 5 = .ok (.astore_n 2, 1) := by decide +kernel
theorem dN_takeOut_6 : decode xN_takeOut.2.1 6 = .ok (.aload_n 2, 1) := by decide +kernel
theorem dN_takeOut_7 : decode xN_takeOut.2.1 7 = .ok (.ifnull 53, 3) := by decide +kernel
theorem dN_takeOut_10 : decode xN_takeOut.2.1 10 = .ok (.aload_n 0, 1) := by decide +kernel
theorem dN_takeOut_11 : decode xN_takeOut.2.1 11 = .ok (.dup, 1) := by decide +kernel
theorem dN_takeOut_12 : decode xN_takeOut.2.1 12 = .ok (.getfield 17, 3) := by decide +kernel
theorem dN_takeOut_15 : decode xN_takeOut.2.1 15 = .ok (.iconst 1, 1) := by decide +kernel
theorem dN_takeOut_16 : decode xN_takeOut.2.1 16 = .ok (.isub, 1) := by decide +kernel
theorem dN_takeOut_17 : decode xN_takeOut.2.1 17 = .ok (.putfield 17, 3) := by decide +kernel
theorem dN_takeOut_20 : decode xN_takeOut.2.1 20 = .ok (.iload_n 1, 1) := by decide +kernel
theorem dN_takeOut_21 : decode xN_takeOut.2.1 21 = .ok (.istore_n 3, 1) := by decide +kernel
theorem dN_takeOut_22 : decode xN_takeOut.2.1 22 = .ok (.iload_n 3, 1) := by decide +kernel
theorem dN_takeOut_23 : decode xN_takeOut.2.1 23 = .ok (.aload_n 0, 1) := by decide +kernel
theorem dN_takeOut_24 : decode xN_takeOut.2.1 24 = .ok (.getfield 17, 3) := by decide +kernel
theorem dN_takeOut_27 : decode xN_takeOut.2.1 27 = .ok (.if_icmp .ge 23, 3) := by decide +kernel
theorem dN_takeOut_30 : decode xN_takeOut.2.1 30 = .ok (.aload_n 0, 1) := by decide +kernel
theorem dN_takeOut_31 : decode xN_takeOut.2.1 31 = .ok (.getfield 11, 3) := by decide +kernel
theorem dN_takeOut_34 : decode xN_takeOut.2.1 34 = .ok (.iload_n 3, 1) := by decide +kernel
theorem dN_takeOut_35 : decode xN_takeOut.2.1 35 = .ok (.aload_n 0, 1) := by decide +kernel
theorem dN_takeOut_36 : decode xN_takeOut.2.1 36 = .ok (.getfield 11, 3) := by decide +kernel
theorem dN_takeOut_39 : decode xN_takeOut.2.1 39 = .ok (.iload_n 3, 1) := by decide +kernel
theorem dN_takeOut_40 : decode xN_takeOut.2.1 40 = .ok (.iconst 1, 1) := by decide +kernel
theorem dN_takeOut_41 : decode xN_takeOut.2.1 41 = .ok (.iadd, 1) := by decide +kernel
theorem dN_takeOut_42 : decode xN_takeOut.2.1 42 = .ok (.aaload, 1) := by decide +kernel
theorem dN_takeOut_43 : decode xN_takeOut.2.1 43 = .ok (.aastore, 1) := by decide +kernel
theorem dN_takeOut_44 : decode xN_takeOut.2.1 44 = .ok (.iinc 3 1, 3) := by decide +kernel
theorem dN_takeOut_47 : decode xN_takeOut.2.1 47 = .ok (.goto (-25), 3) := by decide +kernel
theorem dN_takeOut_50 : decode xN_takeOut.2.1 50 = .ok (.aload_n 0, 1) := by decide +kernel
theorem dN_takeOut_51 : decode xN_takeOut.2.1 51 = .ok (.getfield 11, 3) := by decide +kernel
theorem dN_takeOut_54 : decode xN_takeOut.2.1 54 = .ok (.aload_n 0, 1) := by decide +kernel
theorem dN_takeOut_55 : decode xN_takeOut.2.1 55 = .ok (.getfield 17, 3) := by decide +kernel
theorem dN_takeOut_58 : decode xN_takeOut.2.1 58 = .ok (.aconst_null, 1) := by decide +kernel
theorem dN_takeOut_59 : decode xN_takeOut.2.1 59 = .ok (.aastore, 1) := by decide +kernel
theorem dN_takeOut_60 : decode xN_takeOut.2.1 60 = .ok (.aload_n 2, 1) := by decide +kernel
theorem dN_takeOut_61 : decode xN_takeOut.2.1 61 = .ok (.areturn, 1) := by decide +kernel
def xP_init : mt_X := (⟨"LeasedPages$Reply", "<init>", "(ILLeasedPages$Request;Z[I)V"⟩, prog_7_method_1_code, 5, (Option.none : Option FieldType))
theorem dP_init_0 : decode xP_init.2.1 0 = .ok (.aload_n 0, 1) := by decide +kernel
theorem dP_init_1 : decode xP_init.2.1 1 = .ok (.iload_n 1, 1) := by decide +kernel
theorem dP_init_2 : decode xP_init.2.1 2 = .ok (.aload_n 2, 1) := by decide +kernel
theorem dP_init_3 : decode xP_init.2.1 3 = .ok (.getfield 1, 3) := by decide +kernel
theorem dP_init_6 : decode xP_init.2.1 6 = .ok (.aload_n 2, 1) := by decide +kernel
theorem dP_init_7 : decode xP_init.2.1 7 = .ok (.getfield 7, 3) := by decide +kernel
theorem dP_init_10 : decode xP_init.2.1 10 = .ok (.aload_n 2, 1) := by decide +kernel
theorem dP_init_11 : decode xP_init.2.1 11 = .ok (.getfield 10, 3) := by decide +kernel
theorem dP_init_14 : decode xP_init.2.1 14 = .ok (.invokespecial 13, 3) := by decide +kernel
theorem dP_init_17 : decode xP_init.2.1 17 = .ok (.aload_n 0, 1) := by decide +kernel
theorem dP_init_18 : decode xP_init.2.1 18 = .ok (.aload_n 2, 1) := by decide +kernel
theorem dP_init_19 : decode xP_init.2.1 19 = .ok (.getfield 19, 3) := by decide +kernel
theorem dP_init_22 : decode xP_init.2.1 22 = .ok (.putfield 22, 3) := by decide +kernel
theorem dP_init_25 : decode xP_init.2.1 25 = .ok (.aload_n 0, 1) := by decide +kernel
theorem dP_init_26 : decode xP_init.2.1 26 = .ok (.iload_n 3, 1) := by decide +kernel
theorem dP_init_27 : decode xP_init.2.1 27 = .ok (.putfield 25, 3) := by decide +kernel
theorem dP_init_30 : decode xP_init.2.1 30 = .ok (.aload_n 0, 1) := by decide +kernel
theorem dP_init_31 : decode xP_init.2.1 31 = .ok (.aload 4, 2) := by decide +kernel
theorem dP_init_33 : decode xP_init.2.1 33 = .ok (.putfield 29, 3) := by decide +kernel
theorem dP_init_36 : decode xP_init.2.1 36 = .ok (.return_, 1) := by decide +kernel
def xR_init : mt_X := (⟨"LeasedPages$Request", "<init>", "(IIII)V"⟩, prog_8_method_1_code, 5, (Option.none : Option FieldType))
theorem dR_init_0 : decode xR_init.2.1 0 = .ok (.aload_n 0, 1) := by decide +kernel
theorem dR_init_1 : decode xR_init.2.1 1 = .ok (.iload_n 1, 1) := by decide +kernel
theorem dR_init_2 : decode xR_init.2.1 2 = .ok (.iload_n 2, 1) := by decide +kernel
theorem dR_init_3 : decode xR_init.2.1 3 = .ok (.iload_n 3, 1) := by decide +kernel
theorem dR_init_4 : decode xR_init.2.1 4 = .ok (.iload 4, 2) := by decide +kernel
theorem dR_init_6 : decode xR_init.2.1 6 = .ok (.invokespecial 3, 3) := by decide +kernel
theorem dR_init_9 : decode xR_init.2.1 9 = .ok (.return_, 1) := by decide +kernel
def xR_forLease : mt_X := (⟨"LeasedPages$Request", "forLease", "(IIIIZ)LLeasedPages$Request;"⟩, prog_8_method_2_code, 6, (Option.some (FieldType.object "LeasedPages$Request")))
theorem dR_forLease_0 : decode xR_forLease.2.1 0 = .ok (.new 9, 3) := by decide +kernel
theorem dR_forLease_3 : decode xR_forLease.2.1 3 = .ok (.dup, 1) := by decide +kernel
theorem dR_forLease_4 : decode xR_forLease.2.1 4 = .ok (.iconst 1, 1) := by decide +kernel
theorem dR_forLease_5 : decode xR_forLease.2.1 5 = .ok (.iload_n 0, 1) := by decide +kernel
theorem dR_forLease_6 : decode xR_forLease.2.1 6 = .ok (.iload_n 1, 1) := by decide +kernel
theorem dR_forLease_7 : decode xR_forLease.2.1 7 = .ok (.iload_n 2, 1) := by decide +kernel
theorem dR_forLease_8 : decode xR_forLease.2.1 8 = .ok (.invokespecial 11, 3) := by decide +kernel
theorem dR_forLease_11 : decode xR_forLease.2.1 11 = .ok (.astore 5, 2) := by decide +kernel
theorem dR_forLease_13 : decode xR_forLease.2.1 13 = .ok (.aload 5, 2) := by decide +kernel
theorem dR_forLease_15 : decode xR_forLease.2.1 15 = .ok (.iload_n 3, 1) := by decide +kernel
theorem dR_forLease_16 : decode xR_forLease.2.1 16 = .ok (.putfield 12, 3) := by decide +kernel
theorem dR_forLease_19 : decode xR_forLease.2.1 19 = .ok (.aload 5, 2) := by decide +kernel
theorem dR_forLease_21 : decode xR_forLease.2.1 21 = .ok (.iload 4, 2) := by decide +kernel
theorem dR_forLease_23 : decode xR_forLease.2.1 23 = .ok (.putfield 16, 3) := by decide +kernel
theorem dR_forLease_26 : decode xR_forLease.2.1 26 = .ok (.aload 5, 2) := by decide +kernel
theorem dR_forLease_28 : decode xR_forLease.2.1 28 = .ok (.areturn, 1) := by decide +kernel
def xR_forStore : mt_X := (⟨"LeasedPages$Request", "forStore", "(IILLeasedPages$Write;)LLeasedPages$Request;"⟩, prog_8_method_3_code, 4, (Option.some (FieldType.object "LeasedPages$Request")))
theorem dR_forStore_0 : decode xR_forStore.2.1 0 = .ok (.new 9, 3) := by decide +kernel
theorem dR_forStore_3 : decode xR_forStore.2.1 3 = .ok (.dup, 1) := by decide +kernel
theorem dR_forStore_4 : decode xR_forStore.2.1 4 = .ok (.iconst 2, 1) := by decide +kernel
theorem dR_forStore_5 : decode xR_forStore.2.1 5 = .ok (.iload_n 0, 1) := by decide +kernel
theorem dR_forStore_6 : decode xR_forStore.2.1 6 = .ok (.aload_n 2, 1) := by decide +kernel
theorem dR_forStore_7 : decode xR_forStore.2.1 7 = .ok (.getfield 20, 3) := by decide +kernel
theorem dR_forStore_10 : decode xR_forStore.2.1 10 = .ok (.iload_n 1, 1) := by decide +kernel
theorem dR_forStore_11 : decode xR_forStore.2.1 11 = .ok (.invokespecial 11, 3) := by decide +kernel
theorem dR_forStore_14 : decode xR_forStore.2.1 14 = .ok (.astore_n 3, 1) := by decide +kernel
theorem dR_forStore_15 : decode xR_forStore.2.1 15 = .ok (.aload_n 3, 1) := by decide +kernel
theorem dR_forStore_16 : decode xR_forStore.2.1 16 = .ok (.aload_n 2, 1) := by decide +kernel
theorem dR_forStore_17 : decode xR_forStore.2.1 17 = .ok (.getfield 25, 3) := by decide +kernel
theorem dR_forStore_20 : decode xR_forStore.2.1 20 = .ok (.putfield 28, 3) := by decide +kernel
theorem dR_forStore_23 : decode xR_forStore.2.1 23 = .ok (.aload_n 3, 1) := by decide +kernel
theorem dR_forStore_24 : decode xR_forStore.2.1 24 = .ok (.aload_n 2, 1) := by decide +kernel
theorem dR_forStore_25 : decode xR_forStore.2.1 25 = .ok (.getfield 29, 3) := by decide +kernel
theorem dR_forStore_28 : decode xR_forStore.2.1 28 = .ok (.putfield 32, 3) := by decide +kernel
theorem dR_forStore_31 : decode xR_forStore.2.1 31 = .ok (.aload_n 3, 1) := by decide +kernel
theorem dR_forStore_32 : decode xR_forStore.2.1 32 = .ok (.areturn, 1) := by decide +kernel
def xR_forRelease : mt_X := (⟨"LeasedPages$Request", "forRelease", "(III)LLeasedPages$Request;"⟩, prog_8_method_4_code, 3, (Option.some (FieldType.object "LeasedPages$Request")))
theorem dR_forRelease_0 : decode xR_forRelease.2.1 0 = .ok (.new 9, 3) := by decide +kernel
theorem dR_forRelease_3 : decode xR_forRelease.2.1 3 = .ok (.dup, 1) := by decide +kernel
theorem dR_forRelease_4 : decode xR_forRelease.2.1 4 = .ok (.iconst 3, 1) := by decide +kernel
theorem dR_forRelease_5 : decode xR_forRelease.2.1 5 = .ok (.iload_n 0, 1) := by decide +kernel
theorem dR_forRelease_6 : decode xR_forRelease.2.1 6 = .ok (.iload_n 1, 1) := by decide +kernel
theorem dR_forRelease_7 : decode xR_forRelease.2.1 7 = .ok (.iload_n 2, 1) := by decide +kernel
theorem dR_forRelease_8 : decode xR_forRelease.2.1 8 = .ok (.invokespecial 11, 3) := by decide +kernel
theorem dR_forRelease_11 : decode xR_forRelease.2.1 11 = .ok (.areturn, 1) := by decide +kernel
def xW_init : mt_X := (⟨"LeasedPages$Write", "<init>", "(III)V"⟩, prog_10_method_1_code, 4, (Option.none : Option FieldType))
theorem dW_init_0 : decode xW_init.2.1 0 = .ok (.aload_n 0, 1) := by decide +kernel
theorem dW_init_1 : decode xW_init.2.1 1 = .ok (.invokespecial 1, 3) := by decide +kernel
theorem dW_init_4 : decode xW_init.2.1 4 = .ok (.aload_n 0, 1) := by decide +kernel
theorem dW_init_5 : decode xW_init.2.1 5 = .ok (.iload_n 1, 1) := by decide +kernel
theorem dW_init_6 : decode xW_init.2.1 6 = .ok (.putfield 7, 3) := by decide +kernel
theorem dW_init_9 : decode xW_init.2.1 9 = .ok (.aload_n 0, 1) := by decide +kernel
theorem dW_init_10 : decode xW_init.2.1 10 = .ok (.iload_n 2, 1) := by decide +kernel
theorem dW_init_11 : decode xW_init.2.1 11 = .ok (.putfield 13, 3) := by decide +kernel
theorem dW_init_14 : decode xW_init.2.1 14 = .ok (.aload_n 0, 1) := by decide +kernel
theorem dW_init_15 : decode xW_init.2.1 15 = .ok (.iload_n 3, 1) := by decide +kernel
theorem dW_init_16 : decode xW_init.2.1 16 = .ok (.putfield 16, 3) := by decide +kernel
theorem dW_init_19 : decode xW_init.2.1 19 = .ok (.return_, 1) := by decide +kernel
def xA_fill : mt_X := (⟨"java/util/Arrays", "fill", "([II)V"⟩, prog_16_method_103_code, 4, (Option.none : Option FieldType))
theorem dA_fill_0 : decode xA_fill.2.1 0 = .ok (.iconst 0, 1) := by decide +kernel
theorem dA_fill_1 : decode xA_fill.2.1 1 = .ok (.istore_n 2, 1) := by decide +kernel
theorem dA_fill_2 : decode xA_fill.2.1 2 = .ok (.aload_n 0, 1) := by decide +kernel
theorem dA_fill_3 : decode xA_fill.2.1 3 = .ok (.arraylength, 1) := by decide +kernel
theorem dA_fill_4 : decode xA_fill.2.1 4 = .ok (.istore_n 3, 1) := by decide +kernel
theorem dA_fill_5 : decode xA_fill.2.1 5 = .ok (.iload_n 2, 1) := by decide +kernel
theorem dA_fill_6 : decode xA_fill.2.1 6 = .ok (.iload_n 3, 1) := by decide +kernel
theorem dA_fill_7 : decode xA_fill.2.1 7 = .ok (.if_icmp .ge 13, 3) := by decide +kernel
theorem dA_fill_10 : decode xA_fill.2.1 10 = .ok (.aload_n 0, 1) := by decide +kernel
theorem dA_fill_11 : decode xA_fill.2.1 11 = .ok (.iload_n 2, 1) := by decide +kernel
theorem dA_fill_12 : decode xA_fill.2.1 12 = .ok (.iload_n 1, 1) := by decide +kernel
theorem dA_fill_13 : decode xA_fill.2.1 13 = .ok (.iastore, 1) := by decide +kernel
theorem dA_fill_14 : decode xA_fill.2.1 14 = .ok (.iinc 2 1, 3) := by decide +kernel
theorem dA_fill_17 : decode xA_fill.2.1 17 = .ok (.goto (-12), 3) := by decide +kernel
theorem dA_fill_20 : decode xA_fill.2.1 20 = .ok (.return_, 1) := by decide +kernel
end
section
/-! Method constants and decode rows, written by wip/whole/gen/code.py out of the listing. -/
def xC_init : mt_X := (⟨"LeasedPages$Client", "<init>", "(IILLeasedPages$Network;)V"⟩, prog_2_method_1_code, 5, (Option.none : Option FieldType))
theorem dC_init_0 : decode xC_init.2.1 0 = .ok (.aload_n 0, 1) := by decide +kernel
theorem dC_init_1 : decode xC_init.2.1 1 = .ok (.invokespecial 3, 3) := by decide +kernel
theorem dC_init_4 : decode xC_init.2.1 4 = .ok (.aload_n 0, 1) := by decide +kernel
theorem dC_init_5 : decode xC_init.2.1 5 = .ok (.iconst 4, 1) := by decide +kernel
theorem dC_init_6 : decode xC_init.2.1 6 = .ok (.anewarray 9, 3) := by decide +kernel
theorem dC_init_9 : decode xC_init.2.1 9 = .ok (.putfield 11, 3) := by decide +kernel
theorem dC_init_12 : decode xC_init.2.1 12 = .ok (.aload_n 0, 1) := by decide +kernel
theorem dC_init_13 : decode xC_init.2.1 13 = .ok (.bipush 6, 2) := by decide +kernel
theorem dC_init_15 : decode xC_init.2.1 15 = .ok (.anewarray 17, 3) := by decide +kernel
theorem dC_init_18 : decode xC_init.2.1 18 = .ok (.putfield 19, 3) := by decide +kernel
theorem dC_init_21 : decode xC_init.2.1 21 = .ok (.aload_n 0, 1) := by decide +kernel
theorem dC_init_22 : decode xC_init.2.1 22 = .ok (.iconst 0, 1) := by decide +kernel
theorem dC_init_23 : decode xC_init.2.1 23 = .ok (.putfield 23, 3) := by decide +kernel
theorem dC_init_26 : decode xC_init.2.1 26 = .ok (.aload_n 0, 1) := by decide +kernel
theorem dC_init_27 : decode xC_init.2.1 27 = .ok (.iconst 1, 1) := by decide +kernel
theorem dC_init_28 : decode xC_init.2.1 28 = .ok (.putfield 27, 3) := by decide +kernel
theorem dC_init_31 : decode xC_init.2.1 31 = .ok (.aload_n 0, 1) := by decide +kernel
theorem dC_init_32 : decode xC_init.2.1 32 = .ok (.iconst 0, 1) := by decide +kernel
theorem dC_init_33 : decode xC_init.2.1 33 = .ok (.putfield 31, 3) := by decide +kernel
theorem dC_init_36 : decode xC_init.2.1 36 = .ok (.aload_n 0, 1) := by decide +kernel
theorem dC_init_37 : decode xC_init.2.1 37 = .ok (.iconst 0, 1) := by decide +kernel
theorem dC_init_38 : decode xC_init.2.1 38 = .ok (.putfield 34, 3) := by decide +kernel
theorem dC_init_41 : decode xC_init.2.1 41 = .ok (.aload_n 0, 1) := by decide +kernel
theorem dC_init_42 : decode xC_init.2.1 42 = .ok (.aconst_null, 1) := by decide +kernel
theorem dC_init_43 : decode xC_init.2.1 43 = .ok (.putfield 37, 3) := by decide +kernel
theorem dC_init_46 : decode xC_init.2.1 46 = .ok (.aload_n 0, 1) := by decide +kernel
theorem dC_init_47 : decode xC_init.2.1 47 = .ok (.iconst 0, 1) := by decide +kernel
theorem dC_init_48 : decode xC_init.2.1 48 = .ok (.putfield 41, 3) := by decide +kernel
theorem dC_init_51 : decode xC_init.2.1 51 = .ok (.aload_n 0, 1) := by decide +kernel
theorem dC_init_52 : decode xC_init.2.1 52 = .ok (.iload_n 1, 1) := by decide +kernel
theorem dC_init_53 : decode xC_init.2.1 53 = .ok (.putfield 44, 3) := by decide +kernel
theorem dC_init_56 : decode xC_init.2.1 56 = .ok (.aload_n 0, 1) := by decide +kernel
theorem dC_init_57 : decode xC_init.2.1 57 = .ok (.iload_n 2, 1) := by decide +kernel
theorem dC_init_58 : decode xC_init.2.1 58 = .ok (.putfield 47, 3) := by decide +kernel
theorem dC_init_61 : decode xC_init.2.1 61 = .ok (.aload_n 0, 1) := by decide +kernel
theorem dC_init_62 : decode xC_init.2.1 62 = .ok (.aload_n 3, 1) := by decide +kernel
theorem dC_init_63 : decode xC_init.2.1 63 = .ok (.putfield 50, 3) := by decide +kernel
theorem dC_init_66 : decode xC_init.2.1 66 = .ok (.iconst 0, 1) := by decide +kernel
theorem dC_init_67 : decode xC_init.2.1 67 = .ok (.istore 4, 2) := by decide +kernel
theorem dC_init_69 : decode xC_init.2.1 69 = .ok (.iload 4, 2) := by decide +kernel
theorem dC_init_71 : decode xC_init.2.1 71 = .ok (.iconst 4, 1) := by decide +kernel
theorem dC_init_72 : decode xC_init.2.1 72 = .ok (.if_icmp .ge 23, 3) := by decide +kernel
theorem dC_init_75 : decode xC_init.2.1 75 = .ok (.aload_n 0, 1) := by decide +kernel
theorem dC_init_76 : decode xC_init.2.1 76 = .ok (.getfield 11, 3) := by decide +kernel
theorem dC_init_79 : decode xC_init.2.1 79 = .ok (.iload 4, 2) := by decide +kernel
theorem dC_init_81 : decode xC_init.2.1 81 = .ok (.new 9, 3) := by decide +kernel
theorem dC_init_84 : decode xC_init.2.1 84 = .ok (.dup, 1) := by decide +kernel
theorem dC_init_85 : decode xC_init.2.1 85 = .ok (.invokespecial 54, 3) := by decide +kernel
theorem dC_init_88 : decode xC_init.2.1 88 = .ok (.aastore, 1) := by decide +kernel
theorem dC_init_89 : decode xC_init.2.1 89 = .ok (.iinc 4 1, 3) := by decide +kernel
theorem dC_init_92 : decode xC_init.2.1 92 = .ok (.goto (-23), 3) := by decide +kernel
theorem dC_init_95 : decode xC_init.2.1 95 = .ok (.return_, 1) := by decide +kernel
def xC_goDown : mt_X := (⟨"LeasedPages$Client", "goDown", "()V"⟩, prog_2_method_2_code, 2, (Option.none : Option FieldType))
theorem dC_goDown_0 : decode xC_goDown.2.1 0 = .ok (.aload_n 0, 1) := by decide +kernel
theorem dC_goDown_1 : decode xC_goDown.2.1 1 = .ok (.iconst 0, 1) := by decide +kernel
theorem dC_goDown_2 : decode xC_goDown.2.1 2 = .ok (.putfield 27, 3) := by decide +kernel
theorem dC_goDown_5 : decode xC_goDown.2.1 5 = .ok (.aload_n 0, 1) := by decide +kernel
theorem dC_goDown_6 : decode xC_goDown.2.1 6 = .ok (.aconst_null, 1) := by decide +kernel
theorem dC_goDown_7 : decode xC_goDown.2.1 7 = .ok (.putfield 37, 3) := by decide +kernel
theorem dC_goDown_10 : decode xC_goDown.2.1 10 = .ok (.aload_n 0, 1) := by decide +kernel
theorem dC_goDown_11 : decode xC_goDown.2.1 11 = .ok (.iconst 0, 1) := by decide +kernel
theorem dC_goDown_12 : decode xC_goDown.2.1 12 = .ok (.invokevirtual 55, 3) := by decide +kernel
theorem dC_goDown_15 : decode xC_goDown.2.1 15 = .ok (.iconst 0, 1) := by decide +kernel
theorem dC_goDown_16 : decode xC_goDown.2.1 16 = .ok (.istore_n 1, 1) := by decide +kernel
theorem dC_goDown_17 : decode xC_goDown.2.1 17 = .ok (.iload_n 1, 1) := by decide +kernel
theorem dC_goDown_18 : decode xC_goDown.2.1 18 = .ok (.iconst 4, 1) := by decide +kernel
theorem dC_goDown_19 : decode xC_goDown.2.1 19 = .ok (.if_icmp .ge 18, 3) := by decide +kernel
theorem dC_goDown_22 : decode xC_goDown.2.1 22 = .ok (.aload_n 0, 1) := by decide +kernel
theorem dC_goDown_23 : decode xC_goDown.2.1 23 = .ok (.getfield 11, 3) := by decide +kernel
theorem dC_goDown_26 : decode xC_goDown.2.1 26 = .ok (.iload_n 1, 1) := by decide +kernel
theorem dC_goDown_27 : decode xC_goDown.2.1 27 = .ok (.aaload, 1) := by decide +kernel
theorem dC_goDown_28 : decode xC_goDown.2.1 28 = .ok (.invokevirtual 59, 3) := by decide +kernel
theorem dC_goDown_31 : decode xC_goDown.2.1 31 = .ok (.iinc 1 1, 3) := by decide +kernel
theorem dC_goDown_34 : decode xC_goDown.2.1 34 = .ok (.goto (-17), 3) := by decide +kernel
theorem dC_goDown_37 : decode xC_goDown.2.1 37 = .ok (.return_, 1) := by decide +kernel
def xC_askForLease : mt_X := (⟨"LeasedPages$Client", "askForLease", "(II)I"⟩, prog_2_method_3_code, 5, (Option.some FieldType.int))
theorem dC_askForLease_0 : decode xC_askForLease.2.1 0 = .ok (.aload_n 0, 1) := by decide +kernel
theorem dC_askForLease_1 : decode xC_askForLease.2.1 1 = .ok (.getfield 11, 3) := by decide +kernel
theorem dC_askForLease_4 : decode xC_askForLease.2.1 4 = .ok (.iload_n 1, 1) := by decide +kernel
theorem dC_askForLease_5 : decode xC_askForLease.2.1 5 = .ok (.aaload, 1) := by decide +kernel
theorem dC_askForLease_6 : decode xC_askForLease.2.1 6 = .ok (.astore_n 3, 1) := by decide +kernel
theorem dC_askForLease_7 : decode xC_askForLease.2.1 7 = .ok (.aload_n 3, 1) := by decide +kernel
theorem dC_askForLease_8 : decode xC_askForLease.2.1 8 = .ok (.invokevirtual 62, 3) := by decide +kernel
theorem dC_askForLease_11 : decode xC_askForLease.2.1 11 = .ok (.ifCond .eq 6, 3) := by decide +kernel
theorem dC_askForLease_14 : decode xC_askForLease.2.1 14 = .ok (.bipush (-3), 2) := by decide +kernel
theorem dC_askForLease_16 : decode xC_askForLease.2.1 16 = .ok (.ireturn, 1) := by decide +kernel
theorem dC_askForLease_17 : decode xC_askForLease.2.1 17 = .ok (.aload_n 3, 1) := by decide +kernel
theorem dC_askForLease_18 : decode xC_askForLease.2.1 18 = .ok (.iconst 2, 1) := by decide +kernel
theorem dC_askForLease_19 : decode xC_askForLease.2.1 19 = .ok (.aload_n 0, 1) := by decide +kernel
theorem dC_askForLease_20 : decode xC_askForLease.2.1 20 = .ok (.getfield 31, 3) := by decide +kernel
theorem dC_askForLease_23 : decode xC_askForLease.2.1 23 = .ok (.invokevirtual 66, 3) := by decide +kernel
theorem dC_askForLease_26 : decode xC_askForLease.2.1 26 = .ok (.ifCond .ne 11, 3) := by decide +kernel
theorem dC_askForLease_29 : decode xC_askForLease.2.1 29 = .ok (.aload_n 0, 1) := by decide +kernel
theorem dC_askForLease_30 : decode xC_askForLease.2.1 30 = .ok (.iload_n 1, 1) := by decide +kernel
theorem dC_askForLease_31 : decode xC_askForLease.2.1 31 = .ok (.invokevirtual 70, 3) := by decide +kernel
theorem dC_askForLease_34 : decode xC_askForLease.2.1 34 = .ok (.ifCond .eq 7, 3) := by decide +kernel
theorem dC_askForLease_37 : decode xC_askForLease.2.1 37 = .ok (.iconst 2, 1) := by decide +kernel
theorem dC_askForLease_38 : decode xC_askForLease.2.1 38 = .ok (.goto 4, 3) := by decide +kernel
theorem dC_askForLease_41 : decode xC_askForLease.2.1 41 = .ok (.iload_n 2, 1) := by decide +kernel
theorem dC_askForLease_42 : decode xC_askForLease.2.1 42 = .ok (.istore 4, 2) := by decide +kernel
theorem dC_askForLease_44 : decode xC_askForLease.2.1 44 = .ok (.aload_n 0, 1) := by decide +kernel
theorem dC_askForLease_45 : decode xC_askForLease.2.1 45 = .ok (.aload_n 0, 1) := by decide +kernel
theorem dC_askForLease_46 : decode xC_askForLease.2.1 46 = .ok (.getfield 44, 3) := by decide +kernel
theorem dC_askForLease_49 : decode xC_askForLease.2.1 49 = .ok (.iload_n 1, 1) := by decide +kernel
theorem dC_askForLease_50 : decode xC_askForLease.2.1 50 = .ok (.aload_n 0, 1) := by decide +kernel
theorem dC_askForLease_51 : decode xC_askForLease.2.1 51 = .ok (.getfield 34, 3) := by decide +kernel
theorem dC_askForLease_54 : decode xC_askForLease.2.1 54 = .ok (.iconst 1, 1) := by decide +kernel
theorem dC_askForLease_55 : decode xC_askForLease.2.1 55 = .ok (.iadd, 1) := by decide +kernel
theorem dC_askForLease_56 : decode xC_askForLease.2.1 56 = .ok (.iload 4, 2) := by decide +kernel
theorem dC_askForLease_58 : decode xC_askForLease.2.1 58 = .ok (.aload_n 3, 1) := by decide +kernel
theorem dC_askForLease_59 : decode xC_askForLease.2.1 59 = .ok (.iload 4, 2) := by decide +kernel
theorem dC_askForLease_61 : decode xC_askForLease.2.1 61 = .ok (.aload_n 0, 1) := by decide +kernel
theorem dC_askForLease_62 : decode xC_askForLease.2.1 62 = .ok (.getfield 31, 3) := by decide +kernel
theorem dC_askForLease_65 : decode xC_askForLease.2.1 65 = .ok (.invokevirtual 66, 3) := by decide +kernel
theorem dC_askForLease_68 : decode xC_askForLease.2.1 68 = .ok (.invokestatic 74, 3) := by decide +kernel
theorem dC_askForLease_71 : decode xC_askForLease.2.1 71 = .ok (.invokevirtual 80, 3) := by decide +kernel
theorem dC_askForLease_74 : decode xC_askForLease.2.1 74 = .ok (.ireturn, 1) := by decide +kernel
def xC_readPage : mt_X := (⟨"LeasedPages$Client", "readPage", "(II)I"⟩, prog_2_method_4_code, 4, (Option.some FieldType.int))
theorem dC_readPage_0 : decode xC_readPage.2.1 0 = .ok (.aload_n 0, 1) := by decide +kernel
theorem dC_readPage_1 : decode xC_readPage.2.1 1 = .ok (.getfield 11, 3) := by decide +kernel
theorem dC_readPage_4 : decode xC_readPage.2.1 4 = .ok (.iload_n 1, 1) := by decide +kernel
theorem dC_readPage_5 : decode xC_readPage.2.1 5 = .ok (.aaload, 1) := by decide +kernel
theorem dC_readPage_6 : decode xC_readPage.2.1 6 = .ok (.astore_n 3, 1) := by decide +kernel
theorem dC_readPage_7 : decode xC_readPage.2.1 7 = .ok (.aload_n 3, 1) := by decide +kernel
theorem dC_readPage_8 : decode xC_readPage.2.1 8 = .ok (.invokevirtual 62, 3) := by decide +kernel
theorem dC_readPage_11 : decode xC_readPage.2.1 11 = .ok (.ifCond .eq 6, 3) := by decide +kernel
theorem dC_readPage_14 : decode xC_readPage.2.1 14 = .ok (.bipush (-3), 2) := by decide +kernel
theorem dC_readPage_16 : decode xC_readPage.2.1 16 = .ok (.ireturn, 1) := by decide +kernel
theorem dC_readPage_17 : decode xC_readPage.2.1 17 = .ok (.aload_n 3, 1) := by decide +kernel
theorem dC_readPage_18 : decode xC_readPage.2.1 18 = .ok (.iconst 1, 1) := by decide +kernel
theorem dC_readPage_19 : decode xC_readPage.2.1 19 = .ok (.aload_n 0, 1) := by decide +kernel
theorem dC_readPage_20 : decode xC_readPage.2.1 20 = .ok (.getfield 31, 3) := by decide +kernel
theorem dC_readPage_23 : decode xC_readPage.2.1 23 = .ok (.invokevirtual 66, 3) := by decide +kernel
theorem dC_readPage_26 : decode xC_readPage.2.1 26 = .ok (.ifCond .eq 12, 3) := by decide +kernel
theorem dC_readPage_29 : decode xC_readPage.2.1 29 = .ok (.aload_n 3, 1) := by decide +kernel
theorem dC_readPage_30 : decode xC_readPage.2.1 30 = .ok (.getfield 84, 3) := by decide +kernel
theorem dC_readPage_33 : decode xC_readPage.2.1 33 = .ok (.iload_n 2, 1) := by decide +kernel
theorem dC_readPage_34 : decode xC_readPage.2.1 34 = .ok (.iaload, 1) := by decide +kernel
theorem dC_readPage_35 : decode xC_readPage.2.1 35 = .ok (.goto 5, 3) := by decide +kernel
theorem dC_readPage_38 : decode xC_readPage.2.1 38 = .ok (.bipush (-2), 2) := by decide +kernel
theorem dC_readPage_40 : decode xC_readPage.2.1 40 = .ok (.ireturn, 1) := by decide +kernel
def xC_canRead : mt_X := (⟨"LeasedPages$Client", "canRead", "(I)I"⟩, prog_2_method_5_code, 2, (Option.some FieldType.int))
theorem dC_canRead_0 : decode xC_canRead.2.1 0 = .ok (.aload_n 0, 1) := by decide +kernel
theorem dC_canRead_1 : decode xC_canRead.2.1 1 = .ok (.getfield 11, 3) := by decide +kernel
theorem dC_canRead_4 : decode xC_canRead.2.1 4 = .ok (.iload_n 1, 1) := by decide +kernel
theorem dC_canRead_5 : decode xC_canRead.2.1 5 = .ok (.aaload, 1) := by decide +kernel
theorem dC_canRead_6 : decode xC_canRead.2.1 6 = .ok (.getfield 88, 3) := by decide +kernel
theorem dC_canRead_9 : decode xC_canRead.2.1 9 = .ok (.ifCond .eq 6, 3) := by decide +kernel
theorem dC_canRead_12 : decode xC_canRead.2.1 12 = .ok (.bipush (-3), 2) := by decide +kernel
theorem dC_canRead_14 : decode xC_canRead.2.1 14 = .ok (.ireturn, 1) := by decide +kernel
theorem dC_canRead_15 : decode xC_canRead.2.1 15 = .ok (.aload_n 0, 1) := by decide +kernel
theorem dC_canRead_16 : decode xC_canRead.2.1 16 = .ok (.getfield 11, 3) := by decide +kernel
theorem dC_canRead_19 : decode xC_canRead.2.1 19 = .ok (.iload_n 1, 1) := by decide +kernel
theorem dC_canRead_20 : decode xC_canRead.2.1 20 = .ok (.aaload, 1) := by decide +kernel
theorem dC_canRead_21 : decode xC_canRead.2.1 21 = .ok (.iconst 1, 1) := by decide +kernel
theorem dC_canRead_22 : decode xC_canRead.2.1 22 = .ok (.aload_n 0, 1) := by decide +kernel
theorem dC_canRead_23 : decode xC_canRead.2.1 23 = .ok (.getfield 31, 3) := by decide +kernel
theorem dC_canRead_26 : decode xC_canRead.2.1 26 = .ok (.invokevirtual 66, 3) := by decide +kernel
theorem dC_canRead_29 : decode xC_canRead.2.1 29 = .ok (.ifCond .eq 7, 3) := by decide +kernel
theorem dC_canRead_32 : decode xC_canRead.2.1 32 = .ok (.iconst 1, 1) := by decide +kernel
theorem dC_canRead_33 : decode xC_canRead.2.1 33 = .ok (.goto 5, 3) := by decide +kernel
theorem dC_canRead_36 : decode xC_canRead.2.1 36 = .ok (.bipush (-2), 2) := by decide +kernel
theorem dC_canRead_38 : decode xC_canRead.2.1 38 = .ok (.ireturn, 1) := by decide +kernel
def xC_writePage : mt_X := (⟨"LeasedPages$Client", "writePage", "(III)I"⟩, prog_2_method_6_code, 5, (Option.some FieldType.int))
theorem dC_writePage_0 : decode xC_writePage.2.1 0 = .ok (.aload_n 0, 1) := by decide +kernel
theorem dC_writePage_1 : decode xC_writePage.2.1 1 = .ok (.getfield 11, 3) := by decide +kernel
theorem dC_writePage_4 : decode xC_writePage.2.1 4 = .ok (.iload_n 1, 1) := by decide +kernel
theorem dC_writePage_5 : decode xC_writePage.2.1 5 = .ok (.aaload, 1) := by decide +kernel
theorem dC_writePage_6 : decode xC_writePage.2.1 6 = .ok (.astore 4, 2) := by decide +kernel
theorem dC_writePage_8 : decode xC_writePage.2.1 8 = .ok (.aload 4, 2) := by decide +kernel
theorem dC_writePage_10 : decode xC_writePage.2.1 10 = .ok (.invokevirtual 62, 3) := by decide +kernel
theorem dC_writePage_13 : decode xC_writePage.2.1 13 = .ok (.ifCond .eq 6, 3) := by decide +kernel
theorem dC_writePage_16 : decode xC_writePage.2.1 16 = .ok (.bipush (-3), 2) := by decide +kernel
theorem dC_writePage_18 : decode xC_writePage.2.1 18 = .ok (.ireturn, 1) := by decide +kernel
theorem dC_writePage_19 : decode xC_writePage.2.1 19 = .ok (.aload 4, 2) := by decide +kernel
theorem dC_writePage_21 : decode xC_writePage.2.1 21 = .ok (.iconst 2, 1) := by decide +kernel
theorem dC_writePage_22 : decode xC_writePage.2.1 22 = .ok (.aload_n 0, 1) := by decide +kernel
theorem dC_writePage_23 : decode xC_writePage.2.1 23 = .ok (.getfield 31, 3) := by decide +kernel
theorem dC_writePage_26 : decode xC_writePage.2.1 26 = .ok (.invokevirtual 66, 3) := by decide +kernel
theorem dC_writePage_29 : decode xC_writePage.2.1 29 = .ok (.ifCond .ne 6, 3) := by decide +kernel
theorem dC_writePage_32 : decode xC_writePage.2.1 32 = .ok (.bipush (-2), 2) := by decide +kernel
theorem dC_writePage_34 : decode xC_writePage.2.1 34 = .ok (.ireturn, 1) := by decide +kernel
theorem dC_writePage_35 : decode xC_writePage.2.1 35 = .ok (.aload_n 0, 1) := by decide +kernel
theorem dC_writePage_36 : decode xC_writePage.2.1 36 = .ok (.getfield 23, 3) := by decide +kernel
theorem dC_writePage_39 : decode xC_writePage.2.1 39 = .ok (.bipush 6, 2) := by decide +kernel
theorem dC_writePage_41 : decode xC_writePage.2.1 41 = .ok (.if_icmp .lt 6, 3) := by decide +kernel
theorem dC_writePage_44 : decode xC_writePage.2.1 44 = .ok (.bipush (-4), 2) := by decide +kernel
theorem dC_writePage_46 : decode xC_writePage.2.1 46 = .ok (.ireturn, 1) := by decide +kernel
theorem dC_writePage_47 : decode xC_writePage.2.1 47 = .ok (.aload 4, 2) := by decide +kernel
theorem dC_writePage_49 : decode xC_writePage.2.1 49 = .ok (.getfield 84, 3) := by decide +kernel
theorem dC_writePage_52 : decode xC_writePage.2.1 52 = .ok (.iload_n 2, 1) := by decide +kernel
theorem dC_writePage_53 : decode xC_writePage.2.1 53 = .ok (.iload_n 3, 1) := by decide +kernel
theorem dC_writePage_54 : decode xC_writePage.2.1 54 = .ok (.iastore, 1) := by decide +kernel
theorem dC_writePage_55 : decode xC_writePage.2.1 55 = .ok (.aload_n 0, 1) := by decide +kernel
theorem dC_writePage_56 : decode xC_writePage.2.1 56 = .ok (.getfield 19, 3) := by decide +kernel
theorem dC_writePage_59 : decode xC_writePage.2.1 59 = .ok (.aload_n 0, 1) := by decide +kernel
theorem dC_writePage_60 : decode xC_writePage.2.1 60 = .ok (.getfield 23, 3) := by decide +kernel
theorem dC_writePage_63 : decode xC_writePage.2.1 63 = .ok (.new 17, 3) := by decide +kernel
theorem dC_writePage_66 : decode xC_writePage.2.1 66 = .ok (.dup, 1) := by decide +kernel
theorem dC_writePage_67 : decode xC_writePage.2.1 67 = .ok (.iload_n 1, 1) := by decide +kernel
theorem dC_writePage_68 : decode xC_writePage.2.1 68 = .ok (.iload_n 2, 1) := by decide +kernel
theorem dC_writePage_69 : decode xC_writePage.2.1 69 = .ok (.iload_n 3, 1) := by decide +kernel
theorem dC_writePage_70 : decode xC_writePage.2.1 70 = .ok (.invokespecial 91, 3) := by decide +kernel
theorem dC_writePage_73 : decode xC_writePage.2.1 73 = .ok (.aastore, 1) := by decide +kernel
theorem dC_writePage_74 : decode xC_writePage.2.1 74 = .ok (.aload_n 0, 1) := by decide +kernel
theorem dC_writePage_75 : decode xC_writePage.2.1 75 = .ok (.dup, 1) := by decide +kernel
theorem dC_writePage_76 : decode xC_writePage.2.1 76 = .ok (.getfield 23, 3) := by decide +kernel
theorem dC_writePage_79 : decode xC_writePage.2.1 79 = .ok (.iconst 1, 1) := by decide +kernel
theorem dC_writePage_80 : decode xC_writePage.2.1 80 = .ok (.iadd, 1) := by decide +kernel
theorem dC_writePage_81 : decode xC_writePage.2.1 81 = .ok (.putfield 23, 3) := by decide +kernel
theorem dC_writePage_84 : decode xC_writePage.2.1 84 = .ok (.aload_n 0, 1) := by decide +kernel
theorem dC_writePage_85 : decode xC_writePage.2.1 85 = .ok (.getfield 23, 3) := by decide +kernel
theorem dC_writePage_88 : decode xC_writePage.2.1 88 = .ok (.ireturn, 1) := by decide +kernel
def xC_storeFirstWrite : mt_X := (⟨"LeasedPages$Client", "storeFirstWrite", "()I"⟩, prog_2_method_7_code, 2, (Option.some FieldType.int))
theorem dC_storeFirstWrite_0 : decode xC_storeFirstWrite.2.1 0 = .ok (.aload_n 0, 1) := by decide +kernel
theorem dC_storeFirstWrite_1 : decode xC_storeFirstWrite.2.1 1 = .ok (.getfield 23, 3) := by decide +kernel
theorem dC_storeFirstWrite_4 : decode xC_storeFirstWrite.2.1 4 = .ok (.ifCond .ne 5, 3) := by decide +kernel
theorem dC_storeFirstWrite_7 : decode xC_storeFirstWrite.2.1 7 = .ok (.iconst (-1), 1) := by decide +kernel
theorem dC_storeFirstWrite_8 : decode xC_storeFirstWrite.2.1 8 = .ok (.ireturn, 1) := by decide +kernel
theorem dC_storeFirstWrite_9 : decode xC_storeFirstWrite.2.1 9 = .ok (.aload_n 0, 1) := by decide +kernel
theorem dC_storeFirstWrite_10 : decode xC_storeFirstWrite.2.1 10 = .ok (.getfield 19, 3) := by decide +kernel
theorem dC_storeFirstWrite_13 : decode xC_storeFirstWrite.2.1 13 = .ok (.iconst 0, 1) := by decide +kernel
theorem dC_storeFirstWrite_14 : decode xC_storeFirstWrite.2.1 14 = .ok (.aaload, 1) := by decide +kernel
theorem dC_storeFirstWrite_15 : decode xC_storeFirstWrite.2.1 15 = .ok (.astore_n 1, 1) := by decide +kernel
theorem dC_storeFirstWrite_16 : decode xC_storeFirstWrite.2.1 16 = .ok (.aload_n 0, 1) := by decide +kernel
theorem dC_storeFirstWrite_17 : decode xC_storeFirstWrite.2.1 17 = .ok (.getfield 11, 3) := by decide +kernel
theorem dC_storeFirstWrite_20 : decode xC_storeFirstWrite.2.1 20 = .ok (.aload_n 1, 1) := by decide +kernel
theorem dC_storeFirstWrite_21 : decode xC_storeFirstWrite.2.1 21 = .ok (.getfield 94, 3) := by decide +kernel
theorem dC_storeFirstWrite_24 : decode xC_storeFirstWrite.2.1 24 = .ok (.aaload, 1) := by decide +kernel
theorem dC_storeFirstWrite_25 : decode xC_storeFirstWrite.2.1 25 = .ok (.iconst 2, 1) := by decide +kernel
theorem dC_storeFirstWrite_26 : decode xC_storeFirstWrite.2.1 26 = .ok (.aload_n 0, 1) := by decide +kernel
theorem dC_storeFirstWrite_27 : decode xC_storeFirstWrite.2.1 27 = .ok (.getfield 31, 3) := by decide +kernel
theorem dC_storeFirstWrite_30 : decode xC_storeFirstWrite.2.1 30 = .ok (.invokevirtual 66, 3) := by decide +kernel
theorem dC_storeFirstWrite_33 : decode xC_storeFirstWrite.2.1 33 = .ok (.ifCond .ne 6, 3) := by decide +kernel
theorem dC_storeFirstWrite_36 : decode xC_storeFirstWrite.2.1 36 = .ok (.bipush (-2), 2) := by decide +kernel
theorem dC_storeFirstWrite_38 : decode xC_storeFirstWrite.2.1 38 = .ok (.ireturn, 1) := by decide +kernel
theorem dC_storeFirstWrite_39 : decode xC_storeFirstWrite.2.1 39 = .ok (.aload_n 0, 1) := by decide +kernel
theorem dC_storeFirstWrite_40 : decode xC_storeFirstWrite.2.1 40 = .ok (.aload_n 0, 1) := by decide +kernel
theorem dC_storeFirstWrite_41 : decode xC_storeFirstWrite.2.1 41 = .ok (.getfield 44, 3) := by decide +kernel
theorem dC_storeFirstWrite_44 : decode xC_storeFirstWrite.2.1 44 = .ok (.aload_n 0, 1) := by decide +kernel
theorem dC_storeFirstWrite_45 : decode xC_storeFirstWrite.2.1 45 = .ok (.getfield 34, 3) := by decide +kernel
theorem dC_storeFirstWrite_48 : decode xC_storeFirstWrite.2.1 48 = .ok (.iconst 1, 1) := by decide +kernel
theorem dC_storeFirstWrite_49 : decode xC_storeFirstWrite.2.1 49 = .ok (.iadd, 1) := by decide +kernel
theorem dC_storeFirstWrite_50 : decode xC_storeFirstWrite.2.1 50 = .ok (.aload_n 1, 1) := by decide +kernel
theorem dC_storeFirstWrite_51 : decode xC_storeFirstWrite.2.1 51 = .ok (.invokestatic 97, 3) := by decide +kernel
theorem dC_storeFirstWrite_54 : decode xC_storeFirstWrite.2.1 54 = .ok (.invokevirtual 80, 3) := by decide +kernel
theorem dC_storeFirstWrite_57 : decode xC_storeFirstWrite.2.1 57 = .ok (.ireturn, 1) := by decide +kernel
def xC_giveBack : mt_X := (⟨"LeasedPages$Client", "giveBack", "(I)I"⟩, prog_2_method_8_code, 3, (Option.some FieldType.int))
theorem dC_giveBack_0 : decode xC_giveBack.2.1 0 = .ok (.aload_n 0, 1) := by decide +kernel
theorem dC_giveBack_1 : decode xC_giveBack.2.1 1 = .ok (.getfield 11, 3) := by decide +kernel
theorem dC_giveBack_4 : decode xC_giveBack.2.1 4 = .ok (.iload_n 1, 1) := by decide +kernel
theorem dC_giveBack_5 : decode xC_giveBack.2.1 5 = .ok (.aaload, 1) := by decide +kernel
theorem dC_giveBack_6 : decode xC_giveBack.2.1 6 = .ok (.astore_n 2, 1) := by decide +kernel
theorem dC_giveBack_7 : decode xC_giveBack.2.1 7 = .ok (.aload_n 2, 1) := by decide +kernel
theorem dC_giveBack_8 : decode xC_giveBack.2.1 8 = .ok (.invokevirtual 62, 3) := by decide +kernel
theorem dC_giveBack_11 : decode xC_giveBack.2.1 11 = .ok (.ifCond .eq 6, 3) := by decide +kernel
theorem dC_giveBack_14 : decode xC_giveBack.2.1 14 = .ok (.bipush (-3), 2) := by decide +kernel
theorem dC_giveBack_16 : decode xC_giveBack.2.1 16 = .ok (.ireturn, 1) := by decide +kernel
theorem dC_giveBack_17 : decode xC_giveBack.2.1 17 = .ok (.aload_n 2, 1) := by decide +kernel
theorem dC_giveBack_18 : decode xC_giveBack.2.1 18 = .ok (.getfield 101, 3) := by decide +kernel
theorem dC_giveBack_21 : decode xC_giveBack.2.1 21 = .ok (.ifCond .ne 6, 3) := by decide +kernel
theorem dC_giveBack_24 : decode xC_giveBack.2.1 24 = .ok (.bipush (-2), 2) := by decide +kernel
theorem dC_giveBack_26 : decode xC_giveBack.2.1 26 = .ok (.ireturn, 1) := by decide +kernel
theorem dC_giveBack_27 : decode xC_giveBack.2.1 27 = .ok (.aload_n 2, 1) := by decide +kernel
theorem dC_giveBack_28 : decode xC_giveBack.2.1 28 = .ok (.iconst 0, 1) := by decide +kernel
theorem dC_giveBack_29 : decode xC_giveBack.2.1 29 = .ok (.putfield 101, 3) := by decide +kernel
theorem dC_giveBack_32 : decode xC_giveBack.2.1 32 = .ok (.aload_n 2, 1) := by decide +kernel
theorem dC_giveBack_33 : decode xC_giveBack.2.1 33 = .ok (.iconst 0, 1) := by decide +kernel
theorem dC_giveBack_34 : decode xC_giveBack.2.1 34 = .ok (.putfield 104, 3) := by decide +kernel
theorem dC_giveBack_37 : decode xC_giveBack.2.1 37 = .ok (.aload_n 0, 1) := by decide +kernel
theorem dC_giveBack_38 : decode xC_giveBack.2.1 38 = .ok (.aload_n 0, 1) := by decide +kernel
theorem dC_giveBack_39 : decode xC_giveBack.2.1 39 = .ok (.getfield 44, 3) := by decide +kernel
theorem dC_giveBack_42 : decode xC_giveBack.2.1 42 = .ok (.iload_n 1, 1) := by decide +kernel
theorem dC_giveBack_43 : decode xC_giveBack.2.1 43 = .ok (.aload_n 0, 1) := by decide +kernel
theorem dC_giveBack_44 : decode xC_giveBack.2.1 44 = .ok (.getfield 34, 3) := by decide +kernel
theorem dC_giveBack_47 : decode xC_giveBack.2.1 47 = .ok (.iconst 1, 1) := by decide +kernel
theorem dC_giveBack_48 : decode xC_giveBack.2.1 48 = .ok (.iadd, 1) := by decide +kernel
theorem dC_giveBack_49 : decode xC_giveBack.2.1 49 = .ok (.invokestatic 107, 3) := by decide +kernel
theorem dC_giveBack_52 : decode xC_giveBack.2.1 52 = .ok (.invokevirtual 80, 3) := by decide +kernel
theorem dC_giveBack_55 : decode xC_giveBack.2.1 55 = .ok (.ireturn, 1) := by decide +kernel
def xC_sendAgain : mt_X := (⟨"LeasedPages$Client", "sendAgain", "()I"⟩, prog_2_method_9_code, 1, (Option.some FieldType.int))
theorem dC_sendAgain_0 : decode xC_sendAgain.2.1 0 = .ok (.aload_n 0, 1) := by decide +kernel
theorem dC_sendAgain_1 : decode xC_sendAgain.2.1 1 = .ok (.getfield 37, 3) := by decide +kernel
theorem dC_sendAgain_4 : decode xC_sendAgain.2.1 4 = .ok (.ifnonnull 5, 3) := by decide +kernel
theorem dC_sendAgain_7 : decode xC_sendAgain.2.1 7 = .ok (.iconst (-1), 1) := by decide +kernel
theorem dC_sendAgain_8 : decode xC_sendAgain.2.1 8 = .ok (.ireturn, 1) := by decide +kernel
theorem dC_sendAgain_9 : decode xC_sendAgain.2.1 9 = .ok (.aload_n 0, 1) := by decide +kernel
theorem dC_sendAgain_10 : decode xC_sendAgain.2.1 10 = .ok (.getfield 50, 3) := by decide +kernel
theorem dC_sendAgain_13 : decode xC_sendAgain.2.1 13 = .ok (.aload_n 0, 1) := by decide +kernel
theorem dC_sendAgain_14 : decode xC_sendAgain.2.1 14 = .ok (.getfield 37, 3) := by decide +kernel
theorem dC_sendAgain_17 : decode xC_sendAgain.2.1 17 = .ok (.invokevirtual 111, 3) := by decide +kernel
theorem dC_sendAgain_20 : decode xC_sendAgain.2.1 20 = .ok (.pop, 1) := by decide +kernel
theorem dC_sendAgain_21 : decode xC_sendAgain.2.1 21 = .ok (.aload_n 0, 1) := by decide +kernel
theorem dC_sendAgain_22 : decode xC_sendAgain.2.1 22 = .ok (.getfield 37, 3) := by decide +kernel
theorem dC_sendAgain_25 : decode xC_sendAgain.2.1 25 = .ok (.getfield 117, 3) := by decide +kernel
theorem dC_sendAgain_28 : decode xC_sendAgain.2.1 28 = .ok (.ireturn, 1) := by decide +kernel
def xC_leaseAndMarks : mt_X := (⟨"LeasedPages$Client", "leaseAndMarks", "(I)I"⟩, prog_2_method_10_code, 4, (Option.some FieldType.int))
theorem dC_leaseAndMarks_0 : decode xC_leaseAndMarks.2.1 0 = .ok (.aload_n 0, 1) := by decide +kernel
theorem dC_leaseAndMarks_1 : decode xC_leaseAndMarks.2.1 1 = .ok (.getfield 11, 3) := by decide +kernel
theorem dC_leaseAndMarks_4 : decode xC_leaseAndMarks.2.1 4 = .ok (.iload_n 1, 1) := by decide +kernel
theorem dC_leaseAndMarks_5 : decode xC_leaseAndMarks.2.1 5 = .ok (.aaload, 1) := by decide +kernel
theorem dC_leaseAndMarks_6 : decode xC_leaseAndMarks.2.1 6 = .ok (.astore_n 2, 1) := by decide +kernel
theorem dC_leaseAndMarks_7 : decode xC_leaseAndMarks.2.1 7 = .ok (.aload_n 2, 1) := by decide +kernel
theorem dC_leaseAndMarks_8 : decode xC_leaseAndMarks.2.1 8 = .ok (.iconst 1, 1) := by decide +kernel
theorem dC_leaseAndMarks_9 : decode xC_leaseAndMarks.2.1 9 = .ok (.aload_n 0, 1) := by decide +kernel
theorem dC_leaseAndMarks_10 : decode xC_leaseAndMarks.2.1 10 = .ok (.getfield 31, 3) := by decide +kernel
theorem dC_leaseAndMarks_13 : decode xC_leaseAndMarks.2.1 13 = .ok (.invokevirtual 66, 3) := by decide +kernel
theorem dC_leaseAndMarks_16 : decode xC_leaseAndMarks.2.1 16 = .ok (.ifCond .eq 10, 3) := by decide +kernel
theorem dC_leaseAndMarks_19 : decode xC_leaseAndMarks.2.1 19 = .ok (.aload_n 2, 1) := by decide +kernel
theorem dC_leaseAndMarks_20 : decode xC_leaseAndMarks.2.1 20 = .ok (.getfield 101, 3) := by decide +kernel
theorem dC_leaseAndMarks_23 : decode xC_leaseAndMarks.2.1 23 = .ok (.goto 4, 3) := by decide +kernel
theorem dC_leaseAndMarks_26 : decode xC_leaseAndMarks.2.1 26 = .ok (.iconst 0, 1) := by decide +kernel
theorem dC_leaseAndMarks_27 : decode xC_leaseAndMarks.2.1 27 = .ok (.istore_n 3, 1) := by decide +kernel
theorem dC_leaseAndMarks_28 : decode xC_leaseAndMarks.2.1 28 = .ok (.iload_n 3, 1) := by decide +kernel
theorem dC_leaseAndMarks_29 : decode xC_leaseAndMarks.2.1 29 = .ok (.aload_n 2, 1) := by decide +kernel
theorem dC_leaseAndMarks_30 : decode xC_leaseAndMarks.2.1 30 = .ok (.getfield 104, 3) := by decide +kernel
theorem dC_leaseAndMarks_33 : decode xC_leaseAndMarks.2.1 33 = .ok (.ifCond .eq 8, 3) := by decide +kernel
theorem dC_leaseAndMarks_36 : decode xC_leaseAndMarks.2.1 36 = .ok (.bipush 10, 2) := by decide +kernel
theorem dC_leaseAndMarks_38 : decode xC_leaseAndMarks.2.1 38 = .ok (.goto 4, 3) := by decide +kernel
theorem dC_leaseAndMarks_41 : decode xC_leaseAndMarks.2.1 41 = .ok (.iconst 0, 1) := by decide +kernel
theorem dC_leaseAndMarks_42 : decode xC_leaseAndMarks.2.1 42 = .ok (.iadd, 1) := by decide +kernel
theorem dC_leaseAndMarks_43 : decode xC_leaseAndMarks.2.1 43 = .ok (.aload_n 2, 1) := by decide +kernel
theorem dC_leaseAndMarks_44 : decode xC_leaseAndMarks.2.1 44 = .ok (.getfield 88, 3) := by decide +kernel
theorem dC_leaseAndMarks_47 : decode xC_leaseAndMarks.2.1 47 = .ok (.ifCond .eq 8, 3) := by decide +kernel
theorem dC_leaseAndMarks_50 : decode xC_leaseAndMarks.2.1 50 = .ok (.bipush 100, 2) := by decide +kernel
theorem dC_leaseAndMarks_52 : decode xC_leaseAndMarks.2.1 52 = .ok (.goto 4, 3) := by decide +kernel
theorem dC_leaseAndMarks_55 : decode xC_leaseAndMarks.2.1 55 = .ok (.iconst 0, 1) := by decide +kernel
theorem dC_leaseAndMarks_56 : decode xC_leaseAndMarks.2.1 56 = .ok (.iadd, 1) := by decide +kernel
theorem dC_leaseAndMarks_57 : decode xC_leaseAndMarks.2.1 57 = .ok (.ireturn, 1) := by decide +kernel
def xC_hasWritesTo : mt_X := (⟨"LeasedPages$Client", "hasWritesTo", "(I)Z"⟩, prog_2_method_11_code, 3, (Option.some FieldType.boolean))
theorem dC_hasWritesTo_0 : decode xC_hasWritesTo.2.1 0 = .ok (.iconst 0, 1) := by decide +kernel
theorem dC_hasWritesTo_1 : decode xC_hasWritesTo.2.1 1 = .ok (.istore_n 2, 1) := by decide +kernel
theorem dC_hasWritesTo_2 : decode xC_hasWritesTo.2.1 2 = .ok (.iload_n 2, 1) := by decide +kernel
theorem dC_hasWritesTo_3 : decode xC_hasWritesTo.2.1 3 = .ok (.aload_n 0, 1) := by decide +kernel
theorem dC_hasWritesTo_4 : decode xC_hasWritesTo.2.1 4 = .ok (.getfield 23, 3) := by decide +kernel
theorem dC_hasWritesTo_7 : decode xC_hasWritesTo.2.1 7 = .ok (.if_icmp .ge 24, 3) := by decide +kernel
theorem dC_hasWritesTo_10 : decode xC_hasWritesTo.2.1 10 = .ok (.aload_n 0, 1) := by decide +kernel
theorem dC_hasWritesTo_11 : decode xC_hasWritesTo.2.1 11 = .ok (.getfield 19, 3) := by decide +kernel
theorem dC_hasWritesTo_14 : decode xC_hasWritesTo.2.1 14 = .ok (.iload_n 2, 1) := by decide +kernel
theorem dC_hasWritesTo_15 : decode xC_hasWritesTo.2.1 15 = .ok (.aaload, 1) := by decide +kernel
theorem dC_hasWritesTo_16 : decode xC_hasWritesTo.2.1 16 = .ok (.getfield 94, 3) := by decide +kernel
theorem dC_hasWritesTo_19 : decode xC_hasWritesTo.2.1 19 = .ok (.iload_n 1, 1) := by decide +kernel
theorem dC_hasWritesTo_20 : decode xC_hasWritesTo.2.1 20 = .ok (.if_icmp .ne 5, 3) := by decide +kernel
theorem dC_hasWritesTo_23 : decode xC_hasWritesTo.2.1 23 = .ok (.iconst 1, 1) := by decide +kernel
theorem dC_hasWritesTo_24 : decode xC_hasWritesTo.2.1 24 = .ok (.ireturn, 1) := by decide +kernel
theorem dC_hasWritesTo_25 : decode xC_hasWritesTo.2.1 25 = .ok (.iinc 2 1, 3) := by decide +kernel
theorem dC_hasWritesTo_28 : decode xC_hasWritesTo.2.1 28 = .ok (.goto (-26), 3) := by decide +kernel
theorem dC_hasWritesTo_31 : decode xC_hasWritesTo.2.1 31 = .ok (.iconst 0, 1) := by decide +kernel
theorem dC_hasWritesTo_32 : decode xC_hasWritesTo.2.1 32 = .ok (.ireturn, 1) := by decide +kernel
def xC_recallArrives : mt_X := (⟨"LeasedPages$Client", "recallArrives", "(I)V"⟩, prog_2_method_12_code, 2, (Option.none : Option FieldType))
theorem dC_recallArrives_0 : decode xC_recallArrives.2.1 0 = .ok (.aload_n 0, 1) := by decide +kernel
theorem dC_recallArrives_1 : decode xC_recallArrives.2.1 1 = .ok (.getfield 27, 3) := by decide +kernel
theorem dC_recallArrives_4 : decode xC_recallArrives.2.1 4 = .ok (.ifCond .eq 13, 3) := by decide +kernel
theorem dC_recallArrives_7 : decode xC_recallArrives.2.1 7 = .ok (.aload_n 0, 1) := by decide +kernel
theorem dC_recallArrives_8 : decode xC_recallArrives.2.1 8 = .ok (.getfield 11, 3) := by decide +kernel
theorem dC_recallArrives_11 : decode xC_recallArrives.2.1 11 = .ok (.iload_n 1, 1) := by decide +kernel
theorem dC_recallArrives_12 : decode xC_recallArrives.2.1 12 = .ok (.aaload, 1) := by decide +kernel
theorem dC_recallArrives_13 : decode xC_recallArrives.2.1 13 = .ok (.iconst 1, 1) := by decide +kernel
theorem dC_recallArrives_14 : decode xC_recallArrives.2.1 14 = .ok (.putfield 104, 3) := by decide +kernel
theorem dC_recallArrives_17 : decode xC_recallArrives.2.1 17 = .ok (.return_, 1) := by decide +kernel
def xC_replyArrives : mt_X := (⟨"LeasedPages$Client", "replyArrives", "(LLeasedPages$Reply;)V"⟩, prog_2_method_13_code, 3, (Option.none : Option FieldType))
theorem dC_replyArrives_0 : decode xC_replyArrives.2.1 0 = .ok (.aload_n 0, 1) := by decide +kernel
theorem dC_replyArrives_1 : decode xC_replyArrives.2.1 1 = .ok (.getfield 27, 3) := by decide +kernel
theorem dC_replyArrives_4 : decode xC_replyArrives.2.1 4 = .ok (.ifCond .eq 24, 3) := by decide +kernel
theorem dC_replyArrives_7 : decode xC_replyArrives.2.1 7 = .ok (.aload_n 0, 1) := by decide +kernel
theorem dC_replyArrives_8 : decode xC_replyArrives.2.1 8 = .ok (.getfield 37, 3) := by decide +kernel
theorem dC_replyArrives_11 : decode xC_replyArrives.2.1 11 = .ok (.ifnull 17, 3) := by decide +kernel
theorem dC_replyArrives_14 : decode xC_replyArrives.2.1 14 = .ok (.aload_n 0, 1) := by decide +kernel
theorem dC_replyArrives_15 : decode xC_replyArrives.2.1 15 = .ok (.getfield 37, 3) := by decide +kernel
theorem dC_replyArrives_18 : decode xC_replyArrives.2.1 18 = .ok (.getfield 117, 3) := by decide +kernel
theorem dC_replyArrives_21 : decode xC_replyArrives.2.1 21 = .ok (.aload_n 1, 1) := by decide +kernel
theorem dC_replyArrives_22 : decode xC_replyArrives.2.1 22 = .ok (.getfield 120, 3) := by decide +kernel
theorem dC_replyArrives_25 : decode xC_replyArrives.2.1 25 = .ok (.if_icmp .eq 4, 3) := by decide +kernel
theorem dC_replyArrives_28 : decode xC_replyArrives.2.1 28 = .ok (.return_, 1) := by decide +kernel
theorem dC_replyArrives_29 : decode xC_replyArrives.2.1 29 = .ok (.aload_n 0, 1) := by decide +kernel
theorem dC_replyArrives_30 : decode xC_replyArrives.2.1 30 = .ok (.getfield 37, 3) := by decide +kernel
theorem dC_replyArrives_33 : decode xC_replyArrives.2.1 33 = .ok (.getfield 123, 3) := by decide +kernel
theorem dC_replyArrives_36 : decode xC_replyArrives.2.1 36 = .ok (.iconst 2, 1) := by decide +kernel
theorem dC_replyArrives_37 : decode xC_replyArrives.2.1 37 = .ok (.if_icmp .ne 7, 3) := by decide +kernel
theorem dC_replyArrives_40 : decode xC_replyArrives.2.1 40 = .ok (.iconst 1, 1) := by decide +kernel
theorem dC_replyArrives_41 : decode xC_replyArrives.2.1 41 = .ok (.goto 4, 3) := by decide +kernel
theorem dC_replyArrives_44 : decode xC_replyArrives.2.1 44 = .ok (.iconst 0, 1) := by decide +kernel
theorem dC_replyArrives_45 : decode xC_replyArrives.2.1 45 = .ok (.istore_n 2, 1) := by decide +kernel
theorem dC_replyArrives_46 : decode xC_replyArrives.2.1 46 = .ok (.aload_n 0, 1) := by decide +kernel
theorem dC_replyArrives_47 : decode xC_replyArrives.2.1 47 = .ok (.aconst_null, 1) := by decide +kernel
theorem dC_replyArrives_48 : decode xC_replyArrives.2.1 48 = .ok (.putfield 37, 3) := by decide +kernel
theorem dC_replyArrives_51 : decode xC_replyArrives.2.1 51 = .ok (.aload_n 1, 1) := by decide +kernel
theorem dC_replyArrives_52 : decode xC_replyArrives.2.1 52 = .ok (.getfield 126, 3) := by decide +kernel
theorem dC_replyArrives_55 : decode xC_replyArrives.2.1 55 = .ok (.iconst 4, 1) := by decide +kernel
theorem dC_replyArrives_56 : decode xC_replyArrives.2.1 56 = .ok (.if_icmp .ne 11, 3) := by decide +kernel
theorem dC_replyArrives_59 : decode xC_replyArrives.2.1 59 = .ok (.aload_n 0, 1) := by decide +kernel
theorem dC_replyArrives_60 : decode xC_replyArrives.2.1 60 = .ok (.aload_n 1, 1) := by decide +kernel
theorem dC_replyArrives_61 : decode xC_replyArrives.2.1 61 = .ok (.invokevirtual 127, 3) := by decide +kernel
theorem dC_replyArrives_64 : decode xC_replyArrives.2.1 64 = .ok (.goto 44, 3) := by decide +kernel
theorem dC_replyArrives_67 : decode xC_replyArrives.2.1 67 = .ok (.aload_n 1, 1) := by decide +kernel
theorem dC_replyArrives_68 : decode xC_replyArrives.2.1 68 = .ok (.getfield 126, 3) := by decide +kernel
theorem dC_replyArrives_71 : decode xC_replyArrives.2.1 71 = .ok (.bipush 7, 2) := by decide +kernel
theorem dC_replyArrives_73 : decode xC_replyArrives.2.1 73 = .ok (.if_icmp .ne 14, 3) := by decide +kernel
theorem dC_replyArrives_76 : decode xC_replyArrives.2.1 76 = .ok (.aload_n 0, 1) := by decide +kernel
theorem dC_replyArrives_77 : decode xC_replyArrives.2.1 77 = .ok (.aload_n 1, 1) := by decide +kernel
theorem dC_replyArrives_78 : decode xC_replyArrives.2.1 78 = .ok (.getfield 131, 3) := by decide +kernel
theorem dC_replyArrives_81 : decode xC_replyArrives.2.1 81 = .ok (.invokevirtual 132, 3) := by decide +kernel
theorem dC_replyArrives_84 : decode xC_replyArrives.2.1 84 = .ok (.goto 24, 3) := by decide +kernel
theorem dC_replyArrives_87 : decode xC_replyArrives.2.1 87 = .ok (.aload_n 1, 1) := by decide +kernel
theorem dC_replyArrives_88 : decode xC_replyArrives.2.1 88 = .ok (.getfield 126, 3) := by decide +kernel
theorem dC_replyArrives_91 : decode xC_replyArrives.2.1 91 = .ok (.bipush 6, 2) := by decide +kernel
theorem dC_replyArrives_93 : decode xC_replyArrives.2.1 93 = .ok (.if_icmp .ne 15, 3) := by decide +kernel
theorem dC_replyArrives_96 : decode xC_replyArrives.2.1 96 = .ok (.iload_n 2, 1) := by decide +kernel
theorem dC_replyArrives_97 : decode xC_replyArrives.2.1 97 = .ok (.ifCond .eq 11, 3) := by decide +kernel
theorem dC_replyArrives_100 : decode xC_replyArrives.2.1 100 = .ok (.aload_n 0, 1) := by decide +kernel
theorem dC_replyArrives_101 : decode xC_replyArrives.2.1 101 = .ok (.aload_n 1, 1) := by decide +kernel
theorem dC_replyArrives_102 : decode xC_replyArrives.2.1 102 = .ok (.getfield 131, 3) := by decide +kernel
theorem dC_replyArrives_105 : decode xC_replyArrives.2.1 105 = .ok (.invokevirtual 135, 3) := by decide +kernel
theorem dC_replyArrives_108 : decode xC_replyArrives.2.1 108 = .ok (.return_, 1) := by decide +kernel
def xC_sendNew : mt_X := (⟨"LeasedPages$Client", "sendNew", "(LLeasedPages$Request;)I"⟩, prog_2_method_14_code, 2, (Option.some FieldType.int))
theorem dC_sendNew_0 : decode xC_sendNew.2.1 0 = .ok (.aload_n 0, 1) := by decide +kernel
theorem dC_sendNew_1 : decode xC_sendNew.2.1 1 = .ok (.aload_n 1, 1) := by decide +kernel
theorem dC_sendNew_2 : decode xC_sendNew.2.1 2 = .ok (.getfield 117, 3) := by decide +kernel
theorem dC_sendNew_5 : decode xC_sendNew.2.1 5 = .ok (.putfield 34, 3) := by decide +kernel
theorem dC_sendNew_8 : decode xC_sendNew.2.1 8 = .ok (.aload_n 0, 1) := by decide +kernel
theorem dC_sendNew_9 : decode xC_sendNew.2.1 9 = .ok (.aload_n 1, 1) := by decide +kernel
theorem dC_sendNew_10 : decode xC_sendNew.2.1 10 = .ok (.putfield 37, 3) := by decide +kernel
theorem dC_sendNew_13 : decode xC_sendNew.2.1 13 = .ok (.aload_n 0, 1) := by decide +kernel
theorem dC_sendNew_14 : decode xC_sendNew.2.1 14 = .ok (.aload_n 0, 1) := by decide +kernel
theorem dC_sendNew_15 : decode xC_sendNew.2.1 15 = .ok (.getfield 31, 3) := by decide +kernel
theorem dC_sendNew_18 : decode xC_sendNew.2.1 18 = .ok (.putfield 41, 3) := by decide +kernel
theorem dC_sendNew_21 : decode xC_sendNew.2.1 21 = .ok (.aload_n 0, 1) := by decide +kernel
theorem dC_sendNew_22 : decode xC_sendNew.2.1 22 = .ok (.getfield 50, 3) := by decide +kernel
theorem dC_sendNew_25 : decode xC_sendNew.2.1 25 = .ok (.aload_n 1, 1) := by decide +kernel
theorem dC_sendNew_26 : decode xC_sendNew.2.1 26 = .ok (.invokevirtual 111, 3) := by decide +kernel
theorem dC_sendNew_29 : decode xC_sendNew.2.1 29 = .ok (.pop, 1) := by decide +kernel
theorem dC_sendNew_30 : decode xC_sendNew.2.1 30 = .ok (.aload_n 1, 1) := by decide +kernel
theorem dC_sendNew_31 : decode xC_sendNew.2.1 31 = .ok (.getfield 117, 3) := by decide +kernel
theorem dC_sendNew_34 : decode xC_sendNew.2.1 34 = .ok (.ireturn, 1) := by decide +kernel
def xC_takeLease : mt_X := (⟨"LeasedPages$Client", "takeLease", "(LLeasedPages$Reply;)V"⟩, prog_2_method_15_code, 3, (Option.none : Option FieldType))
theorem dC_takeLease_0 : decode xC_takeLease.2.1 0 = .ok (.aload_n 0, 1) := by decide +kernel
theorem dC_takeLease_1 : decode xC_takeLease.2.1 1 = .ok (.getfield 11, 3) := by decide +kernel
theorem dC_takeLease_4 : decode xC_takeLease.2.1 4 = .ok (.aload_n 1, 1) := by decide +kernel
theorem dC_takeLease_5 : decode xC_takeLease.2.1 5 = .ok (.getfield 131, 3) := by decide +kernel
theorem dC_takeLease_8 : decode xC_takeLease.2.1 8 = .ok (.aaload, 1) := by decide +kernel
theorem dC_takeLease_9 : decode xC_takeLease.2.1 9 = .ok (.astore_n 2, 1) := by decide +kernel
theorem dC_takeLease_10 : decode xC_takeLease.2.1 10 = .ok (.aload_n 2, 1) := by decide +kernel
theorem dC_takeLease_11 : decode xC_takeLease.2.1 11 = .ok (.aload_n 1, 1) := by decide +kernel
theorem dC_takeLease_12 : decode xC_takeLease.2.1 12 = .ok (.getfield 138, 3) := by decide +kernel
theorem dC_takeLease_15 : decode xC_takeLease.2.1 15 = .ok (.putfield 101, 3) := by decide +kernel
theorem dC_takeLease_18 : decode xC_takeLease.2.1 18 = .ok (.aload_n 2, 1) := by decide +kernel
theorem dC_takeLease_19 : decode xC_takeLease.2.1 19 = .ok (.aload_n 0, 1) := by decide +kernel
theorem dC_takeLease_20 : decode xC_takeLease.2.1 20 = .ok (.getfield 41, 3) := by decide +kernel
theorem dC_takeLease_23 : decode xC_takeLease.2.1 23 = .ok (.aload_n 0, 1) := by decide +kernel
theorem dC_takeLease_24 : decode xC_takeLease.2.1 24 = .ok (.getfield 47, 3) := by decide +kernel
theorem dC_takeLease_27 : decode xC_takeLease.2.1 27 = .ok (.iadd, 1) := by decide +kernel
theorem dC_takeLease_28 : decode xC_takeLease.2.1 28 = .ok (.putfield 139, 3) := by decide +kernel
theorem dC_takeLease_31 : decode xC_takeLease.2.1 31 = .ok (.aload_n 2, 1) := by decide +kernel
theorem dC_takeLease_32 : decode xC_takeLease.2.1 32 = .ok (.iconst 0, 1) := by decide +kernel
theorem dC_takeLease_33 : decode xC_takeLease.2.1 33 = .ok (.putfield 104, 3) := by decide +kernel
theorem dC_takeLease_36 : decode xC_takeLease.2.1 36 = .ok (.aload_n 1, 1) := by decide +kernel
theorem dC_takeLease_37 : decode xC_takeLease.2.1 37 = .ok (.getfield 142, 3) := by decide +kernel
theorem dC_takeLease_40 : decode xC_takeLease.2.1 40 = .ok (.ifCond .ne 27, 3) := by decide +kernel
theorem dC_takeLease_43 : decode xC_takeLease.2.1 43 = .ok (.aload_n 0, 1) := by decide +kernel
theorem dC_takeLease_44 : decode xC_takeLease.2.1 44 = .ok (.aload_n 1, 1) := by decide +kernel
theorem dC_takeLease_45 : decode xC_takeLease.2.1 45 = .ok (.getfield 131, 3) := by decide +kernel
theorem dC_takeLease_48 : decode xC_takeLease.2.1 48 = .ok (.invokevirtual 70, 3) := by decide +kernel
theorem dC_takeLease_51 : decode xC_takeLease.2.1 51 = .ok (.ifCond .eq 16, 3) := by decide +kernel
theorem dC_takeLease_54 : decode xC_takeLease.2.1 54 = .ok (.aload_n 0, 1) := by decide +kernel
theorem dC_takeLease_55 : decode xC_takeLease.2.1 55 = .ok (.aload_n 1, 1) := by decide +kernel
theorem dC_takeLease_56 : decode xC_takeLease.2.1 56 = .ok (.getfield 131, 3) := by decide +kernel
theorem dC_takeLease_59 : decode xC_takeLease.2.1 59 = .ok (.invokevirtual 145, 3) := by decide +kernel
theorem dC_takeLease_62 : decode xC_takeLease.2.1 62 = .ok (.aload_n 2, 1) := by decide +kernel
theorem dC_takeLease_63 : decode xC_takeLease.2.1 63 = .ok (.iconst 1, 1) := by decide +kernel
theorem dC_takeLease_64 : decode xC_takeLease.2.1 64 = .ok (.putfield 88, 3) := by decide +kernel
theorem dC_takeLease_67 : decode xC_takeLease.2.1 67 = .ok (.aload_n 1, 1) := by decide +kernel
theorem dC_takeLease_68 : decode xC_takeLease.2.1 68 = .ok (.getfield 148, 3) := by decide +kernel
theorem dC_takeLease_71 : decode xC_takeLease.2.1 71 = .ok (.ifnull 17, 3) := by decide +kernel
theorem dC_takeLease_74 : decode xC_takeLease.2.1 74 = .ok (.aload_n 1, 1) := by decide +kernel
theorem dC_takeLease_75 : decode xC_takeLease.2.1 75 = .ok (.getfield 148, 3) := by decide +kernel
theorem dC_takeLease_78 : decode xC_takeLease.2.1 78 = .ok (.iconst 0, 1) := by decide +kernel
theorem dC_takeLease_79 : decode xC_takeLease.2.1 79 = .ok (.aload_n 2, 1) := by decide +kernel
theorem dC_takeLease_80 : decode xC_takeLease.2.1 80 = .ok (.getfield 84, 3) := by decide +kernel
theorem dC_takeLease_83 : decode xC_takeLease.2.1 83 = .ok (.iconst 0, 1) := by decide +kernel
theorem dC_takeLease_84 : decode xC_takeLease.2.1 84 = .ok (.iconst 4, 1) := by decide +kernel
theorem dC_takeLease_85 : decode xC_takeLease.2.1 85 = .ok (.invokestatic 149, 3) := by decide +kernel
theorem dC_takeLease_88 : decode xC_takeLease.2.1 88 = .ok (.aload_n 0, 1) := by decide +kernel
theorem dC_takeLease_89 : decode xC_takeLease.2.1 89 = .ok (.aload_n 1, 1) := by decide +kernel
theorem dC_takeLease_90 : decode xC_takeLease.2.1 90 = .ok (.getfield 131, 3) := by decide +kernel
theorem dC_takeLease_93 : decode xC_takeLease.2.1 93 = .ok (.invokevirtual 155, 3) := by decide +kernel
theorem dC_takeLease_96 : decode xC_takeLease.2.1 96 = .ok (.return_, 1) := by decide +kernel
def xC_redoWritesOn : mt_X := (⟨"LeasedPages$Client", "redoWritesOn", "(I)V"⟩, prog_2_method_16_code, 3, (Option.none : Option FieldType))
theorem dC_redoWritesOn_0 : decode xC_redoWritesOn.2.1 0 = .ok (.iconst 0, 1) := by decide +kernel
theorem dC_redoWritesOn_1 : decode xC_redoWritesOn.2.1 1 = .ok (.istore_n 2, 1) := by decide +kernel
theorem dC_redoWritesOn_2 : decode xC_redoWritesOn.2.1 2 = .ok (.iload_n 2, 1) := by decide +kernel
theorem dC_redoWritesOn_3 : decode xC_redoWritesOn.2.1 3 = .ok (.aload_n 0, 1) := by decide +kernel
theorem dC_redoWritesOn_4 : decode xC_redoWritesOn.2.1 4 = .ok (.getfield 23, 3) := by decide +kernel
theorem dC_redoWritesOn_7 : decode xC_redoWritesOn.2.1 7 = .ok (.if_icmp .ge 50, 3) := by decide +kernel
theorem dC_redoWritesOn_10 : decode xC_redoWritesOn.2.1 10 = .ok (.aload_n 0, 1) := by decide +kernel
theorem dC_redoWritesOn_11 : decode xC_redoWritesOn.2.1 11 = .ok (.getfield 19, 3) := by decide +kernel
theorem dC_redoWritesOn_14 : decode xC_redoWritesOn.2.1 14 = .ok (.iload_n 2, 1) := by decide +kernel
theorem dC_redoWritesOn_15 : decode xC_redoWritesOn.2.1 15 = .ok (.aaload, 1) := by decide +kernel
theorem dC_redoWritesOn_16 : decode xC_redoWritesOn.2.1 16 = .ok (.getfield 94, 3) := by decide +kernel
theorem dC_redoWritesOn_19 : decode xC_redoWritesOn.2.1 19 = .ok (.iload_n 1, 1) := by decide +kernel
theorem dC_redoWritesOn_20 : decode xC_redoWritesOn.2.1 20 = .ok (.if_icmp .ne 31, 3) := by decide +kernel
theorem dC_redoWritesOn_23 : decode xC_redoWritesOn.2.1 23 = .ok (.aload_n 0, 1) := by decide +kernel
theorem dC_redoWritesOn_24 : decode xC_redoWritesOn.2.1 24 = .ok (.getfield 11, 3) := by decide +kernel
theorem dC_redoWritesOn_27 : decode xC_redoWritesOn.2.1 27 = .ok (.iload_n 1, 1) := by decide +kernel
theorem dC_redoWritesOn_28 : decode xC_redoWritesOn.2.1 28 = .ok (.aaload, 1) := by decide +kernel
theorem dC_redoWritesOn_29 : decode xC_redoWritesOn.2.1 29 = .ok (.getfield 84, 3) := by decide +kernel
theorem dC_redoWritesOn_32 : decode xC_redoWritesOn.2.1 32 = .ok (.aload_n 0, 1) := by decide +kernel
theorem dC_redoWritesOn_33 : decode xC_redoWritesOn.2.1 33 = .ok (.getfield 19, 3) := by decide +kernel
theorem dC_redoWritesOn_36 : decode xC_redoWritesOn.2.1 36 = .ok (.iload_n 2, 1) := by decide +kernel
theorem dC_redoWritesOn_37 : decode xC_redoWritesOn.2.1 37 = .ok (.aaload, 1) := by decide +kernel
theorem dC_redoWritesOn_38 : decode xC_redoWritesOn.2.1 38 = .ok (.getfield 158, 3) := by decide +kernel
theorem dC_redoWritesOn_41 : decode xC_redoWritesOn.2.1 41 = .ok (.aload_n 0, 1) := by decide +kernel
theorem dC_redoWritesOn_42 : decode xC_redoWritesOn.2.1 42 = .ok (.getfield 19, 3) := by decide +kernel
theorem dC_redoWritesOn_45 : decode xC_redoWritesOn.2.1 45 = .ok (.iload_n 2, 1) := by decide +kernel
theorem dC_redoWritesOn_46 : decode xC_redoWritesOn.2.1 46 = .ok (.aaload, 1) := by decide +kernel
theorem dC_redoWritesOn_47 : decode xC_redoWritesOn.2.1 47 = .ok (.getfield 161, 3) := by decide +kernel
theorem dC_redoWritesOn_50 : decode xC_redoWritesOn.2.1 50 = .ok (.iastore, 1) := by decide +kernel
theorem dC_redoWritesOn_51 : decode xC_redoWritesOn.2.1 51 = .ok (.iinc 2 1, 3) := by decide +kernel
theorem dC_redoWritesOn_54 : decode xC_redoWritesOn.2.1 54 = .ok (.goto (-52), 3) := by decide +kernel
theorem dC_redoWritesOn_57 : decode xC_redoWritesOn.2.1 57 = .ok (.return_, 1) := by decide +kernel
def xC_loseLease : mt_X := (⟨"LeasedPages$Client", "loseLease", "(I)V"⟩, prog_2_method_17_code, 2, (Option.none : Option FieldType))
theorem dC_loseLease_0 : decode xC_loseLease.2.1 0 = .ok (.aload_n 0, 1) := by decide +kernel
theorem dC_loseLease_1 : decode xC_loseLease.2.1 1 = .ok (.iload_n 1, 1) := by decide +kernel
theorem dC_loseLease_2 : decode xC_loseLease.2.1 2 = .ok (.invokevirtual 145, 3) := by decide +kernel
theorem dC_loseLease_5 : decode xC_loseLease.2.1 5 = .ok (.aload_n 0, 1) := by decide +kernel
theorem dC_loseLease_6 : decode xC_loseLease.2.1 6 = .ok (.getfield 11, 3) := by decide +kernel
theorem dC_loseLease_9 : decode xC_loseLease.2.1 9 = .ok (.iload_n 1, 1) := by decide +kernel
theorem dC_loseLease_10 : decode xC_loseLease.2.1 10 = .ok (.aaload, 1) := by decide +kernel
theorem dC_loseLease_11 : decode xC_loseLease.2.1 11 = .ok (.iconst 1, 1) := by decide +kernel
theorem dC_loseLease_12 : decode xC_loseLease.2.1 12 = .ok (.putfield 88, 3) := by decide +kernel
theorem dC_loseLease_15 : decode xC_loseLease.2.1 15 = .ok (.aload_n 0, 1) := by decide +kernel
theorem dC_loseLease_16 : decode xC_loseLease.2.1 16 = .ok (.getfield 11, 3) := by decide +kernel
theorem dC_loseLease_19 : decode xC_loseLease.2.1 19 = .ok (.iload_n 1, 1) := by decide +kernel
theorem dC_loseLease_20 : decode xC_loseLease.2.1 20 = .ok (.aaload, 1) := by decide +kernel
theorem dC_loseLease_21 : decode xC_loseLease.2.1 21 = .ok (.iconst 0, 1) := by decide +kernel
theorem dC_loseLease_22 : decode xC_loseLease.2.1 22 = .ok (.putfield 101, 3) := by decide +kernel
theorem dC_loseLease_25 : decode xC_loseLease.2.1 25 = .ok (.return_, 1) := by decide +kernel
def xC_removeFirstWriteTo : mt_X := (⟨"LeasedPages$Client", "removeFirstWriteTo", "(I)V"⟩, prog_2_method_18_code, 5, (Option.none : Option FieldType))
theorem dC_removeFirstWriteTo_0 : decode xC_removeFirstWriteTo.2.1 0 = .ok (.iconst 0, 1) := by decide +kernel
theorem dC_removeFirstWriteTo_1 : decode xC_removeFirstWriteTo.2.1 1 = .ok (.istore_n 2, 1) := by decide +kernel
theorem dC_removeFirstWriteTo_2 : decode xC_removeFirstWriteTo.2.1 2 = .ok (.iconst 0, 1) := by decide +kernel
theorem dC_removeFirstWriteTo_3 : decode xC_removeFirstWriteTo.2.1 3 = .ok (.istore_n 3, 1) := by decide +kernel
theorem dC_removeFirstWriteTo_4 : decode xC_removeFirstWriteTo.2.1 4 = .ok (.iconst 0, 1) := by decide +kernel
theorem dC_removeFirstWriteTo_5 : decode xC_removeFirstWriteTo.2.1 5 = .ok (.istore 4, 2) := by decide +kernel
theorem dC_removeFirstWriteTo_7 : decode xC_removeFirstWriteTo.2.1 7 = .ok (.iload 4, 2) := by decide +kernel
theorem dC_removeFirstWriteTo_9 : decode xC_removeFirstWriteTo.2.1 9 = .ok (.aload_n 0, 1) := by decide +kernel
theorem dC_removeFirstWriteTo_10 : decode xC_removeFirstWriteTo.2.1 10 = .ok (.getfield 23, 3) := by decide +kernel
theorem dC_removeFirstWriteTo_13 : decode xC_removeFirstWriteTo.2.1 13 = .ok (.if_icmp .ge 48, 3) := by decide +kernel
theorem dC_removeFirstWriteTo_16 : decode xC_removeFirstWriteTo.2.1 16 = .ok (.iload_n 3, 1) := by decide +kernel
theorem dC_removeFirstWriteTo_17 : decode xC_removeFirstWriteTo.2.1 17 = .ok (.ifCond .ne 22, 3) := by decide +kernel
theorem dC_removeFirstWriteTo_20 : decode xC_removeFirstWriteTo.2.1 20 = .ok (.aload_n 0, 1) := by decide +kernel
theorem dC_removeFirstWriteTo_21 : decode xC_removeFirstWriteTo.2.1 21 = .ok (.getfield 19, 3) := by decide +kernel
theorem dC_removeFirstWriteTo_24 : decode xC_removeFirstWriteTo.2.1 24 = .ok (.iload 4, 2) := by decide +kernel
theorem dC_removeFirstWriteTo_26 : decode xC_removeFirstWriteTo.2.1 26 = .ok (.aaload, 1) := by decide +kernel
theorem dC_removeFirstWriteTo_27 : decode xC_removeFirstWriteTo.2.1 27 = .ok (.getfield 94, 3) := by decide +kernel
theorem dC_removeFirstWriteTo_30 : decode xC_removeFirstWriteTo.2.1 30 = .ok (.iload_n 1, 1) := by decide +kernel
theorem dC_removeFirstWriteTo_31 : decode xC_removeFirstWriteTo.2.1 31 = .ok (.if_icmp .ne 8, 3) := by decide +kernel
theorem dC_removeFirstWriteTo_34 : decode xC_removeFirstWriteTo.2.1 34 = .ok (.iconst 1, 1) := by decide +kernel
theorem dC_removeFirstWriteTo_35 : decode xC_removeFirstWriteTo.2.1 35 = .ok (.istore_n 3, 1) := by decide +kernel
theorem dC_removeFirstWriteTo_36 : decode xC_removeFirstWriteTo.2.1 36 = .ok (.goto 19, 3) := by decide +kernel
theorem dC_removeFirstWriteTo_39 : decode xC_removeFirstWriteTo.2.1 39 = .ok (.aload_n 0, 1) := by decide +kernel
theorem dC_removeFirstWriteTo_40 : decode xC_removeFirstWriteTo.2.1 40 = .ok (.getfield 19, 3) := by decide +kernel
theorem dC_removeFirstWriteTo_43 : decode xC_removeFirstWriteTo.2.1 43 = .ok (.iload_n 2, 1) := by decide +kernel
theorem dC_removeFirstWriteTo_44 : decode xC_removeFirstWriteTo.2.1 44 = .ok (.aload_n 0, 1) := by decide +kernel
theorem dC_removeFirstWriteTo_45 : decode xC_removeFirstWriteTo.2.1 45 = .ok (.getfield 19, 3) := by decide +kernel
theorem dC_removeFirstWriteTo_48 : decode xC_removeFirstWriteTo.2.1 48 = .ok (.iload 4, 2) := by decide +kernel
theorem dC_removeFirstWriteTo_50 : decode xC_removeFirstWriteTo.2.1 50 = .ok (.aaload, 1) := by decide +kernel
theorem dC_removeFirstWriteTo_51 : decode xC_removeFirstWriteTo.2.1 51 = .ok (.aastore, 1) := by decide +kernel
theorem dC_removeFirstWriteTo_52 : decode xC_removeFirstWriteTo.2.1 52 = .ok (.iinc 2 1, 3) := by decide +kernel
theorem dC_removeFirstWriteTo_55 : decode xC_removeFirstWriteTo.2.1 55 = .ok (.iinc 4 1, 3) := by decide +kernel
theorem dC_removeFirstWriteTo_58 : decode xC_removeFirstWriteTo.2.1 58 = .ok (.goto (-51), 3) := by decide +kernel
theorem dC_removeFirstWriteTo_61 : decode xC_removeFirstWriteTo.2.1 61 = .ok (.aload_n 0, 1) := by decide +kernel
theorem dC_removeFirstWriteTo_62 : decode xC_removeFirstWriteTo.2.1 62 = .ok (.iload_n 2, 1) := by decide +kernel
theorem dC_removeFirstWriteTo_63 : decode xC_removeFirstWriteTo.2.1 63 = .ok (.invokevirtual 55, 3) := by decide +kernel
theorem dC_removeFirstWriteTo_66 : decode xC_removeFirstWriteTo.2.1 66 = .ok (.return_, 1) := by decide +kernel
def xC_removeAllWritesTo : mt_X := (⟨"LeasedPages$Client", "removeAllWritesTo", "(I)V"⟩, prog_2_method_19_code, 4, (Option.none : Option FieldType))
theorem dC_removeAllWritesTo_0 : decode xC_removeAllWritesTo.2.1 0 = .ok (.iconst 0, 1) := by decide +kernel
theorem dC_removeAllWritesTo_1 : decode xC_removeAllWritesTo.2.1 1 = .ok (.istore_n 2, 1) := by decide +kernel
theorem dC_removeAllWritesTo_2 : decode xC_removeAllWritesTo.2.1 2 = .ok (.iconst 0, 1) := by decide +kernel
theorem dC_removeAllWritesTo_3 : decode xC_removeAllWritesTo.2.1 3 = .ok (.istore_n 3, 1) := by decide +kernel
theorem dC_removeAllWritesTo_4 : decode xC_removeAllWritesTo.2.1 4 = .ok (.iload_n 3, 1) := by decide +kernel
theorem dC_removeAllWritesTo_5 : decode xC_removeAllWritesTo.2.1 5 = .ok (.aload_n 0, 1) := by decide +kernel
theorem dC_removeAllWritesTo_6 : decode xC_removeAllWritesTo.2.1 6 = .ok (.getfield 23, 3) := by decide +kernel
theorem dC_removeAllWritesTo_9 : decode xC_removeAllWritesTo.2.1 9 = .ok (.if_icmp .ge 37, 3) := by decide +kernel
theorem dC_removeAllWritesTo_12 : decode xC_removeAllWritesTo.2.1 12 = .ok (.aload_n 0, 1) := by decide +kernel
theorem dC_removeAllWritesTo_13 : decode xC_removeAllWritesTo.2.1 13 = .ok (.getfield 19, 3) := by decide +kernel
theorem dC_removeAllWritesTo_16 : decode xC_removeAllWritesTo.2.1 16 = .ok (.iload_n 3, 1) := by decide +kernel
theorem dC_removeAllWritesTo_17 : decode xC_removeAllWritesTo.2.1 17 = .ok (.aaload, 1) := by decide +kernel
theorem dC_removeAllWritesTo_18 : decode xC_removeAllWritesTo.2.1 18 = .ok (.getfield 94, 3) := by decide +kernel
theorem dC_removeAllWritesTo_21 : decode xC_removeAllWritesTo.2.1 21 = .ok (.iload_n 1, 1) := by decide +kernel
theorem dC_removeAllWritesTo_22 : decode xC_removeAllWritesTo.2.1 22 = .ok (.if_icmp .eq 18, 3) := by decide +kernel
theorem dC_removeAllWritesTo_25 : decode xC_removeAllWritesTo.2.1 25 = .ok (.aload_n 0, 1) := by decide +kernel
theorem dC_removeAllWritesTo_26 : decode xC_removeAllWritesTo.2.1 26 = .ok (.getfield 19, 3) := by decide +kernel
theorem dC_removeAllWritesTo_29 : decode xC_removeAllWritesTo.2.1 29 = .ok (.iload_n 2, 1) := by decide +kernel
theorem dC_removeAllWritesTo_30 : decode xC_removeAllWritesTo.2.1 30 = .ok (.aload_n 0, 1) := by decide +kernel
theorem dC_removeAllWritesTo_31 : decode xC_removeAllWritesTo.2.1 31 = .ok (.getfield 19, 3) := by decide +kernel
theorem dC_removeAllWritesTo_34 : decode xC_removeAllWritesTo.2.1 34 = .ok (.iload_n 3, 1) := by decide +kernel
theorem dC_removeAllWritesTo_35 : decode xC_removeAllWritesTo.2.1 35 = .ok (.aaload, 1) := by decide +kernel
theorem dC_removeAllWritesTo_36 : decode xC_removeAllWritesTo.2.1 36 = .ok (.aastore, 1) := by decide +kernel
theorem dC_removeAllWritesTo_37 : decode xC_removeAllWritesTo.2.1 37 = .ok (.iinc 2 1, 3) := by decide +kernel
theorem dC_removeAllWritesTo_40 : decode xC_removeAllWritesTo.2.1 40 = .ok (.iinc 3 1, 3) := by decide +kernel
theorem dC_removeAllWritesTo_43 : decode xC_removeAllWritesTo.2.1 43 = .ok (.goto (-39), 3) := by decide +kernel
theorem dC_removeAllWritesTo_46 : decode xC_removeAllWritesTo.2.1 46 = .ok (.aload_n 0, 1) := by decide +kernel
theorem dC_removeAllWritesTo_47 : decode xC_removeAllWritesTo.2.1 47 = .ok (.iload_n 2, 1) := by decide +kernel
theorem dC_removeAllWritesTo_48 : decode xC_removeAllWritesTo.2.1 48 = .ok (.invokevirtual 55, 3) := by decide +kernel
theorem dC_removeAllWritesTo_51 : decode xC_removeAllWritesTo.2.1 51 = .ok (.return_, 1) := by decide +kernel
def xC_keepWrites : mt_X := (⟨"LeasedPages$Client", "keepWrites", "(I)V"⟩, prog_2_method_20_code, 3, (Option.none : Option FieldType))
theorem dC_keepWrites_0 : decode xC_keepWrites.2.1 0 = .ok (.iload_n 1, 1) := by decide +kernel
theorem dC_keepWrites_1 : decode xC_keepWrites.2.1 1 = .ok (.istore_n 2, 1) := by decide +kernel
theorem dC_keepWrites_2 : decode xC_keepWrites.2.1 2 = .ok (.iload_n 2, 1) := by decide +kernel
theorem dC_keepWrites_3 : decode xC_keepWrites.2.1 3 = .ok (.aload_n 0, 1) := by decide +kernel
theorem dC_keepWrites_4 : decode xC_keepWrites.2.1 4 = .ok (.getfield 23, 3) := by decide +kernel
theorem dC_keepWrites_7 : decode xC_keepWrites.2.1 7 = .ok (.if_icmp .ge 16, 3) := by decide +kernel
theorem dC_keepWrites_10 : decode xC_keepWrites.2.1 10 = .ok (.aload_n 0, 1) := by decide +kernel
theorem dC_keepWrites_11 : decode xC_keepWrites.2.1 11 = .ok (.getfield 19, 3) := by decide +kernel
theorem dC_keepWrites_14 : decode xC_keepWrites.2.1 14 = .ok (.iload_n 2, 1) := by decide +kernel
theorem dC_keepWrites_15 : decode xC_keepWrites.2.1 15 = .ok (.aconst_null, 1) := by decide +kernel
theorem dC_keepWrites_16 : decode xC_keepWrites.2.1 16 = .ok (.aastore, 1) := by decide +kernel
theorem dC_keepWrites_17 : decode xC_keepWrites.2.1 17 = .ok (.iinc 2 1, 3) := by decide +kernel
theorem dC_keepWrites_20 : decode xC_keepWrites.2.1 20 = .ok (.goto (-18), 3) := by decide +kernel
theorem dC_keepWrites_23 : decode xC_keepWrites.2.1 23 = .ok (.aload_n 0, 1) := by decide +kernel
theorem dC_keepWrites_24 : decode xC_keepWrites.2.1 24 = .ok (.iload_n 1, 1) := by decide +kernel
theorem dC_keepWrites_25 : decode xC_keepWrites.2.1 25 = .ok (.putfield 23, 3) := by decide +kernel
theorem dC_keepWrites_28 : decode xC_keepWrites.2.1 28 = .ok (.return_, 1) := by decide +kernel
end
section
/-! Method constants and decode rows, written by wip/whole/gen/code.py out of the listing. -/
def xS_init : mt_X := (⟨"LeasedPages$Server", "<init>", "(LLeasedPages$Network;I)V"⟩, prog_9_method_1_code, 4, (Option.none : Option FieldType))
theorem dS_init_0 : decode xS_init.2.1 0 = .ok (.aload_n 0, 1) := by decide +kernel
theorem dS_init_1 : decode xS_init.2.1 1 = .ok (.invokespecial 3, 3) := by decide +kernel
theorem dS_init_4 : decode xS_init.2.1 4 = .ok (.aload_n 0, 1) := by decide +kernel
theorem dS_init_5 : decode xS_init.2.1 5 = .ok (.iconst 4, 1) := by decide +kernel
theorem dS_init_6 : decode xS_init.2.1 6 = .ok (.iconst 4, 1) := by decide +kernel
theorem dS_init_7 : decode xS_init.2.1 7 = .ok (.multianewarray 9 2, 4) := by decide +kernel
theorem dS_init_11 : decode xS_init.2.1 11 = .ok (.putfield 11, 3) := by decide +kernel
theorem dS_init_14 : decode xS_init.2.1 14 = .ok (.aload_n 0, 1) := by decide +kernel
theorem dS_init_15 : decode xS_init.2.1 15 = .ok (.iconst 3, 1) := by decide +kernel
theorem dS_init_16 : decode xS_init.2.1 16 = .ok (.anewarray 16, 3) := by decide +kernel
theorem dS_init_19 : decode xS_init.2.1 19 = .ok (.putfield 18, 3) := by decide +kernel
theorem dS_init_22 : decode xS_init.2.1 22 = .ok (.aload_n 0, 1) := by decide +kernel
theorem dS_init_23 : decode xS_init.2.1 23 = .ok (.iconst 3, 1) := by decide +kernel
theorem dS_init_24 : decode xS_init.2.1 24 = .ok (.iconst 4, 1) := by decide +kernel
theorem dS_init_25 : decode xS_init.2.1 25 = .ok (.multianewarray 9 2, 4) := by decide +kernel
theorem dS_init_29 : decode xS_init.2.1 29 = .ok (.putfield 22, 3) := by decide +kernel
theorem dS_init_32 : decode xS_init.2.1 32 = .ok (.aload_n 0, 1) := by decide +kernel
theorem dS_init_33 : decode xS_init.2.1 33 = .ok (.iconst 3, 1) := by decide +kernel
theorem dS_init_34 : decode xS_init.2.1 34 = .ok (.iconst 4, 1) := by decide +kernel
theorem dS_init_35 : decode xS_init.2.1 35 = .ok (.multianewarray 9 2, 4) := by decide +kernel
theorem dS_init_39 : decode xS_init.2.1 39 = .ok (.putfield 25, 3) := by decide +kernel
theorem dS_init_42 : decode xS_init.2.1 42 = .ok (.aload_n 0, 1) := by decide +kernel
theorem dS_init_43 : decode xS_init.2.1 43 = .ok (.iconst 4, 1) := by decide +kernel
theorem dS_init_44 : decode xS_init.2.1 44 = .ok (.anewarray 28, 3) := by decide +kernel
theorem dS_init_47 : decode xS_init.2.1 47 = .ok (.putfield 30, 3) := by decide +kernel
theorem dS_init_50 : decode xS_init.2.1 50 = .ok (.aload_n 0, 1) := by decide +kernel
theorem dS_init_51 : decode xS_init.2.1 51 = .ok (.iconst 1, 1) := by decide +kernel
theorem dS_init_52 : decode xS_init.2.1 52 = .ok (.putfield 34, 3) := by decide +kernel
theorem dS_init_55 : decode xS_init.2.1 55 = .ok (.aload_n 0, 1) := by decide +kernel
theorem dS_init_56 : decode xS_init.2.1 56 = .ok (.iconst 0, 1) := by decide +kernel
theorem dS_init_57 : decode xS_init.2.1 57 = .ok (.putfield 38, 3) := by decide +kernel
theorem dS_init_60 : decode xS_init.2.1 60 = .ok (.aload_n 0, 1) := by decide +kernel
theorem dS_init_61 : decode xS_init.2.1 61 = .ok (.iconst 0, 1) := by decide +kernel
theorem dS_init_62 : decode xS_init.2.1 62 = .ok (.putfield 42, 3) := by decide +kernel
theorem dS_init_65 : decode xS_init.2.1 65 = .ok (.aload_n 0, 1) := by decide +kernel
theorem dS_init_66 : decode xS_init.2.1 66 = .ok (.iconst 0, 1) := by decide +kernel
theorem dS_init_67 : decode xS_init.2.1 67 = .ok (.putfield 45, 3) := by decide +kernel
theorem dS_init_70 : decode xS_init.2.1 70 = .ok (.aload_n 0, 1) := by decide +kernel
theorem dS_init_71 : decode xS_init.2.1 71 = .ok (.aload_n 1, 1) := by decide +kernel
theorem dS_init_72 : decode xS_init.2.1 72 = .ok (.putfield 48, 3) := by decide +kernel
theorem dS_init_75 : decode xS_init.2.1 75 = .ok (.aload_n 0, 1) := by decide +kernel
theorem dS_init_76 : decode xS_init.2.1 76 = .ok (.iload_n 2, 1) := by decide +kernel
theorem dS_init_77 : decode xS_init.2.1 77 = .ok (.putfield 52, 3) := by decide +kernel
theorem dS_init_80 : decode xS_init.2.1 80 = .ok (.iconst 0, 1) := by decide +kernel
theorem dS_init_81 : decode xS_init.2.1 81 = .ok (.istore_n 3, 1) := by decide +kernel
theorem dS_init_82 : decode xS_init.2.1 82 = .ok (.iload_n 3, 1) := by decide +kernel
theorem dS_init_83 : decode xS_init.2.1 83 = .ok (.iconst 4, 1) := by decide +kernel
theorem dS_init_84 : decode xS_init.2.1 84 = .ok (.if_icmp .ge 22, 3) := by decide +kernel
theorem dS_init_87 : decode xS_init.2.1 87 = .ok (.aload_n 0, 1) := by decide +kernel
theorem dS_init_88 : decode xS_init.2.1 88 = .ok (.getfield 30, 3) := by decide +kernel
theorem dS_init_91 : decode xS_init.2.1 91 = .ok (.iload_n 3, 1) := by decide +kernel
theorem dS_init_92 : decode xS_init.2.1 92 = .ok (.new 28, 3) := by decide +kernel
theorem dS_init_95 : decode xS_init.2.1 95 = .ok (.dup, 1) := by decide +kernel
theorem dS_init_96 : decode xS_init.2.1 96 = .ok (.invokespecial 55, 3) := by decide +kernel
theorem dS_init_99 : decode xS_init.2.1 99 = .ok (.aastore, 1) := by decide +kernel
theorem dS_init_100 : decode xS_init.2.1 100 = .ok (.iinc 3 1, 3) := by decide +kernel
theorem dS_init_103 : decode xS_init.2.1 103 = .ok (.goto (-21), 3) := by decide +kernel
theorem dS_init_106 : decode xS_init.2.1 106 = .ok (.return_, 1) := by decide +kernel
def xS_goDown : mt_X := (⟨"LeasedPages$Server", "goDown", "()V"⟩, prog_9_method_2_code, 2, (Option.none : Option FieldType))
theorem dS_goDown_0 : decode xS_goDown.2.1 0 = .ok (.aload_n 0, 1) := by decide +kernel
theorem dS_goDown_1 : decode xS_goDown.2.1 1 = .ok (.iconst 0, 1) := by decide +kernel
theorem dS_goDown_2 : decode xS_goDown.2.1 2 = .ok (.putfield 34, 3) := by decide +kernel
theorem dS_goDown_5 : decode xS_goDown.2.1 5 = .ok (.iconst 0, 1) := by decide +kernel
theorem dS_goDown_6 : decode xS_goDown.2.1 6 = .ok (.istore_n 1, 1) := by decide +kernel
theorem dS_goDown_7 : decode xS_goDown.2.1 7 = .ok (.iload_n 1, 1) := by decide +kernel
theorem dS_goDown_8 : decode xS_goDown.2.1 8 = .ok (.iconst 3, 1) := by decide +kernel
theorem dS_goDown_9 : decode xS_goDown.2.1 9 = .ok (.if_icmp .ge 19, 3) := by decide +kernel
theorem dS_goDown_12 : decode xS_goDown.2.1 12 = .ok (.aload_n 0, 1) := by decide +kernel
theorem dS_goDown_13 : decode xS_goDown.2.1 13 = .ok (.getfield 22, 3) := by decide +kernel
theorem dS_goDown_16 : decode xS_goDown.2.1 16 = .ok (.iload_n 1, 1) := by decide +kernel
theorem dS_goDown_17 : decode xS_goDown.2.1 17 = .ok (.aaload, 1) := by decide +kernel
theorem dS_goDown_18 : decode xS_goDown.2.1 18 = .ok (.iconst 0, 1) := by decide +kernel
theorem dS_goDown_19 : decode xS_goDown.2.1 19 = .ok (.invokestatic 56, 3) := by decide +kernel
theorem dS_goDown_22 : decode xS_goDown.2.1 22 = .ok (.iinc 1 1, 3) := by decide +kernel
theorem dS_goDown_25 : decode xS_goDown.2.1 25 = .ok (.goto (-18), 3) := by decide +kernel
theorem dS_goDown_28 : decode xS_goDown.2.1 28 = .ok (.iconst 0, 1) := by decide +kernel
theorem dS_goDown_29 : decode xS_goDown.2.1 29 = .ok (.istore_n 1, 1) := by decide +kernel
theorem dS_goDown_30 : decode xS_goDown.2.1 30 = .ok (.iload_n 1, 1) := by decide +kernel
theorem dS_goDown_31 : decode xS_goDown.2.1 31 = .ok (.iconst 4, 1) := by decide +kernel
theorem dS_goDown_32 : decode xS_goDown.2.1 32 = .ok (.if_icmp .ge 18, 3) := by decide +kernel
theorem dS_goDown_35 : decode xS_goDown.2.1 35 = .ok (.aload_n 0, 1) := by decide +kernel
theorem dS_goDown_36 : decode xS_goDown.2.1 36 = .ok (.getfield 30, 3) := by decide +kernel
theorem dS_goDown_39 : decode xS_goDown.2.1 39 = .ok (.iload_n 1, 1) := by decide +kernel
theorem dS_goDown_40 : decode xS_goDown.2.1 40 = .ok (.aaload, 1) := by decide +kernel
theorem dS_goDown_41 : decode xS_goDown.2.1 41 = .ok (.invokevirtual 62, 3) := by decide +kernel
theorem dS_goDown_44 : decode xS_goDown.2.1 44 = .ok (.iinc 1 1, 3) := by decide +kernel
theorem dS_goDown_47 : decode xS_goDown.2.1 47 = .ok (.goto (-17), 3) := by decide +kernel
theorem dS_goDown_50 : decode xS_goDown.2.1 50 = .ok (.return_, 1) := by decide +kernel
def xS_comeUp : mt_X := (⟨"LeasedPages$Server", "comeUp", "()V"⟩, prog_9_method_3_code, 1, (Option.none : Option FieldType))
theorem dS_comeUp_0 : decode xS_comeUp.2.1 0 = .ok (.aload_n 0, 1) := by decide +kernel
theorem dS_comeUp_1 : decode xS_comeUp.2.1 1 = .ok (.iconst 1, 1) := by decide +kernel
theorem dS_comeUp_2 : decode xS_comeUp.2.1 2 = .ok (.putfield 34, 3) := by decide +kernel
theorem dS_comeUp_5 : decode xS_comeUp.2.1 5 = .ok (.aload_n 0, 1) := by decide +kernel
theorem dS_comeUp_6 : decode xS_comeUp.2.1 6 = .ok (.iconst 1, 1) := by decide +kernel
theorem dS_comeUp_7 : decode xS_comeUp.2.1 7 = .ok (.putfield 42, 3) := by decide +kernel
theorem dS_comeUp_10 : decode xS_comeUp.2.1 10 = .ok (.aload_n 0, 1) := by decide +kernel
theorem dS_comeUp_11 : decode xS_comeUp.2.1 11 = .ok (.aload_n 0, 1) := by decide +kernel
theorem dS_comeUp_12 : decode xS_comeUp.2.1 12 = .ok (.getfield 38, 3) := by decide +kernel
theorem dS_comeUp_15 : decode xS_comeUp.2.1 15 = .ok (.aload_n 0, 1) := by decide +kernel
theorem dS_comeUp_16 : decode xS_comeUp.2.1 16 = .ok (.getfield 52, 3) := by decide +kernel
theorem dS_comeUp_19 : decode xS_comeUp.2.1 19 = .ok (.iadd, 1) := by decide +kernel
theorem dS_comeUp_20 : decode xS_comeUp.2.1 20 = .ok (.putfield 45, 3) := by decide +kernel
theorem dS_comeUp_23 : decode xS_comeUp.2.1 23 = .ok (.return_, 1) := by decide +kernel
def xS_advance : mt_X := (⟨"LeasedPages$Server", "advance", "(I)V"⟩, prog_9_method_4_code, 3, (Option.none : Option FieldType))
theorem dS_advance_0 : decode xS_advance.2.1 0 = .ok (.iconst 0, 1) := by decide +kernel
theorem dS_advance_1 : decode xS_advance.2.1 1 = .ok (.istore_n 2, 1) := by decide +kernel
theorem dS_advance_2 : decode xS_advance.2.1 2 = .ok (.iload_n 2, 1) := by decide +kernel
theorem dS_advance_3 : decode xS_advance.2.1 3 = .ok (.iload_n 1, 1) := by decide +kernel
theorem dS_advance_4 : decode xS_advance.2.1 4 = .ok (.if_icmp .ge 43, 3) := by decide +kernel
theorem dS_advance_7 : decode xS_advance.2.1 7 = .ok (.aload_n 0, 1) := by decide +kernel
theorem dS_advance_8 : decode xS_advance.2.1 8 = .ok (.dup, 1) := by decide +kernel
theorem dS_advance_9 : decode xS_advance.2.1 9 = .ok (.getfield 38, 3) := by decide +kernel
theorem dS_advance_12 : decode xS_advance.2.1 12 = .ok (.iconst 1, 1) := by decide +kernel
theorem dS_advance_13 : decode xS_advance.2.1 13 = .ok (.iadd, 1) := by decide +kernel
theorem dS_advance_14 : decode xS_advance.2.1 14 = .ok (.putfield 38, 3) := by decide +kernel
theorem dS_advance_17 : decode xS_advance.2.1 17 = .ok (.aload_n 0, 1) := by decide +kernel
theorem dS_advance_18 : decode xS_advance.2.1 18 = .ok (.invokevirtual 65, 3) := by decide +kernel
theorem dS_advance_21 : decode xS_advance.2.1 21 = .ok (.aload_n 0, 1) := by decide +kernel
theorem dS_advance_22 : decode xS_advance.2.1 22 = .ok (.getfield 38, 3) := by decide +kernel
theorem dS_advance_25 : decode xS_advance.2.1 25 = .ok (.aload_n 0, 1) := by decide +kernel
theorem dS_advance_26 : decode xS_advance.2.1 26 = .ok (.getfield 45, 3) := by decide +kernel
theorem dS_advance_29 : decode xS_advance.2.1 29 = .ok (.if_icmp .lt 8, 3) := by decide +kernel
theorem dS_advance_32 : decode xS_advance.2.1 32 = .ok (.aload_n 0, 1) := by decide +kernel
theorem dS_advance_33 : decode xS_advance.2.1 33 = .ok (.iconst 0, 1) := by decide +kernel
theorem dS_advance_34 : decode xS_advance.2.1 34 = .ok (.putfield 42, 3) := by decide +kernel
theorem dS_advance_37 : decode xS_advance.2.1 37 = .ok (.aload_n 0, 1) := by decide +kernel
theorem dS_advance_38 : decode xS_advance.2.1 38 = .ok (.invokevirtual 68, 3) := by decide +kernel
theorem dS_advance_41 : decode xS_advance.2.1 41 = .ok (.iinc 2 1, 3) := by decide +kernel
theorem dS_advance_44 : decode xS_advance.2.1 44 = .ok (.goto (-42), 3) := by decide +kernel
theorem dS_advance_47 : decode xS_advance.2.1 47 = .ok (.return_, 1) := by decide +kernel
def xS_leaseAndRest : mt_X := (⟨"LeasedPages$Server", "leaseAndRest", "(II)I"⟩, prog_9_method_5_code, 3, (Option.some FieldType.int))
theorem dS_leaseAndRest_0 : decode xS_leaseAndRest.2.1 0 = .ok (.aload_n 0, 1) := by decide +kernel
theorem dS_leaseAndRest_1 : decode xS_leaseAndRest.2.1 1 = .ok (.iload_n 1, 1) := by decide +kernel
theorem dS_leaseAndRest_2 : decode xS_leaseAndRest.2.1 2 = .ok (.iload_n 2, 1) := by decide +kernel
theorem dS_leaseAndRest_3 : decode xS_leaseAndRest.2.1 3 = .ok (.invokevirtual 71, 3) := by decide +kernel
theorem dS_leaseAndRest_6 : decode xS_leaseAndRest.2.1 6 = .ok (.ifCond .eq 32, 3) := by decide +kernel
theorem dS_leaseAndRest_9 : decode xS_leaseAndRest.2.1 9 = .ok (.sipush 1000, 3) := by decide +kernel
theorem dS_leaseAndRest_12 : decode xS_leaseAndRest.2.1 12 = .ok (.aload_n 0, 1) := by decide +kernel
theorem dS_leaseAndRest_13 : decode xS_leaseAndRest.2.1 13 = .ok (.getfield 22, 3) := by decide +kernel
theorem dS_leaseAndRest_16 : decode xS_leaseAndRest.2.1 16 = .ok (.iload_n 1, 1) := by decide +kernel
theorem dS_leaseAndRest_17 : decode xS_leaseAndRest.2.1 17 = .ok (.aaload, 1) := by decide +kernel
theorem dS_leaseAndRest_18 : decode xS_leaseAndRest.2.1 18 = .ok (.iload_n 2, 1) := by decide +kernel
theorem dS_leaseAndRest_19 : decode xS_leaseAndRest.2.1 19 = .ok (.iaload, 1) := by decide +kernel
theorem dS_leaseAndRest_20 : decode xS_leaseAndRest.2.1 20 = .ok (.imul, 1) := by decide +kernel
theorem dS_leaseAndRest_21 : decode xS_leaseAndRest.2.1 21 = .ok (.aload_n 0, 1) := by decide +kernel
theorem dS_leaseAndRest_22 : decode xS_leaseAndRest.2.1 22 = .ok (.getfield 25, 3) := by decide +kernel
theorem dS_leaseAndRest_25 : decode xS_leaseAndRest.2.1 25 = .ok (.iload_n 1, 1) := by decide +kernel
theorem dS_leaseAndRest_26 : decode xS_leaseAndRest.2.1 26 = .ok (.aaload, 1) := by decide +kernel
theorem dS_leaseAndRest_27 : decode xS_leaseAndRest.2.1 27 = .ok (.iload_n 2, 1) := by decide +kernel
theorem dS_leaseAndRest_28 : decode xS_leaseAndRest.2.1 28 = .ok (.iaload, 1) := by decide +kernel
theorem dS_leaseAndRest_29 : decode xS_leaseAndRest.2.1 29 = .ok (.iadd, 1) := by decide +kernel
theorem dS_leaseAndRest_30 : decode xS_leaseAndRest.2.1 30 = .ok (.aload_n 0, 1) := by decide +kernel
theorem dS_leaseAndRest_31 : decode xS_leaseAndRest.2.1 31 = .ok (.getfield 38, 3) := by decide +kernel
theorem dS_leaseAndRest_34 : decode xS_leaseAndRest.2.1 34 = .ok (.isub, 1) := by decide +kernel
theorem dS_leaseAndRest_35 : decode xS_leaseAndRest.2.1 35 = .ok (.goto 4, 3) := by decide +kernel
theorem dS_leaseAndRest_38 : decode xS_leaseAndRest.2.1 38 = .ok (.iconst 0, 1) := by decide +kernel
theorem dS_leaseAndRest_39 : decode xS_leaseAndRest.2.1 39 = .ok (.ireturn, 1) := by decide +kernel
def xS_requestArrives : mt_X := (⟨"LeasedPages$Server", "requestArrives", "(LLeasedPages$Request;)V"⟩, prog_9_method_6_code, 3, (Option.none : Option FieldType))
theorem dS_requestArrives_0 : decode xS_requestArrives.2.1 0 = .ok (.aload_n 0, 1) := by decide +kernel
theorem dS_requestArrives_1 : decode xS_requestArrives.2.1 1 = .ok (.getfield 34, 3) := by decide +kernel
theorem dS_requestArrives_4 : decode xS_requestArrives.2.1 4 = .ok (.ifCond .ne 4, 3) := by decide +kernel
theorem dS_requestArrives_7 : decode xS_requestArrives.2.1 7 = .ok (.return_, 1) := by decide +kernel
theorem dS_requestArrives_8 : decode xS_requestArrives.2.1 8 = .ok (.aload_n 0, 1) := by decide +kernel
theorem dS_requestArrives_9 : decode xS_requestArrives.2.1 9 = .ok (.getfield 18, 3) := by decide +kernel
theorem dS_requestArrives_12 : decode xS_requestArrives.2.1 12 = .ok (.aload_n 1, 1) := by decide +kernel
theorem dS_requestArrives_13 : decode xS_requestArrives.2.1 13 = .ok (.getfield 75, 3) := by decide +kernel
theorem dS_requestArrives_16 : decode xS_requestArrives.2.1 16 = .ok (.aaload, 1) := by decide +kernel
theorem dS_requestArrives_17 : decode xS_requestArrives.2.1 17 = .ok (.astore_n 2, 1) := by decide +kernel
theorem dS_requestArrives_18 : decode xS_requestArrives.2.1 18 = .ok (.aload_n 2, 1) := by decide +kernel
theorem dS_requestArrives_19 : decode xS_requestArrives.2.1 19 = .ok (.ifnull 26, 3) := by decide +kernel
theorem dS_requestArrives_22 : decode xS_requestArrives.2.1 22 = .ok (.aload_n 1, 1) := by decide +kernel
theorem dS_requestArrives_23 : decode xS_requestArrives.2.1 23 = .ok (.getfield 80, 3) := by decide +kernel
theorem dS_requestArrives_26 : decode xS_requestArrives.2.1 26 = .ok (.aload_n 2, 1) := by decide +kernel
theorem dS_requestArrives_27 : decode xS_requestArrives.2.1 27 = .ok (.getfield 83, 3) := by decide +kernel
theorem dS_requestArrives_30 : decode xS_requestArrives.2.1 30 = .ok (.if_icmp .ne 15, 3) := by decide +kernel
theorem dS_requestArrives_33 : decode xS_requestArrives.2.1 33 = .ok (.aload_n 0, 1) := by decide +kernel
theorem dS_requestArrives_34 : decode xS_requestArrives.2.1 34 = .ok (.getfield 48, 3) := by decide +kernel
theorem dS_requestArrives_37 : decode xS_requestArrives.2.1 37 = .ok (.aload_n 2, 1) := by decide +kernel
theorem dS_requestArrives_38 : decode xS_requestArrives.2.1 38 = .ok (.invokevirtual 84, 3) := by decide +kernel
theorem dS_requestArrives_41 : decode xS_requestArrives.2.1 41 = .ok (.pop, 1) := by decide +kernel
theorem dS_requestArrives_42 : decode xS_requestArrives.2.1 42 = .ok (.goto 71, 3) := by decide +kernel
theorem dS_requestArrives_45 : decode xS_requestArrives.2.1 45 = .ok (.aload_n 2, 1) := by decide +kernel
theorem dS_requestArrives_46 : decode xS_requestArrives.2.1 46 = .ok (.ifnull 14, 3) := by decide +kernel
theorem dS_requestArrives_49 : decode xS_requestArrives.2.1 49 = .ok (.aload_n 1, 1) := by decide +kernel
theorem dS_requestArrives_50 : decode xS_requestArrives.2.1 50 = .ok (.getfield 80, 3) := by decide +kernel
theorem dS_requestArrives_53 : decode xS_requestArrives.2.1 53 = .ok (.aload_n 2, 1) := by decide +kernel
theorem dS_requestArrives_54 : decode xS_requestArrives.2.1 54 = .ok (.getfield 83, 3) := by decide +kernel
theorem dS_requestArrives_57 : decode xS_requestArrives.2.1 57 = .ok (.if_icmp .le 56, 3) := by decide +kernel
theorem dS_requestArrives_60 : decode xS_requestArrives.2.1 60 = .ok (.aload_n 0, 1) := by decide +kernel
theorem dS_requestArrives_61 : decode xS_requestArrives.2.1 61 = .ok (.aload_n 1, 1) := by decide +kernel
theorem dS_requestArrives_62 : decode xS_requestArrives.2.1 62 = .ok (.invokevirtual 90, 3) := by decide +kernel
theorem dS_requestArrives_65 : decode xS_requestArrives.2.1 65 = .ok (.ifCond .ne 48, 3) := by decide +kernel
theorem dS_requestArrives_68 : decode xS_requestArrives.2.1 68 = .ok (.aload_n 0, 1) := by decide +kernel
theorem dS_requestArrives_69 : decode xS_requestArrives.2.1 69 = .ok (.aload_n 1, 1) := by decide +kernel
theorem dS_requestArrives_70 : decode xS_requestArrives.2.1 70 = .ok (.getfield 75, 3) := by decide +kernel
theorem dS_requestArrives_73 : decode xS_requestArrives.2.1 73 = .ok (.invokevirtual 94, 3) := by decide +kernel
theorem dS_requestArrives_76 : decode xS_requestArrives.2.1 76 = .ok (.aload_n 1, 1) := by decide +kernel
theorem dS_requestArrives_77 : decode xS_requestArrives.2.1 77 = .ok (.getfield 98, 3) := by decide +kernel
theorem dS_requestArrives_80 : decode xS_requestArrives.2.1 80 = .ok (.iconst 1, 1) := by decide +kernel
theorem dS_requestArrives_81 : decode xS_requestArrives.2.1 81 = .ok (.if_icmp .ne 11, 3) := by decide +kernel
theorem dS_requestArrives_84 : decode xS_requestArrives.2.1 84 = .ok (.aload_n 0, 1) := by decide +kernel
theorem dS_requestArrives_85 : decode xS_requestArrives.2.1 85 = .ok (.aload_n 1, 1) := by decide +kernel
theorem dS_requestArrives_86 : decode xS_requestArrives.2.1 86 = .ok (.invokevirtual 101, 3) := by decide +kernel
theorem dS_requestArrives_89 : decode xS_requestArrives.2.1 89 = .ok (.goto 24, 3) := by decide +kernel
theorem dS_requestArrives_92 : decode xS_requestArrives.2.1 92 = .ok (.aload_n 1, 1) := by decide +kernel
theorem dS_requestArrives_93 : decode xS_requestArrives.2.1 93 = .ok (.getfield 98, 3) := by decide +kernel
theorem dS_requestArrives_96 : decode xS_requestArrives.2.1 96 = .ok (.iconst 2, 1) := by decide +kernel
theorem dS_requestArrives_97 : decode xS_requestArrives.2.1 97 = .ok (.if_icmp .ne 11, 3) := by decide +kernel
theorem dS_requestArrives_100 : decode xS_requestArrives.2.1 100 = .ok (.aload_n 0, 1) := by decide +kernel
theorem dS_requestArrives_101 : decode xS_requestArrives.2.1 101 = .ok (.aload_n 1, 1) := by decide +kernel
theorem dS_requestArrives_102 : decode xS_requestArrives.2.1 102 = .ok (.invokevirtual 105, 3) := by decide +kernel
theorem dS_requestArrives_105 : decode xS_requestArrives.2.1 105 = .ok (.goto 8, 3) := by decide +kernel
theorem dS_requestArrives_108 : decode xS_requestArrives.2.1 108 = .ok (.aload_n 0, 1) := by decide +kernel
theorem dS_requestArrives_109 : decode xS_requestArrives.2.1 109 = .ok (.aload_n 1, 1) := by decide +kernel
theorem dS_requestArrives_110 : decode xS_requestArrives.2.1 110 = .ok (.invokevirtual 108, 3) := by decide +kernel
theorem dS_requestArrives_113 : decode xS_requestArrives.2.1 113 = .ok (.aload_n 0, 1) := by decide +kernel
theorem dS_requestArrives_114 : decode xS_requestArrives.2.1 114 = .ok (.invokevirtual 68, 3) := by decide +kernel
theorem dS_requestArrives_117 : decode xS_requestArrives.2.1 117 = .ok (.return_, 1) := by decide +kernel
def xS_serveLease : mt_X := (⟨"LeasedPages$Server", "serveLease", "(LLeasedPages$Request;)V"⟩, prog_9_method_7_code, 6, (Option.none : Option FieldType))
theorem dS_serveLease_0 : decode xS_serveLease.2.1 0 = .ok (.aload_n 0, 1) := by decide +kernel
theorem dS_serveLease_1 : decode xS_serveLease.2.1 1 = .ok (.getfield 30, 3) := by decide +kernel
theorem dS_serveLease_4 : decode xS_serveLease.2.1 4 = .ok (.aload_n 1, 1) := by decide +kernel
theorem dS_serveLease_5 : decode xS_serveLease.2.1 5 = .ok (.getfield 111, 3) := by decide +kernel
theorem dS_serveLease_8 : decode xS_serveLease.2.1 8 = .ok (.aaload, 1) := by decide +kernel
theorem dS_serveLease_9 : decode xS_serveLease.2.1 9 = .ok (.astore_n 2, 1) := by decide +kernel
theorem dS_serveLease_10 : decode xS_serveLease.2.1 10 = .ok (.aload_n 2, 1) := by decide +kernel
theorem dS_serveLease_11 : decode xS_serveLease.2.1 11 = .ok (.getfield 114, 3) := by decide +kernel
theorem dS_serveLease_14 : decode xS_serveLease.2.1 14 = .ok (.ifCond .le 7, 3) := by decide +kernel
theorem dS_serveLease_17 : decode xS_serveLease.2.1 17 = .ok (.iconst 1, 1) := by decide +kernel
theorem dS_serveLease_18 : decode xS_serveLease.2.1 18 = .ok (.goto 4, 3) := by decide +kernel
theorem dS_serveLease_21 : decode xS_serveLease.2.1 21 = .ok (.iconst 0, 1) := by decide +kernel
theorem dS_serveLease_22 : decode xS_serveLease.2.1 22 = .ok (.istore_n 3, 1) := by decide +kernel
theorem dS_serveLease_23 : decode xS_serveLease.2.1 23 = .ok (.aload_n 0, 1) := by decide +kernel
theorem dS_serveLease_24 : decode xS_serveLease.2.1 24 = .ok (.aload_n 1, 1) := by decide +kernel
theorem dS_serveLease_25 : decode xS_serveLease.2.1 25 = .ok (.getfield 75, 3) := by decide +kernel
theorem dS_serveLease_28 : decode xS_serveLease.2.1 28 = .ok (.aload_n 1, 1) := by decide +kernel
theorem dS_serveLease_29 : decode xS_serveLease.2.1 29 = .ok (.getfield 111, 3) := by decide +kernel
theorem dS_serveLease_32 : decode xS_serveLease.2.1 32 = .ok (.invokevirtual 71, 3) := by decide +kernel
theorem dS_serveLease_35 : decode xS_serveLease.2.1 35 = .ok (.istore 4, 2) := by decide +kernel
theorem dS_serveLease_37 : decode xS_serveLease.2.1 37 = .ok (.iload 4, 2) := by decide +kernel
theorem dS_serveLease_39 : decode xS_serveLease.2.1 39 = .ok (.ifCond .eq 23, 3) := by decide +kernel
theorem dS_serveLease_42 : decode xS_serveLease.2.1 42 = .ok (.iload_n 3, 1) := by decide +kernel
theorem dS_serveLease_43 : decode xS_serveLease.2.1 43 = .ok (.ifCond .eq 19, 3) := by decide +kernel
theorem dS_serveLease_46 : decode xS_serveLease.2.1 46 = .ok (.aload_n 0, 1) := by decide +kernel
theorem dS_serveLease_47 : decode xS_serveLease.2.1 47 = .ok (.new 16, 3) := by decide +kernel
theorem dS_serveLease_50 : decode xS_serveLease.2.1 50 = .ok (.dup, 1) := by decide +kernel
theorem dS_serveLease_51 : decode xS_serveLease.2.1 51 = .ok (.iconst 5, 1) := by decide +kernel
theorem dS_serveLease_52 : decode xS_serveLease.2.1 52 = .ok (.aload_n 1, 1) := by decide +kernel
theorem dS_serveLease_53 : decode xS_serveLease.2.1 53 = .ok (.iconst 0, 1) := by decide +kernel
theorem dS_serveLease_54 : decode xS_serveLease.2.1 54 = .ok (.aconst_null, 1) := by decide +kernel
theorem dS_serveLease_55 : decode xS_serveLease.2.1 55 = .ok (.invokespecial 117, 3) := by decide +kernel
theorem dS_serveLease_58 : decode xS_serveLease.2.1 58 = .ok (.invokevirtual 120, 3) := by decide +kernel
theorem dS_serveLease_61 : decode xS_serveLease.2.1 61 = .ok (.return_, 1) := by decide +kernel
theorem dS_serveLease_62 : decode xS_serveLease.2.1 62 = .ok (.aload_n 0, 1) := by decide +kernel
theorem dS_serveLease_63 : decode xS_serveLease.2.1 63 = .ok (.getfield 42, 3) := by decide +kernel
theorem dS_serveLease_66 : decode xS_serveLease.2.1 66 = .ok (.ifCond .eq 10, 3) := by decide +kernel
theorem dS_serveLease_69 : decode xS_serveLease.2.1 69 = .ok (.aload_n 1, 1) := by decide +kernel
theorem dS_serveLease_70 : decode xS_serveLease.2.1 70 = .ok (.getfield 124, 3) := by decide +kernel
theorem dS_serveLease_73 : decode xS_serveLease.2.1 73 = .ok (.goto 17, 3) := by decide +kernel
theorem dS_serveLease_76 : decode xS_serveLease.2.1 76 = .ok (.iload 4, 2) := by decide +kernel
theorem dS_serveLease_78 : decode xS_serveLease.2.1 78 = .ok (.ifCond .ne 7, 3) := by decide +kernel
theorem dS_serveLease_81 : decode xS_serveLease.2.1 81 = .ok (.iload_n 3, 1) := by decide +kernel
theorem dS_serveLease_82 : decode xS_serveLease.2.1 82 = .ok (.ifCond .ne 7, 3) := by decide +kernel
theorem dS_serveLease_85 : decode xS_serveLease.2.1 85 = .ok (.iconst 1, 1) := by decide +kernel
theorem dS_serveLease_86 : decode xS_serveLease.2.1 86 = .ok (.goto 4, 3) := by decide +kernel
theorem dS_serveLease_89 : decode xS_serveLease.2.1 89 = .ok (.iconst 0, 1) := by decide +kernel
theorem dS_serveLease_90 : decode xS_serveLease.2.1 90 = .ok (.istore 5, 2) := by decide +kernel
theorem dS_serveLease_92 : decode xS_serveLease.2.1 92 = .ok (.iload 5, 2) := by decide +kernel
theorem dS_serveLease_94 : decode xS_serveLease.2.1 94 = .ok (.ifCond .eq 19, 3) := by decide +kernel
theorem dS_serveLease_97 : decode xS_serveLease.2.1 97 = .ok (.aload_n 0, 1) := by decide +kernel
theorem dS_serveLease_98 : decode xS_serveLease.2.1 98 = .ok (.aload_n 1, 1) := by decide +kernel
theorem dS_serveLease_99 : decode xS_serveLease.2.1 99 = .ok (.invokevirtual 127, 3) := by decide +kernel
theorem dS_serveLease_102 : decode xS_serveLease.2.1 102 = .ok (.ifCond .ne 11, 3) := by decide +kernel
theorem dS_serveLease_105 : decode xS_serveLease.2.1 105 = .ok (.aload_n 0, 1) := by decide +kernel
theorem dS_serveLease_106 : decode xS_serveLease.2.1 106 = .ok (.aload_n 1, 1) := by decide +kernel
theorem dS_serveLease_107 : decode xS_serveLease.2.1 107 = .ok (.invokevirtual 130, 3) := by decide +kernel
theorem dS_serveLease_110 : decode xS_serveLease.2.1 110 = .ok (.goto 13, 3) := by decide +kernel
theorem dS_serveLease_113 : decode xS_serveLease.2.1 113 = .ok (.aload_n 2, 1) := by decide +kernel
theorem dS_serveLease_114 : decode xS_serveLease.2.1 114 = .ok (.aload_n 1, 1) := by decide +kernel
theorem dS_serveLease_115 : decode xS_serveLease.2.1 115 = .ok (.invokevirtual 133, 3) := by decide +kernel
theorem dS_serveLease_118 : decode xS_serveLease.2.1 118 = .ok (.aload_n 0, 1) := by decide +kernel
theorem dS_serveLease_119 : decode xS_serveLease.2.1 119 = .ok (.aload_n 1, 1) := by decide +kernel
theorem dS_serveLease_120 : decode xS_serveLease.2.1 120 = .ok (.invokevirtual 136, 3) := by decide +kernel
theorem dS_serveLease_123 : decode xS_serveLease.2.1 123 = .ok (.return_, 1) := by decide +kernel
def xS_serveStore : mt_X := (⟨"LeasedPages$Server", "serveStore", "(LLeasedPages$Request;)V"⟩, prog_9_method_8_code, 3, (Option.none : Option FieldType))
theorem dS_serveStore_0 : decode xS_serveStore.2.1 0 = .ok (.aload_n 0, 1) := by decide +kernel
theorem dS_serveStore_1 : decode xS_serveStore.2.1 1 = .ok (.getfield 22, 3) := by decide +kernel
theorem dS_serveStore_4 : decode xS_serveStore.2.1 4 = .ok (.aload_n 1, 1) := by decide +kernel
theorem dS_serveStore_5 : decode xS_serveStore.2.1 5 = .ok (.getfield 75, 3) := by decide +kernel
theorem dS_serveStore_8 : decode xS_serveStore.2.1 8 = .ok (.aaload, 1) := by decide +kernel
theorem dS_serveStore_9 : decode xS_serveStore.2.1 9 = .ok (.aload_n 1, 1) := by decide +kernel
theorem dS_serveStore_10 : decode xS_serveStore.2.1 10 = .ok (.getfield 111, 3) := by decide +kernel
theorem dS_serveStore_13 : decode xS_serveStore.2.1 13 = .ok (.iaload, 1) := by decide +kernel
theorem dS_serveStore_14 : decode xS_serveStore.2.1 14 = .ok (.iconst 2, 1) := by decide +kernel
theorem dS_serveStore_15 : decode xS_serveStore.2.1 15 = .ok (.if_icmp .ne 7, 3) := by decide +kernel
theorem dS_serveStore_18 : decode xS_serveStore.2.1 18 = .ok (.iconst 1, 1) := by decide +kernel
theorem dS_serveStore_19 : decode xS_serveStore.2.1 19 = .ok (.goto 4, 3) := by decide +kernel
theorem dS_serveStore_22 : decode xS_serveStore.2.1 22 = .ok (.iconst 0, 1) := by decide +kernel
theorem dS_serveStore_23 : decode xS_serveStore.2.1 23 = .ok (.istore_n 2, 1) := by decide +kernel
theorem dS_serveStore_24 : decode xS_serveStore.2.1 24 = .ok (.iload_n 2, 1) := by decide +kernel
theorem dS_serveStore_25 : decode xS_serveStore.2.1 25 = .ok (.ifCond .eq 21, 3) := by decide +kernel
theorem dS_serveStore_28 : decode xS_serveStore.2.1 28 = .ok (.aload_n 0, 1) := by decide +kernel
theorem dS_serveStore_29 : decode xS_serveStore.2.1 29 = .ok (.getfield 11, 3) := by decide +kernel
theorem dS_serveStore_32 : decode xS_serveStore.2.1 32 = .ok (.aload_n 1, 1) := by decide +kernel
theorem dS_serveStore_33 : decode xS_serveStore.2.1 33 = .ok (.getfield 111, 3) := by decide +kernel
theorem dS_serveStore_36 : decode xS_serveStore.2.1 36 = .ok (.aaload, 1) := by decide +kernel
theorem dS_serveStore_37 : decode xS_serveStore.2.1 37 = .ok (.aload_n 1, 1) := by decide +kernel
theorem dS_serveStore_38 : decode xS_serveStore.2.1 38 = .ok (.getfield 139, 3) := by decide +kernel
theorem dS_serveStore_41 : decode xS_serveStore.2.1 41 = .ok (.aload_n 1, 1) := by decide +kernel
theorem dS_serveStore_42 : decode xS_serveStore.2.1 42 = .ok (.getfield 142, 3) := by decide +kernel
theorem dS_serveStore_45 : decode xS_serveStore.2.1 45 = .ok (.iastore, 1) := by decide +kernel
theorem dS_serveStore_46 : decode xS_serveStore.2.1 46 = .ok (.aload_n 0, 1) := by decide +kernel
theorem dS_serveStore_47 : decode xS_serveStore.2.1 47 = .ok (.new 16, 3) := by decide +kernel
theorem dS_serveStore_50 : decode xS_serveStore.2.1 50 = .ok (.dup, 1) := by decide +kernel
theorem dS_serveStore_51 : decode xS_serveStore.2.1 51 = .ok (.iload_n 2, 1) := by decide +kernel
theorem dS_serveStore_52 : decode xS_serveStore.2.1 52 = .ok (.ifCond .eq 8, 3) := by decide +kernel
theorem dS_serveStore_55 : decode xS_serveStore.2.1 55 = .ok (.bipush 6, 2) := by decide +kernel
theorem dS_serveStore_57 : decode xS_serveStore.2.1 57 = .ok (.goto 5, 3) := by decide +kernel
theorem dS_serveStore_60 : decode xS_serveStore.2.1 60 = .ok (.bipush 7, 2) := by decide +kernel
theorem dS_serveStore_62 : decode xS_serveStore.2.1 62 = .ok (.aload_n 1, 1) := by decide +kernel
theorem dS_serveStore_63 : decode xS_serveStore.2.1 63 = .ok (.iconst 0, 1) := by decide +kernel
theorem dS_serveStore_64 : decode xS_serveStore.2.1 64 = .ok (.aconst_null, 1) := by decide +kernel
theorem dS_serveStore_65 : decode xS_serveStore.2.1 65 = .ok (.invokespecial 117, 3) := by decide +kernel
theorem dS_serveStore_68 : decode xS_serveStore.2.1 68 = .ok (.invokevirtual 120, 3) := by decide +kernel
theorem dS_serveStore_71 : decode xS_serveStore.2.1 71 = .ok (.return_, 1) := by decide +kernel
def xS_serveRelease : mt_X := (⟨"LeasedPages$Server", "serveRelease", "(LLeasedPages$Request;)V"⟩, prog_9_method_9_code, 2, (Option.none : Option FieldType))
theorem dS_serveRelease_0 : decode xS_serveRelease.2.1 0 = .ok (.aload_n 0, 1) := by decide +kernel
theorem dS_serveRelease_1 : decode xS_serveRelease.2.1 1 = .ok (.getfield 22, 3) := by decide +kernel
theorem dS_serveRelease_4 : decode xS_serveRelease.2.1 4 = .ok (.aload_n 1, 1) := by decide +kernel
theorem dS_serveRelease_5 : decode xS_serveRelease.2.1 5 = .ok (.getfield 75, 3) := by decide +kernel
theorem dS_serveRelease_8 : decode xS_serveRelease.2.1 8 = .ok (.aaload, 1) := by decide +kernel
theorem dS_serveRelease_9 : decode xS_serveRelease.2.1 9 = .ok (.aload_n 1, 1) := by decide +kernel
theorem dS_serveRelease_10 : decode xS_serveRelease.2.1 10 = .ok (.getfield 111, 3) := by decide +kernel
theorem dS_serveRelease_13 : decode xS_serveRelease.2.1 13 = .ok (.iconst 0, 1) := by decide +kernel
theorem dS_serveRelease_14 : decode xS_serveRelease.2.1 14 = .ok (.iastore, 1) := by decide +kernel
theorem dS_serveRelease_15 : decode xS_serveRelease.2.1 15 = .ok (.aload_n 0, 1) := by decide +kernel
theorem dS_serveRelease_16 : decode xS_serveRelease.2.1 16 = .ok (.new 16, 3) := by decide +kernel
theorem dS_serveRelease_19 : decode xS_serveRelease.2.1 19 = .ok (.dup, 1) := by decide +kernel
theorem dS_serveRelease_20 : decode xS_serveRelease.2.1 20 = .ok (.bipush 6, 2) := by decide +kernel
theorem dS_serveRelease_22 : decode xS_serveRelease.2.1 22 = .ok (.aload_n 1, 1) := by decide +kernel
theorem dS_serveRelease_23 : decode xS_serveRelease.2.1 23 = .ok (.iconst 0, 1) := by decide +kernel
theorem dS_serveRelease_24 : decode xS_serveRelease.2.1 24 = .ok (.aconst_null, 1) := by decide +kernel
theorem dS_serveRelease_25 : decode xS_serveRelease.2.1 25 = .ok (.invokespecial 117, 3) := by decide +kernel
theorem dS_serveRelease_28 : decode xS_serveRelease.2.1 28 = .ok (.invokevirtual 120, 3) := by decide +kernel
theorem dS_serveRelease_31 : decode xS_serveRelease.2.1 31 = .ok (.return_, 1) := by decide +kernel
def xS_grant : mt_X := (⟨"LeasedPages$Server", "grant", "(LLeasedPages$Request;)V"⟩, prog_9_method_10_code, 5, (Option.none : Option FieldType))
theorem dS_grant_0 : decode xS_grant.2.1 0 = .ok (.aload_n 1, 1) := by decide +kernel
theorem dS_grant_1 : decode xS_grant.2.1 1 = .ok (.getfield 75, 3) := by decide +kernel
theorem dS_grant_4 : decode xS_grant.2.1 4 = .ok (.istore_n 2, 1) := by decide +kernel
theorem dS_grant_5 : decode xS_grant.2.1 5 = .ok (.aload_n 1, 1) := by decide +kernel
theorem dS_grant_6 : decode xS_grant.2.1 6 = .ok (.getfield 111, 3) := by decide +kernel
theorem dS_grant_9 : decode xS_grant.2.1 9 = .ok (.istore_n 3, 1) := by decide +kernel
theorem dS_grant_10 : decode xS_grant.2.1 10 = .ok (.aload_n 0, 1) := by decide +kernel
theorem dS_grant_11 : decode xS_grant.2.1 11 = .ok (.iload_n 2, 1) := by decide +kernel
theorem dS_grant_12 : decode xS_grant.2.1 12 = .ok (.iload_n 3, 1) := by decide +kernel
theorem dS_grant_13 : decode xS_grant.2.1 13 = .ok (.invokevirtual 71, 3) := by decide +kernel
theorem dS_grant_16 : decode xS_grant.2.1 16 = .ok (.ifCond .ne 10, 3) := by decide +kernel
theorem dS_grant_19 : decode xS_grant.2.1 19 = .ok (.aload_n 0, 1) := by decide +kernel
theorem dS_grant_20 : decode xS_grant.2.1 20 = .ok (.getfield 42, 3) := by decide +kernel
theorem dS_grant_23 : decode xS_grant.2.1 23 = .ok (.ifCond .eq 7, 3) := by decide +kernel
theorem dS_grant_26 : decode xS_grant.2.1 26 = .ok (.iconst 1, 1) := by decide +kernel
theorem dS_grant_27 : decode xS_grant.2.1 27 = .ok (.goto 4, 3) := by decide +kernel
theorem dS_grant_30 : decode xS_grant.2.1 30 = .ok (.iconst 0, 1) := by decide +kernel
theorem dS_grant_31 : decode xS_grant.2.1 31 = .ok (.istore 4, 2) := by decide +kernel
theorem dS_grant_33 : decode xS_grant.2.1 33 = .ok (.aload_n 0, 1) := by decide +kernel
theorem dS_grant_34 : decode xS_grant.2.1 34 = .ok (.getfield 22, 3) := by decide +kernel
theorem dS_grant_37 : decode xS_grant.2.1 37 = .ok (.iload_n 2, 1) := by decide +kernel
theorem dS_grant_38 : decode xS_grant.2.1 38 = .ok (.aaload, 1) := by decide +kernel
theorem dS_grant_39 : decode xS_grant.2.1 39 = .ok (.iload_n 3, 1) := by decide +kernel
theorem dS_grant_40 : decode xS_grant.2.1 40 = .ok (.aload_n 1, 1) := by decide +kernel
theorem dS_grant_41 : decode xS_grant.2.1 41 = .ok (.getfield 145, 3) := by decide +kernel
theorem dS_grant_44 : decode xS_grant.2.1 44 = .ok (.iastore, 1) := by decide +kernel
theorem dS_grant_45 : decode xS_grant.2.1 45 = .ok (.aload_n 0, 1) := by decide +kernel
theorem dS_grant_46 : decode xS_grant.2.1 46 = .ok (.getfield 25, 3) := by decide +kernel
theorem dS_grant_49 : decode xS_grant.2.1 49 = .ok (.iload_n 2, 1) := by decide +kernel
theorem dS_grant_50 : decode xS_grant.2.1 50 = .ok (.aaload, 1) := by decide +kernel
theorem dS_grant_51 : decode xS_grant.2.1 51 = .ok (.iload_n 3, 1) := by decide +kernel
theorem dS_grant_52 : decode xS_grant.2.1 52 = .ok (.aload_n 0, 1) := by decide +kernel
theorem dS_grant_53 : decode xS_grant.2.1 53 = .ok (.getfield 38, 3) := by decide +kernel
theorem dS_grant_56 : decode xS_grant.2.1 56 = .ok (.aload_n 0, 1) := by decide +kernel
theorem dS_grant_57 : decode xS_grant.2.1 57 = .ok (.getfield 52, 3) := by decide +kernel
theorem dS_grant_60 : decode xS_grant.2.1 60 = .ok (.iadd, 1) := by decide +kernel
theorem dS_grant_61 : decode xS_grant.2.1 61 = .ok (.iastore, 1) := by decide +kernel
theorem dS_grant_62 : decode xS_grant.2.1 62 = .ok (.aload_n 0, 1) := by decide +kernel
theorem dS_grant_63 : decode xS_grant.2.1 63 = .ok (.new 16, 3) := by decide +kernel
theorem dS_grant_66 : decode xS_grant.2.1 66 = .ok (.dup, 1) := by decide +kernel
theorem dS_grant_67 : decode xS_grant.2.1 67 = .ok (.iconst 4, 1) := by decide +kernel
theorem dS_grant_68 : decode xS_grant.2.1 68 = .ok (.aload_n 1, 1) := by decide +kernel
theorem dS_grant_69 : decode xS_grant.2.1 69 = .ok (.iload 4, 2) := by decide +kernel
theorem dS_grant_71 : decode xS_grant.2.1 71 = .ok (.aload_n 0, 1) := by decide +kernel
theorem dS_grant_72 : decode xS_grant.2.1 72 = .ok (.getfield 11, 3) := by decide +kernel
theorem dS_grant_75 : decode xS_grant.2.1 75 = .ok (.iload_n 3, 1) := by decide +kernel
theorem dS_grant_76 : decode xS_grant.2.1 76 = .ok (.aaload, 1) := by decide +kernel
theorem dS_grant_77 : decode xS_grant.2.1 77 = .ok (.invokevirtual 148, 3) := by decide +kernel
theorem dS_grant_80 : decode xS_grant.2.1 80 = .ok (.checkcast 149, 3) := by decide +kernel
theorem dS_grant_83 : decode xS_grant.2.1 83 = .ok (.invokespecial 117, 3) := by decide +kernel
theorem dS_grant_86 : decode xS_grant.2.1 86 = .ok (.invokevirtual 120, 3) := by decide +kernel
theorem dS_grant_89 : decode xS_grant.2.1 89 = .ok (.return_, 1) := by decide +kernel
def xS_finish : mt_X := (⟨"LeasedPages$Server", "finish", "(LLeasedPages$Reply;)V"⟩, prog_9_method_11_code, 2, (Option.none : Option FieldType))
theorem dS_finish_0 : decode xS_finish.2.1 0 = .ok (.aload_n 0, 1) := by decide +kernel
theorem dS_finish_1 : decode xS_finish.2.1 1 = .ok (.getfield 18, 3) := by decide +kernel
theorem dS_finish_4 : decode xS_finish.2.1 4 = .ok (.aload_n 1, 1) := by decide +kernel
theorem dS_finish_5 : decode xS_finish.2.1 5 = .ok (.getfield 154, 3) := by decide +kernel
theorem dS_finish_8 : decode xS_finish.2.1 8 = .ok (.aload_n 1, 1) := by decide +kernel
theorem dS_finish_9 : decode xS_finish.2.1 9 = .ok (.aastore, 1) := by decide +kernel
theorem dS_finish_10 : decode xS_finish.2.1 10 = .ok (.aload_n 0, 1) := by decide +kernel
theorem dS_finish_11 : decode xS_finish.2.1 11 = .ok (.getfield 48, 3) := by decide +kernel
theorem dS_finish_14 : decode xS_finish.2.1 14 = .ok (.aload_n 1, 1) := by decide +kernel
theorem dS_finish_15 : decode xS_finish.2.1 15 = .ok (.invokevirtual 84, 3) := by decide +kernel
theorem dS_finish_18 : decode xS_finish.2.1 18 = .ok (.pop, 1) := by decide +kernel
theorem dS_finish_19 : decode xS_finish.2.1 19 = .ok (.return_, 1) := by decide +kernel
def xS_recallConflicting : mt_X := (⟨"LeasedPages$Server", "recallConflicting", "(LLeasedPages$Request;)V"⟩, prog_9_method_12_code, 3, (Option.none : Option FieldType))
theorem dS_recallConflicting_0 : decode xS_recallConflicting.2.1 0 = .ok (.iconst 0, 1) := by decide +kernel
theorem dS_recallConflicting_1 : decode xS_recallConflicting.2.1 1 = .ok (.istore_n 2, 1) := by decide +kernel
theorem dS_recallConflicting_2 : decode xS_recallConflicting.2.1 2 = .ok (.iload_n 2, 1) := by decide +kernel
theorem dS_recallConflicting_3 : decode xS_recallConflicting.2.1 3 = .ok (.iconst 3, 1) := by decide +kernel
theorem dS_recallConflicting_4 : decode xS_recallConflicting.2.1 4 = .ok (.if_icmp .ge 41, 3) := by decide +kernel
theorem dS_recallConflicting_7 : decode xS_recallConflicting.2.1 7 = .ok (.aload_n 0, 1) := by decide +kernel
theorem dS_recallConflicting_8 : decode xS_recallConflicting.2.1 8 = .ok (.aload_n 1, 1) := by decide +kernel
theorem dS_recallConflicting_9 : decode xS_recallConflicting.2.1 9 = .ok (.iload_n 2, 1) := by decide +kernel
theorem dS_recallConflicting_10 : decode xS_recallConflicting.2.1 10 = .ok (.invokevirtual 155, 3) := by decide +kernel
theorem dS_recallConflicting_13 : decode xS_recallConflicting.2.1 13 = .ok (.ifCond .eq 26, 3) := by decide +kernel
theorem dS_recallConflicting_16 : decode xS_recallConflicting.2.1 16 = .ok (.aload_n 0, 1) := by decide +kernel
theorem dS_recallConflicting_17 : decode xS_recallConflicting.2.1 17 = .ok (.getfield 48, 3) := by decide +kernel
theorem dS_recallConflicting_20 : decode xS_recallConflicting.2.1 20 = .ok (.new 159, 3) := by decide +kernel
theorem dS_recallConflicting_23 : decode xS_recallConflicting.2.1 23 = .ok (.dup, 1) := by decide +kernel
theorem dS_recallConflicting_24 : decode xS_recallConflicting.2.1 24 = .ok (.bipush 8, 2) := by decide +kernel
theorem dS_recallConflicting_26 : decode xS_recallConflicting.2.1 26 = .ok (.iload_n 2, 1) := by decide +kernel
theorem dS_recallConflicting_27 : decode xS_recallConflicting.2.1 27 = .ok (.aload_n 1, 1) := by decide +kernel
theorem dS_recallConflicting_28 : decode xS_recallConflicting.2.1 28 = .ok (.getfield 111, 3) := by decide +kernel
theorem dS_recallConflicting_31 : decode xS_recallConflicting.2.1 31 = .ok (.iconst 0, 1) := by decide +kernel
theorem dS_recallConflicting_32 : decode xS_recallConflicting.2.1 32 = .ok (.invokespecial 161, 3) := by decide +kernel
theorem dS_recallConflicting_35 : decode xS_recallConflicting.2.1 35 = .ok (.invokevirtual 84, 3) := by decide +kernel
theorem dS_recallConflicting_38 : decode xS_recallConflicting.2.1 38 = .ok (.pop, 1) := by decide +kernel
theorem dS_recallConflicting_39 : decode xS_recallConflicting.2.1 39 = .ok (.iinc 2 1, 3) := by decide +kernel
theorem dS_recallConflicting_42 : decode xS_recallConflicting.2.1 42 = .ok (.goto (-40), 3) := by decide +kernel
theorem dS_recallConflicting_45 : decode xS_recallConflicting.2.1 45 = .ok (.return_, 1) := by decide +kernel
def xS_goThroughLines : mt_X := (⟨"LeasedPages$Server", "goThroughLines", "()V"⟩, prog_9_method_13_code, 4, (Option.none : Option FieldType))
theorem dS_goThroughLines_0 : decode xS_goThroughLines.2.1 0 = .ok (.aload_n 0, 1) := by decide +kernel
theorem dS_goThroughLines_1 : decode xS_goThroughLines.2.1 1 = .ok (.getfield 42, 3) := by decide +kernel
theorem dS_goThroughLines_4 : decode xS_goThroughLines.2.1 4 = .ok (.ifCond .eq 4, 3) := by decide +kernel
theorem dS_goThroughLines_7 : decode xS_goThroughLines.2.1 7 = .ok (.return_, 1) := by decide +kernel
theorem dS_goThroughLines_8 : decode xS_goThroughLines.2.1 8 = .ok (.iconst 0, 1) := by decide +kernel
theorem dS_goThroughLines_9 : decode xS_goThroughLines.2.1 9 = .ok (.istore_n 1, 1) := by decide +kernel
theorem dS_goThroughLines_10 : decode xS_goThroughLines.2.1 10 = .ok (.iload_n 1, 1) := by decide +kernel
theorem dS_goThroughLines_11 : decode xS_goThroughLines.2.1 11 = .ok (.iconst 4, 1) := by decide +kernel
theorem dS_goThroughLines_12 : decode xS_goThroughLines.2.1 12 = .ok (.if_icmp .ge 65, 3) := by decide +kernel
theorem dS_goThroughLines_15 : decode xS_goThroughLines.2.1 15 = .ok (.iconst 0, 1) := by decide +kernel
theorem dS_goThroughLines_16 : decode xS_goThroughLines.2.1 16 = .ok (.istore_n 2, 1) := by decide +kernel
theorem dS_goThroughLines_17 : decode xS_goThroughLines.2.1 17 = .ok (.iload_n 2, 1) := by decide +kernel
theorem dS_goThroughLines_18 : decode xS_goThroughLines.2.1 18 = .ok (.iconst 3, 1) := by decide +kernel
theorem dS_goThroughLines_19 : decode xS_goThroughLines.2.1 19 = .ok (.if_icmp .ge 52, 3) := by decide +kernel
theorem dS_goThroughLines_22 : decode xS_goThroughLines.2.1 22 = .ok (.aload_n 0, 1) := by decide +kernel
theorem dS_goThroughLines_23 : decode xS_goThroughLines.2.1 23 = .ok (.getfield 30, 3) := by decide +kernel
theorem dS_goThroughLines_26 : decode xS_goThroughLines.2.1 26 = .ok (.iload_n 1, 1) := by decide +kernel
theorem dS_goThroughLines_27 : decode xS_goThroughLines.2.1 27 = .ok (.aaload, 1) := by decide +kernel
theorem dS_goThroughLines_28 : decode xS_goThroughLines.2.1 28 = .ok (.invokevirtual 164, 3) := by decide +kernel
theorem dS_goThroughLines_31 : decode xS_goThroughLines.2.1 31 = .ok (.astore_n 3, 1) := by decide +kernel
theorem dS_goThroughLines_32 : decode xS_goThroughLines.2.1 32 = .ok (.aload_n 3, 1) := by decide +kernel
theorem dS_goThroughLines_33 : decode xS_goThroughLines.2.1 33 = .ok (.ifnull 38, 3) := by decide +kernel
theorem dS_goThroughLines_36 : decode xS_goThroughLines.2.1 36 = .ok (.aload_n 0, 1) := by decide +kernel
theorem dS_goThroughLines_37 : decode xS_goThroughLines.2.1 37 = .ok (.aload_n 3, 1) := by decide +kernel
theorem dS_goThroughLines_38 : decode xS_goThroughLines.2.1 38 = .ok (.invokevirtual 127, 3) := by decide +kernel
theorem dS_goThroughLines_41 : decode xS_goThroughLines.2.1 41 = .ok (.ifCond .eq 6, 3) := by decide +kernel
theorem dS_goThroughLines_44 : decode xS_goThroughLines.2.1 44 = .ok (.goto 27, 3) := by decide +kernel
theorem dS_goThroughLines_47 : decode xS_goThroughLines.2.1 47 = .ok (.aload_n 0, 1) := by decide +kernel
theorem dS_goThroughLines_48 : decode xS_goThroughLines.2.1 48 = .ok (.getfield 30, 3) := by decide +kernel
theorem dS_goThroughLines_51 : decode xS_goThroughLines.2.1 51 = .ok (.iload_n 1, 1) := by decide +kernel
theorem dS_goThroughLines_52 : decode xS_goThroughLines.2.1 52 = .ok (.aaload, 1) := by decide +kernel
theorem dS_goThroughLines_53 : decode xS_goThroughLines.2.1 53 = .ok (.aload_n 3, 1) := by decide +kernel
theorem dS_goThroughLines_54 : decode xS_goThroughLines.2.1 54 = .ok (.getfield 75, 3) := by decide +kernel
theorem dS_goThroughLines_57 : decode xS_goThroughLines.2.1 57 = .ok (.invokevirtual 168, 3) := by decide +kernel
theorem dS_goThroughLines_60 : decode xS_goThroughLines.2.1 60 = .ok (.aload_n 0, 1) := by decide +kernel
theorem dS_goThroughLines_61 : decode xS_goThroughLines.2.1 61 = .ok (.aload_n 3, 1) := by decide +kernel
theorem dS_goThroughLines_62 : decode xS_goThroughLines.2.1 62 = .ok (.invokevirtual 130, 3) := by decide +kernel
theorem dS_goThroughLines_65 : decode xS_goThroughLines.2.1 65 = .ok (.iinc 2 1, 3) := by decide +kernel
theorem dS_goThroughLines_68 : decode xS_goThroughLines.2.1 68 = .ok (.goto (-51), 3) := by decide +kernel
theorem dS_goThroughLines_71 : decode xS_goThroughLines.2.1 71 = .ok (.iinc 1 1, 3) := by decide +kernel
theorem dS_goThroughLines_74 : decode xS_goThroughLines.2.1 74 = .ok (.goto (-64), 3) := by decide +kernel
theorem dS_goThroughLines_77 : decode xS_goThroughLines.2.1 77 = .ok (.return_, 1) := by decide +kernel
def xS_endLeases : mt_X := (⟨"LeasedPages$Server", "endLeases", "()V"⟩, prog_9_method_14_code, 3, (Option.none : Option FieldType))
theorem dS_endLeases_0 : decode xS_endLeases.2.1 0 = .ok (.iconst 0, 1) := by decide +kernel
theorem dS_endLeases_1 : decode xS_endLeases.2.1 1 = .ok (.istore_n 1, 1) := by decide +kernel
theorem dS_endLeases_2 : decode xS_endLeases.2.1 2 = .ok (.iload_n 1, 1) := by decide +kernel
theorem dS_endLeases_3 : decode xS_endLeases.2.1 3 = .ok (.iconst 3, 1) := by decide +kernel
theorem dS_endLeases_4 : decode xS_endLeases.2.1 4 = .ok (.if_icmp .ge 46, 3) := by decide +kernel
theorem dS_endLeases_7 : decode xS_endLeases.2.1 7 = .ok (.iconst 0, 1) := by decide +kernel
theorem dS_endLeases_8 : decode xS_endLeases.2.1 8 = .ok (.istore_n 2, 1) := by decide +kernel
theorem dS_endLeases_9 : decode xS_endLeases.2.1 9 = .ok (.iload_n 2, 1) := by decide +kernel
theorem dS_endLeases_10 : decode xS_endLeases.2.1 10 = .ok (.iconst 4, 1) := by decide +kernel
theorem dS_endLeases_11 : decode xS_endLeases.2.1 11 = .ok (.if_icmp .ge 33, 3) := by decide +kernel
theorem dS_endLeases_14 : decode xS_endLeases.2.1 14 = .ok (.aload_n 0, 1) := by decide +kernel
theorem dS_endLeases_15 : decode xS_endLeases.2.1 15 = .ok (.getfield 25, 3) := by decide +kernel
theorem dS_endLeases_18 : decode xS_endLeases.2.1 18 = .ok (.iload_n 1, 1) := by decide +kernel
theorem dS_endLeases_19 : decode xS_endLeases.2.1 19 = .ok (.aaload, 1) := by decide +kernel
theorem dS_endLeases_20 : decode xS_endLeases.2.1 20 = .ok (.iload_n 2, 1) := by decide +kernel
theorem dS_endLeases_21 : decode xS_endLeases.2.1 21 = .ok (.iaload, 1) := by decide +kernel
theorem dS_endLeases_22 : decode xS_endLeases.2.1 22 = .ok (.aload_n 0, 1) := by decide +kernel
theorem dS_endLeases_23 : decode xS_endLeases.2.1 23 = .ok (.getfield 38, 3) := by decide +kernel
theorem dS_endLeases_26 : decode xS_endLeases.2.1 26 = .ok (.if_icmp .gt 12, 3) := by decide +kernel
theorem dS_endLeases_29 : decode xS_endLeases.2.1 29 = .ok (.aload_n 0, 1) := by decide +kernel
theorem dS_endLeases_30 : decode xS_endLeases.2.1 30 = .ok (.getfield 22, 3) := by decide +kernel
theorem dS_endLeases_33 : decode xS_endLeases.2.1 33 = .ok (.iload_n 1, 1) := by decide +kernel
theorem dS_endLeases_34 : decode xS_endLeases.2.1 34 = .ok (.aaload, 1) := by decide +kernel
theorem dS_endLeases_35 : decode xS_endLeases.2.1 35 = .ok (.iload_n 2, 1) := by decide +kernel
theorem dS_endLeases_36 : decode xS_endLeases.2.1 36 = .ok (.iconst 0, 1) := by decide +kernel
theorem dS_endLeases_37 : decode xS_endLeases.2.1 37 = .ok (.iastore, 1) := by decide +kernel
theorem dS_endLeases_38 : decode xS_endLeases.2.1 38 = .ok (.iinc 2 1, 3) := by decide +kernel
theorem dS_endLeases_41 : decode xS_endLeases.2.1 41 = .ok (.goto (-32), 3) := by decide +kernel
theorem dS_endLeases_44 : decode xS_endLeases.2.1 44 = .ok (.iinc 1 1, 3) := by decide +kernel
theorem dS_endLeases_47 : decode xS_endLeases.2.1 47 = .ok (.goto (-45), 3) := by decide +kernel
theorem dS_endLeases_50 : decode xS_endLeases.2.1 50 = .ok (.return_, 1) := by decide +kernel
def xS_hasLease : mt_X := (⟨"LeasedPages$Server", "hasLease", "(II)Z"⟩, prog_9_method_15_code, 3, (Option.some FieldType.boolean))
theorem dS_hasLease_0 : decode xS_hasLease.2.1 0 = .ok (.aload_n 0, 1) := by decide +kernel
theorem dS_hasLease_1 : decode xS_hasLease.2.1 1 = .ok (.getfield 22, 3) := by decide +kernel
theorem dS_hasLease_4 : decode xS_hasLease.2.1 4 = .ok (.iload_n 1, 1) := by decide +kernel
theorem dS_hasLease_5 : decode xS_hasLease.2.1 5 = .ok (.aaload, 1) := by decide +kernel
theorem dS_hasLease_6 : decode xS_hasLease.2.1 6 = .ok (.iload_n 2, 1) := by decide +kernel
theorem dS_hasLease_7 : decode xS_hasLease.2.1 7 = .ok (.iaload, 1) := by decide +kernel
theorem dS_hasLease_8 : decode xS_hasLease.2.1 8 = .ok (.ifCond .eq 7, 3) := by decide +kernel
theorem dS_hasLease_11 : decode xS_hasLease.2.1 11 = .ok (.iconst 1, 1) := by decide +kernel
theorem dS_hasLease_12 : decode xS_hasLease.2.1 12 = .ok (.goto 4, 3) := by decide +kernel
theorem dS_hasLease_15 : decode xS_hasLease.2.1 15 = .ok (.iconst 0, 1) := by decide +kernel
theorem dS_hasLease_16 : decode xS_hasLease.2.1 16 = .ok (.ireturn, 1) := by decide +kernel
def xS_conflicts : mt_X := (⟨"LeasedPages$Server", "conflicts", "(LLeasedPages$Request;I)Z"⟩, prog_9_method_16_code, 3, (Option.some FieldType.boolean))
theorem dS_conflicts_0 : decode xS_conflicts.2.1 0 = .ok (.iload_n 2, 1) := by decide +kernel
theorem dS_conflicts_1 : decode xS_conflicts.2.1 1 = .ok (.aload_n 1, 1) := by decide +kernel
theorem dS_conflicts_2 : decode xS_conflicts.2.1 2 = .ok (.getfield 75, 3) := by decide +kernel
theorem dS_conflicts_5 : decode xS_conflicts.2.1 5 = .ok (.if_icmp .eq 42, 3) := by decide +kernel
theorem dS_conflicts_8 : decode xS_conflicts.2.1 8 = .ok (.aload_n 0, 1) := by decide +kernel
theorem dS_conflicts_9 : decode xS_conflicts.2.1 9 = .ok (.iload_n 2, 1) := by decide +kernel
theorem dS_conflicts_10 : decode xS_conflicts.2.1 10 = .ok (.aload_n 1, 1) := by decide +kernel
theorem dS_conflicts_11 : decode xS_conflicts.2.1 11 = .ok (.getfield 111, 3) := by decide +kernel
theorem dS_conflicts_14 : decode xS_conflicts.2.1 14 = .ok (.invokevirtual 71, 3) := by decide +kernel
theorem dS_conflicts_17 : decode xS_conflicts.2.1 17 = .ok (.ifCond .eq 30, 3) := by decide +kernel
theorem dS_conflicts_20 : decode xS_conflicts.2.1 20 = .ok (.aload_n 1, 1) := by decide +kernel
theorem dS_conflicts_21 : decode xS_conflicts.2.1 21 = .ok (.getfield 145, 3) := by decide +kernel
theorem dS_conflicts_24 : decode xS_conflicts.2.1 24 = .ok (.iconst 2, 1) := by decide +kernel
theorem dS_conflicts_25 : decode xS_conflicts.2.1 25 = .ok (.if_icmp .eq 18, 3) := by decide +kernel
theorem dS_conflicts_28 : decode xS_conflicts.2.1 28 = .ok (.aload_n 0, 1) := by decide +kernel
theorem dS_conflicts_29 : decode xS_conflicts.2.1 29 = .ok (.getfield 22, 3) := by decide +kernel
theorem dS_conflicts_32 : decode xS_conflicts.2.1 32 = .ok (.iload_n 2, 1) := by decide +kernel
theorem dS_conflicts_33 : decode xS_conflicts.2.1 33 = .ok (.aaload, 1) := by decide +kernel
theorem dS_conflicts_34 : decode xS_conflicts.2.1 34 = .ok (.aload_n 1, 1) := by decide +kernel
theorem dS_conflicts_35 : decode xS_conflicts.2.1 35 = .ok (.getfield 111, 3) := by decide +kernel
theorem dS_conflicts_38 : decode xS_conflicts.2.1 38 = .ok (.iaload, 1) := by decide +kernel
theorem dS_conflicts_39 : decode xS_conflicts.2.1 39 = .ok (.iconst 2, 1) := by decide +kernel
theorem dS_conflicts_40 : decode xS_conflicts.2.1 40 = .ok (.if_icmp .ne 7, 3) := by decide +kernel
theorem dS_conflicts_43 : decode xS_conflicts.2.1 43 = .ok (.iconst 1, 1) := by decide +kernel
theorem dS_conflicts_44 : decode xS_conflicts.2.1 44 = .ok (.goto 4, 3) := by decide +kernel
theorem dS_conflicts_47 : decode xS_conflicts.2.1 47 = .ok (.iconst 0, 1) := by decide +kernel
theorem dS_conflicts_48 : decode xS_conflicts.2.1 48 = .ok (.ireturn, 1) := by decide +kernel
def xS_conflictsWithAny : mt_X := (⟨"LeasedPages$Server", "conflictsWithAny", "(LLeasedPages$Request;)Z"⟩, prog_9_method_17_code, 3, (Option.some FieldType.boolean))
theorem dS_conflictsWithAny_0 : decode xS_conflictsWithAny.2.1 0 = .ok (.iconst 0, 1) := by decide +kernel
theorem dS_conflictsWithAny_1 : decode xS_conflictsWithAny.2.1 1 = .ok (.istore_n 2, 1) := by decide +kernel
theorem dS_conflictsWithAny_2 : decode xS_conflictsWithAny.2.1 2 = .ok (.iload_n 2, 1) := by decide +kernel
theorem dS_conflictsWithAny_3 : decode xS_conflictsWithAny.2.1 3 = .ok (.iconst 3, 1) := by decide +kernel
theorem dS_conflictsWithAny_4 : decode xS_conflictsWithAny.2.1 4 = .ok (.if_icmp .ge 20, 3) := by decide +kernel
theorem dS_conflictsWithAny_7 : decode xS_conflictsWithAny.2.1 7 = .ok (.aload_n 0, 1) := by decide +kernel
theorem dS_conflictsWithAny_8 : decode xS_conflictsWithAny.2.1 8 = .ok (.aload_n 1, 1) := by decide +kernel
theorem dS_conflictsWithAny_9 : decode xS_conflictsWithAny.2.1 9 = .ok (.iload_n 2, 1) := by decide +kernel
theorem dS_conflictsWithAny_10 : decode xS_conflictsWithAny.2.1 10 = .ok (.invokevirtual 155, 3) := by decide +kernel
theorem dS_conflictsWithAny_13 : decode xS_conflictsWithAny.2.1 13 = .ok (.ifCond .eq 5, 3) := by decide +kernel
theorem dS_conflictsWithAny_16 : decode xS_conflictsWithAny.2.1 16 = .ok (.iconst 1, 1) := by decide +kernel
theorem dS_conflictsWithAny_17 : decode xS_conflictsWithAny.2.1 17 = .ok (.ireturn, 1) := by decide +kernel
theorem dS_conflictsWithAny_18 : decode xS_conflictsWithAny.2.1 18 = .ok (.iinc 2 1, 3) := by decide +kernel
theorem dS_conflictsWithAny_21 : decode xS_conflictsWithAny.2.1 21 = .ok (.goto (-19), 3) := by decide +kernel
theorem dS_conflictsWithAny_24 : decode xS_conflictsWithAny.2.1 24 = .ok (.iconst 0, 1) := by decide +kernel
theorem dS_conflictsWithAny_25 : decode xS_conflictsWithAny.2.1 25 = .ok (.ireturn, 1) := by decide +kernel
def xS_waitsAlready : mt_X := (⟨"LeasedPages$Server", "waitsAlready", "(LLeasedPages$Request;)Z"⟩, prog_9_method_18_code, 3, (Option.some FieldType.boolean))
theorem dS_waitsAlready_0 : decode xS_waitsAlready.2.1 0 = .ok (.aload_n 0, 1) := by decide +kernel
theorem dS_waitsAlready_1 : decode xS_waitsAlready.2.1 1 = .ok (.getfield 30, 3) := by decide +kernel
theorem dS_waitsAlready_4 : decode xS_waitsAlready.2.1 4 = .ok (.aload_n 1, 1) := by decide +kernel
theorem dS_waitsAlready_5 : decode xS_waitsAlready.2.1 5 = .ok (.getfield 111, 3) := by decide +kernel
theorem dS_waitsAlready_8 : decode xS_waitsAlready.2.1 8 = .ok (.aaload, 1) := by decide +kernel
theorem dS_waitsAlready_9 : decode xS_waitsAlready.2.1 9 = .ok (.aload_n 1, 1) := by decide +kernel
theorem dS_waitsAlready_10 : decode xS_waitsAlready.2.1 10 = .ok (.getfield 75, 3) := by decide +kernel
theorem dS_waitsAlready_13 : decode xS_waitsAlready.2.1 13 = .ok (.invokevirtual 171, 3) := by decide +kernel
theorem dS_waitsAlready_16 : decode xS_waitsAlready.2.1 16 = .ok (.astore_n 2, 1) := by decide +kernel
theorem dS_waitsAlready_17 : decode xS_waitsAlready.2.1 17 = .ok (.aload_n 2, 1) := by decide +kernel
theorem dS_waitsAlready_18 : decode xS_waitsAlready.2.1 18 = .ok (.ifnull 18, 3) := by decide +kernel
theorem dS_waitsAlready_21 : decode xS_waitsAlready.2.1 21 = .ok (.aload_n 2, 1) := by decide +kernel
theorem dS_waitsAlready_22 : decode xS_waitsAlready.2.1 22 = .ok (.getfield 80, 3) := by decide +kernel
theorem dS_waitsAlready_25 : decode xS_waitsAlready.2.1 25 = .ok (.aload_n 1, 1) := by decide +kernel
theorem dS_waitsAlready_26 : decode xS_waitsAlready.2.1 26 = .ok (.getfield 80, 3) := by decide +kernel
theorem dS_waitsAlready_29 : decode xS_waitsAlready.2.1 29 = .ok (.if_icmp .ne 7, 3) := by decide +kernel
theorem dS_waitsAlready_32 : decode xS_waitsAlready.2.1 32 = .ok (.iconst 1, 1) := by decide +kernel
theorem dS_waitsAlready_33 : decode xS_waitsAlready.2.1 33 = .ok (.goto 4, 3) := by decide +kernel
theorem dS_waitsAlready_36 : decode xS_waitsAlready.2.1 36 = .ok (.iconst 0, 1) := by decide +kernel
theorem dS_waitsAlready_37 : decode xS_waitsAlready.2.1 37 = .ok (.ireturn, 1) := by decide +kernel
def xS_takeOutOfLines : mt_X := (⟨"LeasedPages$Server", "takeOutOfLines", "(I)V"⟩, prog_9_method_19_code, 3, (Option.none : Option FieldType))
theorem dS_takeOutOfLines_0 : decode xS_takeOutOfLines.2.1 0 = .ok (.iconst 0, 1) := by decide +kernel
theorem dS_takeOutOfLines_1 : decode xS_takeOutOfLines.2.1 1 = .ok (.istore_n 2, 1) := by decide +kernel
theorem dS_takeOutOfLines_2 : decode xS_takeOutOfLines.2.1 2 = .ok (.iload_n 2, 1) := by decide +kernel
theorem dS_takeOutOfLines_3 : decode xS_takeOutOfLines.2.1 3 = .ok (.iconst 4, 1) := by decide +kernel
theorem dS_takeOutOfLines_4 : decode xS_takeOutOfLines.2.1 4 = .ok (.if_icmp .ge 19, 3) := by decide +kernel
theorem dS_takeOutOfLines_7 : decode xS_takeOutOfLines.2.1 7 = .ok (.aload_n 0, 1) := by decide +kernel
theorem dS_takeOutOfLines_8 : decode xS_takeOutOfLines.2.1 8 = .ok (.getfield 30, 3) := by decide +kernel
theorem dS_takeOutOfLines_11 : decode xS_takeOutOfLines.2.1 11 = .ok (.iload_n 2, 1) := by decide +kernel
theorem dS_takeOutOfLines_12 : decode xS_takeOutOfLines.2.1 12 = .ok (.aaload, 1) := by decide +kernel
theorem dS_takeOutOfLines_13 : decode xS_takeOutOfLines.2.1 13 = .ok (.iload_n 1, 1) := by decide +kernel
theorem dS_takeOutOfLines_14 : decode xS_takeOutOfLines.2.1 14 = .ok (.invokevirtual 168, 3) := by decide +kernel
theorem dS_takeOutOfLines_17 : decode xS_takeOutOfLines.2.1 17 = .ok (.iinc 2 1, 3) := by decide +kernel
theorem dS_takeOutOfLines_20 : decode xS_takeOutOfLines.2.1 20 = .ok (.goto (-18), 3) := by decide +kernel
theorem dS_takeOutOfLines_23 : decode xS_takeOutOfLines.2.1 23 = .ok (.return_, 1) := by decide +kernel
end
section
/-! Method constants and decode rows, written by wip/whole/gen/code.py out of the listing. -/
def xM_init : mt_X := (⟨"LeasedPagesModel", "<init>", "(I)V"⟩, prog_12_method_1_code, 3, (Option.none : Option FieldType))
theorem dM_init_0 : decode xM_init.2.1 0 = .ok (.aload_n 0, 1) := by decide +kernel
theorem dM_init_1 : decode xM_init.2.1 1 = .ok (.invokespecial 1, 3) := by decide +kernel
theorem dM_init_4 : decode xM_init.2.1 4 = .ok (.aload_n 0, 1) := by decide +kernel
theorem dM_init_5 : decode xM_init.2.1 5 = .ok (.iconst 4, 1) := by decide +kernel
theorem dM_init_6 : decode xM_init.2.1 6 = .ok (.newarray .boolean, 2) := by decide +kernel
theorem dM_init_8 : decode xM_init.2.1 8 = .ok (.putfield 7, 3) := by decide +kernel
theorem dM_init_11 : decode xM_init.2.1 11 = .ok (.aload_n 0, 1) := by decide +kernel
theorem dM_init_12 : decode xM_init.2.1 12 = .ok (.iconst 4, 1) := by decide +kernel
theorem dM_init_13 : decode xM_init.2.1 13 = .ok (.newarray .int, 2) := by decide +kernel
theorem dM_init_15 : decode xM_init.2.1 15 = .ok (.putfield 13, 3) := by decide +kernel
theorem dM_init_18 : decode xM_init.2.1 18 = .ok (.aload_n 0, 1) := by decide +kernel
theorem dM_init_19 : decode xM_init.2.1 19 = .ok (.bipush 16, 2) := by decide +kernel
theorem dM_init_21 : decode xM_init.2.1 21 = .ok (.newarray .int, 2) := by decide +kernel
theorem dM_init_23 : decode xM_init.2.1 23 = .ok (.putfield 17, 3) := by decide +kernel
theorem dM_init_26 : decode xM_init.2.1 26 = .ok (.aload_n 0, 1) := by decide +kernel
theorem dM_init_27 : decode xM_init.2.1 27 = .ok (.bipush 12, 2) := by decide +kernel
theorem dM_init_29 : decode xM_init.2.1 29 = .ok (.newarray .int, 2) := by decide +kernel
theorem dM_init_31 : decode xM_init.2.1 31 = .ok (.putfield 20, 3) := by decide +kernel
theorem dM_init_34 : decode xM_init.2.1 34 = .ok (.aload_n 0, 1) := by decide +kernel
theorem dM_init_35 : decode xM_init.2.1 35 = .ok (.bipush 12, 2) := by decide +kernel
theorem dM_init_37 : decode xM_init.2.1 37 = .ok (.newarray .int, 2) := by decide +kernel
theorem dM_init_39 : decode xM_init.2.1 39 = .ok (.putfield 23, 3) := by decide +kernel
theorem dM_init_42 : decode xM_init.2.1 42 = .ok (.aload_n 0, 1) := by decide +kernel
theorem dM_init_43 : decode xM_init.2.1 43 = .ok (.iconst 3, 1) := by decide +kernel
theorem dM_init_44 : decode xM_init.2.1 44 = .ok (.newarray .int, 2) := by decide +kernel
theorem dM_init_46 : decode xM_init.2.1 46 = .ok (.putfield 26, 3) := by decide +kernel
theorem dM_init_49 : decode xM_init.2.1 49 = .ok (.aload_n 0, 1) := by decide +kernel
theorem dM_init_50 : decode xM_init.2.1 50 = .ok (.iconst 3, 1) := by decide +kernel
theorem dM_init_51 : decode xM_init.2.1 51 = .ok (.newarray .int, 2) := by decide +kernel
theorem dM_init_53 : decode xM_init.2.1 53 = .ok (.putfield 29, 3) := by decide +kernel
theorem dM_init_56 : decode xM_init.2.1 56 = .ok (.aload_n 0, 1) := by decide +kernel
theorem dM_init_57 : decode xM_init.2.1 57 = .ok (.iconst 3, 1) := by decide +kernel
theorem dM_init_58 : decode xM_init.2.1 58 = .ok (.newarray .int, 2) := by decide +kernel
theorem dM_init_60 : decode xM_init.2.1 60 = .ok (.putfield 32, 3) := by decide +kernel
theorem dM_init_63 : decode xM_init.2.1 63 = .ok (.aload_n 0, 1) := by decide +kernel
theorem dM_init_64 : decode xM_init.2.1 64 = .ok (.iconst 3, 1) := by decide +kernel
theorem dM_init_65 : decode xM_init.2.1 65 = .ok (.newarray .int, 2) := by decide +kernel
theorem dM_init_67 : decode xM_init.2.1 67 = .ok (.putfield 35, 3) := by decide +kernel
theorem dM_init_70 : decode xM_init.2.1 70 = .ok (.aload_n 0, 1) := by decide +kernel
theorem dM_init_71 : decode xM_init.2.1 71 = .ok (.iconst 3, 1) := by decide +kernel
theorem dM_init_72 : decode xM_init.2.1 72 = .ok (.newarray .boolean, 2) := by decide +kernel
theorem dM_init_74 : decode xM_init.2.1 74 = .ok (.putfield 38, 3) := by decide +kernel
theorem dM_init_77 : decode xM_init.2.1 77 = .ok (.aload_n 0, 1) := by decide +kernel
theorem dM_init_78 : decode xM_init.2.1 78 = .ok (.bipush 12, 2) := by decide +kernel
theorem dM_init_80 : decode xM_init.2.1 80 = .ok (.newarray .int, 2) := by decide +kernel
theorem dM_init_82 : decode xM_init.2.1 82 = .ok (.putfield 41, 3) := by decide +kernel
theorem dM_init_85 : decode xM_init.2.1 85 = .ok (.aload_n 0, 1) := by decide +kernel
theorem dM_init_86 : decode xM_init.2.1 86 = .ok (.iconst 3, 1) := by decide +kernel
theorem dM_init_87 : decode xM_init.2.1 87 = .ok (.newarray .int, 2) := by decide +kernel
theorem dM_init_89 : decode xM_init.2.1 89 = .ok (.putfield 44, 3) := by decide +kernel
theorem dM_init_92 : decode xM_init.2.1 92 = .ok (.aload_n 0, 1) := by decide +kernel
theorem dM_init_93 : decode xM_init.2.1 93 = .ok (.iconst 3, 1) := by decide +kernel
theorem dM_init_94 : decode xM_init.2.1 94 = .ok (.newarray .int, 2) := by decide +kernel
theorem dM_init_96 : decode xM_init.2.1 96 = .ok (.putfield 47, 3) := by decide +kernel
theorem dM_init_99 : decode xM_init.2.1 99 = .ok (.aload_n 0, 1) := by decide +kernel
theorem dM_init_100 : decode xM_init.2.1 100 = .ok (.iconst 3, 1) := by decide +kernel
theorem dM_init_101 : decode xM_init.2.1 101 = .ok (.newarray .int, 2) := by decide +kernel
theorem dM_init_103 : decode xM_init.2.1 103 = .ok (.putfield 50, 3) := by decide +kernel
theorem dM_init_106 : decode xM_init.2.1 106 = .ok (.aload_n 0, 1) := by decide +kernel
theorem dM_init_107 : decode xM_init.2.1 107 = .ok (.iconst 3, 1) := by decide +kernel
theorem dM_init_108 : decode xM_init.2.1 108 = .ok (.newarray .int, 2) := by decide +kernel
theorem dM_init_110 : decode xM_init.2.1 110 = .ok (.putfield 53, 3) := by decide +kernel
theorem dM_init_113 : decode xM_init.2.1 113 = .ok (.aload_n 0, 1) := by decide +kernel
theorem dM_init_114 : decode xM_init.2.1 114 = .ok (.iconst 3, 1) := by decide +kernel
theorem dM_init_115 : decode xM_init.2.1 115 = .ok (.newarray .int, 2) := by decide +kernel
theorem dM_init_117 : decode xM_init.2.1 117 = .ok (.putfield 56, 3) := by decide +kernel
theorem dM_init_120 : decode xM_init.2.1 120 = .ok (.aload_n 0, 1) := by decide +kernel
theorem dM_init_121 : decode xM_init.2.1 121 = .ok (.bipush 12, 2) := by decide +kernel
theorem dM_init_123 : decode xM_init.2.1 123 = .ok (.newarray .int, 2) := by decide +kernel
theorem dM_init_125 : decode xM_init.2.1 125 = .ok (.putfield 59, 3) := by decide +kernel
theorem dM_init_128 : decode xM_init.2.1 128 = .ok (.aload_n 0, 1) := by decide +kernel
theorem dM_init_129 : decode xM_init.2.1 129 = .ok (.bipush 12, 2) := by decide +kernel
theorem dM_init_131 : decode xM_init.2.1 131 = .ok (.newarray .int, 2) := by decide +kernel
theorem dM_init_133 : decode xM_init.2.1 133 = .ok (.putfield 62, 3) := by decide +kernel
theorem dM_init_136 : decode xM_init.2.1 136 = .ok (.aload_n 0, 1) := by decide +kernel
theorem dM_init_137 : decode xM_init.2.1 137 = .ok (.bipush 12, 2) := by decide +kernel
theorem dM_init_139 : decode xM_init.2.1 139 = .ok (.newarray .boolean, 2) := by decide +kernel
theorem dM_init_141 : decode xM_init.2.1 141 = .ok (.putfield 65, 3) := by decide +kernel
theorem dM_init_144 : decode xM_init.2.1 144 = .ok (.aload_n 0, 1) := by decide +kernel
theorem dM_init_145 : decode xM_init.2.1 145 = .ok (.bipush 12, 2) := by decide +kernel
theorem dM_init_147 : decode xM_init.2.1 147 = .ok (.newarray .boolean, 2) := by decide +kernel
theorem dM_init_149 : decode xM_init.2.1 149 = .ok (.putfield 68, 3) := by decide +kernel
theorem dM_init_152 : decode xM_init.2.1 152 = .ok (.aload_n 0, 1) := by decide +kernel
theorem dM_init_153 : decode xM_init.2.1 153 = .ok (.bipush 48, 2) := by decide +kernel
theorem dM_init_155 : decode xM_init.2.1 155 = .ok (.newarray .int, 2) := by decide +kernel
theorem dM_init_157 : decode xM_init.2.1 157 = .ok (.putfield 71, 3) := by decide +kernel
theorem dM_init_160 : decode xM_init.2.1 160 = .ok (.aload_n 0, 1) := by decide +kernel
theorem dM_init_161 : decode xM_init.2.1 161 = .ok (.iconst 3, 1) := by decide +kernel
theorem dM_init_162 : decode xM_init.2.1 162 = .ok (.newarray .int, 2) := by decide +kernel
theorem dM_init_164 : decode xM_init.2.1 164 = .ok (.putfield 74, 3) := by decide +kernel
theorem dM_init_167 : decode xM_init.2.1 167 = .ok (.aload_n 0, 1) := by decide +kernel
theorem dM_init_168 : decode xM_init.2.1 168 = .ok (.bipush 18, 2) := by decide +kernel
theorem dM_init_170 : decode xM_init.2.1 170 = .ok (.newarray .int, 2) := by decide +kernel
theorem dM_init_172 : decode xM_init.2.1 172 = .ok (.putfield 77, 3) := by decide +kernel
theorem dM_init_175 : decode xM_init.2.1 175 = .ok (.aload_n 0, 1) := by decide +kernel
theorem dM_init_176 : decode xM_init.2.1 176 = .ok (.bipush 18, 2) := by decide +kernel
theorem dM_init_178 : decode xM_init.2.1 178 = .ok (.newarray .int, 2) := by decide +kernel
theorem dM_init_180 : decode xM_init.2.1 180 = .ok (.putfield 80, 3) := by decide +kernel
theorem dM_init_183 : decode xM_init.2.1 183 = .ok (.aload_n 0, 1) := by decide +kernel
theorem dM_init_184 : decode xM_init.2.1 184 = .ok (.iconst 3, 1) := by decide +kernel
theorem dM_init_185 : decode xM_init.2.1 185 = .ok (.newarray .int, 2) := by decide +kernel
theorem dM_init_187 : decode xM_init.2.1 187 = .ok (.putfield 83, 3) := by decide +kernel
theorem dM_init_190 : decode xM_init.2.1 190 = .ok (.aload_n 0, 1) := by decide +kernel
theorem dM_init_191 : decode xM_init.2.1 191 = .ok (.iconst 3, 1) := by decide +kernel
theorem dM_init_192 : decode xM_init.2.1 192 = .ok (.newarray .int, 2) := by decide +kernel
theorem dM_init_194 : decode xM_init.2.1 194 = .ok (.putfield 86, 3) := by decide +kernel
theorem dM_init_197 : decode xM_init.2.1 197 = .ok (.aload_n 0, 1) := by decide +kernel
theorem dM_init_198 : decode xM_init.2.1 198 = .ok (.iconst 3, 1) := by decide +kernel
theorem dM_init_199 : decode xM_init.2.1 199 = .ok (.newarray .int, 2) := by decide +kernel
theorem dM_init_201 : decode xM_init.2.1 201 = .ok (.putfield 89, 3) := by decide +kernel
theorem dM_init_204 : decode xM_init.2.1 204 = .ok (.aload_n 0, 1) := by decide +kernel
theorem dM_init_205 : decode xM_init.2.1 205 = .ok (.iconst 3, 1) := by decide +kernel
theorem dM_init_206 : decode xM_init.2.1 206 = .ok (.newarray .boolean, 2) := by decide +kernel
theorem dM_init_208 : decode xM_init.2.1 208 = .ok (.putfield 92, 3) := by decide +kernel
theorem dM_init_211 : decode xM_init.2.1 211 = .ok (.aload_n 0, 1) := by decide +kernel
theorem dM_init_212 : decode xM_init.2.1 212 = .ok (.iconst 3, 1) := by decide +kernel
theorem dM_init_213 : decode xM_init.2.1 213 = .ok (.newarray .int, 2) := by decide +kernel
theorem dM_init_215 : decode xM_init.2.1 215 = .ok (.putfield 95, 3) := by decide +kernel
theorem dM_init_218 : decode xM_init.2.1 218 = .ok (.aload_n 0, 1) := by decide +kernel
theorem dM_init_219 : decode xM_init.2.1 219 = .ok (.iconst 3, 1) := by decide +kernel
theorem dM_init_220 : decode xM_init.2.1 220 = .ok (.newarray .int, 2) := by decide +kernel
theorem dM_init_222 : decode xM_init.2.1 222 = .ok (.putfield 98, 3) := by decide +kernel
theorem dM_init_225 : decode xM_init.2.1 225 = .ok (.aload_n 0, 1) := by decide +kernel
theorem dM_init_226 : decode xM_init.2.1 226 = .ok (.iconst 3, 1) := by decide +kernel
theorem dM_init_227 : decode xM_init.2.1 227 = .ok (.newarray .int, 2) := by decide +kernel
theorem dM_init_229 : decode xM_init.2.1 229 = .ok (.putfield 101, 3) := by decide +kernel
theorem dM_init_232 : decode xM_init.2.1 232 = .ok (.aload_n 0, 1) := by decide +kernel
theorem dM_init_233 : decode xM_init.2.1 233 = .ok (.bipush 60, 2) := by decide +kernel
theorem dM_init_235 : decode xM_init.2.1 235 = .ok (.newarray .int, 2) := by decide +kernel
theorem dM_init_237 : decode xM_init.2.1 237 = .ok (.putfield 104, 3) := by decide +kernel
theorem dM_init_240 : decode xM_init.2.1 240 = .ok (.aload_n 0, 1) := by decide +kernel
theorem dM_init_241 : decode xM_init.2.1 241 = .ok (.bipush 60, 2) := by decide +kernel
theorem dM_init_243 : decode xM_init.2.1 243 = .ok (.newarray .int, 2) := by decide +kernel
theorem dM_init_245 : decode xM_init.2.1 245 = .ok (.putfield 107, 3) := by decide +kernel
theorem dM_init_248 : decode xM_init.2.1 248 = .ok (.aload_n 0, 1) := by decide +kernel
theorem dM_init_249 : decode xM_init.2.1 249 = .ok (.bipush 60, 2) := by decide +kernel
theorem dM_init_251 : decode xM_init.2.1 251 = .ok (.newarray .int, 2) := by decide +kernel
theorem dM_init_253 : decode xM_init.2.1 253 = .ok (.putfield 110, 3) := by decide +kernel
theorem dM_init_256 : decode xM_init.2.1 256 = .ok (.aload_n 0, 1) := by decide +kernel
theorem dM_init_257 : decode xM_init.2.1 257 = .ok (.bipush 60, 2) := by decide +kernel
theorem dM_init_259 : decode xM_init.2.1 259 = .ok (.newarray .int, 2) := by decide +kernel
theorem dM_init_261 : decode xM_init.2.1 261 = .ok (.putfield 113, 3) := by decide +kernel
theorem dM_init_264 : decode xM_init.2.1 264 = .ok (.aload_n 0, 1) := by decide +kernel
theorem dM_init_265 : decode xM_init.2.1 265 = .ok (.bipush 60, 2) := by decide +kernel
theorem dM_init_267 : decode xM_init.2.1 267 = .ok (.newarray .int, 2) := by decide +kernel
theorem dM_init_269 : decode xM_init.2.1 269 = .ok (.putfield 116, 3) := by decide +kernel
theorem dM_init_272 : decode xM_init.2.1 272 = .ok (.aload_n 0, 1) := by decide +kernel
theorem dM_init_273 : decode xM_init.2.1 273 = .ok (.bipush 60, 2) := by decide +kernel
theorem dM_init_275 : decode xM_init.2.1 275 = .ok (.newarray .boolean, 2) := by decide +kernel
theorem dM_init_277 : decode xM_init.2.1 277 = .ok (.putfield 119, 3) := by decide +kernel
theorem dM_init_280 : decode xM_init.2.1 280 = .ok (.aload_n 0, 1) := by decide +kernel
theorem dM_init_281 : decode xM_init.2.1 281 = .ok (.bipush 60, 2) := by decide +kernel
theorem dM_init_283 : decode xM_init.2.1 283 = .ok (.newarray .int, 2) := by decide +kernel
theorem dM_init_285 : decode xM_init.2.1 285 = .ok (.putfield 122, 3) := by decide +kernel
theorem dM_init_288 : decode xM_init.2.1 288 = .ok (.aload_n 0, 1) := by decide +kernel
theorem dM_init_289 : decode xM_init.2.1 289 = .ok (.bipush 60, 2) := by decide +kernel
theorem dM_init_291 : decode xM_init.2.1 291 = .ok (.newarray .int, 2) := by decide +kernel
theorem dM_init_293 : decode xM_init.2.1 293 = .ok (.putfield 125, 3) := by decide +kernel
theorem dM_init_296 : decode xM_init.2.1 296 = .ok (.aload_n 0, 1) := by decide +kernel
theorem dM_init_297 : decode xM_init.2.1 297 = .ok (.sipush 240, 3) := by decide +kernel
theorem dM_init_300 : decode xM_init.2.1 300 = .ok (.newarray .int, 2) := by decide +kernel
theorem dM_init_302 : decode xM_init.2.1 302 = .ok (.putfield 128, 3) := by decide +kernel
theorem dM_init_305 : decode xM_init.2.1 305 = .ok (.aload_n 0, 1) := by decide +kernel
theorem dM_init_306 : decode xM_init.2.1 306 = .ok (.iload_n 1, 1) := by decide +kernel
theorem dM_init_307 : decode xM_init.2.1 307 = .ok (.bipush 8, 2) := by decide +kernel
theorem dM_init_309 : decode xM_init.2.1 309 = .ok (.if_icmp .ge 8, 3) := by decide +kernel
theorem dM_init_312 : decode xM_init.2.1 312 = .ok (.bipush 8, 2) := by decide +kernel
theorem dM_init_314 : decode xM_init.2.1 314 = .ok (.goto 17, 3) := by decide +kernel
theorem dM_init_317 : decode xM_init.2.1 317 = .ok (.iload_n 1, 1) := by decide +kernel
theorem dM_init_318 : decode xM_init.2.1 318 = .ok (.sipush 200, 3) := by decide +kernel
theorem dM_init_321 : decode xM_init.2.1 321 = .ok (.if_icmp .le 9, 3) := by decide +kernel
theorem dM_init_324 : decode xM_init.2.1 324 = .ok (.sipush 200, 3) := by decide +kernel
theorem dM_init_327 : decode xM_init.2.1 327 = .ok (.goto 4, 3) := by decide +kernel
theorem dM_init_330 : decode xM_init.2.1 330 = .ok (.iload_n 1, 1) := by decide +kernel
theorem dM_init_331 : decode xM_init.2.1 331 = .ok (.putfield 131, 3) := by decide +kernel
theorem dM_init_334 : decode xM_init.2.1 334 = .ok (.iconst 0, 1) := by decide +kernel
theorem dM_init_335 : decode xM_init.2.1 335 = .ok (.istore_n 2, 1) := by decide +kernel
theorem dM_init_336 : decode xM_init.2.1 336 = .ok (.iload_n 2, 1) := by decide +kernel
theorem dM_init_337 : decode xM_init.2.1 337 = .ok (.iconst 3, 1) := by decide +kernel
theorem dM_init_338 : decode xM_init.2.1 338 = .ok (.if_icmp .ge 16, 3) := by decide +kernel
theorem dM_init_341 : decode xM_init.2.1 341 = .ok (.aload_n 0, 1) := by decide +kernel
theorem dM_init_342 : decode xM_init.2.1 342 = .ok (.getfield 44, 3) := by decide +kernel
theorem dM_init_345 : decode xM_init.2.1 345 = .ok (.iload_n 2, 1) := by decide +kernel
theorem dM_init_346 : decode xM_init.2.1 346 = .ok (.iconst (-1), 1) := by decide +kernel
theorem dM_init_347 : decode xM_init.2.1 347 = .ok (.iastore, 1) := by decide +kernel
theorem dM_init_348 : decode xM_init.2.1 348 = .ok (.iinc 2 1, 3) := by decide +kernel
theorem dM_init_351 : decode xM_init.2.1 351 = .ok (.goto (-15), 3) := by decide +kernel
theorem dM_init_354 : decode xM_init.2.1 354 = .ok (.return_, 1) := by decide +kernel
def xM_in : mt_X := (⟨"LeasedPagesModel", "in", "(III)Z"⟩, prog_12_method_2_code, 3, (Option.some FieldType.boolean))
theorem dM_in_0 : decode xM_in.2.1 0 = .ok (.iload_n 0, 1) := by decide +kernel
theorem dM_in_1 : decode xM_in.2.1 1 = .ok (.iload_n 1, 1) := by decide +kernel
theorem dM_in_2 : decode xM_in.2.1 2 = .ok (.if_icmp .lt 12, 3) := by decide +kernel
theorem dM_in_5 : decode xM_in.2.1 5 = .ok (.iload_n 0, 1) := by decide +kernel
theorem dM_in_6 : decode xM_in.2.1 6 = .ok (.iload_n 2, 1) := by decide +kernel
theorem dM_in_7 : decode xM_in.2.1 7 = .ok (.if_icmp .gt 7, 3) := by decide +kernel
theorem dM_in_10 : decode xM_in.2.1 10 = .ok (.iconst 1, 1) := by decide +kernel
theorem dM_in_11 : decode xM_in.2.1 11 = .ok (.goto 4, 3) := by decide +kernel
theorem dM_in_14 : decode xM_in.2.1 14 = .ok (.iconst 0, 1) := by decide +kernel
theorem dM_in_15 : decode xM_in.2.1 15 = .ok (.ireturn, 1) := by decide +kernel
def xM_room : mt_X := (⟨"LeasedPagesModel", "room", "(IIII)I"⟩, prog_12_method_3_code, 5, (Option.some FieldType.int))
theorem dM_room_0 : decode xM_room.2.1 0 = .ok (.aload_n 0, 1) := by decide +kernel
theorem dM_room_1 : decode xM_room.2.1 1 = .ok (.getfield 135, 3) := by decide +kernel
theorem dM_room_4 : decode xM_room.2.1 4 = .ok (.bipush 60, 2) := by decide +kernel
theorem dM_room_6 : decode xM_room.2.1 6 = .ok (.if_icmp .ne 5, 3) := by decide +kernel
theorem dM_room_9 : decode xM_room.2.1 9 = .ok (.iconst (-1), 1) := by decide +kernel
theorem dM_room_10 : decode xM_room.2.1 10 = .ok (.ireturn, 1) := by decide +kernel
theorem dM_room_11 : decode xM_room.2.1 11 = .ok (.aload_n 0, 1) := by decide +kernel
theorem dM_room_12 : decode xM_room.2.1 12 = .ok (.getfield 104, 3) := by decide +kernel
theorem dM_room_15 : decode xM_room.2.1 15 = .ok (.aload_n 0, 1) := by decide +kernel
theorem dM_room_16 : decode xM_room.2.1 16 = .ok (.getfield 135, 3) := by decide +kernel
theorem dM_room_19 : decode xM_room.2.1 19 = .ok (.iload_n 1, 1) := by decide +kernel
theorem dM_room_20 : decode xM_room.2.1 20 = .ok (.iastore, 1) := by decide +kernel
theorem dM_room_21 : decode xM_room.2.1 21 = .ok (.aload_n 0, 1) := by decide +kernel
theorem dM_room_22 : decode xM_room.2.1 22 = .ok (.getfield 107, 3) := by decide +kernel
theorem dM_room_25 : decode xM_room.2.1 25 = .ok (.aload_n 0, 1) := by decide +kernel
theorem dM_room_26 : decode xM_room.2.1 26 = .ok (.getfield 135, 3) := by decide +kernel
theorem dM_room_29 : decode xM_room.2.1 29 = .ok (.iload_n 2, 1) := by decide +kernel
theorem dM_room_30 : decode xM_room.2.1 30 = .ok (.iastore, 1) := by decide +kernel
theorem dM_room_31 : decode xM_room.2.1 31 = .ok (.aload_n 0, 1) := by decide +kernel
theorem dM_room_32 : decode xM_room.2.1 32 = .ok (.getfield 110, 3) := by decide +kernel
theorem dM_room_35 : decode xM_room.2.1 35 = .ok (.aload_n 0, 1) := by decide +kernel
theorem dM_room_36 : decode xM_room.2.1 36 = .ok (.getfield 135, 3) := by decide +kernel
theorem dM_room_39 : decode xM_room.2.1 39 = .ok (.iload_n 3, 1) := by decide +kernel
theorem dM_room_40 : decode xM_room.2.1 40 = .ok (.iastore, 1) := by decide +kernel
theorem dM_room_41 : decode xM_room.2.1 41 = .ok (.aload_n 0, 1) := by decide +kernel
theorem dM_room_42 : decode xM_room.2.1 42 = .ok (.getfield 113, 3) := by decide +kernel
theorem dM_room_45 : decode xM_room.2.1 45 = .ok (.aload_n 0, 1) := by decide +kernel
theorem dM_room_46 : decode xM_room.2.1 46 = .ok (.getfield 135, 3) := by decide +kernel
theorem dM_room_49 : decode xM_room.2.1 49 = .ok (.iload 4, 2) := by decide +kernel
theorem dM_room_51 : decode xM_room.2.1 51 = .ok (.iastore, 1) := by decide +kernel
theorem dM_room_52 : decode xM_room.2.1 52 = .ok (.aload_n 0, 1) := by decide +kernel
theorem dM_room_53 : decode xM_room.2.1 53 = .ok (.getfield 116, 3) := by decide +kernel
theorem dM_room_56 : decode xM_room.2.1 56 = .ok (.aload_n 0, 1) := by decide +kernel
theorem dM_room_57 : decode xM_room.2.1 57 = .ok (.getfield 135, 3) := by decide +kernel
theorem dM_room_60 : decode xM_room.2.1 60 = .ok (.iconst 0, 1) := by decide +kernel
theorem dM_room_61 : decode xM_room.2.1 61 = .ok (.iastore, 1) := by decide +kernel
theorem dM_room_62 : decode xM_room.2.1 62 = .ok (.aload_n 0, 1) := by decide +kernel
theorem dM_room_63 : decode xM_room.2.1 63 = .ok (.getfield 119, 3) := by decide +kernel
theorem dM_room_66 : decode xM_room.2.1 66 = .ok (.aload_n 0, 1) := by decide +kernel
theorem dM_room_67 : decode xM_room.2.1 67 = .ok (.getfield 135, 3) := by decide +kernel
theorem dM_room_70 : decode xM_room.2.1 70 = .ok (.iconst 0, 1) := by decide +kernel
theorem dM_room_71 : decode xM_room.2.1 71 = .ok (.bastore, 1) := by decide +kernel
theorem dM_room_72 : decode xM_room.2.1 72 = .ok (.aload_n 0, 1) := by decide +kernel
theorem dM_room_73 : decode xM_room.2.1 73 = .ok (.getfield 122, 3) := by decide +kernel
theorem dM_room_76 : decode xM_room.2.1 76 = .ok (.aload_n 0, 1) := by decide +kernel
theorem dM_room_77 : decode xM_room.2.1 77 = .ok (.getfield 135, 3) := by decide +kernel
theorem dM_room_80 : decode xM_room.2.1 80 = .ok (.iconst 0, 1) := by decide +kernel
theorem dM_room_81 : decode xM_room.2.1 81 = .ok (.iastore, 1) := by decide +kernel
theorem dM_room_82 : decode xM_room.2.1 82 = .ok (.aload_n 0, 1) := by decide +kernel
theorem dM_room_83 : decode xM_room.2.1 83 = .ok (.getfield 125, 3) := by decide +kernel
theorem dM_room_86 : decode xM_room.2.1 86 = .ok (.aload_n 0, 1) := by decide +kernel
theorem dM_room_87 : decode xM_room.2.1 87 = .ok (.getfield 135, 3) := by decide +kernel
theorem dM_room_90 : decode xM_room.2.1 90 = .ok (.iconst 0, 1) := by decide +kernel
theorem dM_room_91 : decode xM_room.2.1 91 = .ok (.iastore, 1) := by decide +kernel
theorem dM_room_92 : decode xM_room.2.1 92 = .ok (.aload_n 0, 1) := by decide +kernel
theorem dM_room_93 : decode xM_room.2.1 93 = .ok (.dup, 1) := by decide +kernel
theorem dM_room_94 : decode xM_room.2.1 94 = .ok (.getfield 135, 3) := by decide +kernel
theorem dM_room_97 : decode xM_room.2.1 97 = .ok (.iconst 1, 1) := by decide +kernel
theorem dM_room_98 : decode xM_room.2.1 98 = .ok (.iadd, 1) := by decide +kernel
theorem dM_room_99 : decode xM_room.2.1 99 = .ok (.putfield 135, 3) := by decide +kernel
theorem dM_room_102 : decode xM_room.2.1 102 = .ok (.aload_n 0, 1) := by decide +kernel
theorem dM_room_103 : decode xM_room.2.1 103 = .ok (.getfield 135, 3) := by decide +kernel
theorem dM_room_106 : decode xM_room.2.1 106 = .ok (.iconst 1, 1) := by decide +kernel
theorem dM_room_107 : decode xM_room.2.1 107 = .ok (.isub, 1) := by decide +kernel
theorem dM_room_108 : decode xM_room.2.1 108 = .ok (.ireturn, 1) := by decide +kernel
def xM_move : mt_X := (⟨"LeasedPagesModel", "move", "(II)V"⟩, prog_12_method_4_code, 4, (Option.none : Option FieldType))
theorem dM_move_0 : decode xM_move.2.1 0 = .ok (.aload_n 0, 1) := by decide +kernel
theorem dM_move_1 : decode xM_move.2.1 1 = .ok (.getfield 104, 3) := by decide +kernel
theorem dM_move_4 : decode xM_move.2.1 4 = .ok (.iload_n 2, 1) := by decide +kernel
theorem dM_move_5 : decode xM_move.2.1 5 = .ok (.aload_n 0, 1) := by decide +kernel
theorem dM_move_6 : decode xM_move.2.1 6 = .ok (.getfield 104, 3) := by decide +kernel
theorem dM_move_9 : decode xM_move.2.1 9 = .ok (.iload_n 1, 1) := by decide +kernel
theorem dM_move_10 : decode xM_move.2.1 10 = .ok (.iaload, 1) := by decide +kernel
theorem dM_move_11 : decode xM_move.2.1 11 = .ok (.iastore, 1) := by decide +kernel
theorem dM_move_12 : decode xM_move.2.1 12 = .ok (.aload_n 0, 1) := by decide +kernel
theorem dM_move_13 : decode xM_move.2.1 13 = .ok (.getfield 107, 3) := by decide +kernel
theorem dM_move_16 : decode xM_move.2.1 16 = .ok (.iload_n 2, 1) := by decide +kernel
theorem dM_move_17 : decode xM_move.2.1 17 = .ok (.aload_n 0, 1) := by decide +kernel
theorem dM_move_18 : decode xM_move.2.1 18 = .ok (.getfield 107, 3) := by decide +kernel
theorem dM_move_21 : decode xM_move.2.1 21 = .ok (.iload_n 1, 1) := by decide +kernel
theorem dM_move_22 : decode xM_move.2.1 22 = .ok (.iaload, 1) := by decide +kernel
theorem dM_move_23 : decode xM_move.2.1 23 = .ok (.iastore, 1) := by decide +kernel
theorem dM_move_24 : decode xM_move.2.1 24 = .ok (.aload_n 0, 1) := by decide +kernel
theorem dM_move_25 : decode xM_move.2.1 25 = .ok (.getfield 110, 3) := by decide +kernel
theorem dM_move_28 : decode xM_move.2.1 28 = .ok (.iload_n 2, 1) := by decide +kernel
theorem dM_move_29 : decode xM_move.2.1 29 = .ok (.aload_n 0, 1) := by decide +kernel
theorem dM_move_30 : decode xM_move.2.1 30 = .ok (.getfield 110, 3) := by decide +kernel
theorem dM_move_33 : decode xM_move.2.1 33 = .ok (.iload_n 1, 1) := by decide +kernel
theorem dM_move_34 : decode xM_move.2.1 34 = .ok (.iaload, 1) := by decide +kernel
theorem dM_move_35 : decode xM_move.2.1 35 = .ok (.iastore, 1) := by decide +kernel
theorem dM_move_36 : decode xM_move.2.1 36 = .ok (.aload_n 0, 1) := by decide +kernel
theorem dM_move_37 : decode xM_move.2.1 37 = .ok (.getfield 113, 3) := by decide +kernel
theorem dM_move_40 : decode xM_move.2.1 40 = .ok (.iload_n 2, 1) := by decide +kernel
theorem dM_move_41 : decode xM_move.2.1 41 = .ok (.aload_n 0, 1) := by decide +kernel
theorem dM_move_42 : decode xM_move.2.1 42 = .ok (.getfield 113, 3) := by decide +kernel
theorem dM_move_45 : decode xM_move.2.1 45 = .ok (.iload_n 1, 1) := by decide +kernel
theorem dM_move_46 : decode xM_move.2.1 46 = .ok (.iaload, 1) := by decide +kernel
theorem dM_move_47 : decode xM_move.2.1 47 = .ok (.iastore, 1) := by decide +kernel
theorem dM_move_48 : decode xM_move.2.1 48 = .ok (.aload_n 0, 1) := by decide +kernel
theorem dM_move_49 : decode xM_move.2.1 49 = .ok (.getfield 116, 3) := by decide +kernel
theorem dM_move_52 : decode xM_move.2.1 52 = .ok (.iload_n 2, 1) := by decide +kernel
theorem dM_move_53 : decode xM_move.2.1 53 = .ok (.aload_n 0, 1) := by decide +kernel
theorem dM_move_54 : decode xM_move.2.1 54 = .ok (.getfield 116, 3) := by decide +kernel
theorem dM_move_57 : decode xM_move.2.1 57 = .ok (.iload_n 1, 1) := by decide +kernel
theorem dM_move_58 : decode xM_move.2.1 58 = .ok (.iaload, 1) := by decide +kernel
theorem dM_move_59 : decode xM_move.2.1 59 = .ok (.iastore, 1) := by decide +kernel
theorem dM_move_60 : decode xM_move.2.1 60 = .ok (.aload_n 0, 1) := by decide +kernel
theorem dM_move_61 : decode xM_move.2.1 61 = .ok (.getfield 119, 3) := by decide +kernel
theorem dM_move_64 : decode xM_move.2.1 64 = .ok (.iload_n 2, 1) := by decide +kernel
theorem dM_move_65 : decode xM_move.2.1 65 = .ok (.aload_n 0, 1) := by decide +kernel
theorem dM_move_66 : decode xM_move.2.1 66 = .ok (.getfield 119, 3) := by decide +kernel
theorem dM_move_69 : decode xM_move.2.1 69 = .ok (.iload_n 1, 1) := by decide +kernel
theorem dM_move_70 : decode xM_move.2.1 70 = .ok (.baload, 1) := by decide +kernel
theorem dM_move_71 : decode xM_move.2.1 71 = .ok (.bastore, 1) := by decide +kernel
theorem dM_move_72 : decode xM_move.2.1 72 = .ok (.aload_n 0, 1) := by decide +kernel
theorem dM_move_73 : decode xM_move.2.1 73 = .ok (.getfield 122, 3) := by decide +kernel
theorem dM_move_76 : decode xM_move.2.1 76 = .ok (.iload_n 2, 1) := by decide +kernel
theorem dM_move_77 : decode xM_move.2.1 77 = .ok (.aload_n 0, 1) := by decide +kernel
theorem dM_move_78 : decode xM_move.2.1 78 = .ok (.getfield 122, 3) := by decide +kernel
theorem dM_move_81 : decode xM_move.2.1 81 = .ok (.iload_n 1, 1) := by decide +kernel
theorem dM_move_82 : decode xM_move.2.1 82 = .ok (.iaload, 1) := by decide +kernel
theorem dM_move_83 : decode xM_move.2.1 83 = .ok (.iastore, 1) := by decide +kernel
theorem dM_move_84 : decode xM_move.2.1 84 = .ok (.aload_n 0, 1) := by decide +kernel
theorem dM_move_85 : decode xM_move.2.1 85 = .ok (.getfield 125, 3) := by decide +kernel
theorem dM_move_88 : decode xM_move.2.1 88 = .ok (.iload_n 2, 1) := by decide +kernel
theorem dM_move_89 : decode xM_move.2.1 89 = .ok (.aload_n 0, 1) := by decide +kernel
theorem dM_move_90 : decode xM_move.2.1 90 = .ok (.getfield 125, 3) := by decide +kernel
theorem dM_move_93 : decode xM_move.2.1 93 = .ok (.iload_n 1, 1) := by decide +kernel
theorem dM_move_94 : decode xM_move.2.1 94 = .ok (.iaload, 1) := by decide +kernel
theorem dM_move_95 : decode xM_move.2.1 95 = .ok (.iastore, 1) := by decide +kernel
theorem dM_move_96 : decode xM_move.2.1 96 = .ok (.iconst 0, 1) := by decide +kernel
theorem dM_move_97 : decode xM_move.2.1 97 = .ok (.istore_n 3, 1) := by decide +kernel
theorem dM_move_98 : decode xM_move.2.1 98 = .ok (.iload_n 3, 1) := by decide +kernel
theorem dM_move_99 : decode xM_move.2.1 99 = .ok (.iconst 4, 1) := by decide +kernel
theorem dM_move_100 : decode xM_move.2.1 100 = .ok (.if_icmp .ge 29, 3) := by decide +kernel
theorem dM_move_103 : decode xM_move.2.1 103 = .ok (.aload_n 0, 1) := by decide +kernel
theorem dM_move_104 : decode xM_move.2.1 104 = .ok (.getfield 128, 3) := by decide +kernel
theorem dM_move_107 : decode xM_move.2.1 107 = .ok (.iconst 4, 1) := by decide +kernel
theorem dM_move_108 : decode xM_move.2.1 108 = .ok (.iload_n 2, 1) := by decide +kernel
theorem dM_move_109 : decode xM_move.2.1 109 = .ok (.imul, 1) := by decide +kernel
theorem dM_move_110 : decode xM_move.2.1 110 = .ok (.iload_n 3, 1) := by decide +kernel
theorem dM_move_111 : decode xM_move.2.1 111 = .ok (.iadd, 1) := by decide +kernel
theorem dM_move_112 : decode xM_move.2.1 112 = .ok (.aload_n 0, 1) := by decide +kernel
theorem dM_move_113 : decode xM_move.2.1 113 = .ok (.getfield 128, 3) := by decide +kernel
theorem dM_move_116 : decode xM_move.2.1 116 = .ok (.iconst 4, 1) := by decide +kernel
theorem dM_move_117 : decode xM_move.2.1 117 = .ok (.iload_n 1, 1) := by decide +kernel
theorem dM_move_118 : decode xM_move.2.1 118 = .ok (.imul, 1) := by decide +kernel
theorem dM_move_119 : decode xM_move.2.1 119 = .ok (.iload_n 3, 1) := by decide +kernel
theorem dM_move_120 : decode xM_move.2.1 120 = .ok (.iadd, 1) := by decide +kernel
theorem dM_move_121 : decode xM_move.2.1 121 = .ok (.iaload, 1) := by decide +kernel
theorem dM_move_122 : decode xM_move.2.1 122 = .ok (.iastore, 1) := by decide +kernel
theorem dM_move_123 : decode xM_move.2.1 123 = .ok (.iinc 3 1, 3) := by decide +kernel
theorem dM_move_126 : decode xM_move.2.1 126 = .ok (.goto (-28), 3) := by decide +kernel
theorem dM_move_129 : decode xM_move.2.1 129 = .ok (.return_, 1) := by decide +kernel
def xM_messages : mt_X := (⟨"LeasedPagesModel", "messages", "()I"⟩, prog_12_method_5_code, 1, (Option.some FieldType.int))
theorem dM_messages_0 : decode xM_messages.2.1 0 = .ok (.aload_n 0, 1) := by decide +kernel
theorem dM_messages_1 : decode xM_messages.2.1 1 = .ok (.getfield 135, 3) := by decide +kernel
theorem dM_messages_4 : decode xM_messages.2.1 4 = .ok (.ireturn, 1) := by decide +kernel
def xM_message : mt_X := (⟨"LeasedPagesModel", "message", "(I)I"⟩, prog_12_method_6_code, 2, (Option.some FieldType.int))
theorem dM_message_0 : decode xM_message.2.1 0 = .ok (.iload_n 1, 1) := by decide +kernel
theorem dM_message_1 : decode xM_message.2.1 1 = .ok (.iconst 0, 1) := by decide +kernel
theorem dM_message_2 : decode xM_message.2.1 2 = .ok (.aload_n 0, 1) := by decide +kernel
theorem dM_message_3 : decode xM_message.2.1 3 = .ok (.getfield 135, 3) := by decide +kernel
theorem dM_message_6 : decode xM_message.2.1 6 = .ok (.iconst 1, 1) := by decide +kernel
theorem dM_message_7 : decode xM_message.2.1 7 = .ok (.isub, 1) := by decide +kernel
theorem dM_message_8 : decode xM_message.2.1 8 = .ok (.invokestatic 138, 3) := by decide +kernel
theorem dM_message_11 : decode xM_message.2.1 11 = .ok (.ifCond .eq 43, 3) := by decide +kernel
theorem dM_message_14 : decode xM_message.2.1 14 = .ok (.ldc 142, 2) := by decide +kernel
theorem dM_message_16 : decode xM_message.2.1 16 = .ok (.aload_n 0, 1) := by decide +kernel
theorem dM_message_17 : decode xM_message.2.1 17 = .ok (.getfield 104, 3) := by decide +kernel
theorem dM_message_20 : decode xM_message.2.1 20 = .ok (.iload_n 1, 1) := by decide +kernel
theorem dM_message_21 : decode xM_message.2.1 21 = .ok (.iaload, 1) := by decide +kernel
theorem dM_message_22 : decode xM_message.2.1 22 = .ok (.imul, 1) := by decide +kernel
theorem dM_message_23 : decode xM_message.2.1 23 = .ok (.ldc 143, 2) := by decide +kernel
theorem dM_message_25 : decode xM_message.2.1 25 = .ok (.aload_n 0, 1) := by decide +kernel
theorem dM_message_26 : decode xM_message.2.1 26 = .ok (.getfield 107, 3) := by decide +kernel
theorem dM_message_29 : decode xM_message.2.1 29 = .ok (.iload_n 1, 1) := by decide +kernel
theorem dM_message_30 : decode xM_message.2.1 30 = .ok (.iaload, 1) := by decide +kernel
theorem dM_message_31 : decode xM_message.2.1 31 = .ok (.imul, 1) := by decide +kernel
theorem dM_message_32 : decode xM_message.2.1 32 = .ok (.iadd, 1) := by decide +kernel
theorem dM_message_33 : decode xM_message.2.1 33 = .ok (.sipush 10000, 3) := by decide +kernel
theorem dM_message_36 : decode xM_message.2.1 36 = .ok (.aload_n 0, 1) := by decide +kernel
theorem dM_message_37 : decode xM_message.2.1 37 = .ok (.getfield 110, 3) := by decide +kernel
theorem dM_message_40 : decode xM_message.2.1 40 = .ok (.iload_n 1, 1) := by decide +kernel
theorem dM_message_41 : decode xM_message.2.1 41 = .ok (.iaload, 1) := by decide +kernel
theorem dM_message_42 : decode xM_message.2.1 42 = .ok (.imul, 1) := by decide +kernel
theorem dM_message_43 : decode xM_message.2.1 43 = .ok (.iadd, 1) := by decide +kernel
theorem dM_message_44 : decode xM_message.2.1 44 = .ok (.aload_n 0, 1) := by decide +kernel
theorem dM_message_45 : decode xM_message.2.1 45 = .ok (.getfield 113, 3) := by decide +kernel
theorem dM_message_48 : decode xM_message.2.1 48 = .ok (.iload_n 1, 1) := by decide +kernel
theorem dM_message_49 : decode xM_message.2.1 49 = .ok (.iaload, 1) := by decide +kernel
theorem dM_message_50 : decode xM_message.2.1 50 = .ok (.iadd, 1) := by decide +kernel
theorem dM_message_51 : decode xM_message.2.1 51 = .ok (.goto 4, 3) := by decide +kernel
theorem dM_message_54 : decode xM_message.2.1 54 = .ok (.iconst (-1), 1) := by decide +kernel
theorem dM_message_55 : decode xM_message.2.1 55 = .ok (.ireturn, 1) := by decide +kernel
def xM_drop : mt_X := (⟨"LeasedPagesModel", "drop", "(I)Z"⟩, prog_12_method_7_code, 3, (Option.some FieldType.boolean))
theorem dM_drop_0 : decode xM_drop.2.1 0 = .ok (.iload_n 1, 1) := by decide +kernel
theorem dM_drop_1 : decode xM_drop.2.1 1 = .ok (.iconst 0, 1) := by decide +kernel
theorem dM_drop_2 : decode xM_drop.2.1 2 = .ok (.aload_n 0, 1) := by decide +kernel
theorem dM_drop_3 : decode xM_drop.2.1 3 = .ok (.getfield 135, 3) := by decide +kernel
theorem dM_drop_6 : decode xM_drop.2.1 6 = .ok (.iconst 1, 1) := by decide +kernel
theorem dM_drop_7 : decode xM_drop.2.1 7 = .ok (.isub, 1) := by decide +kernel
theorem dM_drop_8 : decode xM_drop.2.1 8 = .ok (.invokestatic 138, 3) := by decide +kernel
theorem dM_drop_11 : decode xM_drop.2.1 11 = .ok (.ifCond .ne 5, 3) := by decide +kernel
theorem dM_drop_14 : decode xM_drop.2.1 14 = .ok (.iconst 0, 1) := by decide +kernel
theorem dM_drop_15 : decode xM_drop.2.1 15 = .ok (.ireturn, 1) := by decide +kernel
theorem dM_drop_16 : decode xM_drop.2.1 16 = .ok (.aload_n 0, 1) := by decide +kernel
theorem dM_drop_17 : decode xM_drop.2.1 17 = .ok (.dup, 1) := by decide +kernel
theorem dM_drop_18 : decode xM_drop.2.1 18 = .ok (.getfield 135, 3) := by decide +kernel
theorem dM_drop_21 : decode xM_drop.2.1 21 = .ok (.iconst 1, 1) := by decide +kernel
theorem dM_drop_22 : decode xM_drop.2.1 22 = .ok (.isub, 1) := by decide +kernel
theorem dM_drop_23 : decode xM_drop.2.1 23 = .ok (.putfield 135, 3) := by decide +kernel
theorem dM_drop_26 : decode xM_drop.2.1 26 = .ok (.iload_n 1, 1) := by decide +kernel
theorem dM_drop_27 : decode xM_drop.2.1 27 = .ok (.istore_n 2, 1) := by decide +kernel
theorem dM_drop_28 : decode xM_drop.2.1 28 = .ok (.iload_n 2, 1) := by decide +kernel
theorem dM_drop_29 : decode xM_drop.2.1 29 = .ok (.aload_n 0, 1) := by decide +kernel
theorem dM_drop_30 : decode xM_drop.2.1 30 = .ok (.getfield 135, 3) := by decide +kernel
theorem dM_drop_33 : decode xM_drop.2.1 33 = .ok (.if_icmp .ge 17, 3) := by decide +kernel
theorem dM_drop_36 : decode xM_drop.2.1 36 = .ok (.aload_n 0, 1) := by decide +kernel
theorem dM_drop_37 : decode xM_drop.2.1 37 = .ok (.iload_n 2, 1) := by decide +kernel
theorem dM_drop_38 : decode xM_drop.2.1 38 = .ok (.iconst 1, 1) := by decide +kernel
theorem dM_drop_39 : decode xM_drop.2.1 39 = .ok (.iadd, 1) := by decide +kernel
theorem dM_drop_40 : decode xM_drop.2.1 40 = .ok (.iload_n 2, 1) := by decide +kernel
theorem dM_drop_41 : decode xM_drop.2.1 41 = .ok (.invokevirtual 144, 3) := by decide +kernel
theorem dM_drop_44 : decode xM_drop.2.1 44 = .ok (.iinc 2 1, 3) := by decide +kernel
theorem dM_drop_47 : decode xM_drop.2.1 47 = .ok (.goto (-19), 3) := by decide +kernel
theorem dM_drop_50 : decode xM_drop.2.1 50 = .ok (.iconst 1, 1) := by decide +kernel
theorem dM_drop_51 : decode xM_drop.2.1 51 = .ok (.ireturn, 1) := by decide +kernel
def xM_duplicate : mt_X := (⟨"LeasedPagesModel", "duplicate", "(I)Z"⟩, prog_12_method_8_code, 2, (Option.some FieldType.boolean))
theorem dM_duplicate_0 : decode xM_duplicate.2.1 0 = .ok (.iload_n 1, 1) := by decide +kernel
theorem dM_duplicate_1 : decode xM_duplicate.2.1 1 = .ok (.iconst 0, 1) := by decide +kernel
theorem dM_duplicate_2 : decode xM_duplicate.2.1 2 = .ok (.aload_n 0, 1) := by decide +kernel
theorem dM_duplicate_3 : decode xM_duplicate.2.1 3 = .ok (.getfield 135, 3) := by decide +kernel
theorem dM_duplicate_6 : decode xM_duplicate.2.1 6 = .ok (.iconst 1, 1) := by decide +kernel
theorem dM_duplicate_7 : decode xM_duplicate.2.1 7 = .ok (.isub, 1) := by decide +kernel
theorem dM_duplicate_8 : decode xM_duplicate.2.1 8 = .ok (.invokestatic 138, 3) := by decide +kernel
theorem dM_duplicate_11 : decode xM_duplicate.2.1 11 = .ok (.ifCond .eq 12, 3) := by decide +kernel
theorem dM_duplicate_14 : decode xM_duplicate.2.1 14 = .ok (.aload_n 0, 1) := by decide +kernel
theorem dM_duplicate_15 : decode xM_duplicate.2.1 15 = .ok (.getfield 135, 3) := by decide +kernel
theorem dM_duplicate_18 : decode xM_duplicate.2.1 18 = .ok (.bipush 60, 2) := by decide +kernel
theorem dM_duplicate_20 : decode xM_duplicate.2.1 20 = .ok (.if_icmp .ne 5, 3) := by decide +kernel
theorem dM_duplicate_23 : decode xM_duplicate.2.1 23 = .ok (.iconst 0, 1) := by decide +kernel
theorem dM_duplicate_24 : decode xM_duplicate.2.1 24 = .ok (.ireturn, 1) := by decide +kernel
theorem dM_duplicate_25 : decode xM_duplicate.2.1 25 = .ok (.aload_n 0, 1) := by decide +kernel
theorem dM_duplicate_26 : decode xM_duplicate.2.1 26 = .ok (.iload_n 1, 1) := by decide +kernel
theorem dM_duplicate_27 : decode xM_duplicate.2.1 27 = .ok (.aload_n 0, 1) := by decide +kernel
theorem dM_duplicate_28 : decode xM_duplicate.2.1 28 = .ok (.getfield 135, 3) := by decide +kernel
theorem dM_duplicate_31 : decode xM_duplicate.2.1 31 = .ok (.invokevirtual 144, 3) := by decide +kernel
theorem dM_duplicate_34 : decode xM_duplicate.2.1 34 = .ok (.aload_n 0, 1) := by decide +kernel
theorem dM_duplicate_35 : decode xM_duplicate.2.1 35 = .ok (.dup, 1) := by decide +kernel
theorem dM_duplicate_36 : decode xM_duplicate.2.1 36 = .ok (.getfield 135, 3) := by decide +kernel
theorem dM_duplicate_39 : decode xM_duplicate.2.1 39 = .ok (.iconst 1, 1) := by decide +kernel
theorem dM_duplicate_40 : decode xM_duplicate.2.1 40 = .ok (.iadd, 1) := by decide +kernel
theorem dM_duplicate_41 : decode xM_duplicate.2.1 41 = .ok (.putfield 135, 3) := by decide +kernel
theorem dM_duplicate_44 : decode xM_duplicate.2.1 44 = .ok (.iconst 1, 1) := by decide +kernel
theorem dM_duplicate_45 : decode xM_duplicate.2.1 45 = .ok (.ireturn, 1) := by decide +kernel
def xM_ask : mt_X := (⟨"LeasedPagesModel", "ask", "(I)V"⟩, prog_12_method_9_code, 3, (Option.none : Option FieldType))
theorem dM_ask_0 : decode xM_ask.2.1 0 = .ok (.aload_n 0, 1) := by decide +kernel
theorem dM_ask_1 : decode xM_ask.2.1 1 = .ok (.aload_n 0, 1) := by decide +kernel
theorem dM_ask_2 : decode xM_ask.2.1 2 = .ok (.getfield 83, 3) := by decide +kernel
theorem dM_ask_5 : decode xM_ask.2.1 5 = .ok (.iload_n 1, 1) := by decide +kernel
theorem dM_ask_6 : decode xM_ask.2.1 6 = .ok (.iaload, 1) := by decide +kernel
theorem dM_ask_7 : decode xM_ask.2.1 7 = .ok (.iload_n 1, 1) := by decide +kernel
theorem dM_ask_8 : decode xM_ask.2.1 8 = .ok (.aload_n 0, 1) := by decide +kernel
theorem dM_ask_9 : decode xM_ask.2.1 9 = .ok (.getfield 86, 3) := by decide +kernel
theorem dM_ask_12 : decode xM_ask.2.1 12 = .ok (.iload_n 1, 1) := by decide +kernel
theorem dM_ask_13 : decode xM_ask.2.1 13 = .ok (.iaload, 1) := by decide +kernel
theorem dM_ask_14 : decode xM_ask.2.1 14 = .ok (.aload_n 0, 1) := by decide +kernel
theorem dM_ask_15 : decode xM_ask.2.1 15 = .ok (.getfield 56, 3) := by decide +kernel
theorem dM_ask_18 : decode xM_ask.2.1 18 = .ok (.iload_n 1, 1) := by decide +kernel
theorem dM_ask_19 : decode xM_ask.2.1 19 = .ok (.iaload, 1) := by decide +kernel
theorem dM_ask_20 : decode xM_ask.2.1 20 = .ok (.invokevirtual 148, 3) := by decide +kernel
theorem dM_ask_23 : decode xM_ask.2.1 23 = .ok (.istore_n 2, 1) := by decide +kernel
theorem dM_ask_24 : decode xM_ask.2.1 24 = .ok (.iload_n 2, 1) := by decide +kernel
theorem dM_ask_25 : decode xM_ask.2.1 25 = .ok (.ifCond .ge 4, 3) := by decide +kernel
theorem dM_ask_28 : decode xM_ask.2.1 28 = .ok (.return_, 1) := by decide +kernel
theorem dM_ask_29 : decode xM_ask.2.1 29 = .ok (.aload_n 0, 1) := by decide +kernel
theorem dM_ask_30 : decode xM_ask.2.1 30 = .ok (.getfield 116, 3) := by decide +kernel
theorem dM_ask_33 : decode xM_ask.2.1 33 = .ok (.iload_n 2, 1) := by decide +kernel
theorem dM_ask_34 : decode xM_ask.2.1 34 = .ok (.aload_n 0, 1) := by decide +kernel
theorem dM_ask_35 : decode xM_ask.2.1 35 = .ok (.getfield 89, 3) := by decide +kernel
theorem dM_ask_38 : decode xM_ask.2.1 38 = .ok (.iload_n 1, 1) := by decide +kernel
theorem dM_ask_39 : decode xM_ask.2.1 39 = .ok (.iaload, 1) := by decide +kernel
theorem dM_ask_40 : decode xM_ask.2.1 40 = .ok (.iastore, 1) := by decide +kernel
theorem dM_ask_41 : decode xM_ask.2.1 41 = .ok (.aload_n 0, 1) := by decide +kernel
theorem dM_ask_42 : decode xM_ask.2.1 42 = .ok (.getfield 119, 3) := by decide +kernel
theorem dM_ask_45 : decode xM_ask.2.1 45 = .ok (.iload_n 2, 1) := by decide +kernel
theorem dM_ask_46 : decode xM_ask.2.1 46 = .ok (.aload_n 0, 1) := by decide +kernel
theorem dM_ask_47 : decode xM_ask.2.1 47 = .ok (.getfield 92, 3) := by decide +kernel
theorem dM_ask_50 : decode xM_ask.2.1 50 = .ok (.iload_n 1, 1) := by decide +kernel
theorem dM_ask_51 : decode xM_ask.2.1 51 = .ok (.baload, 1) := by decide +kernel
theorem dM_ask_52 : decode xM_ask.2.1 52 = .ok (.bastore, 1) := by decide +kernel
theorem dM_ask_53 : decode xM_ask.2.1 53 = .ok (.aload_n 0, 1) := by decide +kernel
theorem dM_ask_54 : decode xM_ask.2.1 54 = .ok (.getfield 122, 3) := by decide +kernel
theorem dM_ask_57 : decode xM_ask.2.1 57 = .ok (.iload_n 2, 1) := by decide +kernel
theorem dM_ask_58 : decode xM_ask.2.1 58 = .ok (.aload_n 0, 1) := by decide +kernel
theorem dM_ask_59 : decode xM_ask.2.1 59 = .ok (.getfield 95, 3) := by decide +kernel
theorem dM_ask_62 : decode xM_ask.2.1 62 = .ok (.iload_n 1, 1) := by decide +kernel
theorem dM_ask_63 : decode xM_ask.2.1 63 = .ok (.iaload, 1) := by decide +kernel
theorem dM_ask_64 : decode xM_ask.2.1 64 = .ok (.iastore, 1) := by decide +kernel
theorem dM_ask_65 : decode xM_ask.2.1 65 = .ok (.aload_n 0, 1) := by decide +kernel
theorem dM_ask_66 : decode xM_ask.2.1 66 = .ok (.getfield 125, 3) := by decide +kernel
theorem dM_ask_69 : decode xM_ask.2.1 69 = .ok (.iload_n 2, 1) := by decide +kernel
theorem dM_ask_70 : decode xM_ask.2.1 70 = .ok (.aload_n 0, 1) := by decide +kernel
theorem dM_ask_71 : decode xM_ask.2.1 71 = .ok (.getfield 98, 3) := by decide +kernel
theorem dM_ask_74 : decode xM_ask.2.1 74 = .ok (.iload_n 1, 1) := by decide +kernel
theorem dM_ask_75 : decode xM_ask.2.1 75 = .ok (.iaload, 1) := by decide +kernel
theorem dM_ask_76 : decode xM_ask.2.1 76 = .ok (.iastore, 1) := by decide +kernel
theorem dM_ask_77 : decode xM_ask.2.1 77 = .ok (.return_, 1) := by decide +kernel
def xM_answer : mt_X := (⟨"LeasedPagesModel", "answer", "(I)V"⟩, prog_12_method_10_code, 4, (Option.none : Option FieldType))
theorem dM_answer_0 : decode xM_answer.2.1 0 = .ok (.aload_n 0, 1) := by decide +kernel
theorem dM_answer_1 : decode xM_answer.2.1 1 = .ok (.aload_n 0, 1) := by decide +kernel
theorem dM_answer_2 : decode xM_answer.2.1 2 = .ok (.getfield 29, 3) := by decide +kernel
theorem dM_answer_5 : decode xM_answer.2.1 5 = .ok (.iload_n 1, 1) := by decide +kernel
theorem dM_answer_6 : decode xM_answer.2.1 6 = .ok (.iaload, 1) := by decide +kernel
theorem dM_answer_7 : decode xM_answer.2.1 7 = .ok (.iload_n 1, 1) := by decide +kernel
theorem dM_answer_8 : decode xM_answer.2.1 8 = .ok (.aload_n 0, 1) := by decide +kernel
theorem dM_answer_9 : decode xM_answer.2.1 9 = .ok (.getfield 32, 3) := by decide +kernel
theorem dM_answer_12 : decode xM_answer.2.1 12 = .ok (.iload_n 1, 1) := by decide +kernel
theorem dM_answer_13 : decode xM_answer.2.1 13 = .ok (.iaload, 1) := by decide +kernel
theorem dM_answer_14 : decode xM_answer.2.1 14 = .ok (.aload_n 0, 1) := by decide +kernel
theorem dM_answer_15 : decode xM_answer.2.1 15 = .ok (.getfield 26, 3) := by decide +kernel
theorem dM_answer_18 : decode xM_answer.2.1 18 = .ok (.iload_n 1, 1) := by decide +kernel
theorem dM_answer_19 : decode xM_answer.2.1 19 = .ok (.iaload, 1) := by decide +kernel
theorem dM_answer_20 : decode xM_answer.2.1 20 = .ok (.invokevirtual 148, 3) := by decide +kernel
theorem dM_answer_23 : decode xM_answer.2.1 23 = .ok (.istore_n 2, 1) := by decide +kernel
theorem dM_answer_24 : decode xM_answer.2.1 24 = .ok (.iload_n 2, 1) := by decide +kernel
theorem dM_answer_25 : decode xM_answer.2.1 25 = .ok (.ifCond .ge 4, 3) := by decide +kernel
theorem dM_answer_28 : decode xM_answer.2.1 28 = .ok (.return_, 1) := by decide +kernel
theorem dM_answer_29 : decode xM_answer.2.1 29 = .ok (.aload_n 0, 1) := by decide +kernel
theorem dM_answer_30 : decode xM_answer.2.1 30 = .ok (.getfield 116, 3) := by decide +kernel
theorem dM_answer_33 : decode xM_answer.2.1 33 = .ok (.iload_n 2, 1) := by decide +kernel
theorem dM_answer_34 : decode xM_answer.2.1 34 = .ok (.aload_n 0, 1) := by decide +kernel
theorem dM_answer_35 : decode xM_answer.2.1 35 = .ok (.getfield 35, 3) := by decide +kernel
theorem dM_answer_38 : decode xM_answer.2.1 38 = .ok (.iload_n 1, 1) := by decide +kernel
theorem dM_answer_39 : decode xM_answer.2.1 39 = .ok (.iaload, 1) := by decide +kernel
theorem dM_answer_40 : decode xM_answer.2.1 40 = .ok (.iastore, 1) := by decide +kernel
theorem dM_answer_41 : decode xM_answer.2.1 41 = .ok (.aload_n 0, 1) := by decide +kernel
theorem dM_answer_42 : decode xM_answer.2.1 42 = .ok (.getfield 119, 3) := by decide +kernel
theorem dM_answer_45 : decode xM_answer.2.1 45 = .ok (.iload_n 2, 1) := by decide +kernel
theorem dM_answer_46 : decode xM_answer.2.1 46 = .ok (.aload_n 0, 1) := by decide +kernel
theorem dM_answer_47 : decode xM_answer.2.1 47 = .ok (.getfield 38, 3) := by decide +kernel
theorem dM_answer_50 : decode xM_answer.2.1 50 = .ok (.iload_n 1, 1) := by decide +kernel
theorem dM_answer_51 : decode xM_answer.2.1 51 = .ok (.baload, 1) := by decide +kernel
theorem dM_answer_52 : decode xM_answer.2.1 52 = .ok (.bastore, 1) := by decide +kernel
theorem dM_answer_53 : decode xM_answer.2.1 53 = .ok (.iconst 0, 1) := by decide +kernel
theorem dM_answer_54 : decode xM_answer.2.1 54 = .ok (.istore_n 3, 1) := by decide +kernel
theorem dM_answer_55 : decode xM_answer.2.1 55 = .ok (.iload_n 3, 1) := by decide +kernel
theorem dM_answer_56 : decode xM_answer.2.1 56 = .ok (.iconst 4, 1) := by decide +kernel
theorem dM_answer_57 : decode xM_answer.2.1 57 = .ok (.if_icmp .ge 29, 3) := by decide +kernel
theorem dM_answer_60 : decode xM_answer.2.1 60 = .ok (.aload_n 0, 1) := by decide +kernel
theorem dM_answer_61 : decode xM_answer.2.1 61 = .ok (.getfield 128, 3) := by decide +kernel
theorem dM_answer_64 : decode xM_answer.2.1 64 = .ok (.iconst 4, 1) := by decide +kernel
theorem dM_answer_65 : decode xM_answer.2.1 65 = .ok (.iload_n 2, 1) := by decide +kernel
theorem dM_answer_66 : decode xM_answer.2.1 66 = .ok (.imul, 1) := by decide +kernel
theorem dM_answer_67 : decode xM_answer.2.1 67 = .ok (.iload_n 3, 1) := by decide +kernel
theorem dM_answer_68 : decode xM_answer.2.1 68 = .ok (.iadd, 1) := by decide +kernel
theorem dM_answer_69 : decode xM_answer.2.1 69 = .ok (.aload_n 0, 1) := by decide +kernel
theorem dM_answer_70 : decode xM_answer.2.1 70 = .ok (.getfield 41, 3) := by decide +kernel
theorem dM_answer_73 : decode xM_answer.2.1 73 = .ok (.iconst 4, 1) := by decide +kernel
theorem dM_answer_74 : decode xM_answer.2.1 74 = .ok (.iload_n 1, 1) := by decide +kernel
theorem dM_answer_75 : decode xM_answer.2.1 75 = .ok (.imul, 1) := by decide +kernel
theorem dM_answer_76 : decode xM_answer.2.1 76 = .ok (.iload_n 3, 1) := by decide +kernel
theorem dM_answer_77 : decode xM_answer.2.1 77 = .ok (.iadd, 1) := by decide +kernel
theorem dM_answer_78 : decode xM_answer.2.1 78 = .ok (.iaload, 1) := by decide +kernel
theorem dM_answer_79 : decode xM_answer.2.1 79 = .ok (.iastore, 1) := by decide +kernel
theorem dM_answer_80 : decode xM_answer.2.1 80 = .ok (.iinc 3 1, 3) := by decide +kernel
theorem dM_answer_83 : decode xM_answer.2.1 83 = .ok (.goto (-28), 3) := by decide +kernel
theorem dM_answer_86 : decode xM_answer.2.1 86 = .ok (.return_, 1) := by decide +kernel
def xM_deliver : mt_X := (⟨"LeasedPagesModel", "deliver", "(I)Z"⟩, prog_12_method_11_code, 10, (Option.some FieldType.boolean))
theorem dM_deliver_0 : decode xM_deliver.2.1 0 = .ok (.iload_n 1, 1) := by decide +kernel
theorem dM_deliver_1 : decode xM_deliver.2.1 1 = .ok (.iconst 0, 1) := by decide +kernel
theorem dM_deliver_2 : decode xM_deliver.2.1 2 = .ok (.aload_n 0, 1) := by decide +kernel
theorem dM_deliver_3 : decode xM_deliver.2.1 3 = .ok (.getfield 135, 3) := by decide +kernel
theorem dM_deliver_6 : decode xM_deliver.2.1 6 = .ok (.iconst 1, 1) := by decide +kernel
theorem dM_deliver_7 : decode xM_deliver.2.1 7 = .ok (.isub, 1) := by decide +kernel
theorem dM_deliver_8 : decode xM_deliver.2.1 8 = .ok (.invokestatic 138, 3) := by decide +kernel
theorem dM_deliver_11 : decode xM_deliver.2.1 11 = .ok (.ifCond .ne 5, 3) := by decide +kernel
theorem dM_deliver_14 : decode xM_deliver.2.1 14 = .ok (.iconst 0, 1) := by decide +kernel
theorem dM_deliver_15 : decode xM_deliver.2.1 15 = .ok (.ireturn, 1) := by decide +kernel
theorem dM_deliver_16 : decode xM_deliver.2.1 16 = .ok (.aload_n 0, 1) := by decide +kernel
theorem dM_deliver_17 : decode xM_deliver.2.1 17 = .ok (.getfield 104, 3) := by decide +kernel
theorem dM_deliver_20 : decode xM_deliver.2.1 20 = .ok (.iload_n 1, 1) := by decide +kernel
theorem dM_deliver_21 : decode xM_deliver.2.1 21 = .ok (.iaload, 1) := by decide +kernel
theorem dM_deliver_22 : decode xM_deliver.2.1 22 = .ok (.istore_n 2, 1) := by decide +kernel
theorem dM_deliver_23 : decode xM_deliver.2.1 23 = .ok (.aload_n 0, 1) := by decide +kernel
theorem dM_deliver_24 : decode xM_deliver.2.1 24 = .ok (.getfield 107, 3) := by decide +kernel
theorem dM_deliver_27 : decode xM_deliver.2.1 27 = .ok (.iload_n 1, 1) := by decide +kernel
theorem dM_deliver_28 : decode xM_deliver.2.1 28 = .ok (.iaload, 1) := by decide +kernel
theorem dM_deliver_29 : decode xM_deliver.2.1 29 = .ok (.istore_n 3, 1) := by decide +kernel
theorem dM_deliver_30 : decode xM_deliver.2.1 30 = .ok (.aload_n 0, 1) := by decide +kernel
theorem dM_deliver_31 : decode xM_deliver.2.1 31 = .ok (.getfield 110, 3) := by decide +kernel
theorem dM_deliver_34 : decode xM_deliver.2.1 34 = .ok (.iload_n 1, 1) := by decide +kernel
theorem dM_deliver_35 : decode xM_deliver.2.1 35 = .ok (.iaload, 1) := by decide +kernel
theorem dM_deliver_36 : decode xM_deliver.2.1 36 = .ok (.istore 4, 2) := by decide +kernel
theorem dM_deliver_38 : decode xM_deliver.2.1 38 = .ok (.aload_n 0, 1) := by decide +kernel
theorem dM_deliver_39 : decode xM_deliver.2.1 39 = .ok (.getfield 113, 3) := by decide +kernel
theorem dM_deliver_42 : decode xM_deliver.2.1 42 = .ok (.iload_n 1, 1) := by decide +kernel
theorem dM_deliver_43 : decode xM_deliver.2.1 43 = .ok (.iaload, 1) := by decide +kernel
theorem dM_deliver_44 : decode xM_deliver.2.1 44 = .ok (.istore 5, 2) := by decide +kernel
theorem dM_deliver_46 : decode xM_deliver.2.1 46 = .ok (.aload_n 0, 1) := by decide +kernel
theorem dM_deliver_47 : decode xM_deliver.2.1 47 = .ok (.getfield 116, 3) := by decide +kernel
theorem dM_deliver_50 : decode xM_deliver.2.1 50 = .ok (.iload_n 1, 1) := by decide +kernel
theorem dM_deliver_51 : decode xM_deliver.2.1 51 = .ok (.iaload, 1) := by decide +kernel
theorem dM_deliver_52 : decode xM_deliver.2.1 52 = .ok (.istore 6, 2) := by decide +kernel
theorem dM_deliver_54 : decode xM_deliver.2.1 54 = .ok (.aload_n 0, 1) := by decide +kernel
theorem dM_deliver_55 : decode xM_deliver.2.1 55 = .ok (.getfield 119, 3) := by decide +kernel
theorem dM_deliver_58 : decode xM_deliver.2.1 58 = .ok (.iload_n 1, 1) := by decide +kernel
theorem dM_deliver_59 : decode xM_deliver.2.1 59 = .ok (.baload, 1) := by decide +kernel
theorem dM_deliver_60 : decode xM_deliver.2.1 60 = .ok (.istore 7, 2) := by decide +kernel
theorem dM_deliver_62 : decode xM_deliver.2.1 62 = .ok (.iconst 4, 1) := by decide +kernel
theorem dM_deliver_63 : decode xM_deliver.2.1 63 = .ok (.iload 4, 2) := by decide +kernel
theorem dM_deliver_65 : decode xM_deliver.2.1 65 = .ok (.imul, 1) := by decide +kernel
theorem dM_deliver_66 : decode xM_deliver.2.1 66 = .ok (.aload_n 0, 1) := by decide +kernel
theorem dM_deliver_67 : decode xM_deliver.2.1 67 = .ok (.getfield 122, 3) := by decide +kernel
theorem dM_deliver_70 : decode xM_deliver.2.1 70 = .ok (.iload_n 1, 1) := by decide +kernel
theorem dM_deliver_71 : decode xM_deliver.2.1 71 = .ok (.iaload, 1) := by decide +kernel
theorem dM_deliver_72 : decode xM_deliver.2.1 72 = .ok (.iadd, 1) := by decide +kernel
theorem dM_deliver_73 : decode xM_deliver.2.1 73 = .ok (.istore 8, 2) := by decide +kernel
theorem dM_deliver_75 : decode xM_deliver.2.1 75 = .ok (.aload_n 0, 1) := by decide +kernel
theorem dM_deliver_76 : decode xM_deliver.2.1 76 = .ok (.getfield 125, 3) := by decide +kernel
theorem dM_deliver_79 : decode xM_deliver.2.1 79 = .ok (.iload_n 1, 1) := by decide +kernel
theorem dM_deliver_80 : decode xM_deliver.2.1 80 = .ok (.iaload, 1) := by decide +kernel
theorem dM_deliver_81 : decode xM_deliver.2.1 81 = .ok (.istore 9, 2) := by decide +kernel
theorem dM_deliver_83 : decode xM_deliver.2.1 83 = .ok (.iload_n 2, 1) := by decide +kernel
theorem dM_deliver_84 : decode xM_deliver.2.1 84 = .ok (.iconst 4, 1) := by decide +kernel
theorem dM_deliver_85 : decode xM_deliver.2.1 85 = .ok (.if_icmp .ne 46, 3) := by decide +kernel
theorem dM_deliver_88 : decode xM_deliver.2.1 88 = .ok (.aload_n 0, 1) := by decide +kernel
theorem dM_deliver_89 : decode xM_deliver.2.1 89 = .ok (.getfield 7, 3) := by decide +kernel
theorem dM_deliver_92 : decode xM_deliver.2.1 92 = .ok (.iload_n 3, 1) := by decide +kernel
theorem dM_deliver_93 : decode xM_deliver.2.1 93 = .ok (.baload, 1) := by decide +kernel
theorem dM_deliver_94 : decode xM_deliver.2.1 94 = .ok (.ifCond .ne 37, 3) := by decide +kernel
theorem dM_deliver_97 : decode xM_deliver.2.1 97 = .ok (.aload_n 0, 1) := by decide +kernel
theorem dM_deliver_98 : decode xM_deliver.2.1 98 = .ok (.getfield 83, 3) := by decide +kernel
theorem dM_deliver_101 : decode xM_deliver.2.1 101 = .ok (.iload_n 3, 1) := by decide +kernel
theorem dM_deliver_102 : decode xM_deliver.2.1 102 = .ok (.iaload, 1) := by decide +kernel
theorem dM_deliver_103 : decode xM_deliver.2.1 103 = .ok (.ifCond .le 28, 3) := by decide +kernel
theorem dM_deliver_106 : decode xM_deliver.2.1 106 = .ok (.aload_n 0, 1) := by decide +kernel
theorem dM_deliver_107 : decode xM_deliver.2.1 107 = .ok (.getfield 56, 3) := by decide +kernel
theorem dM_deliver_110 : decode xM_deliver.2.1 110 = .ok (.iload_n 3, 1) := by decide +kernel
theorem dM_deliver_111 : decode xM_deliver.2.1 111 = .ok (.iaload, 1) := by decide +kernel
theorem dM_deliver_112 : decode xM_deliver.2.1 112 = .ok (.iload 5, 2) := by decide +kernel
theorem dM_deliver_114 : decode xM_deliver.2.1 114 = .ok (.if_icmp .ne 17, 3) := by decide +kernel
theorem dM_deliver_117 : decode xM_deliver.2.1 117 = .ok (.aload_n 0, 1) := by decide +kernel
theorem dM_deliver_118 : decode xM_deliver.2.1 118 = .ok (.iload_n 3, 1) := by decide +kernel
theorem dM_deliver_119 : decode xM_deliver.2.1 119 = .ok (.iload 4, 2) := by decide +kernel
theorem dM_deliver_121 : decode xM_deliver.2.1 121 = .ok (.iload 6, 2) := by decide +kernel
theorem dM_deliver_123 : decode xM_deliver.2.1 123 = .ok (.iload 7, 2) := by decide +kernel
theorem dM_deliver_125 : decode xM_deliver.2.1 125 = .ok (.iconst 4, 1) := by decide +kernel
theorem dM_deliver_126 : decode xM_deliver.2.1 126 = .ok (.iload_n 1, 1) := by decide +kernel
theorem dM_deliver_127 : decode xM_deliver.2.1 127 = .ok (.imul, 1) := by decide +kernel
theorem dM_deliver_128 : decode xM_deliver.2.1 128 = .ok (.invokevirtual 152, 3) := by decide +kernel
theorem dM_deliver_131 : decode xM_deliver.2.1 131 = .ok (.aload_n 0, 1) := by decide +kernel
theorem dM_deliver_132 : decode xM_deliver.2.1 132 = .ok (.iload_n 1, 1) := by decide +kernel
theorem dM_deliver_133 : decode xM_deliver.2.1 133 = .ok (.invokevirtual 156, 3) := by decide +kernel
theorem dM_deliver_136 : decode xM_deliver.2.1 136 = .ok (.pop, 1) := by decide +kernel
theorem dM_deliver_137 : decode xM_deliver.2.1 137 = .ok (.iload_n 2, 1) := by decide +kernel
theorem dM_deliver_138 : decode xM_deliver.2.1 138 = .ok (.iconst 3, 1) := by decide +kernel
theorem dM_deliver_139 : decode xM_deliver.2.1 139 = .ok (.if_icmp .gt 34, 3) := by decide +kernel
theorem dM_deliver_142 : decode xM_deliver.2.1 142 = .ok (.aload_n 0, 1) := by decide +kernel
theorem dM_deliver_143 : decode xM_deliver.2.1 143 = .ok (.getfield 7, 3) := by decide +kernel
theorem dM_deliver_146 : decode xM_deliver.2.1 146 = .ok (.iconst 3, 1) := by decide +kernel
theorem dM_deliver_147 : decode xM_deliver.2.1 147 = .ok (.baload, 1) := by decide +kernel
theorem dM_deliver_148 : decode xM_deliver.2.1 148 = .ok (.ifCond .ne 25, 3) := by decide +kernel
theorem dM_deliver_151 : decode xM_deliver.2.1 151 = .ok (.aload_n 0, 1) := by decide +kernel
theorem dM_deliver_152 : decode xM_deliver.2.1 152 = .ok (.iload_n 2, 1) := by decide +kernel
theorem dM_deliver_153 : decode xM_deliver.2.1 153 = .ok (.iload_n 3, 1) := by decide +kernel
theorem dM_deliver_154 : decode xM_deliver.2.1 154 = .ok (.iload 4, 2) := by decide +kernel
theorem dM_deliver_156 : decode xM_deliver.2.1 156 = .ok (.iload 5, 2) := by decide +kernel
theorem dM_deliver_158 : decode xM_deliver.2.1 158 = .ok (.iload 6, 2) := by decide +kernel
theorem dM_deliver_160 : decode xM_deliver.2.1 160 = .ok (.iload 7, 2) := by decide +kernel
theorem dM_deliver_162 : decode xM_deliver.2.1 162 = .ok (.iload 8, 2) := by decide +kernel
theorem dM_deliver_164 : decode xM_deliver.2.1 164 = .ok (.iload 9, 2) := by decide +kernel
theorem dM_deliver_166 : decode xM_deliver.2.1 166 = .ok (.invokevirtual 160, 3) := by decide +kernel
theorem dM_deliver_169 : decode xM_deliver.2.1 169 = .ok (.aload_n 0, 1) := by decide +kernel
theorem dM_deliver_170 : decode xM_deliver.2.1 170 = .ok (.invokevirtual 164, 3) := by decide +kernel
theorem dM_deliver_173 : decode xM_deliver.2.1 173 = .ok (.iload_n 2, 1) := by decide +kernel
theorem dM_deliver_174 : decode xM_deliver.2.1 174 = .ok (.iconst 5, 1) := by decide +kernel
theorem dM_deliver_175 : decode xM_deliver.2.1 175 = .ok (.if_icmp .lt 46, 3) := by decide +kernel
theorem dM_deliver_178 : decode xM_deliver.2.1 178 = .ok (.iload_n 2, 1) := by decide +kernel
theorem dM_deliver_179 : decode xM_deliver.2.1 179 = .ok (.bipush 7, 2) := by decide +kernel
theorem dM_deliver_181 : decode xM_deliver.2.1 181 = .ok (.if_icmp .gt 40, 3) := by decide +kernel
theorem dM_deliver_184 : decode xM_deliver.2.1 184 = .ok (.aload_n 0, 1) := by decide +kernel
theorem dM_deliver_185 : decode xM_deliver.2.1 185 = .ok (.getfield 7, 3) := by decide +kernel
theorem dM_deliver_188 : decode xM_deliver.2.1 188 = .ok (.iload_n 3, 1) := by decide +kernel
theorem dM_deliver_189 : decode xM_deliver.2.1 189 = .ok (.baload, 1) := by decide +kernel
theorem dM_deliver_190 : decode xM_deliver.2.1 190 = .ok (.ifCond .ne 31, 3) := by decide +kernel
theorem dM_deliver_193 : decode xM_deliver.2.1 193 = .ok (.aload_n 0, 1) := by decide +kernel
theorem dM_deliver_194 : decode xM_deliver.2.1 194 = .ok (.getfield 83, 3) := by decide +kernel
theorem dM_deliver_197 : decode xM_deliver.2.1 197 = .ok (.iload_n 3, 1) := by decide +kernel
theorem dM_deliver_198 : decode xM_deliver.2.1 198 = .ok (.iaload, 1) := by decide +kernel
theorem dM_deliver_199 : decode xM_deliver.2.1 199 = .ok (.ifCond .le 22, 3) := by decide +kernel
theorem dM_deliver_202 : decode xM_deliver.2.1 202 = .ok (.aload_n 0, 1) := by decide +kernel
theorem dM_deliver_203 : decode xM_deliver.2.1 203 = .ok (.getfield 56, 3) := by decide +kernel
theorem dM_deliver_206 : decode xM_deliver.2.1 206 = .ok (.iload_n 3, 1) := by decide +kernel
theorem dM_deliver_207 : decode xM_deliver.2.1 207 = .ok (.iaload, 1) := by decide +kernel
theorem dM_deliver_208 : decode xM_deliver.2.1 208 = .ok (.iload 5, 2) := by decide +kernel
theorem dM_deliver_210 : decode xM_deliver.2.1 210 = .ok (.if_icmp .ne 11, 3) := by decide +kernel
theorem dM_deliver_213 : decode xM_deliver.2.1 213 = .ok (.aload_n 0, 1) := by decide +kernel
theorem dM_deliver_214 : decode xM_deliver.2.1 214 = .ok (.iload_n 2, 1) := by decide +kernel
theorem dM_deliver_215 : decode xM_deliver.2.1 215 = .ok (.iload_n 3, 1) := by decide +kernel
theorem dM_deliver_216 : decode xM_deliver.2.1 216 = .ok (.iload 4, 2) := by decide +kernel
theorem dM_deliver_218 : decode xM_deliver.2.1 218 = .ok (.invokevirtual 167, 3) := by decide +kernel
theorem dM_deliver_221 : decode xM_deliver.2.1 221 = .ok (.iload_n 2, 1) := by decide +kernel
theorem dM_deliver_222 : decode xM_deliver.2.1 222 = .ok (.bipush 8, 2) := by decide +kernel
theorem dM_deliver_224 : decode xM_deliver.2.1 224 = .ok (.if_icmp .ne 24, 3) := by decide +kernel
theorem dM_deliver_227 : decode xM_deliver.2.1 227 = .ok (.aload_n 0, 1) := by decide +kernel
theorem dM_deliver_228 : decode xM_deliver.2.1 228 = .ok (.getfield 7, 3) := by decide +kernel
theorem dM_deliver_231 : decode xM_deliver.2.1 231 = .ok (.iload_n 3, 1) := by decide +kernel
theorem dM_deliver_232 : decode xM_deliver.2.1 232 = .ok (.baload, 1) := by decide +kernel
theorem dM_deliver_233 : decode xM_deliver.2.1 233 = .ok (.ifCond .ne 15, 3) := by decide +kernel
theorem dM_deliver_236 : decode xM_deliver.2.1 236 = .ok (.aload_n 0, 1) := by decide +kernel
theorem dM_deliver_237 : decode xM_deliver.2.1 237 = .ok (.getfield 65, 3) := by decide +kernel
theorem dM_deliver_240 : decode xM_deliver.2.1 240 = .ok (.iconst 4, 1) := by decide +kernel
theorem dM_deliver_241 : decode xM_deliver.2.1 241 = .ok (.iload_n 3, 1) := by decide +kernel
theorem dM_deliver_242 : decode xM_deliver.2.1 242 = .ok (.imul, 1) := by decide +kernel
theorem dM_deliver_243 : decode xM_deliver.2.1 243 = .ok (.iload 4, 2) := by decide +kernel
theorem dM_deliver_245 : decode xM_deliver.2.1 245 = .ok (.iadd, 1) := by decide +kernel
theorem dM_deliver_246 : decode xM_deliver.2.1 246 = .ok (.iconst 1, 1) := by decide +kernel
theorem dM_deliver_247 : decode xM_deliver.2.1 247 = .ok (.bastore, 1) := by decide +kernel
theorem dM_deliver_248 : decode xM_deliver.2.1 248 = .ok (.iconst 1, 1) := by decide +kernel
theorem dM_deliver_249 : decode xM_deliver.2.1 249 = .ok (.ireturn, 1) := by decide +kernel
def xM_has : mt_X := (⟨"LeasedPagesModel", "has", "(II)Z"⟩, prog_12_method_12_code, 3, (Option.some FieldType.boolean))
theorem dM_has_0 : decode xM_has.2.1 0 = .ok (.aload_n 0, 1) := by decide +kernel
theorem dM_has_1 : decode xM_has.2.1 1 = .ok (.getfield 20, 3) := by decide +kernel
theorem dM_has_4 : decode xM_has.2.1 4 = .ok (.iconst 4, 1) := by decide +kernel
theorem dM_has_5 : decode xM_has.2.1 5 = .ok (.iload_n 1, 1) := by decide +kernel
theorem dM_has_6 : decode xM_has.2.1 6 = .ok (.imul, 1) := by decide +kernel
theorem dM_has_7 : decode xM_has.2.1 7 = .ok (.iload_n 2, 1) := by decide +kernel
theorem dM_has_8 : decode xM_has.2.1 8 = .ok (.iadd, 1) := by decide +kernel
theorem dM_has_9 : decode xM_has.2.1 9 = .ok (.iaload, 1) := by decide +kernel
theorem dM_has_10 : decode xM_has.2.1 10 = .ok (.ifCond .le 7, 3) := by decide +kernel
theorem dM_has_13 : decode xM_has.2.1 13 = .ok (.iconst 1, 1) := by decide +kernel
theorem dM_has_14 : decode xM_has.2.1 14 = .ok (.goto 4, 3) := by decide +kernel
theorem dM_has_17 : decode xM_has.2.1 17 = .ok (.iconst 0, 1) := by decide +kernel
theorem dM_has_18 : decode xM_has.2.1 18 = .ok (.ireturn, 1) := by decide +kernel
def xM_conflicts : mt_X := (⟨"LeasedPagesModel", "conflicts", "(III)Z"⟩, prog_12_method_13_code, 6, (Option.some FieldType.boolean))
theorem dM_conflicts_0 : decode xM_conflicts.2.1 0 = .ok (.iconst 0, 1) := by decide +kernel
theorem dM_conflicts_1 : decode xM_conflicts.2.1 1 = .ok (.istore 4, 2) := by decide +kernel
theorem dM_conflicts_3 : decode xM_conflicts.2.1 3 = .ok (.iconst 0, 1) := by decide +kernel
theorem dM_conflicts_4 : decode xM_conflicts.2.1 4 = .ok (.istore 5, 2) := by decide +kernel
theorem dM_conflicts_6 : decode xM_conflicts.2.1 6 = .ok (.iload 5, 2) := by decide +kernel
theorem dM_conflicts_8 : decode xM_conflicts.2.1 8 = .ok (.iconst 3, 1) := by decide +kernel
theorem dM_conflicts_9 : decode xM_conflicts.2.1 9 = .ok (.if_icmp .ge 57, 3) := by decide +kernel
theorem dM_conflicts_12 : decode xM_conflicts.2.1 12 = .ok (.iload 4, 2) := by decide +kernel
theorem dM_conflicts_14 : decode xM_conflicts.2.1 14 = .ok (.ifCond .ne 39, 3) := by decide +kernel
theorem dM_conflicts_17 : decode xM_conflicts.2.1 17 = .ok (.iload 5, 2) := by decide +kernel
theorem dM_conflicts_19 : decode xM_conflicts.2.1 19 = .ok (.iload_n 1, 1) := by decide +kernel
theorem dM_conflicts_20 : decode xM_conflicts.2.1 20 = .ok (.if_icmp .eq 37, 3) := by decide +kernel
theorem dM_conflicts_23 : decode xM_conflicts.2.1 23 = .ok (.aload_n 0, 1) := by decide +kernel
theorem dM_conflicts_24 : decode xM_conflicts.2.1 24 = .ok (.iload 5, 2) := by decide +kernel
theorem dM_conflicts_26 : decode xM_conflicts.2.1 26 = .ok (.iload_n 2, 1) := by decide +kernel
theorem dM_conflicts_27 : decode xM_conflicts.2.1 27 = .ok (.invokevirtual 171, 3) := by decide +kernel
theorem dM_conflicts_30 : decode xM_conflicts.2.1 30 = .ok (.ifCond .eq 27, 3) := by decide +kernel
theorem dM_conflicts_33 : decode xM_conflicts.2.1 33 = .ok (.iload_n 3, 1) := by decide +kernel
theorem dM_conflicts_34 : decode xM_conflicts.2.1 34 = .ok (.iconst 2, 1) := by decide +kernel
theorem dM_conflicts_35 : decode xM_conflicts.2.1 35 = .ok (.if_icmp .eq 18, 3) := by decide +kernel
theorem dM_conflicts_38 : decode xM_conflicts.2.1 38 = .ok (.aload_n 0, 1) := by decide +kernel
theorem dM_conflicts_39 : decode xM_conflicts.2.1 39 = .ok (.getfield 20, 3) := by decide +kernel
theorem dM_conflicts_42 : decode xM_conflicts.2.1 42 = .ok (.iconst 4, 1) := by decide +kernel
theorem dM_conflicts_43 : decode xM_conflicts.2.1 43 = .ok (.iload 5, 2) := by decide +kernel
theorem dM_conflicts_45 : decode xM_conflicts.2.1 45 = .ok (.imul, 1) := by decide +kernel
theorem dM_conflicts_46 : decode xM_conflicts.2.1 46 = .ok (.iload_n 2, 1) := by decide +kernel
theorem dM_conflicts_47 : decode xM_conflicts.2.1 47 = .ok (.iadd, 1) := by decide +kernel
theorem dM_conflicts_48 : decode xM_conflicts.2.1 48 = .ok (.iaload, 1) := by decide +kernel
theorem dM_conflicts_49 : decode xM_conflicts.2.1 49 = .ok (.iconst 2, 1) := by decide +kernel
theorem dM_conflicts_50 : decode xM_conflicts.2.1 50 = .ok (.if_icmp .ne 7, 3) := by decide +kernel
theorem dM_conflicts_53 : decode xM_conflicts.2.1 53 = .ok (.iconst 1, 1) := by decide +kernel
theorem dM_conflicts_54 : decode xM_conflicts.2.1 54 = .ok (.goto 4, 3) := by decide +kernel
theorem dM_conflicts_57 : decode xM_conflicts.2.1 57 = .ok (.iconst 0, 1) := by decide +kernel
theorem dM_conflicts_58 : decode xM_conflicts.2.1 58 = .ok (.istore 4, 2) := by decide +kernel
theorem dM_conflicts_60 : decode xM_conflicts.2.1 60 = .ok (.iinc 5 1, 3) := by decide +kernel
theorem dM_conflicts_63 : decode xM_conflicts.2.1 63 = .ok (.goto (-57), 3) := by decide +kernel
theorem dM_conflicts_66 : decode xM_conflicts.2.1 66 = .ok (.iload 4, 2) := by decide +kernel
theorem dM_conflicts_68 : decode xM_conflicts.2.1 68 = .ok (.ireturn, 1) := by decide +kernel
def xM_others : mt_X := (⟨"LeasedPagesModel", "others", "(II)Z"⟩, prog_12_method_14_code, 5, (Option.some FieldType.boolean))
theorem dM_others_0 : decode xM_others.2.1 0 = .ok (.iconst 0, 1) := by decide +kernel
theorem dM_others_1 : decode xM_others.2.1 1 = .ok (.istore_n 3, 1) := by decide +kernel
theorem dM_others_2 : decode xM_others.2.1 2 = .ok (.iconst 0, 1) := by decide +kernel
theorem dM_others_3 : decode xM_others.2.1 3 = .ok (.istore 4, 2) := by decide +kernel
theorem dM_others_5 : decode xM_others.2.1 5 = .ok (.iload 4, 2) := by decide +kernel
theorem dM_others_7 : decode xM_others.2.1 7 = .ok (.iconst 3, 1) := by decide +kernel
theorem dM_others_8 : decode xM_others.2.1 8 = .ok (.if_icmp .ge 36, 3) := by decide +kernel
theorem dM_others_11 : decode xM_others.2.1 11 = .ok (.iload_n 3, 1) := by decide +kernel
theorem dM_others_12 : decode xM_others.2.1 12 = .ok (.ifCond .ne 20, 3) := by decide +kernel
theorem dM_others_15 : decode xM_others.2.1 15 = .ok (.iload 4, 2) := by decide +kernel
theorem dM_others_17 : decode xM_others.2.1 17 = .ok (.iload_n 1, 1) := by decide +kernel
theorem dM_others_18 : decode xM_others.2.1 18 = .ok (.if_icmp .eq 18, 3) := by decide +kernel
theorem dM_others_21 : decode xM_others.2.1 21 = .ok (.aload_n 0, 1) := by decide +kernel
theorem dM_others_22 : decode xM_others.2.1 22 = .ok (.getfield 44, 3) := by decide +kernel
theorem dM_others_25 : decode xM_others.2.1 25 = .ok (.iload 4, 2) := by decide +kernel
theorem dM_others_27 : decode xM_others.2.1 27 = .ok (.iaload, 1) := by decide +kernel
theorem dM_others_28 : decode xM_others.2.1 28 = .ok (.iload_n 2, 1) := by decide +kernel
theorem dM_others_29 : decode xM_others.2.1 29 = .ok (.if_icmp .ne 7, 3) := by decide +kernel
theorem dM_others_32 : decode xM_others.2.1 32 = .ok (.iconst 1, 1) := by decide +kernel
theorem dM_others_33 : decode xM_others.2.1 33 = .ok (.goto 4, 3) := by decide +kernel
theorem dM_others_36 : decode xM_others.2.1 36 = .ok (.iconst 0, 1) := by decide +kernel
theorem dM_others_37 : decode xM_others.2.1 37 = .ok (.istore_n 3, 1) := by decide +kernel
theorem dM_others_38 : decode xM_others.2.1 38 = .ok (.iinc 4 1, 3) := by decide +kernel
theorem dM_others_41 : decode xM_others.2.1 41 = .ok (.goto (-36), 3) := by decide +kernel
theorem dM_others_44 : decode xM_others.2.1 44 = .ok (.iload_n 3, 1) := by decide +kernel
theorem dM_others_45 : decode xM_others.2.1 45 = .ok (.ireturn, 1) := by decide +kernel
end
section
/-! Method constants and decode rows, written by wip/whole/gen/code.py out of the listing. -/
def xM_finish : mt_X := (⟨"LeasedPagesModel", "finish", "(IIII)V"⟩, prog_12_method_15_code, 5, (Option.none : Option FieldType))
theorem dM_finish_0 : decode xM_finish.2.1 0 = .ok (.aload_n 0, 1) := by decide +kernel
theorem dM_finish_1 : decode xM_finish.2.1 1 = .ok (.getfield 26, 3) := by decide +kernel
theorem dM_finish_4 : decode xM_finish.2.1 4 = .ok (.iload_n 1, 1) := by decide +kernel
theorem dM_finish_5 : decode xM_finish.2.1 5 = .ok (.iload_n 2, 1) := by decide +kernel
theorem dM_finish_6 : decode xM_finish.2.1 6 = .ok (.iastore, 1) := by decide +kernel
theorem dM_finish_7 : decode xM_finish.2.1 7 = .ok (.aload_n 0, 1) := by decide +kernel
theorem dM_finish_8 : decode xM_finish.2.1 8 = .ok (.getfield 29, 3) := by decide +kernel
theorem dM_finish_11 : decode xM_finish.2.1 11 = .ok (.iload_n 1, 1) := by decide +kernel
theorem dM_finish_12 : decode xM_finish.2.1 12 = .ok (.iload_n 3, 1) := by decide +kernel
theorem dM_finish_13 : decode xM_finish.2.1 13 = .ok (.iastore, 1) := by decide +kernel
theorem dM_finish_14 : decode xM_finish.2.1 14 = .ok (.aload_n 0, 1) := by decide +kernel
theorem dM_finish_15 : decode xM_finish.2.1 15 = .ok (.getfield 32, 3) := by decide +kernel
theorem dM_finish_18 : decode xM_finish.2.1 18 = .ok (.iload_n 1, 1) := by decide +kernel
theorem dM_finish_19 : decode xM_finish.2.1 19 = .ok (.iload 4, 2) := by decide +kernel
theorem dM_finish_21 : decode xM_finish.2.1 21 = .ok (.iastore, 1) := by decide +kernel
theorem dM_finish_22 : decode xM_finish.2.1 22 = .ok (.aload_n 0, 1) := by decide +kernel
theorem dM_finish_23 : decode xM_finish.2.1 23 = .ok (.iload_n 1, 1) := by decide +kernel
theorem dM_finish_24 : decode xM_finish.2.1 24 = .ok (.invokevirtual 175, 3) := by decide +kernel
theorem dM_finish_27 : decode xM_finish.2.1 27 = .ok (.return_, 1) := by decide +kernel
def xM_grant : mt_X := (⟨"LeasedPagesModel", "grant", "(IIIIZ)V"⟩, prog_12_method_16_code, 7, (Option.none : Option FieldType))
theorem dM_grant_0 : decode xM_grant.2.1 0 = .ok (.aload_n 0, 1) := by decide +kernel
theorem dM_grant_1 : decode xM_grant.2.1 1 = .ok (.getfield 38, 3) := by decide +kernel
theorem dM_grant_4 : decode xM_grant.2.1 4 = .ok (.iload_n 1, 1) := by decide +kernel
theorem dM_grant_5 : decode xM_grant.2.1 5 = .ok (.aload_n 0, 1) := by decide +kernel
theorem dM_grant_6 : decode xM_grant.2.1 6 = .ok (.iload_n 1, 1) := by decide +kernel
theorem dM_grant_7 : decode xM_grant.2.1 7 = .ok (.iload_n 2, 1) := by decide +kernel
theorem dM_grant_8 : decode xM_grant.2.1 8 = .ok (.invokevirtual 171, 3) := by decide +kernel
theorem dM_grant_11 : decode xM_grant.2.1 11 = .ok (.ifCond .ne 8, 3) := by decide +kernel
theorem dM_grant_14 : decode xM_grant.2.1 14 = .ok (.iload 5, 2) := by decide +kernel
theorem dM_grant_16 : decode xM_grant.2.1 16 = .ok (.ifCond .eq 7, 3) := by decide +kernel
theorem dM_grant_19 : decode xM_grant.2.1 19 = .ok (.iconst 1, 1) := by decide +kernel
theorem dM_grant_20 : decode xM_grant.2.1 20 = .ok (.goto 4, 3) := by decide +kernel
theorem dM_grant_23 : decode xM_grant.2.1 23 = .ok (.iconst 0, 1) := by decide +kernel
theorem dM_grant_24 : decode xM_grant.2.1 24 = .ok (.bastore, 1) := by decide +kernel
theorem dM_grant_25 : decode xM_grant.2.1 25 = .ok (.aload_n 0, 1) := by decide +kernel
theorem dM_grant_26 : decode xM_grant.2.1 26 = .ok (.getfield 35, 3) := by decide +kernel
theorem dM_grant_29 : decode xM_grant.2.1 29 = .ok (.iload_n 1, 1) := by decide +kernel
theorem dM_grant_30 : decode xM_grant.2.1 30 = .ok (.iload 4, 2) := by decide +kernel
theorem dM_grant_32 : decode xM_grant.2.1 32 = .ok (.iastore, 1) := by decide +kernel
theorem dM_grant_33 : decode xM_grant.2.1 33 = .ok (.iconst 0, 1) := by decide +kernel
theorem dM_grant_34 : decode xM_grant.2.1 34 = .ok (.istore 6, 2) := by decide +kernel
theorem dM_grant_36 : decode xM_grant.2.1 36 = .ok (.iload 6, 2) := by decide +kernel
theorem dM_grant_38 : decode xM_grant.2.1 38 = .ok (.iconst 4, 1) := by decide +kernel
theorem dM_grant_39 : decode xM_grant.2.1 39 = .ok (.if_icmp .ge 31, 3) := by decide +kernel
theorem dM_grant_42 : decode xM_grant.2.1 42 = .ok (.aload_n 0, 1) := by decide +kernel
theorem dM_grant_43 : decode xM_grant.2.1 43 = .ok (.getfield 41, 3) := by decide +kernel
theorem dM_grant_46 : decode xM_grant.2.1 46 = .ok (.iconst 4, 1) := by decide +kernel
theorem dM_grant_47 : decode xM_grant.2.1 47 = .ok (.iload_n 1, 1) := by decide +kernel
theorem dM_grant_48 : decode xM_grant.2.1 48 = .ok (.imul, 1) := by decide +kernel
theorem dM_grant_49 : decode xM_grant.2.1 49 = .ok (.iload 6, 2) := by decide +kernel
theorem dM_grant_51 : decode xM_grant.2.1 51 = .ok (.iadd, 1) := by decide +kernel
theorem dM_grant_52 : decode xM_grant.2.1 52 = .ok (.aload_n 0, 1) := by decide +kernel
theorem dM_grant_53 : decode xM_grant.2.1 53 = .ok (.getfield 17, 3) := by decide +kernel
theorem dM_grant_56 : decode xM_grant.2.1 56 = .ok (.iconst 4, 1) := by decide +kernel
theorem dM_grant_57 : decode xM_grant.2.1 57 = .ok (.iload_n 2, 1) := by decide +kernel
theorem dM_grant_58 : decode xM_grant.2.1 58 = .ok (.imul, 1) := by decide +kernel
theorem dM_grant_59 : decode xM_grant.2.1 59 = .ok (.iload 6, 2) := by decide +kernel
theorem dM_grant_61 : decode xM_grant.2.1 61 = .ok (.iadd, 1) := by decide +kernel
theorem dM_grant_62 : decode xM_grant.2.1 62 = .ok (.iaload, 1) := by decide +kernel
theorem dM_grant_63 : decode xM_grant.2.1 63 = .ok (.iastore, 1) := by decide +kernel
theorem dM_grant_64 : decode xM_grant.2.1 64 = .ok (.iinc 6 1, 3) := by decide +kernel
theorem dM_grant_67 : decode xM_grant.2.1 67 = .ok (.goto (-31), 3) := by decide +kernel
theorem dM_grant_70 : decode xM_grant.2.1 70 = .ok (.aload_n 0, 1) := by decide +kernel
theorem dM_grant_71 : decode xM_grant.2.1 71 = .ok (.getfield 20, 3) := by decide +kernel
theorem dM_grant_74 : decode xM_grant.2.1 74 = .ok (.iconst 4, 1) := by decide +kernel
theorem dM_grant_75 : decode xM_grant.2.1 75 = .ok (.iload_n 1, 1) := by decide +kernel
theorem dM_grant_76 : decode xM_grant.2.1 76 = .ok (.imul, 1) := by decide +kernel
theorem dM_grant_77 : decode xM_grant.2.1 77 = .ok (.iload_n 2, 1) := by decide +kernel
theorem dM_grant_78 : decode xM_grant.2.1 78 = .ok (.iadd, 1) := by decide +kernel
theorem dM_grant_79 : decode xM_grant.2.1 79 = .ok (.iload 4, 2) := by decide +kernel
theorem dM_grant_81 : decode xM_grant.2.1 81 = .ok (.iastore, 1) := by decide +kernel
theorem dM_grant_82 : decode xM_grant.2.1 82 = .ok (.aload_n 0, 1) := by decide +kernel
theorem dM_grant_83 : decode xM_grant.2.1 83 = .ok (.getfield 23, 3) := by decide +kernel
theorem dM_grant_86 : decode xM_grant.2.1 86 = .ok (.iconst 4, 1) := by decide +kernel
theorem dM_grant_87 : decode xM_grant.2.1 87 = .ok (.iload_n 1, 1) := by decide +kernel
theorem dM_grant_88 : decode xM_grant.2.1 88 = .ok (.imul, 1) := by decide +kernel
theorem dM_grant_89 : decode xM_grant.2.1 89 = .ok (.iload_n 2, 1) := by decide +kernel
theorem dM_grant_90 : decode xM_grant.2.1 90 = .ok (.iadd, 1) := by decide +kernel
theorem dM_grant_91 : decode xM_grant.2.1 91 = .ok (.aload_n 0, 1) := by decide +kernel
theorem dM_grant_92 : decode xM_grant.2.1 92 = .ok (.getfield 13, 3) := by decide +kernel
theorem dM_grant_95 : decode xM_grant.2.1 95 = .ok (.iconst 3, 1) := by decide +kernel
theorem dM_grant_96 : decode xM_grant.2.1 96 = .ok (.iaload, 1) := by decide +kernel
theorem dM_grant_97 : decode xM_grant.2.1 97 = .ok (.aload_n 0, 1) := by decide +kernel
theorem dM_grant_98 : decode xM_grant.2.1 98 = .ok (.getfield 131, 3) := by decide +kernel
theorem dM_grant_101 : decode xM_grant.2.1 101 = .ok (.iadd, 1) := by decide +kernel
theorem dM_grant_102 : decode xM_grant.2.1 102 = .ok (.iastore, 1) := by decide +kernel
theorem dM_grant_103 : decode xM_grant.2.1 103 = .ok (.aload_n 0, 1) := by decide +kernel
theorem dM_grant_104 : decode xM_grant.2.1 104 = .ok (.iload_n 1, 1) := by decide +kernel
theorem dM_grant_105 : decode xM_grant.2.1 105 = .ok (.iload_n 3, 1) := by decide +kernel
theorem dM_grant_106 : decode xM_grant.2.1 106 = .ok (.iconst 4, 1) := by decide +kernel
theorem dM_grant_107 : decode xM_grant.2.1 107 = .ok (.iload_n 2, 1) := by decide +kernel
theorem dM_grant_108 : decode xM_grant.2.1 108 = .ok (.invokevirtual 179, 3) := by decide +kernel
theorem dM_grant_111 : decode xM_grant.2.1 111 = .ok (.return_, 1) := by decide +kernel
def xM_request : mt_X := (⟨"LeasedPagesModel", "request", "(IIIIIZII)V"⟩, prog_12_method_17_code, 10, (Option.none : Option FieldType))
theorem dM_request_0 : decode xM_request.2.1 0 = .ok (.iload 4, 2) := by decide +kernel
theorem dM_request_2 : decode xM_request.2.1 2 = .ok (.aload_n 0, 1) := by decide +kernel
theorem dM_request_3 : decode xM_request.2.1 3 = .ok (.getfield 26, 3) := by decide +kernel
theorem dM_request_6 : decode xM_request.2.1 6 = .ok (.iload_n 2, 1) := by decide +kernel
theorem dM_request_7 : decode xM_request.2.1 7 = .ok (.iaload, 1) := by decide +kernel
theorem dM_request_8 : decode xM_request.2.1 8 = .ok (.if_icmp .ge 4, 3) := by decide +kernel
theorem dM_request_11 : decode xM_request.2.1 11 = .ok (.return_, 1) := by decide +kernel
theorem dM_request_12 : decode xM_request.2.1 12 = .ok (.iload 4, 2) := by decide +kernel
theorem dM_request_14 : decode xM_request.2.1 14 = .ok (.aload_n 0, 1) := by decide +kernel
theorem dM_request_15 : decode xM_request.2.1 15 = .ok (.getfield 26, 3) := by decide +kernel
theorem dM_request_18 : decode xM_request.2.1 18 = .ok (.iload_n 2, 1) := by decide +kernel
theorem dM_request_19 : decode xM_request.2.1 19 = .ok (.iaload, 1) := by decide +kernel
theorem dM_request_20 : decode xM_request.2.1 20 = .ok (.if_icmp .ne 9, 3) := by decide +kernel
theorem dM_request_23 : decode xM_request.2.1 23 = .ok (.aload_n 0, 1) := by decide +kernel
theorem dM_request_24 : decode xM_request.2.1 24 = .ok (.iload_n 2, 1) := by decide +kernel
theorem dM_request_25 : decode xM_request.2.1 25 = .ok (.invokevirtual 175, 3) := by decide +kernel
theorem dM_request_28 : decode xM_request.2.1 28 = .ok (.return_, 1) := by decide +kernel
theorem dM_request_29 : decode xM_request.2.1 29 = .ok (.aload_n 0, 1) := by decide +kernel
theorem dM_request_30 : decode xM_request.2.1 30 = .ok (.getfield 44, 3) := by decide +kernel
theorem dM_request_33 : decode xM_request.2.1 33 = .ok (.iload_n 2, 1) := by decide +kernel
theorem dM_request_34 : decode xM_request.2.1 34 = .ok (.iaload, 1) := by decide +kernel
theorem dM_request_35 : decode xM_request.2.1 35 = .ok (.ifCond .lt 15, 3) := by decide +kernel
theorem dM_request_38 : decode xM_request.2.1 38 = .ok (.aload_n 0, 1) := by decide +kernel
theorem dM_request_39 : decode xM_request.2.1 39 = .ok (.getfield 47, 3) := by decide +kernel
theorem dM_request_42 : decode xM_request.2.1 42 = .ok (.iload_n 2, 1) := by decide +kernel
theorem dM_request_43 : decode xM_request.2.1 43 = .ok (.iaload, 1) := by decide +kernel
theorem dM_request_44 : decode xM_request.2.1 44 = .ok (.iload 4, 2) := by decide +kernel
theorem dM_request_46 : decode xM_request.2.1 46 = .ok (.if_icmp .ne 4, 3) := by decide +kernel
theorem dM_request_49 : decode xM_request.2.1 49 = .ok (.return_, 1) := by decide +kernel
theorem dM_request_50 : decode xM_request.2.1 50 = .ok (.aload_n 0, 1) := by decide +kernel
theorem dM_request_51 : decode xM_request.2.1 51 = .ok (.getfield 44, 3) := by decide +kernel
theorem dM_request_54 : decode xM_request.2.1 54 = .ok (.iload_n 2, 1) := by decide +kernel
theorem dM_request_55 : decode xM_request.2.1 55 = .ok (.iconst (-1), 1) := by decide +kernel
theorem dM_request_56 : decode xM_request.2.1 56 = .ok (.iastore, 1) := by decide +kernel
theorem dM_request_57 : decode xM_request.2.1 57 = .ok (.iload_n 1, 1) := by decide +kernel
theorem dM_request_58 : decode xM_request.2.1 58 = .ok (.iconst 1, 1) := by decide +kernel
theorem dM_request_59 : decode xM_request.2.1 59 = .ok (.if_icmp .ne 18, 3) := by decide +kernel
theorem dM_request_62 : decode xM_request.2.1 62 = .ok (.aload_n 0, 1) := by decide +kernel
theorem dM_request_63 : decode xM_request.2.1 63 = .ok (.iload_n 2, 1) := by decide +kernel
theorem dM_request_64 : decode xM_request.2.1 64 = .ok (.iload_n 3, 1) := by decide +kernel
theorem dM_request_65 : decode xM_request.2.1 65 = .ok (.iload 4, 2) := by decide +kernel
theorem dM_request_67 : decode xM_request.2.1 67 = .ok (.iload 5, 2) := by decide +kernel
theorem dM_request_69 : decode xM_request.2.1 69 = .ok (.iload 6, 2) := by decide +kernel
theorem dM_request_71 : decode xM_request.2.1 71 = .ok (.invokevirtual 183, 3) := by decide +kernel
theorem dM_request_74 : decode xM_request.2.1 74 = .ok (.goto 97, 3) := by decide +kernel
theorem dM_request_77 : decode xM_request.2.1 77 = .ok (.iload_n 1, 1) := by decide +kernel
theorem dM_request_78 : decode xM_request.2.1 78 = .ok (.iconst 2, 1) := by decide +kernel
theorem dM_request_79 : decode xM_request.2.1 79 = .ok (.if_icmp .ne 71, 3) := by decide +kernel
theorem dM_request_82 : decode xM_request.2.1 82 = .ok (.aload_n 0, 1) := by decide +kernel
theorem dM_request_83 : decode xM_request.2.1 83 = .ok (.getfield 20, 3) := by decide +kernel
theorem dM_request_86 : decode xM_request.2.1 86 = .ok (.iconst 4, 1) := by decide +kernel
theorem dM_request_87 : decode xM_request.2.1 87 = .ok (.iload_n 2, 1) := by decide +kernel
theorem dM_request_88 : decode xM_request.2.1 88 = .ok (.imul, 1) := by decide +kernel
theorem dM_request_89 : decode xM_request.2.1 89 = .ok (.iload_n 3, 1) := by decide +kernel
theorem dM_request_90 : decode xM_request.2.1 90 = .ok (.iadd, 1) := by decide +kernel
theorem dM_request_91 : decode xM_request.2.1 91 = .ok (.iaload, 1) := by decide +kernel
theorem dM_request_92 : decode xM_request.2.1 92 = .ok (.iconst 2, 1) := by decide +kernel
theorem dM_request_93 : decode xM_request.2.1 93 = .ok (.if_icmp .ne 7, 3) := by decide +kernel
theorem dM_request_96 : decode xM_request.2.1 96 = .ok (.iconst 1, 1) := by decide +kernel
theorem dM_request_97 : decode xM_request.2.1 97 = .ok (.goto 4, 3) := by decide +kernel
theorem dM_request_100 : decode xM_request.2.1 100 = .ok (.iconst 0, 1) := by decide +kernel
theorem dM_request_101 : decode xM_request.2.1 101 = .ok (.istore 9, 2) := by decide +kernel
theorem dM_request_103 : decode xM_request.2.1 103 = .ok (.aload_n 0, 1) := by decide +kernel
theorem dM_request_104 : decode xM_request.2.1 104 = .ok (.getfield 17, 3) := by decide +kernel
theorem dM_request_107 : decode xM_request.2.1 107 = .ok (.iload 7, 2) := by decide +kernel
theorem dM_request_109 : decode xM_request.2.1 109 = .ok (.iload 9, 2) := by decide +kernel
theorem dM_request_111 : decode xM_request.2.1 111 = .ok (.ifCond .eq 8, 3) := by decide +kernel
theorem dM_request_114 : decode xM_request.2.1 114 = .ok (.iload 8, 2) := by decide +kernel
theorem dM_request_116 : decode xM_request.2.1 116 = .ok (.goto 10, 3) := by decide +kernel
theorem dM_request_119 : decode xM_request.2.1 119 = .ok (.aload_n 0, 1) := by decide +kernel
theorem dM_request_120 : decode xM_request.2.1 120 = .ok (.getfield 17, 3) := by decide +kernel
theorem dM_request_123 : decode xM_request.2.1 123 = .ok (.iload 7, 2) := by decide +kernel
theorem dM_request_125 : decode xM_request.2.1 125 = .ok (.iaload, 1) := by decide +kernel
theorem dM_request_126 : decode xM_request.2.1 126 = .ok (.iastore, 1) := by decide +kernel
theorem dM_request_127 : decode xM_request.2.1 127 = .ok (.aload_n 0, 1) := by decide +kernel
theorem dM_request_128 : decode xM_request.2.1 128 = .ok (.iload_n 2, 1) := by decide +kernel
theorem dM_request_129 : decode xM_request.2.1 129 = .ok (.iload 4, 2) := by decide +kernel
theorem dM_request_131 : decode xM_request.2.1 131 = .ok (.iload 9, 2) := by decide +kernel
theorem dM_request_133 : decode xM_request.2.1 133 = .ok (.ifCond .eq 8, 3) := by decide +kernel
theorem dM_request_136 : decode xM_request.2.1 136 = .ok (.bipush 6, 2) := by decide +kernel
theorem dM_request_138 : decode xM_request.2.1 138 = .ok (.goto 5, 3) := by decide +kernel
theorem dM_request_141 : decode xM_request.2.1 141 = .ok (.bipush 7, 2) := by decide +kernel
theorem dM_request_143 : decode xM_request.2.1 143 = .ok (.iload_n 3, 1) := by decide +kernel
theorem dM_request_144 : decode xM_request.2.1 144 = .ok (.invokevirtual 179, 3) := by decide +kernel
theorem dM_request_147 : decode xM_request.2.1 147 = .ok (.goto 24, 3) := by decide +kernel
theorem dM_request_150 : decode xM_request.2.1 150 = .ok (.aload_n 0, 1) := by decide +kernel
theorem dM_request_151 : decode xM_request.2.1 151 = .ok (.getfield 20, 3) := by decide +kernel
theorem dM_request_154 : decode xM_request.2.1 154 = .ok (.iconst 4, 1) := by decide +kernel
theorem dM_request_155 : decode xM_request.2.1 155 = .ok (.iload_n 2, 1) := by decide +kernel
theorem dM_request_156 : decode xM_request.2.1 156 = .ok (.imul, 1) := by decide +kernel
theorem dM_request_157 : decode xM_request.2.1 157 = .ok (.iload_n 3, 1) := by decide +kernel
theorem dM_request_158 : decode xM_request.2.1 158 = .ok (.iadd, 1) := by decide +kernel
theorem dM_request_159 : decode xM_request.2.1 159 = .ok (.iconst 0, 1) := by decide +kernel
theorem dM_request_160 : decode xM_request.2.1 160 = .ok (.iastore, 1) := by decide +kernel
theorem dM_request_161 : decode xM_request.2.1 161 = .ok (.aload_n 0, 1) := by decide +kernel
theorem dM_request_162 : decode xM_request.2.1 162 = .ok (.iload_n 2, 1) := by decide +kernel
theorem dM_request_163 : decode xM_request.2.1 163 = .ok (.iload 4, 2) := by decide +kernel
theorem dM_request_165 : decode xM_request.2.1 165 = .ok (.bipush 6, 2) := by decide +kernel
theorem dM_request_167 : decode xM_request.2.1 167 = .ok (.iload_n 3, 1) := by decide +kernel
theorem dM_request_168 : decode xM_request.2.1 168 = .ok (.invokevirtual 179, 3) := by decide +kernel
theorem dM_request_171 : decode xM_request.2.1 171 = .ok (.return_, 1) := by decide +kernel
def xM_askedLease : mt_X := (⟨"LeasedPagesModel", "askedLease", "(IIIIZ)V"⟩, prog_12_method_18_code, 8, (Option.none : Option FieldType))
theorem dM_askedLease_0 : decode xM_askedLease.2.1 0 = .ok (.aload_n 0, 1) := by decide +kernel
theorem dM_askedLease_1 : decode xM_askedLease.2.1 1 = .ok (.iload_n 1, 1) := by decide +kernel
theorem dM_askedLease_2 : decode xM_askedLease.2.1 2 = .ok (.iload_n 2, 1) := by decide +kernel
theorem dM_askedLease_3 : decode xM_askedLease.2.1 3 = .ok (.invokevirtual 171, 3) := by decide +kernel
theorem dM_askedLease_6 : decode xM_askedLease.2.1 6 = .ok (.ifCond .eq 21, 3) := by decide +kernel
theorem dM_askedLease_9 : decode xM_askedLease.2.1 9 = .ok (.aload_n 0, 1) := by decide +kernel
theorem dM_askedLease_10 : decode xM_askedLease.2.1 10 = .ok (.iload_n 1, 1) := by decide +kernel
theorem dM_askedLease_11 : decode xM_askedLease.2.1 11 = .ok (.iload_n 2, 1) := by decide +kernel
theorem dM_askedLease_12 : decode xM_askedLease.2.1 12 = .ok (.invokevirtual 187, 3) := by decide +kernel
theorem dM_askedLease_15 : decode xM_askedLease.2.1 15 = .ok (.ifCond .eq 12, 3) := by decide +kernel
theorem dM_askedLease_18 : decode xM_askedLease.2.1 18 = .ok (.aload_n 0, 1) := by decide +kernel
theorem dM_askedLease_19 : decode xM_askedLease.2.1 19 = .ok (.iload_n 1, 1) := by decide +kernel
theorem dM_askedLease_20 : decode xM_askedLease.2.1 20 = .ok (.iload_n 3, 1) := by decide +kernel
theorem dM_askedLease_21 : decode xM_askedLease.2.1 21 = .ok (.iconst 5, 1) := by decide +kernel
theorem dM_askedLease_22 : decode xM_askedLease.2.1 22 = .ok (.iload_n 2, 1) := by decide +kernel
theorem dM_askedLease_23 : decode xM_askedLease.2.1 23 = .ok (.invokevirtual 179, 3) := by decide +kernel
theorem dM_askedLease_26 : decode xM_askedLease.2.1 26 = .ok (.return_, 1) := by decide +kernel
theorem dM_askedLease_27 : decode xM_askedLease.2.1 27 = .ok (.aload_n 0, 1) := by decide +kernel
theorem dM_askedLease_28 : decode xM_askedLease.2.1 28 = .ok (.getfield 190, 3) := by decide +kernel
theorem dM_askedLease_31 : decode xM_askedLease.2.1 31 = .ok (.ifCond .le 8, 3) := by decide +kernel
theorem dM_askedLease_34 : decode xM_askedLease.2.1 34 = .ok (.iload 5, 2) := by decide +kernel
theorem dM_askedLease_36 : decode xM_askedLease.2.1 36 = .ok (.goto 26, 3) := by decide +kernel
theorem dM_askedLease_39 : decode xM_askedLease.2.1 39 = .ok (.aload_n 0, 1) := by decide +kernel
theorem dM_askedLease_40 : decode xM_askedLease.2.1 40 = .ok (.iload_n 1, 1) := by decide +kernel
theorem dM_askedLease_41 : decode xM_askedLease.2.1 41 = .ok (.iload_n 2, 1) := by decide +kernel
theorem dM_askedLease_42 : decode xM_askedLease.2.1 42 = .ok (.invokevirtual 171, 3) := by decide +kernel
theorem dM_askedLease_45 : decode xM_askedLease.2.1 45 = .ok (.ifCond .ne 12, 3) := by decide +kernel
theorem dM_askedLease_48 : decode xM_askedLease.2.1 48 = .ok (.aload_n 0, 1) := by decide +kernel
theorem dM_askedLease_49 : decode xM_askedLease.2.1 49 = .ok (.iload_n 1, 1) := by decide +kernel
theorem dM_askedLease_50 : decode xM_askedLease.2.1 50 = .ok (.iload_n 2, 1) := by decide +kernel
theorem dM_askedLease_51 : decode xM_askedLease.2.1 51 = .ok (.invokevirtual 187, 3) := by decide +kernel
theorem dM_askedLease_54 : decode xM_askedLease.2.1 54 = .ok (.ifCond .ne 7, 3) := by decide +kernel
theorem dM_askedLease_57 : decode xM_askedLease.2.1 57 = .ok (.iconst 1, 1) := by decide +kernel
theorem dM_askedLease_58 : decode xM_askedLease.2.1 58 = .ok (.goto 4, 3) := by decide +kernel
theorem dM_askedLease_61 : decode xM_askedLease.2.1 61 = .ok (.iconst 0, 1) := by decide +kernel
theorem dM_askedLease_62 : decode xM_askedLease.2.1 62 = .ok (.istore 6, 2) := by decide +kernel
theorem dM_askedLease_64 : decode xM_askedLease.2.1 64 = .ok (.aload_n 0, 1) := by decide +kernel
theorem dM_askedLease_65 : decode xM_askedLease.2.1 65 = .ok (.iload_n 1, 1) := by decide +kernel
theorem dM_askedLease_66 : decode xM_askedLease.2.1 66 = .ok (.iload_n 2, 1) := by decide +kernel
theorem dM_askedLease_67 : decode xM_askedLease.2.1 67 = .ok (.iload 4, 2) := by decide +kernel
theorem dM_askedLease_69 : decode xM_askedLease.2.1 69 = .ok (.invokevirtual 193, 3) := by decide +kernel
theorem dM_askedLease_72 : decode xM_askedLease.2.1 72 = .ok (.ifCond .ne 30, 3) := by decide +kernel
theorem dM_askedLease_75 : decode xM_askedLease.2.1 75 = .ok (.iload 6, 2) := by decide +kernel
theorem dM_askedLease_77 : decode xM_askedLease.2.1 77 = .ok (.ifCond .eq 25, 3) := by decide +kernel
theorem dM_askedLease_80 : decode xM_askedLease.2.1 80 = .ok (.aload_n 0, 1) := by decide +kernel
theorem dM_askedLease_81 : decode xM_askedLease.2.1 81 = .ok (.iload_n 1, 1) := by decide +kernel
theorem dM_askedLease_82 : decode xM_askedLease.2.1 82 = .ok (.iload_n 2, 1) := by decide +kernel
theorem dM_askedLease_83 : decode xM_askedLease.2.1 83 = .ok (.iload_n 3, 1) := by decide +kernel
theorem dM_askedLease_84 : decode xM_askedLease.2.1 84 = .ok (.iload 4, 2) := by decide +kernel
theorem dM_askedLease_86 : decode xM_askedLease.2.1 86 = .ok (.aload_n 0, 1) := by decide +kernel
theorem dM_askedLease_87 : decode xM_askedLease.2.1 87 = .ok (.getfield 190, 3) := by decide +kernel
theorem dM_askedLease_90 : decode xM_askedLease.2.1 90 = .ok (.ifCond .le 7, 3) := by decide +kernel
theorem dM_askedLease_93 : decode xM_askedLease.2.1 93 = .ok (.iconst 1, 1) := by decide +kernel
theorem dM_askedLease_94 : decode xM_askedLease.2.1 94 = .ok (.goto 4, 3) := by decide +kernel
theorem dM_askedLease_97 : decode xM_askedLease.2.1 97 = .ok (.iconst 0, 1) := by decide +kernel
theorem dM_askedLease_98 : decode xM_askedLease.2.1 98 = .ok (.invokevirtual 196, 3) := by decide +kernel
theorem dM_askedLease_101 : decode xM_askedLease.2.1 101 = .ok (.return_, 1) := by decide +kernel
theorem dM_askedLease_102 : decode xM_askedLease.2.1 102 = .ok (.aload_n 0, 1) := by decide +kernel
theorem dM_askedLease_103 : decode xM_askedLease.2.1 103 = .ok (.getfield 44, 3) := by decide +kernel
theorem dM_askedLease_106 : decode xM_askedLease.2.1 106 = .ok (.iload_n 1, 1) := by decide +kernel
theorem dM_askedLease_107 : decode xM_askedLease.2.1 107 = .ok (.iload_n 2, 1) := by decide +kernel
theorem dM_askedLease_108 : decode xM_askedLease.2.1 108 = .ok (.iastore, 1) := by decide +kernel
theorem dM_askedLease_109 : decode xM_askedLease.2.1 109 = .ok (.aload_n 0, 1) := by decide +kernel
theorem dM_askedLease_110 : decode xM_askedLease.2.1 110 = .ok (.getfield 47, 3) := by decide +kernel
theorem dM_askedLease_113 : decode xM_askedLease.2.1 113 = .ok (.iload_n 1, 1) := by decide +kernel
theorem dM_askedLease_114 : decode xM_askedLease.2.1 114 = .ok (.iload_n 3, 1) := by decide +kernel
theorem dM_askedLease_115 : decode xM_askedLease.2.1 115 = .ok (.iastore, 1) := by decide +kernel
theorem dM_askedLease_116 : decode xM_askedLease.2.1 116 = .ok (.aload_n 0, 1) := by decide +kernel
theorem dM_askedLease_117 : decode xM_askedLease.2.1 117 = .ok (.getfield 50, 3) := by decide +kernel
theorem dM_askedLease_120 : decode xM_askedLease.2.1 120 = .ok (.iload_n 1, 1) := by decide +kernel
theorem dM_askedLease_121 : decode xM_askedLease.2.1 121 = .ok (.iload 4, 2) := by decide +kernel
theorem dM_askedLease_123 : decode xM_askedLease.2.1 123 = .ok (.iastore, 1) := by decide +kernel
theorem dM_askedLease_124 : decode xM_askedLease.2.1 124 = .ok (.aload_n 0, 1) := by decide +kernel
theorem dM_askedLease_125 : decode xM_askedLease.2.1 125 = .ok (.getfield 53, 3) := by decide +kernel
theorem dM_askedLease_128 : decode xM_askedLease.2.1 128 = .ok (.iload_n 1, 1) := by decide +kernel
theorem dM_askedLease_129 : decode xM_askedLease.2.1 129 = .ok (.aload_n 0, 1) := by decide +kernel
theorem dM_askedLease_130 : decode xM_askedLease.2.1 130 = .ok (.getfield 199, 3) := by decide +kernel
theorem dM_askedLease_133 : decode xM_askedLease.2.1 133 = .ok (.iastore, 1) := by decide +kernel
theorem dM_askedLease_134 : decode xM_askedLease.2.1 134 = .ok (.aload_n 0, 1) := by decide +kernel
theorem dM_askedLease_135 : decode xM_askedLease.2.1 135 = .ok (.dup, 1) := by decide +kernel
theorem dM_askedLease_136 : decode xM_askedLease.2.1 136 = .ok (.getfield 199, 3) := by decide +kernel
theorem dM_askedLease_139 : decode xM_askedLease.2.1 139 = .ok (.iconst 1, 1) := by decide +kernel
theorem dM_askedLease_140 : decode xM_askedLease.2.1 140 = .ok (.iadd, 1) := by decide +kernel
theorem dM_askedLease_141 : decode xM_askedLease.2.1 141 = .ok (.putfield 199, 3) := by decide +kernel
theorem dM_askedLease_144 : decode xM_askedLease.2.1 144 = .ok (.iconst 0, 1) := by decide +kernel
theorem dM_askedLease_145 : decode xM_askedLease.2.1 145 = .ok (.istore 7, 2) := by decide +kernel
theorem dM_askedLease_147 : decode xM_askedLease.2.1 147 = .ok (.iload 7, 2) := by decide +kernel
theorem dM_askedLease_149 : decode xM_askedLease.2.1 149 = .ok (.iconst 3, 1) := by decide +kernel
theorem dM_askedLease_150 : decode xM_askedLease.2.1 150 = .ok (.if_icmp .ge 57, 3) := by decide +kernel
theorem dM_askedLease_153 : decode xM_askedLease.2.1 153 = .ok (.iload 7, 2) := by decide +kernel
theorem dM_askedLease_155 : decode xM_askedLease.2.1 155 = .ok (.iload_n 1, 1) := by decide +kernel
theorem dM_askedLease_156 : decode xM_askedLease.2.1 156 = .ok (.if_icmp .eq 45, 3) := by decide +kernel
theorem dM_askedLease_159 : decode xM_askedLease.2.1 159 = .ok (.aload_n 0, 1) := by decide +kernel
theorem dM_askedLease_160 : decode xM_askedLease.2.1 160 = .ok (.iload 7, 2) := by decide +kernel
theorem dM_askedLease_162 : decode xM_askedLease.2.1 162 = .ok (.iload_n 2, 1) := by decide +kernel
theorem dM_askedLease_163 : decode xM_askedLease.2.1 163 = .ok (.invokevirtual 171, 3) := by decide +kernel
theorem dM_askedLease_166 : decode xM_askedLease.2.1 166 = .ok (.ifCond .eq 35, 3) := by decide +kernel
theorem dM_askedLease_169 : decode xM_askedLease.2.1 169 = .ok (.iload 4, 2) := by decide +kernel
theorem dM_askedLease_171 : decode xM_askedLease.2.1 171 = .ok (.iconst 2, 1) := by decide +kernel
theorem dM_askedLease_172 : decode xM_askedLease.2.1 172 = .ok (.if_icmp .eq 18, 3) := by decide +kernel
theorem dM_askedLease_175 : decode xM_askedLease.2.1 175 = .ok (.aload_n 0, 1) := by decide +kernel
theorem dM_askedLease_176 : decode xM_askedLease.2.1 176 = .ok (.getfield 20, 3) := by decide +kernel
theorem dM_askedLease_179 : decode xM_askedLease.2.1 179 = .ok (.iconst 4, 1) := by decide +kernel
theorem dM_askedLease_180 : decode xM_askedLease.2.1 180 = .ok (.iload 7, 2) := by decide +kernel
theorem dM_askedLease_182 : decode xM_askedLease.2.1 182 = .ok (.imul, 1) := by decide +kernel
theorem dM_askedLease_183 : decode xM_askedLease.2.1 183 = .ok (.iload_n 2, 1) := by decide +kernel
theorem dM_askedLease_184 : decode xM_askedLease.2.1 184 = .ok (.iadd, 1) := by decide +kernel
theorem dM_askedLease_185 : decode xM_askedLease.2.1 185 = .ok (.iaload, 1) := by decide +kernel
theorem dM_askedLease_186 : decode xM_askedLease.2.1 186 = .ok (.iconst 2, 1) := by decide +kernel
theorem dM_askedLease_187 : decode xM_askedLease.2.1 187 = .ok (.if_icmp .ne 14, 3) := by decide +kernel
theorem dM_askedLease_190 : decode xM_askedLease.2.1 190 = .ok (.aload_n 0, 1) := by decide +kernel
theorem dM_askedLease_191 : decode xM_askedLease.2.1 191 = .ok (.bipush 8, 2) := by decide +kernel
theorem dM_askedLease_193 : decode xM_askedLease.2.1 193 = .ok (.iload 7, 2) := by decide +kernel
theorem dM_askedLease_195 : decode xM_askedLease.2.1 195 = .ok (.iload_n 2, 1) := by decide +kernel
theorem dM_askedLease_196 : decode xM_askedLease.2.1 196 = .ok (.iconst 0, 1) := by decide +kernel
theorem dM_askedLease_197 : decode xM_askedLease.2.1 197 = .ok (.invokevirtual 148, 3) := by decide +kernel
theorem dM_askedLease_200 : decode xM_askedLease.2.1 200 = .ok (.pop, 1) := by decide +kernel
theorem dM_askedLease_201 : decode xM_askedLease.2.1 201 = .ok (.iinc 7 1, 3) := by decide +kernel
theorem dM_askedLease_204 : decode xM_askedLease.2.1 204 = .ok (.goto (-57), 3) := by decide +kernel
theorem dM_askedLease_207 : decode xM_askedLease.2.1 207 = .ok (.return_, 1) := by decide +kernel
def xM_first : mt_X := (⟨"LeasedPagesModel", "first", "(I)I"⟩, prog_12_method_19_code, 4, (Option.some FieldType.int))
theorem dM_first_0 : decode xM_first.2.1 0 = .ok (.iconst (-1), 1) := by decide +kernel
theorem dM_first_1 : decode xM_first.2.1 1 = .ok (.istore_n 2, 1) := by decide +kernel
theorem dM_first_2 : decode xM_first.2.1 2 = .ok (.iconst 0, 1) := by decide +kernel
theorem dM_first_3 : decode xM_first.2.1 3 = .ok (.istore_n 3, 1) := by decide +kernel
theorem dM_first_4 : decode xM_first.2.1 4 = .ok (.iload_n 3, 1) := by decide +kernel
theorem dM_first_5 : decode xM_first.2.1 5 = .ok (.iconst 3, 1) := by decide +kernel
theorem dM_first_6 : decode xM_first.2.1 6 = .ok (.if_icmp .ge 40, 3) := by decide +kernel
theorem dM_first_9 : decode xM_first.2.1 9 = .ok (.aload_n 0, 1) := by decide +kernel
theorem dM_first_10 : decode xM_first.2.1 10 = .ok (.getfield 44, 3) := by decide +kernel
theorem dM_first_13 : decode xM_first.2.1 13 = .ok (.iload_n 3, 1) := by decide +kernel
theorem dM_first_14 : decode xM_first.2.1 14 = .ok (.iaload, 1) := by decide +kernel
theorem dM_first_15 : decode xM_first.2.1 15 = .ok (.iload_n 1, 1) := by decide +kernel
theorem dM_first_16 : decode xM_first.2.1 16 = .ok (.if_icmp .ne 24, 3) := by decide +kernel
theorem dM_first_19 : decode xM_first.2.1 19 = .ok (.iload_n 2, 1) := by decide +kernel
theorem dM_first_20 : decode xM_first.2.1 20 = .ok (.ifCond .lt 18, 3) := by decide +kernel
theorem dM_first_23 : decode xM_first.2.1 23 = .ok (.aload_n 0, 1) := by decide +kernel
theorem dM_first_24 : decode xM_first.2.1 24 = .ok (.getfield 53, 3) := by decide +kernel
theorem dM_first_27 : decode xM_first.2.1 27 = .ok (.iload_n 3, 1) := by decide +kernel
theorem dM_first_28 : decode xM_first.2.1 28 = .ok (.iaload, 1) := by decide +kernel
theorem dM_first_29 : decode xM_first.2.1 29 = .ok (.aload_n 0, 1) := by decide +kernel
theorem dM_first_30 : decode xM_first.2.1 30 = .ok (.getfield 53, 3) := by decide +kernel
theorem dM_first_33 : decode xM_first.2.1 33 = .ok (.iload_n 2, 1) := by decide +kernel
theorem dM_first_34 : decode xM_first.2.1 34 = .ok (.iaload, 1) := by decide +kernel
theorem dM_first_35 : decode xM_first.2.1 35 = .ok (.if_icmp .ge 5, 3) := by decide +kernel
theorem dM_first_38 : decode xM_first.2.1 38 = .ok (.iload_n 3, 1) := by decide +kernel
theorem dM_first_39 : decode xM_first.2.1 39 = .ok (.istore_n 2, 1) := by decide +kernel
theorem dM_first_40 : decode xM_first.2.1 40 = .ok (.iinc 3 1, 3) := by decide +kernel
theorem dM_first_43 : decode xM_first.2.1 43 = .ok (.goto (-39), 3) := by decide +kernel
theorem dM_first_46 : decode xM_first.2.1 46 = .ok (.iload_n 2, 1) := by decide +kernel
theorem dM_first_47 : decode xM_first.2.1 47 = .ok (.ireturn, 1) := by decide +kernel
def xM_serveLines : mt_X := (⟨"LeasedPagesModel", "serveLines", "()V"⟩, prog_12_method_20_code, 3, (Option.none : Option FieldType))
theorem dM_serveLines_0 : decode xM_serveLines.2.1 0 = .ok (.iconst 0, 1) := by decide +kernel
theorem dM_serveLines_1 : decode xM_serveLines.2.1 1 = .ok (.istore_n 1, 1) := by decide +kernel
theorem dM_serveLines_2 : decode xM_serveLines.2.1 2 = .ok (.iload_n 1, 1) := by decide +kernel
theorem dM_serveLines_3 : decode xM_serveLines.2.1 3 = .ok (.iconst 4, 1) := by decide +kernel
theorem dM_serveLines_4 : decode xM_serveLines.2.1 4 = .ok (.if_icmp .ge 76, 3) := by decide +kernel
theorem dM_serveLines_7 : decode xM_serveLines.2.1 7 = .ok (.aload_n 0, 1) := by decide +kernel
theorem dM_serveLines_8 : decode xM_serveLines.2.1 8 = .ok (.iload_n 1, 1) := by decide +kernel
theorem dM_serveLines_9 : decode xM_serveLines.2.1 9 = .ok (.invokevirtual 202, 3) := by decide +kernel
theorem dM_serveLines_12 : decode xM_serveLines.2.1 12 = .ok (.istore_n 2, 1) := by decide +kernel
theorem dM_serveLines_13 : decode xM_serveLines.2.1 13 = .ok (.iload_n 2, 1) := by decide +kernel
theorem dM_serveLines_14 : decode xM_serveLines.2.1 14 = .ok (.ifCond .lt 60, 3) := by decide +kernel
theorem dM_serveLines_17 : decode xM_serveLines.2.1 17 = .ok (.aload_n 0, 1) := by decide +kernel
theorem dM_serveLines_18 : decode xM_serveLines.2.1 18 = .ok (.getfield 190, 3) := by decide +kernel
theorem dM_serveLines_21 : decode xM_serveLines.2.1 21 = .ok (.ifCond .ne 53, 3) := by decide +kernel
theorem dM_serveLines_24 : decode xM_serveLines.2.1 24 = .ok (.aload_n 0, 1) := by decide +kernel
theorem dM_serveLines_25 : decode xM_serveLines.2.1 25 = .ok (.iload_n 2, 1) := by decide +kernel
theorem dM_serveLines_26 : decode xM_serveLines.2.1 26 = .ok (.iload_n 1, 1) := by decide +kernel
theorem dM_serveLines_27 : decode xM_serveLines.2.1 27 = .ok (.aload_n 0, 1) := by decide +kernel
theorem dM_serveLines_28 : decode xM_serveLines.2.1 28 = .ok (.getfield 50, 3) := by decide +kernel
theorem dM_serveLines_31 : decode xM_serveLines.2.1 31 = .ok (.iload_n 2, 1) := by decide +kernel
theorem dM_serveLines_32 : decode xM_serveLines.2.1 32 = .ok (.iaload, 1) := by decide +kernel
theorem dM_serveLines_33 : decode xM_serveLines.2.1 33 = .ok (.invokevirtual 193, 3) := by decide +kernel
theorem dM_serveLines_36 : decode xM_serveLines.2.1 36 = .ok (.ifCond .ne 38, 3) := by decide +kernel
theorem dM_serveLines_39 : decode xM_serveLines.2.1 39 = .ok (.aload_n 0, 1) := by decide +kernel
theorem dM_serveLines_40 : decode xM_serveLines.2.1 40 = .ok (.getfield 44, 3) := by decide +kernel
theorem dM_serveLines_43 : decode xM_serveLines.2.1 43 = .ok (.iload_n 2, 1) := by decide +kernel
theorem dM_serveLines_44 : decode xM_serveLines.2.1 44 = .ok (.iconst (-1), 1) := by decide +kernel
theorem dM_serveLines_45 : decode xM_serveLines.2.1 45 = .ok (.iastore, 1) := by decide +kernel
theorem dM_serveLines_46 : decode xM_serveLines.2.1 46 = .ok (.aload_n 0, 1) := by decide +kernel
theorem dM_serveLines_47 : decode xM_serveLines.2.1 47 = .ok (.iload_n 2, 1) := by decide +kernel
theorem dM_serveLines_48 : decode xM_serveLines.2.1 48 = .ok (.iload_n 1, 1) := by decide +kernel
theorem dM_serveLines_49 : decode xM_serveLines.2.1 49 = .ok (.aload_n 0, 1) := by decide +kernel
theorem dM_serveLines_50 : decode xM_serveLines.2.1 50 = .ok (.getfield 47, 3) := by decide +kernel
theorem dM_serveLines_53 : decode xM_serveLines.2.1 53 = .ok (.iload_n 2, 1) := by decide +kernel
theorem dM_serveLines_54 : decode xM_serveLines.2.1 54 = .ok (.iaload, 1) := by decide +kernel
theorem dM_serveLines_55 : decode xM_serveLines.2.1 55 = .ok (.aload_n 0, 1) := by decide +kernel
theorem dM_serveLines_56 : decode xM_serveLines.2.1 56 = .ok (.getfield 50, 3) := by decide +kernel
theorem dM_serveLines_59 : decode xM_serveLines.2.1 59 = .ok (.iload_n 2, 1) := by decide +kernel
theorem dM_serveLines_60 : decode xM_serveLines.2.1 60 = .ok (.iaload, 1) := by decide +kernel
theorem dM_serveLines_61 : decode xM_serveLines.2.1 61 = .ok (.iconst 0, 1) := by decide +kernel
theorem dM_serveLines_62 : decode xM_serveLines.2.1 62 = .ok (.invokevirtual 196, 3) := by decide +kernel
theorem dM_serveLines_65 : decode xM_serveLines.2.1 65 = .ok (.aload_n 0, 1) := by decide +kernel
theorem dM_serveLines_66 : decode xM_serveLines.2.1 66 = .ok (.iload_n 1, 1) := by decide +kernel
theorem dM_serveLines_67 : decode xM_serveLines.2.1 67 = .ok (.invokevirtual 202, 3) := by decide +kernel
theorem dM_serveLines_70 : decode xM_serveLines.2.1 70 = .ok (.istore_n 2, 1) := by decide +kernel
theorem dM_serveLines_71 : decode xM_serveLines.2.1 71 = .ok (.goto (-58), 3) := by decide +kernel
theorem dM_serveLines_74 : decode xM_serveLines.2.1 74 = .ok (.iinc 1 1, 3) := by decide +kernel
theorem dM_serveLines_77 : decode xM_serveLines.2.1 77 = .ok (.goto (-75), 3) := by decide +kernel
theorem dM_serveLines_80 : decode xM_serveLines.2.1 80 = .ok (.return_, 1) := by decide +kernel
def xM_valid : mt_X := (⟨"LeasedPagesModel", "valid", "(II)Z"⟩, prog_12_method_21_code, 3, (Option.some FieldType.boolean))
theorem dM_valid_0 : decode xM_valid.2.1 0 = .ok (.aload_n 0, 1) := by decide +kernel
theorem dM_valid_1 : decode xM_valid.2.1 1 = .ok (.getfield 59, 3) := by decide +kernel
theorem dM_valid_4 : decode xM_valid.2.1 4 = .ok (.iconst 4, 1) := by decide +kernel
theorem dM_valid_5 : decode xM_valid.2.1 5 = .ok (.iload_n 1, 1) := by decide +kernel
theorem dM_valid_6 : decode xM_valid.2.1 6 = .ok (.imul, 1) := by decide +kernel
theorem dM_valid_7 : decode xM_valid.2.1 7 = .ok (.iload_n 2, 1) := by decide +kernel
theorem dM_valid_8 : decode xM_valid.2.1 8 = .ok (.iadd, 1) := by decide +kernel
theorem dM_valid_9 : decode xM_valid.2.1 9 = .ok (.iaload, 1) := by decide +kernel
theorem dM_valid_10 : decode xM_valid.2.1 10 = .ok (.ifCond .le 26, 3) := by decide +kernel
theorem dM_valid_13 : decode xM_valid.2.1 13 = .ok (.aload_n 0, 1) := by decide +kernel
theorem dM_valid_14 : decode xM_valid.2.1 14 = .ok (.getfield 13, 3) := by decide +kernel
theorem dM_valid_17 : decode xM_valid.2.1 17 = .ok (.iload_n 1, 1) := by decide +kernel
theorem dM_valid_18 : decode xM_valid.2.1 18 = .ok (.iaload, 1) := by decide +kernel
theorem dM_valid_19 : decode xM_valid.2.1 19 = .ok (.aload_n 0, 1) := by decide +kernel
theorem dM_valid_20 : decode xM_valid.2.1 20 = .ok (.getfield 62, 3) := by decide +kernel
theorem dM_valid_23 : decode xM_valid.2.1 23 = .ok (.iconst 4, 1) := by decide +kernel
theorem dM_valid_24 : decode xM_valid.2.1 24 = .ok (.iload_n 1, 1) := by decide +kernel
theorem dM_valid_25 : decode xM_valid.2.1 25 = .ok (.imul, 1) := by decide +kernel
theorem dM_valid_26 : decode xM_valid.2.1 26 = .ok (.iload_n 2, 1) := by decide +kernel
theorem dM_valid_27 : decode xM_valid.2.1 27 = .ok (.iadd, 1) := by decide +kernel
theorem dM_valid_28 : decode xM_valid.2.1 28 = .ok (.iaload, 1) := by decide +kernel
theorem dM_valid_29 : decode xM_valid.2.1 29 = .ok (.if_icmp .ge 7, 3) := by decide +kernel
theorem dM_valid_32 : decode xM_valid.2.1 32 = .ok (.iconst 1, 1) := by decide +kernel
theorem dM_valid_33 : decode xM_valid.2.1 33 = .ok (.goto 4, 3) := by decide +kernel
theorem dM_valid_36 : decode xM_valid.2.1 36 = .ok (.iconst 0, 1) := by decide +kernel
theorem dM_valid_37 : decode xM_valid.2.1 37 = .ok (.ireturn, 1) := by decide +kernel
def xM_hasDirty : mt_X := (⟨"LeasedPagesModel", "hasDirty", "(II)Z"⟩, prog_12_method_22_code, 5, (Option.some FieldType.boolean))
theorem dM_hasDirty_0 : decode xM_hasDirty.2.1 0 = .ok (.iconst 0, 1) := by decide +kernel
theorem dM_hasDirty_1 : decode xM_hasDirty.2.1 1 = .ok (.istore_n 3, 1) := by decide +kernel
theorem dM_hasDirty_2 : decode xM_hasDirty.2.1 2 = .ok (.iconst 0, 1) := by decide +kernel
theorem dM_hasDirty_3 : decode xM_hasDirty.2.1 3 = .ok (.istore 4, 2) := by decide +kernel
theorem dM_hasDirty_5 : decode xM_hasDirty.2.1 5 = .ok (.iload 4, 2) := by decide +kernel
theorem dM_hasDirty_7 : decode xM_hasDirty.2.1 7 = .ok (.aload_n 0, 1) := by decide +kernel
theorem dM_hasDirty_8 : decode xM_hasDirty.2.1 8 = .ok (.getfield 74, 3) := by decide +kernel
theorem dM_hasDirty_11 : decode xM_hasDirty.2.1 11 = .ok (.iload_n 1, 1) := by decide +kernel
theorem dM_hasDirty_12 : decode xM_hasDirty.2.1 12 = .ok (.iaload, 1) := by decide +kernel
theorem dM_hasDirty_13 : decode xM_hasDirty.2.1 13 = .ok (.if_icmp .ge 37, 3) := by decide +kernel
theorem dM_hasDirty_16 : decode xM_hasDirty.2.1 16 = .ok (.iload_n 3, 1) := by decide +kernel
theorem dM_hasDirty_17 : decode xM_hasDirty.2.1 17 = .ok (.ifCond .ne 21, 3) := by decide +kernel
theorem dM_hasDirty_20 : decode xM_hasDirty.2.1 20 = .ok (.aload_n 0, 1) := by decide +kernel
theorem dM_hasDirty_21 : decode xM_hasDirty.2.1 21 = .ok (.getfield 77, 3) := by decide +kernel
theorem dM_hasDirty_24 : decode xM_hasDirty.2.1 24 = .ok (.bipush 6, 2) := by decide +kernel
theorem dM_hasDirty_26 : decode xM_hasDirty.2.1 26 = .ok (.iload_n 1, 1) := by decide +kernel
theorem dM_hasDirty_27 : decode xM_hasDirty.2.1 27 = .ok (.imul, 1) := by decide +kernel
theorem dM_hasDirty_28 : decode xM_hasDirty.2.1 28 = .ok (.iload 4, 2) := by decide +kernel
theorem dM_hasDirty_30 : decode xM_hasDirty.2.1 30 = .ok (.iadd, 1) := by decide +kernel
theorem dM_hasDirty_31 : decode xM_hasDirty.2.1 31 = .ok (.iaload, 1) := by decide +kernel
theorem dM_hasDirty_32 : decode xM_hasDirty.2.1 32 = .ok (.iconst 4, 1) := by decide +kernel
theorem dM_hasDirty_33 : decode xM_hasDirty.2.1 33 = .ok (.idiv, 1) := by decide +kernel
theorem dM_hasDirty_34 : decode xM_hasDirty.2.1 34 = .ok (.iload_n 2, 1) := by decide +kernel
theorem dM_hasDirty_35 : decode xM_hasDirty.2.1 35 = .ok (.if_icmp .ne 7, 3) := by decide +kernel
theorem dM_hasDirty_38 : decode xM_hasDirty.2.1 38 = .ok (.iconst 1, 1) := by decide +kernel
theorem dM_hasDirty_39 : decode xM_hasDirty.2.1 39 = .ok (.goto 4, 3) := by decide +kernel
theorem dM_hasDirty_42 : decode xM_hasDirty.2.1 42 = .ok (.iconst 0, 1) := by decide +kernel
theorem dM_hasDirty_43 : decode xM_hasDirty.2.1 43 = .ok (.istore_n 3, 1) := by decide +kernel
theorem dM_hasDirty_44 : decode xM_hasDirty.2.1 44 = .ok (.iinc 4 1, 3) := by decide +kernel
theorem dM_hasDirty_47 : decode xM_hasDirty.2.1 47 = .ok (.goto (-42), 3) := by decide +kernel
theorem dM_hasDirty_50 : decode xM_hasDirty.2.1 50 = .ok (.iload_n 3, 1) := by decide +kernel
theorem dM_hasDirty_51 : decode xM_hasDirty.2.1 51 = .ok (.ireturn, 1) := by decide +kernel
def xM_forget : mt_X := (⟨"LeasedPagesModel", "forget", "(III)V"⟩, prog_12_method_23_code, 8, (Option.none : Option FieldType))
theorem dM_forget_0 : decode xM_forget.2.1 0 = .ok (.iconst 0, 1) := by decide +kernel
theorem dM_forget_1 : decode xM_forget.2.1 1 = .ok (.istore 4, 2) := by decide +kernel
theorem dM_forget_3 : decode xM_forget.2.1 3 = .ok (.iconst 0, 1) := by decide +kernel
theorem dM_forget_4 : decode xM_forget.2.1 4 = .ok (.istore 5, 2) := by decide +kernel
theorem dM_forget_6 : decode xM_forget.2.1 6 = .ok (.iconst 0, 1) := by decide +kernel
theorem dM_forget_7 : decode xM_forget.2.1 7 = .ok (.istore 6, 2) := by decide +kernel
theorem dM_forget_9 : decode xM_forget.2.1 9 = .ok (.iload 6, 2) := by decide +kernel
theorem dM_forget_11 : decode xM_forget.2.1 11 = .ok (.aload_n 0, 1) := by decide +kernel
theorem dM_forget_12 : decode xM_forget.2.1 12 = .ok (.getfield 74, 3) := by decide +kernel
theorem dM_forget_15 : decode xM_forget.2.1 15 = .ok (.iload_n 1, 1) := by decide +kernel
theorem dM_forget_16 : decode xM_forget.2.1 16 = .ok (.iaload, 1) := by decide +kernel
theorem dM_forget_17 : decode xM_forget.2.1 17 = .ok (.if_icmp .ge 84, 3) := by decide +kernel
theorem dM_forget_20 : decode xM_forget.2.1 20 = .ok (.bipush 6, 2) := by decide +kernel
theorem dM_forget_22 : decode xM_forget.2.1 22 = .ok (.iload_n 1, 1) := by decide +kernel
theorem dM_forget_23 : decode xM_forget.2.1 23 = .ok (.imul, 1) := by decide +kernel
theorem dM_forget_24 : decode xM_forget.2.1 24 = .ok (.iload 6, 2) := by decide +kernel
theorem dM_forget_26 : decode xM_forget.2.1 26 = .ok (.iadd, 1) := by decide +kernel
theorem dM_forget_27 : decode xM_forget.2.1 27 = .ok (.istore 7, 2) := by decide +kernel
theorem dM_forget_29 : decode xM_forget.2.1 29 = .ok (.aload_n 0, 1) := by decide +kernel
theorem dM_forget_30 : decode xM_forget.2.1 30 = .ok (.getfield 77, 3) := by decide +kernel
theorem dM_forget_33 : decode xM_forget.2.1 33 = .ok (.iload 7, 2) := by decide +kernel
theorem dM_forget_35 : decode xM_forget.2.1 35 = .ok (.iaload, 1) := by decide +kernel
theorem dM_forget_36 : decode xM_forget.2.1 36 = .ok (.iconst 4, 1) := by decide +kernel
theorem dM_forget_37 : decode xM_forget.2.1 37 = .ok (.idiv, 1) := by decide +kernel
theorem dM_forget_38 : decode xM_forget.2.1 38 = .ok (.iload_n 2, 1) := by decide +kernel
theorem dM_forget_39 : decode xM_forget.2.1 39 = .ok (.if_icmp .ne 15, 3) := by decide +kernel
theorem dM_forget_42 : decode xM_forget.2.1 42 = .ok (.iload 5, 2) := by decide +kernel
theorem dM_forget_44 : decode xM_forget.2.1 44 = .ok (.iload_n 3, 1) := by decide +kernel
theorem dM_forget_45 : decode xM_forget.2.1 45 = .ok (.if_icmp .ge 9, 3) := by decide +kernel
theorem dM_forget_48 : decode xM_forget.2.1 48 = .ok (.iinc 5 1, 3) := by decide +kernel
theorem dM_forget_51 : decode xM_forget.2.1 51 = .ok (.goto 44, 3) := by decide +kernel
theorem dM_forget_54 : decode xM_forget.2.1 54 = .ok (.aload_n 0, 1) := by decide +kernel
theorem dM_forget_55 : decode xM_forget.2.1 55 = .ok (.getfield 77, 3) := by decide +kernel
theorem dM_forget_58 : decode xM_forget.2.1 58 = .ok (.bipush 6, 2) := by decide +kernel
theorem dM_forget_60 : decode xM_forget.2.1 60 = .ok (.iload_n 1, 1) := by decide +kernel
theorem dM_forget_61 : decode xM_forget.2.1 61 = .ok (.imul, 1) := by decide +kernel
theorem dM_forget_62 : decode xM_forget.2.1 62 = .ok (.iload 4, 2) := by decide +kernel
theorem dM_forget_64 : decode xM_forget.2.1 64 = .ok (.iadd, 1) := by decide +kernel
theorem dM_forget_65 : decode xM_forget.2.1 65 = .ok (.aload_n 0, 1) := by decide +kernel
theorem dM_forget_66 : decode xM_forget.2.1 66 = .ok (.getfield 77, 3) := by decide +kernel
theorem dM_forget_69 : decode xM_forget.2.1 69 = .ok (.iload 7, 2) := by decide +kernel
theorem dM_forget_71 : decode xM_forget.2.1 71 = .ok (.iaload, 1) := by decide +kernel
theorem dM_forget_72 : decode xM_forget.2.1 72 = .ok (.iastore, 1) := by decide +kernel
theorem dM_forget_73 : decode xM_forget.2.1 73 = .ok (.aload_n 0, 1) := by decide +kernel
theorem dM_forget_74 : decode xM_forget.2.1 74 = .ok (.getfield 80, 3) := by decide +kernel
theorem dM_forget_77 : decode xM_forget.2.1 77 = .ok (.bipush 6, 2) := by decide +kernel
theorem dM_forget_79 : decode xM_forget.2.1 79 = .ok (.iload_n 1, 1) := by decide +kernel
theorem dM_forget_80 : decode xM_forget.2.1 80 = .ok (.imul, 1) := by decide +kernel
theorem dM_forget_81 : decode xM_forget.2.1 81 = .ok (.iload 4, 2) := by decide +kernel
theorem dM_forget_83 : decode xM_forget.2.1 83 = .ok (.iadd, 1) := by decide +kernel
theorem dM_forget_84 : decode xM_forget.2.1 84 = .ok (.aload_n 0, 1) := by decide +kernel
theorem dM_forget_85 : decode xM_forget.2.1 85 = .ok (.getfield 80, 3) := by decide +kernel
theorem dM_forget_88 : decode xM_forget.2.1 88 = .ok (.iload 7, 2) := by decide +kernel
theorem dM_forget_90 : decode xM_forget.2.1 90 = .ok (.iaload, 1) := by decide +kernel
theorem dM_forget_91 : decode xM_forget.2.1 91 = .ok (.iastore, 1) := by decide +kernel
theorem dM_forget_92 : decode xM_forget.2.1 92 = .ok (.iinc 4 1, 3) := by decide +kernel
theorem dM_forget_95 : decode xM_forget.2.1 95 = .ok (.iinc 6 1, 3) := by decide +kernel
theorem dM_forget_98 : decode xM_forget.2.1 98 = .ok (.goto (-89), 3) := by decide +kernel
theorem dM_forget_101 : decode xM_forget.2.1 101 = .ok (.aload_n 0, 1) := by decide +kernel
theorem dM_forget_102 : decode xM_forget.2.1 102 = .ok (.getfield 74, 3) := by decide +kernel
theorem dM_forget_105 : decode xM_forget.2.1 105 = .ok (.iload_n 1, 1) := by decide +kernel
theorem dM_forget_106 : decode xM_forget.2.1 106 = .ok (.iload 4, 2) := by decide +kernel
theorem dM_forget_108 : decode xM_forget.2.1 108 = .ok (.iastore, 1) := by decide +kernel
theorem dM_forget_109 : decode xM_forget.2.1 109 = .ok (.return_, 1) := by decide +kernel
def xM_granted : mt_X := (⟨"LeasedPagesModel", "granted", "(IIIZI)V"⟩, prog_12_method_24_code, 7, (Option.none : Option FieldType))
theorem dM_granted_0 : decode xM_granted.2.1 0 = .ok (.aload_n 0, 1) := by decide +kernel
theorem dM_granted_1 : decode xM_granted.2.1 1 = .ok (.getfield 83, 3) := by decide +kernel
theorem dM_granted_4 : decode xM_granted.2.1 4 = .ok (.iload_n 1, 1) := by decide +kernel
theorem dM_granted_5 : decode xM_granted.2.1 5 = .ok (.iconst 0, 1) := by decide +kernel
theorem dM_granted_6 : decode xM_granted.2.1 6 = .ok (.iastore, 1) := by decide +kernel
theorem dM_granted_7 : decode xM_granted.2.1 7 = .ok (.aload_n 0, 1) := by decide +kernel
theorem dM_granted_8 : decode xM_granted.2.1 8 = .ok (.getfield 59, 3) := by decide +kernel
theorem dM_granted_11 : decode xM_granted.2.1 11 = .ok (.iconst 4, 1) := by decide +kernel
theorem dM_granted_12 : decode xM_granted.2.1 12 = .ok (.iload_n 1, 1) := by decide +kernel
theorem dM_granted_13 : decode xM_granted.2.1 13 = .ok (.imul, 1) := by decide +kernel
theorem dM_granted_14 : decode xM_granted.2.1 14 = .ok (.iload_n 2, 1) := by decide +kernel
theorem dM_granted_15 : decode xM_granted.2.1 15 = .ok (.iadd, 1) := by decide +kernel
theorem dM_granted_16 : decode xM_granted.2.1 16 = .ok (.iload_n 3, 1) := by decide +kernel
theorem dM_granted_17 : decode xM_granted.2.1 17 = .ok (.iastore, 1) := by decide +kernel
theorem dM_granted_18 : decode xM_granted.2.1 18 = .ok (.aload_n 0, 1) := by decide +kernel
theorem dM_granted_19 : decode xM_granted.2.1 19 = .ok (.getfield 62, 3) := by decide +kernel
theorem dM_granted_22 : decode xM_granted.2.1 22 = .ok (.iconst 4, 1) := by decide +kernel
theorem dM_granted_23 : decode xM_granted.2.1 23 = .ok (.iload_n 1, 1) := by decide +kernel
theorem dM_granted_24 : decode xM_granted.2.1 24 = .ok (.imul, 1) := by decide +kernel
theorem dM_granted_25 : decode xM_granted.2.1 25 = .ok (.iload_n 2, 1) := by decide +kernel
theorem dM_granted_26 : decode xM_granted.2.1 26 = .ok (.iadd, 1) := by decide +kernel
theorem dM_granted_27 : decode xM_granted.2.1 27 = .ok (.aload_n 0, 1) := by decide +kernel
theorem dM_granted_28 : decode xM_granted.2.1 28 = .ok (.getfield 101, 3) := by decide +kernel
theorem dM_granted_31 : decode xM_granted.2.1 31 = .ok (.iload_n 1, 1) := by decide +kernel
theorem dM_granted_32 : decode xM_granted.2.1 32 = .ok (.iaload, 1) := by decide +kernel
theorem dM_granted_33 : decode xM_granted.2.1 33 = .ok (.aload_n 0, 1) := by decide +kernel
theorem dM_granted_34 : decode xM_granted.2.1 34 = .ok (.getfield 131, 3) := by decide +kernel
theorem dM_granted_37 : decode xM_granted.2.1 37 = .ok (.iconst 2, 1) := by decide +kernel
theorem dM_granted_38 : decode xM_granted.2.1 38 = .ok (.idiv, 1) := by decide +kernel
theorem dM_granted_39 : decode xM_granted.2.1 39 = .ok (.iadd, 1) := by decide +kernel
theorem dM_granted_40 : decode xM_granted.2.1 40 = .ok (.iconst 2, 1) := by decide +kernel
theorem dM_granted_41 : decode xM_granted.2.1 41 = .ok (.isub, 1) := by decide +kernel
theorem dM_granted_42 : decode xM_granted.2.1 42 = .ok (.iastore, 1) := by decide +kernel
theorem dM_granted_43 : decode xM_granted.2.1 43 = .ok (.iload 4, 2) := by decide +kernel
theorem dM_granted_45 : decode xM_granted.2.1 45 = .ok (.ifCond .ne 31, 3) := by decide +kernel
theorem dM_granted_48 : decode xM_granted.2.1 48 = .ok (.aload_n 0, 1) := by decide +kernel
theorem dM_granted_49 : decode xM_granted.2.1 49 = .ok (.iload_n 1, 1) := by decide +kernel
theorem dM_granted_50 : decode xM_granted.2.1 50 = .ok (.iload_n 2, 1) := by decide +kernel
theorem dM_granted_51 : decode xM_granted.2.1 51 = .ok (.invokevirtual 206, 3) := by decide +kernel
theorem dM_granted_54 : decode xM_granted.2.1 54 = .ok (.ifCond .eq 22, 3) := by decide +kernel
theorem dM_granted_57 : decode xM_granted.2.1 57 = .ok (.aload_n 0, 1) := by decide +kernel
theorem dM_granted_58 : decode xM_granted.2.1 58 = .ok (.iload_n 1, 1) := by decide +kernel
theorem dM_granted_59 : decode xM_granted.2.1 59 = .ok (.iload_n 2, 1) := by decide +kernel
theorem dM_granted_60 : decode xM_granted.2.1 60 = .ok (.bipush 6, 2) := by decide +kernel
theorem dM_granted_62 : decode xM_granted.2.1 62 = .ok (.invokevirtual 209, 3) := by decide +kernel
theorem dM_granted_65 : decode xM_granted.2.1 65 = .ok (.aload_n 0, 1) := by decide +kernel
theorem dM_granted_66 : decode xM_granted.2.1 66 = .ok (.getfield 68, 3) := by decide +kernel
theorem dM_granted_69 : decode xM_granted.2.1 69 = .ok (.iconst 4, 1) := by decide +kernel
theorem dM_granted_70 : decode xM_granted.2.1 70 = .ok (.iload_n 1, 1) := by decide +kernel
theorem dM_granted_71 : decode xM_granted.2.1 71 = .ok (.imul, 1) := by decide +kernel
theorem dM_granted_72 : decode xM_granted.2.1 72 = .ok (.iload_n 2, 1) := by decide +kernel
theorem dM_granted_73 : decode xM_granted.2.1 73 = .ok (.iadd, 1) := by decide +kernel
theorem dM_granted_74 : decode xM_granted.2.1 74 = .ok (.iconst 1, 1) := by decide +kernel
theorem dM_granted_75 : decode xM_granted.2.1 75 = .ok (.bastore, 1) := by decide +kernel
theorem dM_granted_76 : decode xM_granted.2.1 76 = .ok (.iconst 0, 1) := by decide +kernel
theorem dM_granted_77 : decode xM_granted.2.1 77 = .ok (.istore 6, 2) := by decide +kernel
theorem dM_granted_79 : decode xM_granted.2.1 79 = .ok (.iload 6, 2) := by decide +kernel
theorem dM_granted_81 : decode xM_granted.2.1 81 = .ok (.iconst 4, 1) := by decide +kernel
theorem dM_granted_82 : decode xM_granted.2.1 82 = .ok (.if_icmp .ge 35, 3) := by decide +kernel
theorem dM_granted_85 : decode xM_granted.2.1 85 = .ok (.aload_n 0, 1) := by decide +kernel
theorem dM_granted_86 : decode xM_granted.2.1 86 = .ok (.getfield 71, 3) := by decide +kernel
theorem dM_granted_89 : decode xM_granted.2.1 89 = .ok (.bipush 16, 2) := by decide +kernel
theorem dM_granted_91 : decode xM_granted.2.1 91 = .ok (.iload_n 1, 1) := by decide +kernel
theorem dM_granted_92 : decode xM_granted.2.1 92 = .ok (.imul, 1) := by decide +kernel
theorem dM_granted_93 : decode xM_granted.2.1 93 = .ok (.iconst 4, 1) := by decide +kernel
theorem dM_granted_94 : decode xM_granted.2.1 94 = .ok (.iload_n 2, 1) := by decide +kernel
theorem dM_granted_95 : decode xM_granted.2.1 95 = .ok (.imul, 1) := by decide +kernel
theorem dM_granted_96 : decode xM_granted.2.1 96 = .ok (.iadd, 1) := by decide +kernel
theorem dM_granted_97 : decode xM_granted.2.1 97 = .ok (.iload 6, 2) := by decide +kernel
theorem dM_granted_99 : decode xM_granted.2.1 99 = .ok (.iadd, 1) := by decide +kernel
theorem dM_granted_100 : decode xM_granted.2.1 100 = .ok (.aload_n 0, 1) := by decide +kernel
theorem dM_granted_101 : decode xM_granted.2.1 101 = .ok (.getfield 128, 3) := by decide +kernel
theorem dM_granted_104 : decode xM_granted.2.1 104 = .ok (.iload 5, 2) := by decide +kernel
theorem dM_granted_106 : decode xM_granted.2.1 106 = .ok (.iload 6, 2) := by decide +kernel
theorem dM_granted_108 : decode xM_granted.2.1 108 = .ok (.iadd, 1) := by decide +kernel
theorem dM_granted_109 : decode xM_granted.2.1 109 = .ok (.iaload, 1) := by decide +kernel
theorem dM_granted_110 : decode xM_granted.2.1 110 = .ok (.iastore, 1) := by decide +kernel
theorem dM_granted_111 : decode xM_granted.2.1 111 = .ok (.iinc 6 1, 3) := by decide +kernel
theorem dM_granted_114 : decode xM_granted.2.1 114 = .ok (.goto (-35), 3) := by decide +kernel
theorem dM_granted_117 : decode xM_granted.2.1 117 = .ok (.iconst 0, 1) := by decide +kernel
theorem dM_granted_118 : decode xM_granted.2.1 118 = .ok (.istore 6, 2) := by decide +kernel
theorem dM_granted_120 : decode xM_granted.2.1 120 = .ok (.iload 6, 2) := by decide +kernel
theorem dM_granted_122 : decode xM_granted.2.1 122 = .ok (.aload_n 0, 1) := by decide +kernel
theorem dM_granted_123 : decode xM_granted.2.1 123 = .ok (.getfield 74, 3) := by decide +kernel
theorem dM_granted_126 : decode xM_granted.2.1 126 = .ok (.iload_n 1, 1) := by decide +kernel
theorem dM_granted_127 : decode xM_granted.2.1 127 = .ok (.iaload, 1) := by decide +kernel
theorem dM_granted_128 : decode xM_granted.2.1 128 = .ok (.if_icmp .ge 61, 3) := by decide +kernel
theorem dM_granted_131 : decode xM_granted.2.1 131 = .ok (.aload_n 0, 1) := by decide +kernel
theorem dM_granted_132 : decode xM_granted.2.1 132 = .ok (.getfield 77, 3) := by decide +kernel
theorem dM_granted_135 : decode xM_granted.2.1 135 = .ok (.bipush 6, 2) := by decide +kernel
theorem dM_granted_137 : decode xM_granted.2.1 137 = .ok (.iload_n 1, 1) := by decide +kernel
theorem dM_granted_138 : decode xM_granted.2.1 138 = .ok (.imul, 1) := by decide +kernel
theorem dM_granted_139 : decode xM_granted.2.1 139 = .ok (.iload 6, 2) := by decide +kernel
theorem dM_granted_141 : decode xM_granted.2.1 141 = .ok (.iadd, 1) := by decide +kernel
theorem dM_granted_142 : decode xM_granted.2.1 142 = .ok (.iaload, 1) := by decide +kernel
theorem dM_granted_143 : decode xM_granted.2.1 143 = .ok (.iconst 4, 1) := by decide +kernel
theorem dM_granted_144 : decode xM_granted.2.1 144 = .ok (.idiv, 1) := by decide +kernel
theorem dM_granted_145 : decode xM_granted.2.1 145 = .ok (.iload_n 2, 1) := by decide +kernel
theorem dM_granted_146 : decode xM_granted.2.1 146 = .ok (.if_icmp .ne 37, 3) := by decide +kernel
theorem dM_granted_149 : decode xM_granted.2.1 149 = .ok (.aload_n 0, 1) := by decide +kernel
theorem dM_granted_150 : decode xM_granted.2.1 150 = .ok (.getfield 71, 3) := by decide +kernel
theorem dM_granted_153 : decode xM_granted.2.1 153 = .ok (.bipush 16, 2) := by decide +kernel
theorem dM_granted_155 : decode xM_granted.2.1 155 = .ok (.iload_n 1, 1) := by decide +kernel
theorem dM_granted_156 : decode xM_granted.2.1 156 = .ok (.imul, 1) := by decide +kernel
theorem dM_granted_157 : decode xM_granted.2.1 157 = .ok (.aload_n 0, 1) := by decide +kernel
theorem dM_granted_158 : decode xM_granted.2.1 158 = .ok (.getfield 77, 3) := by decide +kernel
theorem dM_granted_161 : decode xM_granted.2.1 161 = .ok (.bipush 6, 2) := by decide +kernel
theorem dM_granted_163 : decode xM_granted.2.1 163 = .ok (.iload_n 1, 1) := by decide +kernel
theorem dM_granted_164 : decode xM_granted.2.1 164 = .ok (.imul, 1) := by decide +kernel
theorem dM_granted_165 : decode xM_granted.2.1 165 = .ok (.iload 6, 2) := by decide +kernel
theorem dM_granted_167 : decode xM_granted.2.1 167 = .ok (.iadd, 1) := by decide +kernel
theorem dM_granted_168 : decode xM_granted.2.1 168 = .ok (.iaload, 1) := by decide +kernel
theorem dM_granted_169 : decode xM_granted.2.1 169 = .ok (.iadd, 1) := by decide +kernel
theorem dM_granted_170 : decode xM_granted.2.1 170 = .ok (.aload_n 0, 1) := by decide +kernel
theorem dM_granted_171 : decode xM_granted.2.1 171 = .ok (.getfield 80, 3) := by decide +kernel
theorem dM_granted_174 : decode xM_granted.2.1 174 = .ok (.bipush 6, 2) := by decide +kernel
theorem dM_granted_176 : decode xM_granted.2.1 176 = .ok (.iload_n 1, 1) := by decide +kernel
theorem dM_granted_177 : decode xM_granted.2.1 177 = .ok (.imul, 1) := by decide +kernel
theorem dM_granted_178 : decode xM_granted.2.1 178 = .ok (.iload 6, 2) := by decide +kernel
theorem dM_granted_180 : decode xM_granted.2.1 180 = .ok (.iadd, 1) := by decide +kernel
theorem dM_granted_181 : decode xM_granted.2.1 181 = .ok (.iaload, 1) := by decide +kernel
theorem dM_granted_182 : decode xM_granted.2.1 182 = .ok (.iastore, 1) := by decide +kernel
theorem dM_granted_183 : decode xM_granted.2.1 183 = .ok (.iinc 6 1, 3) := by decide +kernel
theorem dM_granted_186 : decode xM_granted.2.1 186 = .ok (.goto (-66), 3) := by decide +kernel
theorem dM_granted_189 : decode xM_granted.2.1 189 = .ok (.aload_n 0, 1) := by decide +kernel
theorem dM_granted_190 : decode xM_granted.2.1 190 = .ok (.getfield 65, 3) := by decide +kernel
theorem dM_granted_193 : decode xM_granted.2.1 193 = .ok (.iconst 4, 1) := by decide +kernel
theorem dM_granted_194 : decode xM_granted.2.1 194 = .ok (.iload_n 1, 1) := by decide +kernel
theorem dM_granted_195 : decode xM_granted.2.1 195 = .ok (.imul, 1) := by decide +kernel
theorem dM_granted_196 : decode xM_granted.2.1 196 = .ok (.iload_n 2, 1) := by decide +kernel
theorem dM_granted_197 : decode xM_granted.2.1 197 = .ok (.iadd, 1) := by decide +kernel
theorem dM_granted_198 : decode xM_granted.2.1 198 = .ok (.iconst 0, 1) := by decide +kernel
theorem dM_granted_199 : decode xM_granted.2.1 199 = .ok (.bastore, 1) := by decide +kernel
theorem dM_granted_200 : decode xM_granted.2.1 200 = .ok (.return_, 1) := by decide +kernel
def xM_replied : mt_X := (⟨"LeasedPagesModel", "replied", "(III)V"⟩, prog_12_method_25_code, 5, (Option.none : Option FieldType))
theorem dM_replied_0 : decode xM_replied.2.1 0 = .ok (.aload_n 0, 1) := by decide +kernel
theorem dM_replied_1 : decode xM_replied.2.1 1 = .ok (.getfield 83, 3) := by decide +kernel
theorem dM_replied_4 : decode xM_replied.2.1 4 = .ok (.iload_n 2, 1) := by decide +kernel
theorem dM_replied_5 : decode xM_replied.2.1 5 = .ok (.iaload, 1) := by decide +kernel
theorem dM_replied_6 : decode xM_replied.2.1 6 = .ok (.iconst 2, 1) := by decide +kernel
theorem dM_replied_7 : decode xM_replied.2.1 7 = .ok (.if_icmp .ne 7, 3) := by decide +kernel
theorem dM_replied_10 : decode xM_replied.2.1 10 = .ok (.iconst 1, 1) := by decide +kernel
theorem dM_replied_11 : decode xM_replied.2.1 11 = .ok (.goto 4, 3) := by decide +kernel
theorem dM_replied_14 : decode xM_replied.2.1 14 = .ok (.iconst 0, 1) := by decide +kernel
theorem dM_replied_15 : decode xM_replied.2.1 15 = .ok (.istore 4, 2) := by decide +kernel
theorem dM_replied_17 : decode xM_replied.2.1 17 = .ok (.aload_n 0, 1) := by decide +kernel
theorem dM_replied_18 : decode xM_replied.2.1 18 = .ok (.getfield 83, 3) := by decide +kernel
theorem dM_replied_21 : decode xM_replied.2.1 21 = .ok (.iload_n 2, 1) := by decide +kernel
theorem dM_replied_22 : decode xM_replied.2.1 22 = .ok (.iconst 0, 1) := by decide +kernel
theorem dM_replied_23 : decode xM_replied.2.1 23 = .ok (.iastore, 1) := by decide +kernel
theorem dM_replied_24 : decode xM_replied.2.1 24 = .ok (.iload 4, 2) := by decide +kernel
theorem dM_replied_26 : decode xM_replied.2.1 26 = .ok (.ifCond .eq 16, 3) := by decide +kernel
theorem dM_replied_29 : decode xM_replied.2.1 29 = .ok (.iload_n 1, 1) := by decide +kernel
theorem dM_replied_30 : decode xM_replied.2.1 30 = .ok (.bipush 6, 2) := by decide +kernel
theorem dM_replied_32 : decode xM_replied.2.1 32 = .ok (.if_icmp .ne 10, 3) := by decide +kernel
theorem dM_replied_35 : decode xM_replied.2.1 35 = .ok (.aload_n 0, 1) := by decide +kernel
theorem dM_replied_36 : decode xM_replied.2.1 36 = .ok (.iload_n 2, 1) := by decide +kernel
theorem dM_replied_37 : decode xM_replied.2.1 37 = .ok (.iload_n 3, 1) := by decide +kernel
theorem dM_replied_38 : decode xM_replied.2.1 38 = .ok (.iconst 1, 1) := by decide +kernel
theorem dM_replied_39 : decode xM_replied.2.1 39 = .ok (.invokevirtual 209, 3) := by decide +kernel
theorem dM_replied_42 : decode xM_replied.2.1 42 = .ok (.iload 4, 2) := by decide +kernel
theorem dM_replied_44 : decode xM_replied.2.1 44 = .ok (.ifCond .eq 39, 3) := by decide +kernel
theorem dM_replied_47 : decode xM_replied.2.1 47 = .ok (.iload_n 1, 1) := by decide +kernel
theorem dM_replied_48 : decode xM_replied.2.1 48 = .ok (.bipush 7, 2) := by decide +kernel
theorem dM_replied_50 : decode xM_replied.2.1 50 = .ok (.if_icmp .ne 33, 3) := by decide +kernel
theorem dM_replied_53 : decode xM_replied.2.1 53 = .ok (.aload_n 0, 1) := by decide +kernel
theorem dM_replied_54 : decode xM_replied.2.1 54 = .ok (.iload_n 2, 1) := by decide +kernel
theorem dM_replied_55 : decode xM_replied.2.1 55 = .ok (.iload_n 3, 1) := by decide +kernel
theorem dM_replied_56 : decode xM_replied.2.1 56 = .ok (.bipush 6, 2) := by decide +kernel
theorem dM_replied_58 : decode xM_replied.2.1 58 = .ok (.invokevirtual 209, 3) := by decide +kernel
theorem dM_replied_61 : decode xM_replied.2.1 61 = .ok (.aload_n 0, 1) := by decide +kernel
theorem dM_replied_62 : decode xM_replied.2.1 62 = .ok (.getfield 68, 3) := by decide +kernel
theorem dM_replied_65 : decode xM_replied.2.1 65 = .ok (.iconst 4, 1) := by decide +kernel
theorem dM_replied_66 : decode xM_replied.2.1 66 = .ok (.iload_n 2, 1) := by decide +kernel
theorem dM_replied_67 : decode xM_replied.2.1 67 = .ok (.imul, 1) := by decide +kernel
theorem dM_replied_68 : decode xM_replied.2.1 68 = .ok (.iload_n 3, 1) := by decide +kernel
theorem dM_replied_69 : decode xM_replied.2.1 69 = .ok (.iadd, 1) := by decide +kernel
theorem dM_replied_70 : decode xM_replied.2.1 70 = .ok (.iconst 1, 1) := by decide +kernel
theorem dM_replied_71 : decode xM_replied.2.1 71 = .ok (.bastore, 1) := by decide +kernel
theorem dM_replied_72 : decode xM_replied.2.1 72 = .ok (.aload_n 0, 1) := by decide +kernel
theorem dM_replied_73 : decode xM_replied.2.1 73 = .ok (.getfield 59, 3) := by decide +kernel
theorem dM_replied_76 : decode xM_replied.2.1 76 = .ok (.iconst 4, 1) := by decide +kernel
theorem dM_replied_77 : decode xM_replied.2.1 77 = .ok (.iload_n 2, 1) := by decide +kernel
theorem dM_replied_78 : decode xM_replied.2.1 78 = .ok (.imul, 1) := by decide +kernel
theorem dM_replied_79 : decode xM_replied.2.1 79 = .ok (.iload_n 3, 1) := by decide +kernel
theorem dM_replied_80 : decode xM_replied.2.1 80 = .ok (.iadd, 1) := by decide +kernel
theorem dM_replied_81 : decode xM_replied.2.1 81 = .ok (.iconst 0, 1) := by decide +kernel
theorem dM_replied_82 : decode xM_replied.2.1 82 = .ok (.iastore, 1) := by decide +kernel
theorem dM_replied_83 : decode xM_replied.2.1 83 = .ok (.return_, 1) := by decide +kernel
def xM_works : mt_X := (⟨"LeasedPagesModel", "works", "(I)Z"⟩, prog_12_method_26_code, 2, (Option.some FieldType.boolean))
theorem dM_works_0 : decode xM_works.2.1 0 = .ok (.iload_n 1, 1) := by decide +kernel
theorem dM_works_1 : decode xM_works.2.1 1 = .ok (.iconst 0, 1) := by decide +kernel
theorem dM_works_2 : decode xM_works.2.1 2 = .ok (.iconst 2, 1) := by decide +kernel
theorem dM_works_3 : decode xM_works.2.1 3 = .ok (.invokestatic 138, 3) := by decide +kernel
theorem dM_works_6 : decode xM_works.2.1 6 = .ok (.ifCond .eq 16, 3) := by decide +kernel
theorem dM_works_9 : decode xM_works.2.1 9 = .ok (.aload_n 0, 1) := by decide +kernel
theorem dM_works_10 : decode xM_works.2.1 10 = .ok (.getfield 7, 3) := by decide +kernel
theorem dM_works_13 : decode xM_works.2.1 13 = .ok (.iload_n 1, 1) := by decide +kernel
theorem dM_works_14 : decode xM_works.2.1 14 = .ok (.baload, 1) := by decide +kernel
theorem dM_works_15 : decode xM_works.2.1 15 = .ok (.ifCond .ne 7, 3) := by decide +kernel
theorem dM_works_18 : decode xM_works.2.1 18 = .ok (.iconst 1, 1) := by decide +kernel
theorem dM_works_19 : decode xM_works.2.1 19 = .ok (.goto 4, 3) := by decide +kernel
theorem dM_works_22 : decode xM_works.2.1 22 = .ok (.iconst 0, 1) := by decide +kernel
theorem dM_works_23 : decode xM_works.2.1 23 = .ok (.ireturn, 1) := by decide +kernel
def xM_lost : mt_X := (⟨"LeasedPagesModel", "lost", "(II)Z"⟩, prog_12_method_27_code, 4, (Option.some FieldType.boolean))
theorem dM_lost_0 : decode xM_lost.2.1 0 = .ok (.aload_n 0, 1) := by decide +kernel
theorem dM_lost_1 : decode xM_lost.2.1 1 = .ok (.getfield 68, 3) := by decide +kernel
theorem dM_lost_4 : decode xM_lost.2.1 4 = .ok (.iconst 4, 1) := by decide +kernel
theorem dM_lost_5 : decode xM_lost.2.1 5 = .ok (.iload_n 1, 1) := by decide +kernel
theorem dM_lost_6 : decode xM_lost.2.1 6 = .ok (.imul, 1) := by decide +kernel
theorem dM_lost_7 : decode xM_lost.2.1 7 = .ok (.iload_n 2, 1) := by decide +kernel
theorem dM_lost_8 : decode xM_lost.2.1 8 = .ok (.iadd, 1) := by decide +kernel
theorem dM_lost_9 : decode xM_lost.2.1 9 = .ok (.baload, 1) := by decide +kernel
theorem dM_lost_10 : decode xM_lost.2.1 10 = .ok (.istore_n 3, 1) := by decide +kernel
theorem dM_lost_11 : decode xM_lost.2.1 11 = .ok (.aload_n 0, 1) := by decide +kernel
theorem dM_lost_12 : decode xM_lost.2.1 12 = .ok (.getfield 68, 3) := by decide +kernel
theorem dM_lost_15 : decode xM_lost.2.1 15 = .ok (.iconst 4, 1) := by decide +kernel
theorem dM_lost_16 : decode xM_lost.2.1 16 = .ok (.iload_n 1, 1) := by decide +kernel
theorem dM_lost_17 : decode xM_lost.2.1 17 = .ok (.imul, 1) := by decide +kernel
theorem dM_lost_18 : decode xM_lost.2.1 18 = .ok (.iload_n 2, 1) := by decide +kernel
theorem dM_lost_19 : decode xM_lost.2.1 19 = .ok (.iadd, 1) := by decide +kernel
theorem dM_lost_20 : decode xM_lost.2.1 20 = .ok (.iconst 0, 1) := by decide +kernel
theorem dM_lost_21 : decode xM_lost.2.1 21 = .ok (.bastore, 1) := by decide +kernel
theorem dM_lost_22 : decode xM_lost.2.1 22 = .ok (.iload_n 3, 1) := by decide +kernel
theorem dM_lost_23 : decode xM_lost.2.1 23 = .ok (.ireturn, 1) := by decide +kernel
def xM_open : mt_X := (⟨"LeasedPagesModel", "open", "(IIIIZ)I"⟩, prog_12_method_28_code, 6, (Option.some FieldType.int))
theorem dM_open_0 : decode xM_open.2.1 0 = .ok (.aload_n 0, 1) := by decide +kernel
theorem dM_open_1 : decode xM_open.2.1 1 = .ok (.getfield 56, 3) := by decide +kernel
theorem dM_open_4 : decode xM_open.2.1 4 = .ok (.iload_n 1, 1) := by decide +kernel
theorem dM_open_5 : decode xM_open.2.1 5 = .ok (.dup2, 1) := by decide +kernel
theorem dM_open_6 : decode xM_open.2.1 6 = .ok (.iaload, 1) := by decide +kernel
theorem dM_open_7 : decode xM_open.2.1 7 = .ok (.iconst 1, 1) := by decide +kernel
theorem dM_open_8 : decode xM_open.2.1 8 = .ok (.iadd, 1) := by decide +kernel
theorem dM_open_9 : decode xM_open.2.1 9 = .ok (.iastore, 1) := by decide +kernel
theorem dM_open_10 : decode xM_open.2.1 10 = .ok (.aload_n 0, 1) := by decide +kernel
theorem dM_open_11 : decode xM_open.2.1 11 = .ok (.getfield 83, 3) := by decide +kernel
theorem dM_open_14 : decode xM_open.2.1 14 = .ok (.iload_n 1, 1) := by decide +kernel
theorem dM_open_15 : decode xM_open.2.1 15 = .ok (.iload_n 2, 1) := by decide +kernel
theorem dM_open_16 : decode xM_open.2.1 16 = .ok (.iastore, 1) := by decide +kernel
theorem dM_open_17 : decode xM_open.2.1 17 = .ok (.aload_n 0, 1) := by decide +kernel
theorem dM_open_18 : decode xM_open.2.1 18 = .ok (.getfield 86, 3) := by decide +kernel
theorem dM_open_21 : decode xM_open.2.1 21 = .ok (.iload_n 1, 1) := by decide +kernel
theorem dM_open_22 : decode xM_open.2.1 22 = .ok (.iload_n 3, 1) := by decide +kernel
theorem dM_open_23 : decode xM_open.2.1 23 = .ok (.iastore, 1) := by decide +kernel
theorem dM_open_24 : decode xM_open.2.1 24 = .ok (.aload_n 0, 1) := by decide +kernel
theorem dM_open_25 : decode xM_open.2.1 25 = .ok (.getfield 89, 3) := by decide +kernel
theorem dM_open_28 : decode xM_open.2.1 28 = .ok (.iload_n 1, 1) := by decide +kernel
theorem dM_open_29 : decode xM_open.2.1 29 = .ok (.iload 4, 2) := by decide +kernel
theorem dM_open_31 : decode xM_open.2.1 31 = .ok (.iastore, 1) := by decide +kernel
theorem dM_open_32 : decode xM_open.2.1 32 = .ok (.aload_n 0, 1) := by decide +kernel
theorem dM_open_33 : decode xM_open.2.1 33 = .ok (.getfield 92, 3) := by decide +kernel
theorem dM_open_36 : decode xM_open.2.1 36 = .ok (.iload_n 1, 1) := by decide +kernel
theorem dM_open_37 : decode xM_open.2.1 37 = .ok (.iload 5, 2) := by decide +kernel
theorem dM_open_39 : decode xM_open.2.1 39 = .ok (.bastore, 1) := by decide +kernel
theorem dM_open_40 : decode xM_open.2.1 40 = .ok (.aload_n 0, 1) := by decide +kernel
theorem dM_open_41 : decode xM_open.2.1 41 = .ok (.getfield 101, 3) := by decide +kernel
theorem dM_open_44 : decode xM_open.2.1 44 = .ok (.iload_n 1, 1) := by decide +kernel
theorem dM_open_45 : decode xM_open.2.1 45 = .ok (.aload_n 0, 1) := by decide +kernel
theorem dM_open_46 : decode xM_open.2.1 46 = .ok (.getfield 13, 3) := by decide +kernel
theorem dM_open_49 : decode xM_open.2.1 49 = .ok (.iload_n 1, 1) := by decide +kernel
theorem dM_open_50 : decode xM_open.2.1 50 = .ok (.iaload, 1) := by decide +kernel
theorem dM_open_51 : decode xM_open.2.1 51 = .ok (.iastore, 1) := by decide +kernel
theorem dM_open_52 : decode xM_open.2.1 52 = .ok (.aload_n 0, 1) := by decide +kernel
theorem dM_open_53 : decode xM_open.2.1 53 = .ok (.iload_n 1, 1) := by decide +kernel
theorem dM_open_54 : decode xM_open.2.1 54 = .ok (.invokevirtual 212, 3) := by decide +kernel
theorem dM_open_57 : decode xM_open.2.1 57 = .ok (.aload_n 0, 1) := by decide +kernel
theorem dM_open_58 : decode xM_open.2.1 58 = .ok (.getfield 56, 3) := by decide +kernel
theorem dM_open_61 : decode xM_open.2.1 61 = .ok (.iload_n 1, 1) := by decide +kernel
theorem dM_open_62 : decode xM_open.2.1 62 = .ok (.iaload, 1) := by decide +kernel
theorem dM_open_63 : decode xM_open.2.1 63 = .ok (.ireturn, 1) := by decide +kernel
end
section
/-! Method constants and decode rows, written by wip/whole/gen/code.py out of the listing. -/
def xM_acquire : mt_X := (⟨"LeasedPagesModel", "acquire", "(III)I"⟩, prog_12_method_29_code, 6, (Option.some FieldType.int))
theorem dM_acquire_0 : decode xM_acquire.2.1 0 = .ok (.aload_n 0, 1) := by decide +kernel
theorem dM_acquire_1 : decode xM_acquire.2.1 1 = .ok (.iload_n 1, 1) := by decide +kernel
theorem dM_acquire_2 : decode xM_acquire.2.1 2 = .ok (.invokevirtual 215, 3) := by decide +kernel
theorem dM_acquire_5 : decode xM_acquire.2.1 5 = .ok (.ifCond .eq 30, 3) := by decide +kernel
theorem dM_acquire_8 : decode xM_acquire.2.1 8 = .ok (.iload_n 2, 1) := by decide +kernel
theorem dM_acquire_9 : decode xM_acquire.2.1 9 = .ok (.iconst 0, 1) := by decide +kernel
theorem dM_acquire_10 : decode xM_acquire.2.1 10 = .ok (.iconst 3, 1) := by decide +kernel
theorem dM_acquire_11 : decode xM_acquire.2.1 11 = .ok (.invokestatic 138, 3) := by decide +kernel
theorem dM_acquire_14 : decode xM_acquire.2.1 14 = .ok (.ifCond .eq 21, 3) := by decide +kernel
theorem dM_acquire_17 : decode xM_acquire.2.1 17 = .ok (.iload_n 3, 1) := by decide +kernel
theorem dM_acquire_18 : decode xM_acquire.2.1 18 = .ok (.iconst 1, 1) := by decide +kernel
theorem dM_acquire_19 : decode xM_acquire.2.1 19 = .ok (.iconst 2, 1) := by decide +kernel
theorem dM_acquire_20 : decode xM_acquire.2.1 20 = .ok (.invokestatic 138, 3) := by decide +kernel
theorem dM_acquire_23 : decode xM_acquire.2.1 23 = .ok (.ifCond .eq 12, 3) := by decide +kernel
theorem dM_acquire_26 : decode xM_acquire.2.1 26 = .ok (.aload_n 0, 1) := by decide +kernel
theorem dM_acquire_27 : decode xM_acquire.2.1 27 = .ok (.getfield 83, 3) := by decide +kernel
theorem dM_acquire_30 : decode xM_acquire.2.1 30 = .ok (.iload_n 1, 1) := by decide +kernel
theorem dM_acquire_31 : decode xM_acquire.2.1 31 = .ok (.iaload, 1) := by decide +kernel
theorem dM_acquire_32 : decode xM_acquire.2.1 32 = .ok (.ifCond .le 5, 3) := by decide +kernel
theorem dM_acquire_35 : decode xM_acquire.2.1 35 = .ok (.iconst (-1), 1) := by decide +kernel
theorem dM_acquire_36 : decode xM_acquire.2.1 36 = .ok (.ireturn, 1) := by decide +kernel
theorem dM_acquire_37 : decode xM_acquire.2.1 37 = .ok (.aload_n 0, 1) := by decide +kernel
theorem dM_acquire_38 : decode xM_acquire.2.1 38 = .ok (.iload_n 1, 1) := by decide +kernel
theorem dM_acquire_39 : decode xM_acquire.2.1 39 = .ok (.iload_n 2, 1) := by decide +kernel
theorem dM_acquire_40 : decode xM_acquire.2.1 40 = .ok (.invokevirtual 218, 3) := by decide +kernel
theorem dM_acquire_43 : decode xM_acquire.2.1 43 = .ok (.ifCond .eq 6, 3) := by decide +kernel
theorem dM_acquire_46 : decode xM_acquire.2.1 46 = .ok (.bipush (-3), 2) := by decide +kernel
theorem dM_acquire_48 : decode xM_acquire.2.1 48 = .ok (.ireturn, 1) := by decide +kernel
theorem dM_acquire_49 : decode xM_acquire.2.1 49 = .ok (.aload_n 0, 1) := by decide +kernel
theorem dM_acquire_50 : decode xM_acquire.2.1 50 = .ok (.iload_n 1, 1) := by decide +kernel
theorem dM_acquire_51 : decode xM_acquire.2.1 51 = .ok (.iload_n 2, 1) := by decide +kernel
theorem dM_acquire_52 : decode xM_acquire.2.1 52 = .ok (.invokevirtual 221, 3) := by decide +kernel
theorem dM_acquire_55 : decode xM_acquire.2.1 55 = .ok (.istore 4, 2) := by decide +kernel
theorem dM_acquire_57 : decode xM_acquire.2.1 57 = .ok (.iload 4, 2) := by decide +kernel
theorem dM_acquire_59 : decode xM_acquire.2.1 59 = .ok (.ifCond .eq 17, 3) := by decide +kernel
theorem dM_acquire_62 : decode xM_acquire.2.1 62 = .ok (.aload_n 0, 1) := by decide +kernel
theorem dM_acquire_63 : decode xM_acquire.2.1 63 = .ok (.getfield 59, 3) := by decide +kernel
theorem dM_acquire_66 : decode xM_acquire.2.1 66 = .ok (.iconst 4, 1) := by decide +kernel
theorem dM_acquire_67 : decode xM_acquire.2.1 67 = .ok (.iload_n 1, 1) := by decide +kernel
theorem dM_acquire_68 : decode xM_acquire.2.1 68 = .ok (.imul, 1) := by decide +kernel
theorem dM_acquire_69 : decode xM_acquire.2.1 69 = .ok (.iload_n 2, 1) := by decide +kernel
theorem dM_acquire_70 : decode xM_acquire.2.1 70 = .ok (.iadd, 1) := by decide +kernel
theorem dM_acquire_71 : decode xM_acquire.2.1 71 = .ok (.iaload, 1) := by decide +kernel
theorem dM_acquire_72 : decode xM_acquire.2.1 72 = .ok (.iconst 2, 1) := by decide +kernel
theorem dM_acquire_73 : decode xM_acquire.2.1 73 = .ok (.if_icmp .eq 12, 3) := by decide +kernel
theorem dM_acquire_76 : decode xM_acquire.2.1 76 = .ok (.aload_n 0, 1) := by decide +kernel
theorem dM_acquire_77 : decode xM_acquire.2.1 77 = .ok (.iload_n 1, 1) := by decide +kernel
theorem dM_acquire_78 : decode xM_acquire.2.1 78 = .ok (.iload_n 2, 1) := by decide +kernel
theorem dM_acquire_79 : decode xM_acquire.2.1 79 = .ok (.invokevirtual 206, 3) := by decide +kernel
theorem dM_acquire_82 : decode xM_acquire.2.1 82 = .ok (.ifCond .eq 7, 3) := by decide +kernel
theorem dM_acquire_85 : decode xM_acquire.2.1 85 = .ok (.iconst 2, 1) := by decide +kernel
theorem dM_acquire_86 : decode xM_acquire.2.1 86 = .ok (.goto 4, 3) := by decide +kernel
theorem dM_acquire_89 : decode xM_acquire.2.1 89 = .ok (.iload_n 3, 1) := by decide +kernel
theorem dM_acquire_90 : decode xM_acquire.2.1 90 = .ok (.istore 5, 2) := by decide +kernel
theorem dM_acquire_92 : decode xM_acquire.2.1 92 = .ok (.aload_n 0, 1) := by decide +kernel
theorem dM_acquire_93 : decode xM_acquire.2.1 93 = .ok (.iload_n 1, 1) := by decide +kernel
theorem dM_acquire_94 : decode xM_acquire.2.1 94 = .ok (.iconst 1, 1) := by decide +kernel
theorem dM_acquire_95 : decode xM_acquire.2.1 95 = .ok (.iload_n 2, 1) := by decide +kernel
theorem dM_acquire_96 : decode xM_acquire.2.1 96 = .ok (.iload 5, 2) := by decide +kernel
theorem dM_acquire_98 : decode xM_acquire.2.1 98 = .ok (.iload 4, 2) := by decide +kernel
theorem dM_acquire_100 : decode xM_acquire.2.1 100 = .ok (.ifCond .eq 22, 3) := by decide +kernel
theorem dM_acquire_103 : decode xM_acquire.2.1 103 = .ok (.aload_n 0, 1) := by decide +kernel
theorem dM_acquire_104 : decode xM_acquire.2.1 104 = .ok (.getfield 59, 3) := by decide +kernel
theorem dM_acquire_107 : decode xM_acquire.2.1 107 = .ok (.iconst 4, 1) := by decide +kernel
theorem dM_acquire_108 : decode xM_acquire.2.1 108 = .ok (.iload_n 1, 1) := by decide +kernel
theorem dM_acquire_109 : decode xM_acquire.2.1 109 = .ok (.imul, 1) := by decide +kernel
theorem dM_acquire_110 : decode xM_acquire.2.1 110 = .ok (.iload_n 2, 1) := by decide +kernel
theorem dM_acquire_111 : decode xM_acquire.2.1 111 = .ok (.iadd, 1) := by decide +kernel
theorem dM_acquire_112 : decode xM_acquire.2.1 112 = .ok (.iaload, 1) := by decide +kernel
theorem dM_acquire_113 : decode xM_acquire.2.1 113 = .ok (.iload 5, 2) := by decide +kernel
theorem dM_acquire_115 : decode xM_acquire.2.1 115 = .ok (.if_icmp .lt 7, 3) := by decide +kernel
theorem dM_acquire_118 : decode xM_acquire.2.1 118 = .ok (.iconst 1, 1) := by decide +kernel
theorem dM_acquire_119 : decode xM_acquire.2.1 119 = .ok (.goto 4, 3) := by decide +kernel
theorem dM_acquire_122 : decode xM_acquire.2.1 122 = .ok (.iconst 0, 1) := by decide +kernel
theorem dM_acquire_123 : decode xM_acquire.2.1 123 = .ok (.invokevirtual 224, 3) := by decide +kernel
theorem dM_acquire_126 : decode xM_acquire.2.1 126 = .ok (.ireturn, 1) := by decide +kernel
def xM_read : mt_X := (⟨"LeasedPagesModel", "read", "(IIII)I"⟩, prog_12_method_30_code, 5, (Option.some FieldType.int))
theorem dM_read_0 : decode xM_read.2.1 0 = .ok (.aload_n 0, 1) := by decide +kernel
theorem dM_read_1 : decode xM_read.2.1 1 = .ok (.iload_n 1, 1) := by decide +kernel
theorem dM_read_2 : decode xM_read.2.1 2 = .ok (.invokevirtual 215, 3) := by decide +kernel
theorem dM_read_5 : decode xM_read.2.1 5 = .ok (.ifCond .eq 31, 3) := by decide +kernel
theorem dM_read_8 : decode xM_read.2.1 8 = .ok (.iload_n 2, 1) := by decide +kernel
theorem dM_read_9 : decode xM_read.2.1 9 = .ok (.iconst 0, 1) := by decide +kernel
theorem dM_read_10 : decode xM_read.2.1 10 = .ok (.iconst 3, 1) := by decide +kernel
theorem dM_read_11 : decode xM_read.2.1 11 = .ok (.invokestatic 138, 3) := by decide +kernel
theorem dM_read_14 : decode xM_read.2.1 14 = .ok (.ifCond .eq 22, 3) := by decide +kernel
theorem dM_read_17 : decode xM_read.2.1 17 = .ok (.iload_n 3, 1) := by decide +kernel
theorem dM_read_18 : decode xM_read.2.1 18 = .ok (.iconst 0, 1) := by decide +kernel
theorem dM_read_19 : decode xM_read.2.1 19 = .ok (.iconst 3, 1) := by decide +kernel
theorem dM_read_20 : decode xM_read.2.1 20 = .ok (.invokestatic 138, 3) := by decide +kernel
theorem dM_read_23 : decode xM_read.2.1 23 = .ok (.ifCond .eq 13, 3) := by decide +kernel
theorem dM_read_26 : decode xM_read.2.1 26 = .ok (.iload 4, 2) := by decide +kernel
theorem dM_read_28 : decode xM_read.2.1 28 = .ok (.iconst 0, 1) := by decide +kernel
theorem dM_read_29 : decode xM_read.2.1 29 = .ok (.iconst 1, 1) := by decide +kernel
theorem dM_read_30 : decode xM_read.2.1 30 = .ok (.invokestatic 138, 3) := by decide +kernel
theorem dM_read_33 : decode xM_read.2.1 33 = .ok (.ifCond .ne 5, 3) := by decide +kernel
theorem dM_read_36 : decode xM_read.2.1 36 = .ok (.iconst (-1), 1) := by decide +kernel
theorem dM_read_37 : decode xM_read.2.1 37 = .ok (.ireturn, 1) := by decide +kernel
theorem dM_read_38 : decode xM_read.2.1 38 = .ok (.aload_n 0, 1) := by decide +kernel
theorem dM_read_39 : decode xM_read.2.1 39 = .ok (.getfield 68, 3) := by decide +kernel
theorem dM_read_42 : decode xM_read.2.1 42 = .ok (.iconst 4, 1) := by decide +kernel
theorem dM_read_43 : decode xM_read.2.1 43 = .ok (.iload_n 1, 1) := by decide +kernel
theorem dM_read_44 : decode xM_read.2.1 44 = .ok (.imul, 1) := by decide +kernel
theorem dM_read_45 : decode xM_read.2.1 45 = .ok (.iload_n 2, 1) := by decide +kernel
theorem dM_read_46 : decode xM_read.2.1 46 = .ok (.iadd, 1) := by decide +kernel
theorem dM_read_47 : decode xM_read.2.1 47 = .ok (.baload, 1) := by decide +kernel
theorem dM_read_48 : decode xM_read.2.1 48 = .ok (.ifCond .eq 27, 3) := by decide +kernel
theorem dM_read_51 : decode xM_read.2.1 51 = .ok (.aload_n 0, 1) := by decide +kernel
theorem dM_read_52 : decode xM_read.2.1 52 = .ok (.getfield 68, 3) := by decide +kernel
theorem dM_read_55 : decode xM_read.2.1 55 = .ok (.iconst 4, 1) := by decide +kernel
theorem dM_read_56 : decode xM_read.2.1 56 = .ok (.iload_n 1, 1) := by decide +kernel
theorem dM_read_57 : decode xM_read.2.1 57 = .ok (.imul, 1) := by decide +kernel
theorem dM_read_58 : decode xM_read.2.1 58 = .ok (.iload_n 2, 1) := by decide +kernel
theorem dM_read_59 : decode xM_read.2.1 59 = .ok (.iadd, 1) := by decide +kernel
theorem dM_read_60 : decode xM_read.2.1 60 = .ok (.iload 4, 2) := by decide +kernel
theorem dM_read_62 : decode xM_read.2.1 62 = .ok (.iconst 1, 1) := by decide +kernel
theorem dM_read_63 : decode xM_read.2.1 63 = .ok (.if_icmp .ne 7, 3) := by decide +kernel
theorem dM_read_66 : decode xM_read.2.1 66 = .ok (.iconst 1, 1) := by decide +kernel
theorem dM_read_67 : decode xM_read.2.1 67 = .ok (.goto 4, 3) := by decide +kernel
theorem dM_read_70 : decode xM_read.2.1 70 = .ok (.iconst 0, 1) := by decide +kernel
theorem dM_read_71 : decode xM_read.2.1 71 = .ok (.bastore, 1) := by decide +kernel
theorem dM_read_72 : decode xM_read.2.1 72 = .ok (.bipush (-3), 2) := by decide +kernel
theorem dM_read_74 : decode xM_read.2.1 74 = .ok (.ireturn, 1) := by decide +kernel
theorem dM_read_75 : decode xM_read.2.1 75 = .ok (.aload_n 0, 1) := by decide +kernel
theorem dM_read_76 : decode xM_read.2.1 76 = .ok (.iload_n 1, 1) := by decide +kernel
theorem dM_read_77 : decode xM_read.2.1 77 = .ok (.iload_n 2, 1) := by decide +kernel
theorem dM_read_78 : decode xM_read.2.1 78 = .ok (.invokevirtual 221, 3) := by decide +kernel
theorem dM_read_81 : decode xM_read.2.1 81 = .ok (.ifCond .ne 6, 3) := by decide +kernel
theorem dM_read_84 : decode xM_read.2.1 84 = .ok (.bipush (-2), 2) := by decide +kernel
theorem dM_read_86 : decode xM_read.2.1 86 = .ok (.ireturn, 1) := by decide +kernel
theorem dM_read_87 : decode xM_read.2.1 87 = .ok (.iload 4, 2) := by decide +kernel
theorem dM_read_89 : decode xM_read.2.1 89 = .ok (.iconst 1, 1) := by decide +kernel
theorem dM_read_90 : decode xM_read.2.1 90 = .ok (.if_icmp .ne 7, 3) := by decide +kernel
theorem dM_read_93 : decode xM_read.2.1 93 = .ok (.iconst 1, 1) := by decide +kernel
theorem dM_read_94 : decode xM_read.2.1 94 = .ok (.goto 18, 3) := by decide +kernel
theorem dM_read_97 : decode xM_read.2.1 97 = .ok (.aload_n 0, 1) := by decide +kernel
theorem dM_read_98 : decode xM_read.2.1 98 = .ok (.getfield 71, 3) := by decide +kernel
theorem dM_read_101 : decode xM_read.2.1 101 = .ok (.bipush 16, 2) := by decide +kernel
theorem dM_read_103 : decode xM_read.2.1 103 = .ok (.iload_n 1, 1) := by decide +kernel
theorem dM_read_104 : decode xM_read.2.1 104 = .ok (.imul, 1) := by decide +kernel
theorem dM_read_105 : decode xM_read.2.1 105 = .ok (.iconst 4, 1) := by decide +kernel
theorem dM_read_106 : decode xM_read.2.1 106 = .ok (.iload_n 2, 1) := by decide +kernel
theorem dM_read_107 : decode xM_read.2.1 107 = .ok (.imul, 1) := by decide +kernel
theorem dM_read_108 : decode xM_read.2.1 108 = .ok (.iadd, 1) := by decide +kernel
theorem dM_read_109 : decode xM_read.2.1 109 = .ok (.iload_n 3, 1) := by decide +kernel
theorem dM_read_110 : decode xM_read.2.1 110 = .ok (.iadd, 1) := by decide +kernel
theorem dM_read_111 : decode xM_read.2.1 111 = .ok (.iaload, 1) := by decide +kernel
theorem dM_read_112 : decode xM_read.2.1 112 = .ok (.ireturn, 1) := by decide +kernel
def xM_write : mt_X := (⟨"LeasedPagesModel", "write", "(IIII)I"⟩, prog_12_method_31_code, 5, (Option.some FieldType.int))
theorem dM_write_0 : decode xM_write.2.1 0 = .ok (.aload_n 0, 1) := by decide +kernel
theorem dM_write_1 : decode xM_write.2.1 1 = .ok (.iload_n 1, 1) := by decide +kernel
theorem dM_write_2 : decode xM_write.2.1 2 = .ok (.invokevirtual 215, 3) := by decide +kernel
theorem dM_write_5 : decode xM_write.2.1 5 = .ok (.ifCond .eq 21, 3) := by decide +kernel
theorem dM_write_8 : decode xM_write.2.1 8 = .ok (.iload_n 2, 1) := by decide +kernel
theorem dM_write_9 : decode xM_write.2.1 9 = .ok (.iconst 0, 1) := by decide +kernel
theorem dM_write_10 : decode xM_write.2.1 10 = .ok (.iconst 3, 1) := by decide +kernel
theorem dM_write_11 : decode xM_write.2.1 11 = .ok (.invokestatic 138, 3) := by decide +kernel
theorem dM_write_14 : decode xM_write.2.1 14 = .ok (.ifCond .eq 12, 3) := by decide +kernel
theorem dM_write_17 : decode xM_write.2.1 17 = .ok (.iload_n 3, 1) := by decide +kernel
theorem dM_write_18 : decode xM_write.2.1 18 = .ok (.iconst 0, 1) := by decide +kernel
theorem dM_write_19 : decode xM_write.2.1 19 = .ok (.iconst 3, 1) := by decide +kernel
theorem dM_write_20 : decode xM_write.2.1 20 = .ok (.invokestatic 138, 3) := by decide +kernel
theorem dM_write_23 : decode xM_write.2.1 23 = .ok (.ifCond .ne 5, 3) := by decide +kernel
theorem dM_write_26 : decode xM_write.2.1 26 = .ok (.iconst (-1), 1) := by decide +kernel
theorem dM_write_27 : decode xM_write.2.1 27 = .ok (.ireturn, 1) := by decide +kernel
theorem dM_write_28 : decode xM_write.2.1 28 = .ok (.aload_n 0, 1) := by decide +kernel
theorem dM_write_29 : decode xM_write.2.1 29 = .ok (.iload_n 1, 1) := by decide +kernel
theorem dM_write_30 : decode xM_write.2.1 30 = .ok (.iload_n 2, 1) := by decide +kernel
theorem dM_write_31 : decode xM_write.2.1 31 = .ok (.invokevirtual 218, 3) := by decide +kernel
theorem dM_write_34 : decode xM_write.2.1 34 = .ok (.ifCond .eq 6, 3) := by decide +kernel
theorem dM_write_37 : decode xM_write.2.1 37 = .ok (.bipush (-3), 2) := by decide +kernel
theorem dM_write_39 : decode xM_write.2.1 39 = .ok (.ireturn, 1) := by decide +kernel
theorem dM_write_40 : decode xM_write.2.1 40 = .ok (.aload_n 0, 1) := by decide +kernel
theorem dM_write_41 : decode xM_write.2.1 41 = .ok (.iload_n 1, 1) := by decide +kernel
theorem dM_write_42 : decode xM_write.2.1 42 = .ok (.iload_n 2, 1) := by decide +kernel
theorem dM_write_43 : decode xM_write.2.1 43 = .ok (.invokevirtual 221, 3) := by decide +kernel
theorem dM_write_46 : decode xM_write.2.1 46 = .ok (.ifCond .eq 17, 3) := by decide +kernel
theorem dM_write_49 : decode xM_write.2.1 49 = .ok (.aload_n 0, 1) := by decide +kernel
theorem dM_write_50 : decode xM_write.2.1 50 = .ok (.getfield 59, 3) := by decide +kernel
theorem dM_write_53 : decode xM_write.2.1 53 = .ok (.iconst 4, 1) := by decide +kernel
theorem dM_write_54 : decode xM_write.2.1 54 = .ok (.iload_n 1, 1) := by decide +kernel
theorem dM_write_55 : decode xM_write.2.1 55 = .ok (.imul, 1) := by decide +kernel
theorem dM_write_56 : decode xM_write.2.1 56 = .ok (.iload_n 2, 1) := by decide +kernel
theorem dM_write_57 : decode xM_write.2.1 57 = .ok (.iadd, 1) := by decide +kernel
theorem dM_write_58 : decode xM_write.2.1 58 = .ok (.iaload, 1) := by decide +kernel
theorem dM_write_59 : decode xM_write.2.1 59 = .ok (.iconst 2, 1) := by decide +kernel
theorem dM_write_60 : decode xM_write.2.1 60 = .ok (.if_icmp .eq 6, 3) := by decide +kernel
theorem dM_write_63 : decode xM_write.2.1 63 = .ok (.bipush (-2), 2) := by decide +kernel
theorem dM_write_65 : decode xM_write.2.1 65 = .ok (.ireturn, 1) := by decide +kernel
theorem dM_write_66 : decode xM_write.2.1 66 = .ok (.aload_n 0, 1) := by decide +kernel
theorem dM_write_67 : decode xM_write.2.1 67 = .ok (.getfield 74, 3) := by decide +kernel
theorem dM_write_70 : decode xM_write.2.1 70 = .ok (.iload_n 1, 1) := by decide +kernel
theorem dM_write_71 : decode xM_write.2.1 71 = .ok (.iaload, 1) := by decide +kernel
theorem dM_write_72 : decode xM_write.2.1 72 = .ok (.bipush 6, 2) := by decide +kernel
theorem dM_write_74 : decode xM_write.2.1 74 = .ok (.if_icmp .ne 6, 3) := by decide +kernel
theorem dM_write_77 : decode xM_write.2.1 77 = .ok (.bipush (-4), 2) := by decide +kernel
theorem dM_write_79 : decode xM_write.2.1 79 = .ok (.ireturn, 1) := by decide +kernel
theorem dM_write_80 : decode xM_write.2.1 80 = .ok (.aload_n 0, 1) := by decide +kernel
theorem dM_write_81 : decode xM_write.2.1 81 = .ok (.getfield 71, 3) := by decide +kernel
theorem dM_write_84 : decode xM_write.2.1 84 = .ok (.bipush 16, 2) := by decide +kernel
theorem dM_write_86 : decode xM_write.2.1 86 = .ok (.iload_n 1, 1) := by decide +kernel
theorem dM_write_87 : decode xM_write.2.1 87 = .ok (.imul, 1) := by decide +kernel
theorem dM_write_88 : decode xM_write.2.1 88 = .ok (.iconst 4, 1) := by decide +kernel
theorem dM_write_89 : decode xM_write.2.1 89 = .ok (.iload_n 2, 1) := by decide +kernel
theorem dM_write_90 : decode xM_write.2.1 90 = .ok (.imul, 1) := by decide +kernel
theorem dM_write_91 : decode xM_write.2.1 91 = .ok (.iadd, 1) := by decide +kernel
theorem dM_write_92 : decode xM_write.2.1 92 = .ok (.iload_n 3, 1) := by decide +kernel
theorem dM_write_93 : decode xM_write.2.1 93 = .ok (.iadd, 1) := by decide +kernel
theorem dM_write_94 : decode xM_write.2.1 94 = .ok (.iload 4, 2) := by decide +kernel
theorem dM_write_96 : decode xM_write.2.1 96 = .ok (.iastore, 1) := by decide +kernel
theorem dM_write_97 : decode xM_write.2.1 97 = .ok (.aload_n 0, 1) := by decide +kernel
theorem dM_write_98 : decode xM_write.2.1 98 = .ok (.getfield 77, 3) := by decide +kernel
theorem dM_write_101 : decode xM_write.2.1 101 = .ok (.bipush 6, 2) := by decide +kernel
theorem dM_write_103 : decode xM_write.2.1 103 = .ok (.iload_n 1, 1) := by decide +kernel
theorem dM_write_104 : decode xM_write.2.1 104 = .ok (.imul, 1) := by decide +kernel
theorem dM_write_105 : decode xM_write.2.1 105 = .ok (.aload_n 0, 1) := by decide +kernel
theorem dM_write_106 : decode xM_write.2.1 106 = .ok (.getfield 74, 3) := by decide +kernel
theorem dM_write_109 : decode xM_write.2.1 109 = .ok (.iload_n 1, 1) := by decide +kernel
theorem dM_write_110 : decode xM_write.2.1 110 = .ok (.iaload, 1) := by decide +kernel
theorem dM_write_111 : decode xM_write.2.1 111 = .ok (.iadd, 1) := by decide +kernel
theorem dM_write_112 : decode xM_write.2.1 112 = .ok (.iconst 4, 1) := by decide +kernel
theorem dM_write_113 : decode xM_write.2.1 113 = .ok (.iload_n 2, 1) := by decide +kernel
theorem dM_write_114 : decode xM_write.2.1 114 = .ok (.imul, 1) := by decide +kernel
theorem dM_write_115 : decode xM_write.2.1 115 = .ok (.iload_n 3, 1) := by decide +kernel
theorem dM_write_116 : decode xM_write.2.1 116 = .ok (.iadd, 1) := by decide +kernel
theorem dM_write_117 : decode xM_write.2.1 117 = .ok (.iastore, 1) := by decide +kernel
theorem dM_write_118 : decode xM_write.2.1 118 = .ok (.aload_n 0, 1) := by decide +kernel
theorem dM_write_119 : decode xM_write.2.1 119 = .ok (.getfield 80, 3) := by decide +kernel
theorem dM_write_122 : decode xM_write.2.1 122 = .ok (.bipush 6, 2) := by decide +kernel
theorem dM_write_124 : decode xM_write.2.1 124 = .ok (.iload_n 1, 1) := by decide +kernel
theorem dM_write_125 : decode xM_write.2.1 125 = .ok (.imul, 1) := by decide +kernel
theorem dM_write_126 : decode xM_write.2.1 126 = .ok (.aload_n 0, 1) := by decide +kernel
theorem dM_write_127 : decode xM_write.2.1 127 = .ok (.getfield 74, 3) := by decide +kernel
theorem dM_write_130 : decode xM_write.2.1 130 = .ok (.iload_n 1, 1) := by decide +kernel
theorem dM_write_131 : decode xM_write.2.1 131 = .ok (.iaload, 1) := by decide +kernel
theorem dM_write_132 : decode xM_write.2.1 132 = .ok (.iadd, 1) := by decide +kernel
theorem dM_write_133 : decode xM_write.2.1 133 = .ok (.iload 4, 2) := by decide +kernel
theorem dM_write_135 : decode xM_write.2.1 135 = .ok (.iastore, 1) := by decide +kernel
theorem dM_write_136 : decode xM_write.2.1 136 = .ok (.aload_n 0, 1) := by decide +kernel
theorem dM_write_137 : decode xM_write.2.1 137 = .ok (.getfield 74, 3) := by decide +kernel
theorem dM_write_140 : decode xM_write.2.1 140 = .ok (.iload_n 1, 1) := by decide +kernel
theorem dM_write_141 : decode xM_write.2.1 141 = .ok (.dup2, 1) := by decide +kernel
theorem dM_write_142 : decode xM_write.2.1 142 = .ok (.iaload, 1) := by decide +kernel
theorem dM_write_143 : decode xM_write.2.1 143 = .ok (.iconst 1, 1) := by decide +kernel
theorem dM_write_144 : decode xM_write.2.1 144 = .ok (.iadd, 1) := by decide +kernel
theorem dM_write_145 : decode xM_write.2.1 145 = .ok (.iastore, 1) := by decide +kernel
theorem dM_write_146 : decode xM_write.2.1 146 = .ok (.aload_n 0, 1) := by decide +kernel
theorem dM_write_147 : decode xM_write.2.1 147 = .ok (.getfield 74, 3) := by decide +kernel
theorem dM_write_150 : decode xM_write.2.1 150 = .ok (.iload_n 1, 1) := by decide +kernel
theorem dM_write_151 : decode xM_write.2.1 151 = .ok (.iaload, 1) := by decide +kernel
theorem dM_write_152 : decode xM_write.2.1 152 = .ok (.ireturn, 1) := by decide +kernel
def xM_flush : mt_X := (⟨"LeasedPagesModel", "flush", "(I)I"⟩, prog_12_method_32_code, 3, (Option.some FieldType.int))
theorem dM_flush_0 : decode xM_flush.2.1 0 = .ok (.aload_n 0, 1) := by decide +kernel
theorem dM_flush_1 : decode xM_flush.2.1 1 = .ok (.iload_n 1, 1) := by decide +kernel
theorem dM_flush_2 : decode xM_flush.2.1 2 = .ok (.invokevirtual 215, 3) := by decide +kernel
theorem dM_flush_5 : decode xM_flush.2.1 5 = .ok (.ifCond .eq 21, 3) := by decide +kernel
theorem dM_flush_8 : decode xM_flush.2.1 8 = .ok (.aload_n 0, 1) := by decide +kernel
theorem dM_flush_9 : decode xM_flush.2.1 9 = .ok (.getfield 83, 3) := by decide +kernel
theorem dM_flush_12 : decode xM_flush.2.1 12 = .ok (.iload_n 1, 1) := by decide +kernel
theorem dM_flush_13 : decode xM_flush.2.1 13 = .ok (.iaload, 1) := by decide +kernel
theorem dM_flush_14 : decode xM_flush.2.1 14 = .ok (.ifCond .gt 12, 3) := by decide +kernel
theorem dM_flush_17 : decode xM_flush.2.1 17 = .ok (.aload_n 0, 1) := by decide +kernel
theorem dM_flush_18 : decode xM_flush.2.1 18 = .ok (.getfield 74, 3) := by decide +kernel
theorem dM_flush_21 : decode xM_flush.2.1 21 = .ok (.iload_n 1, 1) := by decide +kernel
theorem dM_flush_22 : decode xM_flush.2.1 22 = .ok (.iaload, 1) := by decide +kernel
theorem dM_flush_23 : decode xM_flush.2.1 23 = .ok (.ifCond .ne 5, 3) := by decide +kernel
theorem dM_flush_26 : decode xM_flush.2.1 26 = .ok (.iconst (-1), 1) := by decide +kernel
theorem dM_flush_27 : decode xM_flush.2.1 27 = .ok (.ireturn, 1) := by decide +kernel
theorem dM_flush_28 : decode xM_flush.2.1 28 = .ok (.aload_n 0, 1) := by decide +kernel
theorem dM_flush_29 : decode xM_flush.2.1 29 = .ok (.getfield 77, 3) := by decide +kernel
theorem dM_flush_32 : decode xM_flush.2.1 32 = .ok (.bipush 6, 2) := by decide +kernel
theorem dM_flush_34 : decode xM_flush.2.1 34 = .ok (.iload_n 1, 1) := by decide +kernel
theorem dM_flush_35 : decode xM_flush.2.1 35 = .ok (.imul, 1) := by decide +kernel
theorem dM_flush_36 : decode xM_flush.2.1 36 = .ok (.iaload, 1) := by decide +kernel
theorem dM_flush_37 : decode xM_flush.2.1 37 = .ok (.iconst 4, 1) := by decide +kernel
theorem dM_flush_38 : decode xM_flush.2.1 38 = .ok (.idiv, 1) := by decide +kernel
theorem dM_flush_39 : decode xM_flush.2.1 39 = .ok (.istore_n 2, 1) := by decide +kernel
theorem dM_flush_40 : decode xM_flush.2.1 40 = .ok (.aload_n 0, 1) := by decide +kernel
theorem dM_flush_41 : decode xM_flush.2.1 41 = .ok (.iload_n 1, 1) := by decide +kernel
theorem dM_flush_42 : decode xM_flush.2.1 42 = .ok (.iload_n 2, 1) := by decide +kernel
theorem dM_flush_43 : decode xM_flush.2.1 43 = .ok (.invokevirtual 221, 3) := by decide +kernel
theorem dM_flush_46 : decode xM_flush.2.1 46 = .ok (.ifCond .eq 17, 3) := by decide +kernel
theorem dM_flush_49 : decode xM_flush.2.1 49 = .ok (.aload_n 0, 1) := by decide +kernel
theorem dM_flush_50 : decode xM_flush.2.1 50 = .ok (.getfield 59, 3) := by decide +kernel
theorem dM_flush_53 : decode xM_flush.2.1 53 = .ok (.iconst 4, 1) := by decide +kernel
theorem dM_flush_54 : decode xM_flush.2.1 54 = .ok (.iload_n 1, 1) := by decide +kernel
theorem dM_flush_55 : decode xM_flush.2.1 55 = .ok (.imul, 1) := by decide +kernel
theorem dM_flush_56 : decode xM_flush.2.1 56 = .ok (.iload_n 2, 1) := by decide +kernel
theorem dM_flush_57 : decode xM_flush.2.1 57 = .ok (.iadd, 1) := by decide +kernel
theorem dM_flush_58 : decode xM_flush.2.1 58 = .ok (.iaload, 1) := by decide +kernel
theorem dM_flush_59 : decode xM_flush.2.1 59 = .ok (.iconst 2, 1) := by decide +kernel
theorem dM_flush_60 : decode xM_flush.2.1 60 = .ok (.if_icmp .eq 6, 3) := by decide +kernel
theorem dM_flush_63 : decode xM_flush.2.1 63 = .ok (.bipush (-2), 2) := by decide +kernel
theorem dM_flush_65 : decode xM_flush.2.1 65 = .ok (.ireturn, 1) := by decide +kernel
theorem dM_flush_66 : decode xM_flush.2.1 66 = .ok (.aload_n 0, 1) := by decide +kernel
theorem dM_flush_67 : decode xM_flush.2.1 67 = .ok (.getfield 95, 3) := by decide +kernel
theorem dM_flush_70 : decode xM_flush.2.1 70 = .ok (.iload_n 1, 1) := by decide +kernel
theorem dM_flush_71 : decode xM_flush.2.1 71 = .ok (.aload_n 0, 1) := by decide +kernel
theorem dM_flush_72 : decode xM_flush.2.1 72 = .ok (.getfield 77, 3) := by decide +kernel
theorem dM_flush_75 : decode xM_flush.2.1 75 = .ok (.bipush 6, 2) := by decide +kernel
theorem dM_flush_77 : decode xM_flush.2.1 77 = .ok (.iload_n 1, 1) := by decide +kernel
theorem dM_flush_78 : decode xM_flush.2.1 78 = .ok (.imul, 1) := by decide +kernel
theorem dM_flush_79 : decode xM_flush.2.1 79 = .ok (.iaload, 1) := by decide +kernel
theorem dM_flush_80 : decode xM_flush.2.1 80 = .ok (.iconst 4, 1) := by decide +kernel
theorem dM_flush_81 : decode xM_flush.2.1 81 = .ok (.irem, 1) := by decide +kernel
theorem dM_flush_82 : decode xM_flush.2.1 82 = .ok (.iastore, 1) := by decide +kernel
theorem dM_flush_83 : decode xM_flush.2.1 83 = .ok (.aload_n 0, 1) := by decide +kernel
theorem dM_flush_84 : decode xM_flush.2.1 84 = .ok (.getfield 98, 3) := by decide +kernel
theorem dM_flush_87 : decode xM_flush.2.1 87 = .ok (.iload_n 1, 1) := by decide +kernel
theorem dM_flush_88 : decode xM_flush.2.1 88 = .ok (.aload_n 0, 1) := by decide +kernel
theorem dM_flush_89 : decode xM_flush.2.1 89 = .ok (.getfield 80, 3) := by decide +kernel
theorem dM_flush_92 : decode xM_flush.2.1 92 = .ok (.bipush 6, 2) := by decide +kernel
theorem dM_flush_94 : decode xM_flush.2.1 94 = .ok (.iload_n 1, 1) := by decide +kernel
theorem dM_flush_95 : decode xM_flush.2.1 95 = .ok (.imul, 1) := by decide +kernel
theorem dM_flush_96 : decode xM_flush.2.1 96 = .ok (.iaload, 1) := by decide +kernel
theorem dM_flush_97 : decode xM_flush.2.1 97 = .ok (.iastore, 1) := by decide +kernel
theorem dM_flush_98 : decode xM_flush.2.1 98 = .ok (.aload_n 0, 1) := by decide +kernel
theorem dM_flush_99 : decode xM_flush.2.1 99 = .ok (.iload_n 1, 1) := by decide +kernel
theorem dM_flush_100 : decode xM_flush.2.1 100 = .ok (.iconst 2, 1) := by decide +kernel
theorem dM_flush_101 : decode xM_flush.2.1 101 = .ok (.iload_n 2, 1) := by decide +kernel
theorem dM_flush_102 : decode xM_flush.2.1 102 = .ok (.iconst 0, 1) := by decide +kernel
theorem dM_flush_103 : decode xM_flush.2.1 103 = .ok (.iconst 0, 1) := by decide +kernel
theorem dM_flush_104 : decode xM_flush.2.1 104 = .ok (.invokevirtual 224, 3) := by decide +kernel
theorem dM_flush_107 : decode xM_flush.2.1 107 = .ok (.ireturn, 1) := by decide +kernel
def xM_close : mt_X := (⟨"LeasedPagesModel", "close", "(II)I"⟩, prog_12_method_33_code, 3, (Option.some FieldType.int))
theorem dM_close_0 : decode xM_close.2.1 0 = .ok (.aload_n 0, 1) := by decide +kernel
theorem dM_close_1 : decode xM_close.2.1 1 = .ok (.iload_n 1, 1) := by decide +kernel
theorem dM_close_2 : decode xM_close.2.1 2 = .ok (.invokevirtual 215, 3) := by decide +kernel
theorem dM_close_5 : decode xM_close.2.1 5 = .ok (.ifCond .eq 30, 3) := by decide +kernel
theorem dM_close_8 : decode xM_close.2.1 8 = .ok (.iload_n 2, 1) := by decide +kernel
theorem dM_close_9 : decode xM_close.2.1 9 = .ok (.iconst 0, 1) := by decide +kernel
theorem dM_close_10 : decode xM_close.2.1 10 = .ok (.iconst 3, 1) := by decide +kernel
theorem dM_close_11 : decode xM_close.2.1 11 = .ok (.invokestatic 138, 3) := by decide +kernel
theorem dM_close_14 : decode xM_close.2.1 14 = .ok (.ifCond .eq 21, 3) := by decide +kernel
theorem dM_close_17 : decode xM_close.2.1 17 = .ok (.aload_n 0, 1) := by decide +kernel
theorem dM_close_18 : decode xM_close.2.1 18 = .ok (.getfield 83, 3) := by decide +kernel
theorem dM_close_21 : decode xM_close.2.1 21 = .ok (.iload_n 1, 1) := by decide +kernel
theorem dM_close_22 : decode xM_close.2.1 22 = .ok (.iaload, 1) := by decide +kernel
theorem dM_close_23 : decode xM_close.2.1 23 = .ok (.ifCond .gt 12, 3) := by decide +kernel
theorem dM_close_26 : decode xM_close.2.1 26 = .ok (.aload_n 0, 1) := by decide +kernel
theorem dM_close_27 : decode xM_close.2.1 27 = .ok (.iload_n 1, 1) := by decide +kernel
theorem dM_close_28 : decode xM_close.2.1 28 = .ok (.iload_n 2, 1) := by decide +kernel
theorem dM_close_29 : decode xM_close.2.1 29 = .ok (.invokevirtual 206, 3) := by decide +kernel
theorem dM_close_32 : decode xM_close.2.1 32 = .ok (.ifCond .eq 5, 3) := by decide +kernel
theorem dM_close_35 : decode xM_close.2.1 35 = .ok (.iconst (-1), 1) := by decide +kernel
theorem dM_close_36 : decode xM_close.2.1 36 = .ok (.ireturn, 1) := by decide +kernel
theorem dM_close_37 : decode xM_close.2.1 37 = .ok (.aload_n 0, 1) := by decide +kernel
theorem dM_close_38 : decode xM_close.2.1 38 = .ok (.iload_n 1, 1) := by decide +kernel
theorem dM_close_39 : decode xM_close.2.1 39 = .ok (.iload_n 2, 1) := by decide +kernel
theorem dM_close_40 : decode xM_close.2.1 40 = .ok (.invokevirtual 218, 3) := by decide +kernel
theorem dM_close_43 : decode xM_close.2.1 43 = .ok (.ifCond .eq 6, 3) := by decide +kernel
theorem dM_close_46 : decode xM_close.2.1 46 = .ok (.bipush (-3), 2) := by decide +kernel
theorem dM_close_48 : decode xM_close.2.1 48 = .ok (.ireturn, 1) := by decide +kernel
theorem dM_close_49 : decode xM_close.2.1 49 = .ok (.aload_n 0, 1) := by decide +kernel
theorem dM_close_50 : decode xM_close.2.1 50 = .ok (.getfield 59, 3) := by decide +kernel
theorem dM_close_53 : decode xM_close.2.1 53 = .ok (.iconst 4, 1) := by decide +kernel
theorem dM_close_54 : decode xM_close.2.1 54 = .ok (.iload_n 1, 1) := by decide +kernel
theorem dM_close_55 : decode xM_close.2.1 55 = .ok (.imul, 1) := by decide +kernel
theorem dM_close_56 : decode xM_close.2.1 56 = .ok (.iload_n 2, 1) := by decide +kernel
theorem dM_close_57 : decode xM_close.2.1 57 = .ok (.iadd, 1) := by decide +kernel
theorem dM_close_58 : decode xM_close.2.1 58 = .ok (.iaload, 1) := by decide +kernel
theorem dM_close_59 : decode xM_close.2.1 59 = .ok (.ifCond .ne 6, 3) := by decide +kernel
theorem dM_close_62 : decode xM_close.2.1 62 = .ok (.bipush (-2), 2) := by decide +kernel
theorem dM_close_64 : decode xM_close.2.1 64 = .ok (.ireturn, 1) := by decide +kernel
theorem dM_close_65 : decode xM_close.2.1 65 = .ok (.aload_n 0, 1) := by decide +kernel
theorem dM_close_66 : decode xM_close.2.1 66 = .ok (.getfield 59, 3) := by decide +kernel
theorem dM_close_69 : decode xM_close.2.1 69 = .ok (.iconst 4, 1) := by decide +kernel
theorem dM_close_70 : decode xM_close.2.1 70 = .ok (.iload_n 1, 1) := by decide +kernel
theorem dM_close_71 : decode xM_close.2.1 71 = .ok (.imul, 1) := by decide +kernel
theorem dM_close_72 : decode xM_close.2.1 72 = .ok (.iload_n 2, 1) := by decide +kernel
theorem dM_close_73 : decode xM_close.2.1 73 = .ok (.iadd, 1) := by decide +kernel
theorem dM_close_74 : decode xM_close.2.1 74 = .ok (.iconst 0, 1) := by decide +kernel
theorem dM_close_75 : decode xM_close.2.1 75 = .ok (.iastore, 1) := by decide +kernel
theorem dM_close_76 : decode xM_close.2.1 76 = .ok (.aload_n 0, 1) := by decide +kernel
theorem dM_close_77 : decode xM_close.2.1 77 = .ok (.getfield 65, 3) := by decide +kernel
theorem dM_close_80 : decode xM_close.2.1 80 = .ok (.iconst 4, 1) := by decide +kernel
theorem dM_close_81 : decode xM_close.2.1 81 = .ok (.iload_n 1, 1) := by decide +kernel
theorem dM_close_82 : decode xM_close.2.1 82 = .ok (.imul, 1) := by decide +kernel
theorem dM_close_83 : decode xM_close.2.1 83 = .ok (.iload_n 2, 1) := by decide +kernel
theorem dM_close_84 : decode xM_close.2.1 84 = .ok (.iadd, 1) := by decide +kernel
theorem dM_close_85 : decode xM_close.2.1 85 = .ok (.iconst 0, 1) := by decide +kernel
theorem dM_close_86 : decode xM_close.2.1 86 = .ok (.bastore, 1) := by decide +kernel
theorem dM_close_87 : decode xM_close.2.1 87 = .ok (.aload_n 0, 1) := by decide +kernel
theorem dM_close_88 : decode xM_close.2.1 88 = .ok (.iload_n 1, 1) := by decide +kernel
theorem dM_close_89 : decode xM_close.2.1 89 = .ok (.iconst 3, 1) := by decide +kernel
theorem dM_close_90 : decode xM_close.2.1 90 = .ok (.iload_n 2, 1) := by decide +kernel
theorem dM_close_91 : decode xM_close.2.1 91 = .ok (.iconst 0, 1) := by decide +kernel
theorem dM_close_92 : decode xM_close.2.1 92 = .ok (.iconst 0, 1) := by decide +kernel
theorem dM_close_93 : decode xM_close.2.1 93 = .ok (.invokevirtual 224, 3) := by decide +kernel
theorem dM_close_96 : decode xM_close.2.1 96 = .ok (.ireturn, 1) := by decide +kernel
def xM_retry : mt_X := (⟨"LeasedPagesModel", "retry", "(I)I"⟩, prog_12_method_34_code, 2, (Option.some FieldType.int))
theorem dM_retry_0 : decode xM_retry.2.1 0 = .ok (.aload_n 0, 1) := by decide +kernel
theorem dM_retry_1 : decode xM_retry.2.1 1 = .ok (.iload_n 1, 1) := by decide +kernel
theorem dM_retry_2 : decode xM_retry.2.1 2 = .ok (.invokevirtual 215, 3) := by decide +kernel
theorem dM_retry_5 : decode xM_retry.2.1 5 = .ok (.ifCond .eq 12, 3) := by decide +kernel
theorem dM_retry_8 : decode xM_retry.2.1 8 = .ok (.aload_n 0, 1) := by decide +kernel
theorem dM_retry_9 : decode xM_retry.2.1 9 = .ok (.getfield 83, 3) := by decide +kernel
theorem dM_retry_12 : decode xM_retry.2.1 12 = .ok (.iload_n 1, 1) := by decide +kernel
theorem dM_retry_13 : decode xM_retry.2.1 13 = .ok (.iaload, 1) := by decide +kernel
theorem dM_retry_14 : decode xM_retry.2.1 14 = .ok (.ifCond .ne 5, 3) := by decide +kernel
theorem dM_retry_17 : decode xM_retry.2.1 17 = .ok (.iconst (-1), 1) := by decide +kernel
theorem dM_retry_18 : decode xM_retry.2.1 18 = .ok (.ireturn, 1) := by decide +kernel
theorem dM_retry_19 : decode xM_retry.2.1 19 = .ok (.aload_n 0, 1) := by decide +kernel
theorem dM_retry_20 : decode xM_retry.2.1 20 = .ok (.iload_n 1, 1) := by decide +kernel
theorem dM_retry_21 : decode xM_retry.2.1 21 = .ok (.invokevirtual 212, 3) := by decide +kernel
theorem dM_retry_24 : decode xM_retry.2.1 24 = .ok (.aload_n 0, 1) := by decide +kernel
theorem dM_retry_25 : decode xM_retry.2.1 25 = .ok (.getfield 56, 3) := by decide +kernel
theorem dM_retry_28 : decode xM_retry.2.1 28 = .ok (.iload_n 1, 1) := by decide +kernel
theorem dM_retry_29 : decode xM_retry.2.1 29 = .ok (.iaload, 1) := by decide +kernel
theorem dM_retry_30 : decode xM_retry.2.1 30 = .ok (.ireturn, 1) := by decide +kernel
def xM_tick : mt_X := (⟨"LeasedPagesModel", "tick", "(II)Z"⟩, prog_12_method_35_code, 5, (Option.some FieldType.boolean))
theorem dM_tick_0 : decode xM_tick.2.1 0 = .ok (.iload_n 1, 1) := by decide +kernel
theorem dM_tick_1 : decode xM_tick.2.1 1 = .ok (.iconst 0, 1) := by decide +kernel
theorem dM_tick_2 : decode xM_tick.2.1 2 = .ok (.iconst 3, 1) := by decide +kernel
theorem dM_tick_3 : decode xM_tick.2.1 3 = .ok (.invokestatic 138, 3) := by decide +kernel
theorem dM_tick_6 : decode xM_tick.2.1 6 = .ok (.ifCond .eq 22, 3) := by decide +kernel
theorem dM_tick_9 : decode xM_tick.2.1 9 = .ok (.aload_n 0, 1) := by decide +kernel
theorem dM_tick_10 : decode xM_tick.2.1 10 = .ok (.getfield 7, 3) := by decide +kernel
theorem dM_tick_13 : decode xM_tick.2.1 13 = .ok (.iload_n 1, 1) := by decide +kernel
theorem dM_tick_14 : decode xM_tick.2.1 14 = .ok (.baload, 1) := by decide +kernel
theorem dM_tick_15 : decode xM_tick.2.1 15 = .ok (.ifCond .ne 13, 3) := by decide +kernel
theorem dM_tick_18 : decode xM_tick.2.1 18 = .ok (.iload_n 2, 1) := by decide +kernel
theorem dM_tick_19 : decode xM_tick.2.1 19 = .ok (.iconst 1, 1) := by decide +kernel
theorem dM_tick_20 : decode xM_tick.2.1 20 = .ok (.bipush 100, 2) := by decide +kernel
theorem dM_tick_22 : decode xM_tick.2.1 22 = .ok (.invokestatic 138, 3) := by decide +kernel
theorem dM_tick_25 : decode xM_tick.2.1 25 = .ok (.ifCond .ne 5, 3) := by decide +kernel
theorem dM_tick_28 : decode xM_tick.2.1 28 = .ok (.iconst 0, 1) := by decide +kernel
theorem dM_tick_29 : decode xM_tick.2.1 29 = .ok (.ireturn, 1) := by decide +kernel
theorem dM_tick_30 : decode xM_tick.2.1 30 = .ok (.iconst 0, 1) := by decide +kernel
theorem dM_tick_31 : decode xM_tick.2.1 31 = .ok (.istore_n 3, 1) := by decide +kernel
theorem dM_tick_32 : decode xM_tick.2.1 32 = .ok (.iload_n 3, 1) := by decide +kernel
theorem dM_tick_33 : decode xM_tick.2.1 33 = .ok (.iload_n 2, 1) := by decide +kernel
theorem dM_tick_34 : decode xM_tick.2.1 34 = .ok (.if_icmp .ge 103, 3) := by decide +kernel
theorem dM_tick_37 : decode xM_tick.2.1 37 = .ok (.aload_n 0, 1) := by decide +kernel
theorem dM_tick_38 : decode xM_tick.2.1 38 = .ok (.getfield 13, 3) := by decide +kernel
theorem dM_tick_41 : decode xM_tick.2.1 41 = .ok (.iload_n 1, 1) := by decide +kernel
theorem dM_tick_42 : decode xM_tick.2.1 42 = .ok (.dup2, 1) := by decide +kernel
theorem dM_tick_43 : decode xM_tick.2.1 43 = .ok (.iaload, 1) := by decide +kernel
theorem dM_tick_44 : decode xM_tick.2.1 44 = .ok (.iconst 1, 1) := by decide +kernel
theorem dM_tick_45 : decode xM_tick.2.1 45 = .ok (.iadd, 1) := by decide +kernel
theorem dM_tick_46 : decode xM_tick.2.1 46 = .ok (.iastore, 1) := by decide +kernel
theorem dM_tick_47 : decode xM_tick.2.1 47 = .ok (.iload_n 1, 1) := by decide +kernel
theorem dM_tick_48 : decode xM_tick.2.1 48 = .ok (.iconst 3, 1) := by decide +kernel
theorem dM_tick_49 : decode xM_tick.2.1 49 = .ok (.if_icmp .ne 82, 3) := by decide +kernel
theorem dM_tick_52 : decode xM_tick.2.1 52 = .ok (.iconst 0, 1) := by decide +kernel
theorem dM_tick_53 : decode xM_tick.2.1 53 = .ok (.istore 4, 2) := by decide +kernel
theorem dM_tick_55 : decode xM_tick.2.1 55 = .ok (.iload 4, 2) := by decide +kernel
theorem dM_tick_57 : decode xM_tick.2.1 57 = .ok (.bipush 12, 2) := by decide +kernel
theorem dM_tick_59 : decode xM_tick.2.1 59 = .ok (.if_icmp .ge 43, 3) := by decide +kernel
theorem dM_tick_62 : decode xM_tick.2.1 62 = .ok (.aload_n 0, 1) := by decide +kernel
theorem dM_tick_63 : decode xM_tick.2.1 63 = .ok (.getfield 20, 3) := by decide +kernel
theorem dM_tick_66 : decode xM_tick.2.1 66 = .ok (.iload 4, 2) := by decide +kernel
theorem dM_tick_68 : decode xM_tick.2.1 68 = .ok (.aload_n 0, 1) := by decide +kernel
theorem dM_tick_69 : decode xM_tick.2.1 69 = .ok (.getfield 23, 3) := by decide +kernel
theorem dM_tick_72 : decode xM_tick.2.1 72 = .ok (.iload 4, 2) := by decide +kernel
theorem dM_tick_74 : decode xM_tick.2.1 74 = .ok (.iaload, 1) := by decide +kernel
theorem dM_tick_75 : decode xM_tick.2.1 75 = .ok (.aload_n 0, 1) := by decide +kernel
theorem dM_tick_76 : decode xM_tick.2.1 76 = .ok (.getfield 13, 3) := by decide +kernel
theorem dM_tick_79 : decode xM_tick.2.1 79 = .ok (.iconst 3, 1) := by decide +kernel
theorem dM_tick_80 : decode xM_tick.2.1 80 = .ok (.iaload, 1) := by decide +kernel
theorem dM_tick_81 : decode xM_tick.2.1 81 = .ok (.if_icmp .gt 7, 3) := by decide +kernel
theorem dM_tick_84 : decode xM_tick.2.1 84 = .ok (.iconst 0, 1) := by decide +kernel
theorem dM_tick_85 : decode xM_tick.2.1 85 = .ok (.goto 10, 3) := by decide +kernel
theorem dM_tick_88 : decode xM_tick.2.1 88 = .ok (.aload_n 0, 1) := by decide +kernel
theorem dM_tick_89 : decode xM_tick.2.1 89 = .ok (.getfield 20, 3) := by decide +kernel
theorem dM_tick_92 : decode xM_tick.2.1 92 = .ok (.iload 4, 2) := by decide +kernel
theorem dM_tick_94 : decode xM_tick.2.1 94 = .ok (.iaload, 1) := by decide +kernel
theorem dM_tick_95 : decode xM_tick.2.1 95 = .ok (.iastore, 1) := by decide +kernel
theorem dM_tick_96 : decode xM_tick.2.1 96 = .ok (.iinc 4 1, 3) := by decide +kernel
theorem dM_tick_99 : decode xM_tick.2.1 99 = .ok (.goto (-44), 3) := by decide +kernel
theorem dM_tick_102 : decode xM_tick.2.1 102 = .ok (.aload_n 0, 1) := by decide +kernel
theorem dM_tick_103 : decode xM_tick.2.1 103 = .ok (.aload_n 0, 1) := by decide +kernel
theorem dM_tick_104 : decode xM_tick.2.1 104 = .ok (.getfield 190, 3) := by decide +kernel
theorem dM_tick_107 : decode xM_tick.2.1 107 = .ok (.aload_n 0, 1) := by decide +kernel
theorem dM_tick_108 : decode xM_tick.2.1 108 = .ok (.getfield 13, 3) := by decide +kernel
theorem dM_tick_111 : decode xM_tick.2.1 111 = .ok (.iconst 3, 1) := by decide +kernel
theorem dM_tick_112 : decode xM_tick.2.1 112 = .ok (.iaload, 1) := by decide +kernel
theorem dM_tick_113 : decode xM_tick.2.1 113 = .ok (.if_icmp .gt 7, 3) := by decide +kernel
theorem dM_tick_116 : decode xM_tick.2.1 116 = .ok (.iconst 0, 1) := by decide +kernel
theorem dM_tick_117 : decode xM_tick.2.1 117 = .ok (.goto 7, 3) := by decide +kernel
theorem dM_tick_120 : decode xM_tick.2.1 120 = .ok (.aload_n 0, 1) := by decide +kernel
theorem dM_tick_121 : decode xM_tick.2.1 121 = .ok (.getfield 190, 3) := by decide +kernel
theorem dM_tick_124 : decode xM_tick.2.1 124 = .ok (.putfield 190, 3) := by decide +kernel
theorem dM_tick_127 : decode xM_tick.2.1 127 = .ok (.aload_n 0, 1) := by decide +kernel
theorem dM_tick_128 : decode xM_tick.2.1 128 = .ok (.invokevirtual 164, 3) := by decide +kernel
theorem dM_tick_131 : decode xM_tick.2.1 131 = .ok (.iinc 3 1, 3) := by decide +kernel
theorem dM_tick_134 : decode xM_tick.2.1 134 = .ok (.goto (-102), 3) := by decide +kernel
theorem dM_tick_137 : decode xM_tick.2.1 137 = .ok (.iconst 1, 1) := by decide +kernel
theorem dM_tick_138 : decode xM_tick.2.1 138 = .ok (.ireturn, 1) := by decide +kernel
def xM_crash : mt_X := (⟨"LeasedPagesModel", "crash", "(I)Z"⟩, prog_12_method_36_code, 3, (Option.some FieldType.boolean))
theorem dM_crash_0 : decode xM_crash.2.1 0 = .ok (.iload_n 1, 1) := by decide +kernel
theorem dM_crash_1 : decode xM_crash.2.1 1 = .ok (.iconst 0, 1) := by decide +kernel
theorem dM_crash_2 : decode xM_crash.2.1 2 = .ok (.iconst 3, 1) := by decide +kernel
theorem dM_crash_3 : decode xM_crash.2.1 3 = .ok (.invokestatic 138, 3) := by decide +kernel
theorem dM_crash_6 : decode xM_crash.2.1 6 = .ok (.ifCond .eq 12, 3) := by decide +kernel
theorem dM_crash_9 : decode xM_crash.2.1 9 = .ok (.aload_n 0, 1) := by decide +kernel
theorem dM_crash_10 : decode xM_crash.2.1 10 = .ok (.getfield 7, 3) := by decide +kernel
theorem dM_crash_13 : decode xM_crash.2.1 13 = .ok (.iload_n 1, 1) := by decide +kernel
theorem dM_crash_14 : decode xM_crash.2.1 14 = .ok (.baload, 1) := by decide +kernel
theorem dM_crash_15 : decode xM_crash.2.1 15 = .ok (.ifCond .eq 5, 3) := by decide +kernel
theorem dM_crash_18 : decode xM_crash.2.1 18 = .ok (.iconst 0, 1) := by decide +kernel
theorem dM_crash_19 : decode xM_crash.2.1 19 = .ok (.ireturn, 1) := by decide +kernel
theorem dM_crash_20 : decode xM_crash.2.1 20 = .ok (.aload_n 0, 1) := by decide +kernel
theorem dM_crash_21 : decode xM_crash.2.1 21 = .ok (.getfield 7, 3) := by decide +kernel
theorem dM_crash_24 : decode xM_crash.2.1 24 = .ok (.iload_n 1, 1) := by decide +kernel
theorem dM_crash_25 : decode xM_crash.2.1 25 = .ok (.iconst 1, 1) := by decide +kernel
theorem dM_crash_26 : decode xM_crash.2.1 26 = .ok (.bastore, 1) := by decide +kernel
theorem dM_crash_27 : decode xM_crash.2.1 27 = .ok (.iload_n 1, 1) := by decide +kernel
theorem dM_crash_28 : decode xM_crash.2.1 28 = .ok (.iconst 3, 1) := by decide +kernel
theorem dM_crash_29 : decode xM_crash.2.1 29 = .ok (.if_icmp .ne 46, 3) := by decide +kernel
theorem dM_crash_32 : decode xM_crash.2.1 32 = .ok (.iconst 0, 1) := by decide +kernel
theorem dM_crash_33 : decode xM_crash.2.1 33 = .ok (.istore_n 2, 1) := by decide +kernel
theorem dM_crash_34 : decode xM_crash.2.1 34 = .ok (.iload_n 2, 1) := by decide +kernel
theorem dM_crash_35 : decode xM_crash.2.1 35 = .ok (.bipush 12, 2) := by decide +kernel
theorem dM_crash_37 : decode xM_crash.2.1 37 = .ok (.if_icmp .ge 16, 3) := by decide +kernel
theorem dM_crash_40 : decode xM_crash.2.1 40 = .ok (.aload_n 0, 1) := by decide +kernel
theorem dM_crash_41 : decode xM_crash.2.1 41 = .ok (.getfield 20, 3) := by decide +kernel
theorem dM_crash_44 : decode xM_crash.2.1 44 = .ok (.iload_n 2, 1) := by decide +kernel
theorem dM_crash_45 : decode xM_crash.2.1 45 = .ok (.iconst 0, 1) := by decide +kernel
theorem dM_crash_46 : decode xM_crash.2.1 46 = .ok (.iastore, 1) := by decide +kernel
theorem dM_crash_47 : decode xM_crash.2.1 47 = .ok (.iinc 2 1, 3) := by decide +kernel
theorem dM_crash_50 : decode xM_crash.2.1 50 = .ok (.goto (-16), 3) := by decide +kernel
theorem dM_crash_53 : decode xM_crash.2.1 53 = .ok (.iconst 0, 1) := by decide +kernel
theorem dM_crash_54 : decode xM_crash.2.1 54 = .ok (.istore_n 2, 1) := by decide +kernel
theorem dM_crash_55 : decode xM_crash.2.1 55 = .ok (.iload_n 2, 1) := by decide +kernel
theorem dM_crash_56 : decode xM_crash.2.1 56 = .ok (.iconst 3, 1) := by decide +kernel
theorem dM_crash_57 : decode xM_crash.2.1 57 = .ok (.if_icmp .ge 16, 3) := by decide +kernel
theorem dM_crash_60 : decode xM_crash.2.1 60 = .ok (.aload_n 0, 1) := by decide +kernel
theorem dM_crash_61 : decode xM_crash.2.1 61 = .ok (.getfield 44, 3) := by decide +kernel
theorem dM_crash_64 : decode xM_crash.2.1 64 = .ok (.iload_n 2, 1) := by decide +kernel
theorem dM_crash_65 : decode xM_crash.2.1 65 = .ok (.iconst (-1), 1) := by decide +kernel
theorem dM_crash_66 : decode xM_crash.2.1 66 = .ok (.iastore, 1) := by decide +kernel
theorem dM_crash_67 : decode xM_crash.2.1 67 = .ok (.iinc 2 1, 3) := by decide +kernel
theorem dM_crash_70 : decode xM_crash.2.1 70 = .ok (.goto (-15), 3) := by decide +kernel
theorem dM_crash_73 : decode xM_crash.2.1 73 = .ok (.iconst 1, 1) := by decide +kernel
theorem dM_crash_74 : decode xM_crash.2.1 74 = .ok (.ireturn, 1) := by decide +kernel
theorem dM_crash_75 : decode xM_crash.2.1 75 = .ok (.aload_n 0, 1) := by decide +kernel
theorem dM_crash_76 : decode xM_crash.2.1 76 = .ok (.getfield 83, 3) := by decide +kernel
theorem dM_crash_79 : decode xM_crash.2.1 79 = .ok (.iload_n 1, 1) := by decide +kernel
theorem dM_crash_80 : decode xM_crash.2.1 80 = .ok (.iconst 0, 1) := by decide +kernel
theorem dM_crash_81 : decode xM_crash.2.1 81 = .ok (.iastore, 1) := by decide +kernel
theorem dM_crash_82 : decode xM_crash.2.1 82 = .ok (.aload_n 0, 1) := by decide +kernel
theorem dM_crash_83 : decode xM_crash.2.1 83 = .ok (.getfield 74, 3) := by decide +kernel
theorem dM_crash_86 : decode xM_crash.2.1 86 = .ok (.iload_n 1, 1) := by decide +kernel
theorem dM_crash_87 : decode xM_crash.2.1 87 = .ok (.iconst 0, 1) := by decide +kernel
theorem dM_crash_88 : decode xM_crash.2.1 88 = .ok (.iastore, 1) := by decide +kernel
theorem dM_crash_89 : decode xM_crash.2.1 89 = .ok (.iconst 0, 1) := by decide +kernel
theorem dM_crash_90 : decode xM_crash.2.1 90 = .ok (.istore_n 2, 1) := by decide +kernel
theorem dM_crash_91 : decode xM_crash.2.1 91 = .ok (.iload_n 2, 1) := by decide +kernel
theorem dM_crash_92 : decode xM_crash.2.1 92 = .ok (.iconst 4, 1) := by decide +kernel
theorem dM_crash_93 : decode xM_crash.2.1 93 = .ok (.if_icmp .ge 42, 3) := by decide +kernel
theorem dM_crash_96 : decode xM_crash.2.1 96 = .ok (.aload_n 0, 1) := by decide +kernel
theorem dM_crash_97 : decode xM_crash.2.1 97 = .ok (.getfield 59, 3) := by decide +kernel
theorem dM_crash_100 : decode xM_crash.2.1 100 = .ok (.iconst 4, 1) := by decide +kernel
theorem dM_crash_101 : decode xM_crash.2.1 101 = .ok (.iload_n 1, 1) := by decide +kernel
theorem dM_crash_102 : decode xM_crash.2.1 102 = .ok (.imul, 1) := by decide +kernel
theorem dM_crash_103 : decode xM_crash.2.1 103 = .ok (.iload_n 2, 1) := by decide +kernel
theorem dM_crash_104 : decode xM_crash.2.1 104 = .ok (.iadd, 1) := by decide +kernel
theorem dM_crash_105 : decode xM_crash.2.1 105 = .ok (.iconst 0, 1) := by decide +kernel
theorem dM_crash_106 : decode xM_crash.2.1 106 = .ok (.iastore, 1) := by decide +kernel
theorem dM_crash_107 : decode xM_crash.2.1 107 = .ok (.aload_n 0, 1) := by decide +kernel
theorem dM_crash_108 : decode xM_crash.2.1 108 = .ok (.getfield 65, 3) := by decide +kernel
theorem dM_crash_111 : decode xM_crash.2.1 111 = .ok (.iconst 4, 1) := by decide +kernel
theorem dM_crash_112 : decode xM_crash.2.1 112 = .ok (.iload_n 1, 1) := by decide +kernel
theorem dM_crash_113 : decode xM_crash.2.1 113 = .ok (.imul, 1) := by decide +kernel
theorem dM_crash_114 : decode xM_crash.2.1 114 = .ok (.iload_n 2, 1) := by decide +kernel
theorem dM_crash_115 : decode xM_crash.2.1 115 = .ok (.iadd, 1) := by decide +kernel
theorem dM_crash_116 : decode xM_crash.2.1 116 = .ok (.iconst 0, 1) := by decide +kernel
theorem dM_crash_117 : decode xM_crash.2.1 117 = .ok (.bastore, 1) := by decide +kernel
theorem dM_crash_118 : decode xM_crash.2.1 118 = .ok (.aload_n 0, 1) := by decide +kernel
theorem dM_crash_119 : decode xM_crash.2.1 119 = .ok (.getfield 68, 3) := by decide +kernel
theorem dM_crash_122 : decode xM_crash.2.1 122 = .ok (.iconst 4, 1) := by decide +kernel
theorem dM_crash_123 : decode xM_crash.2.1 123 = .ok (.iload_n 1, 1) := by decide +kernel
theorem dM_crash_124 : decode xM_crash.2.1 124 = .ok (.imul, 1) := by decide +kernel
theorem dM_crash_125 : decode xM_crash.2.1 125 = .ok (.iload_n 2, 1) := by decide +kernel
theorem dM_crash_126 : decode xM_crash.2.1 126 = .ok (.iadd, 1) := by decide +kernel
theorem dM_crash_127 : decode xM_crash.2.1 127 = .ok (.iconst 0, 1) := by decide +kernel
theorem dM_crash_128 : decode xM_crash.2.1 128 = .ok (.bastore, 1) := by decide +kernel
theorem dM_crash_129 : decode xM_crash.2.1 129 = .ok (.iinc 2 1, 3) := by decide +kernel
theorem dM_crash_132 : decode xM_crash.2.1 132 = .ok (.goto (-41), 3) := by decide +kernel
theorem dM_crash_135 : decode xM_crash.2.1 135 = .ok (.iconst 1, 1) := by decide +kernel
theorem dM_crash_136 : decode xM_crash.2.1 136 = .ok (.ireturn, 1) := by decide +kernel
def xM_restart : mt_X := (⟨"LeasedPagesModel", "restart", "(I)Z"⟩, prog_12_method_37_code, 2, (Option.some FieldType.boolean))
theorem dM_restart_0 : decode xM_restart.2.1 0 = .ok (.iload_n 1, 1) := by decide +kernel
theorem dM_restart_1 : decode xM_restart.2.1 1 = .ok (.iconst 0, 1) := by decide +kernel
theorem dM_restart_2 : decode xM_restart.2.1 2 = .ok (.iconst 3, 1) := by decide +kernel
theorem dM_restart_3 : decode xM_restart.2.1 3 = .ok (.invokestatic 138, 3) := by decide +kernel
theorem dM_restart_6 : decode xM_restart.2.1 6 = .ok (.ifCond .eq 12, 3) := by decide +kernel
theorem dM_restart_9 : decode xM_restart.2.1 9 = .ok (.aload_n 0, 1) := by decide +kernel
theorem dM_restart_10 : decode xM_restart.2.1 10 = .ok (.getfield 7, 3) := by decide +kernel
theorem dM_restart_13 : decode xM_restart.2.1 13 = .ok (.iload_n 1, 1) := by decide +kernel
theorem dM_restart_14 : decode xM_restart.2.1 14 = .ok (.baload, 1) := by decide +kernel
theorem dM_restart_15 : decode xM_restart.2.1 15 = .ok (.ifCond .ne 5, 3) := by decide +kernel
theorem dM_restart_18 : decode xM_restart.2.1 18 = .ok (.iconst 0, 1) := by decide +kernel
theorem dM_restart_19 : decode xM_restart.2.1 19 = .ok (.ireturn, 1) := by decide +kernel
theorem dM_restart_20 : decode xM_restart.2.1 20 = .ok (.aload_n 0, 1) := by decide +kernel
theorem dM_restart_21 : decode xM_restart.2.1 21 = .ok (.getfield 7, 3) := by decide +kernel
theorem dM_restart_24 : decode xM_restart.2.1 24 = .ok (.iload_n 1, 1) := by decide +kernel
theorem dM_restart_25 : decode xM_restart.2.1 25 = .ok (.iconst 0, 1) := by decide +kernel
theorem dM_restart_26 : decode xM_restart.2.1 26 = .ok (.bastore, 1) := by decide +kernel
theorem dM_restart_27 : decode xM_restart.2.1 27 = .ok (.aload_n 0, 1) := by decide +kernel
theorem dM_restart_28 : decode xM_restart.2.1 28 = .ok (.iload_n 1, 1) := by decide +kernel
theorem dM_restart_29 : decode xM_restart.2.1 29 = .ok (.iconst 3, 1) := by decide +kernel
theorem dM_restart_30 : decode xM_restart.2.1 30 = .ok (.if_icmp .ne 17, 3) := by decide +kernel
theorem dM_restart_33 : decode xM_restart.2.1 33 = .ok (.aload_n 0, 1) := by decide +kernel
theorem dM_restart_34 : decode xM_restart.2.1 34 = .ok (.getfield 13, 3) := by decide +kernel
theorem dM_restart_37 : decode xM_restart.2.1 37 = .ok (.iconst 3, 1) := by decide +kernel
theorem dM_restart_38 : decode xM_restart.2.1 38 = .ok (.iaload, 1) := by decide +kernel
theorem dM_restart_39 : decode xM_restart.2.1 39 = .ok (.aload_n 0, 1) := by decide +kernel
theorem dM_restart_40 : decode xM_restart.2.1 40 = .ok (.getfield 131, 3) := by decide +kernel
theorem dM_restart_43 : decode xM_restart.2.1 43 = .ok (.iadd, 1) := by decide +kernel
theorem dM_restart_44 : decode xM_restart.2.1 44 = .ok (.goto 7, 3) := by decide +kernel
theorem dM_restart_47 : decode xM_restart.2.1 47 = .ok (.aload_n 0, 1) := by decide +kernel
theorem dM_restart_48 : decode xM_restart.2.1 48 = .ok (.getfield 190, 3) := by decide +kernel
theorem dM_restart_51 : decode xM_restart.2.1 51 = .ok (.putfield 190, 3) := by decide +kernel
theorem dM_restart_54 : decode xM_restart.2.1 54 = .ok (.iconst 1, 1) := by decide +kernel
theorem dM_restart_55 : decode xM_restart.2.1 55 = .ok (.ireturn, 1) := by decide +kernel
def xM_clock : mt_X := (⟨"LeasedPagesModel", "clock", "(I)I"⟩, prog_12_method_38_code, 2, (Option.some FieldType.int))
theorem dM_clock_0 : decode xM_clock.2.1 0 = .ok (.iload_n 1, 1) := by decide +kernel
theorem dM_clock_1 : decode xM_clock.2.1 1 = .ok (.iconst 0, 1) := by decide +kernel
theorem dM_clock_2 : decode xM_clock.2.1 2 = .ok (.iconst 3, 1) := by decide +kernel
theorem dM_clock_3 : decode xM_clock.2.1 3 = .ok (.invokestatic 138, 3) := by decide +kernel
theorem dM_clock_6 : decode xM_clock.2.1 6 = .ok (.ifCond .eq 12, 3) := by decide +kernel
theorem dM_clock_9 : decode xM_clock.2.1 9 = .ok (.aload_n 0, 1) := by decide +kernel
theorem dM_clock_10 : decode xM_clock.2.1 10 = .ok (.getfield 13, 3) := by decide +kernel
theorem dM_clock_13 : decode xM_clock.2.1 13 = .ok (.iload_n 1, 1) := by decide +kernel
theorem dM_clock_14 : decode xM_clock.2.1 14 = .ok (.iaload, 1) := by decide +kernel
theorem dM_clock_15 : decode xM_clock.2.1 15 = .ok (.goto 4, 3) := by decide +kernel
theorem dM_clock_18 : decode xM_clock.2.1 18 = .ok (.iconst (-1), 1) := by decide +kernel
theorem dM_clock_19 : decode xM_clock.2.1 19 = .ok (.ireturn, 1) := by decide +kernel
def xM_lease : mt_X := (⟨"LeasedPagesModel", "lease", "(II)I"⟩, prog_12_method_39_code, 3, (Option.some FieldType.int))
theorem dM_lease_0 : decode xM_lease.2.1 0 = .ok (.aload_n 0, 1) := by decide +kernel
theorem dM_lease_1 : decode xM_lease.2.1 1 = .ok (.iload_n 1, 1) := by decide +kernel
theorem dM_lease_2 : decode xM_lease.2.1 2 = .ok (.invokevirtual 215, 3) := by decide +kernel
theorem dM_lease_5 : decode xM_lease.2.1 5 = .ok (.ifCond .eq 12, 3) := by decide +kernel
theorem dM_lease_8 : decode xM_lease.2.1 8 = .ok (.iload_n 2, 1) := by decide +kernel
theorem dM_lease_9 : decode xM_lease.2.1 9 = .ok (.iconst 0, 1) := by decide +kernel
theorem dM_lease_10 : decode xM_lease.2.1 10 = .ok (.iconst 3, 1) := by decide +kernel
theorem dM_lease_11 : decode xM_lease.2.1 11 = .ok (.invokestatic 138, 3) := by decide +kernel
theorem dM_lease_14 : decode xM_lease.2.1 14 = .ok (.ifCond .ne 5, 3) := by decide +kernel
theorem dM_lease_17 : decode xM_lease.2.1 17 = .ok (.iconst (-1), 1) := by decide +kernel
theorem dM_lease_18 : decode xM_lease.2.1 18 = .ok (.ireturn, 1) := by decide +kernel
theorem dM_lease_19 : decode xM_lease.2.1 19 = .ok (.aload_n 0, 1) := by decide +kernel
theorem dM_lease_20 : decode xM_lease.2.1 20 = .ok (.iload_n 1, 1) := by decide +kernel
theorem dM_lease_21 : decode xM_lease.2.1 21 = .ok (.iload_n 2, 1) := by decide +kernel
theorem dM_lease_22 : decode xM_lease.2.1 22 = .ok (.invokevirtual 221, 3) := by decide +kernel
theorem dM_lease_25 : decode xM_lease.2.1 25 = .ok (.ifCond .eq 16, 3) := by decide +kernel
theorem dM_lease_28 : decode xM_lease.2.1 28 = .ok (.aload_n 0, 1) := by decide +kernel
theorem dM_lease_29 : decode xM_lease.2.1 29 = .ok (.getfield 59, 3) := by decide +kernel
theorem dM_lease_32 : decode xM_lease.2.1 32 = .ok (.iconst 4, 1) := by decide +kernel
theorem dM_lease_33 : decode xM_lease.2.1 33 = .ok (.iload_n 1, 1) := by decide +kernel
theorem dM_lease_34 : decode xM_lease.2.1 34 = .ok (.imul, 1) := by decide +kernel
theorem dM_lease_35 : decode xM_lease.2.1 35 = .ok (.iload_n 2, 1) := by decide +kernel
theorem dM_lease_36 : decode xM_lease.2.1 36 = .ok (.iadd, 1) := by decide +kernel
theorem dM_lease_37 : decode xM_lease.2.1 37 = .ok (.iaload, 1) := by decide +kernel
theorem dM_lease_38 : decode xM_lease.2.1 38 = .ok (.goto 4, 3) := by decide +kernel
theorem dM_lease_41 : decode xM_lease.2.1 41 = .ok (.iconst 0, 1) := by decide +kernel
theorem dM_lease_42 : decode xM_lease.2.1 42 = .ok (.aload_n 0, 1) := by decide +kernel
theorem dM_lease_43 : decode xM_lease.2.1 43 = .ok (.getfield 65, 3) := by decide +kernel
theorem dM_lease_46 : decode xM_lease.2.1 46 = .ok (.iconst 4, 1) := by decide +kernel
theorem dM_lease_47 : decode xM_lease.2.1 47 = .ok (.iload_n 1, 1) := by decide +kernel
theorem dM_lease_48 : decode xM_lease.2.1 48 = .ok (.imul, 1) := by decide +kernel
theorem dM_lease_49 : decode xM_lease.2.1 49 = .ok (.iload_n 2, 1) := by decide +kernel
theorem dM_lease_50 : decode xM_lease.2.1 50 = .ok (.iadd, 1) := by decide +kernel
theorem dM_lease_51 : decode xM_lease.2.1 51 = .ok (.baload, 1) := by decide +kernel
theorem dM_lease_52 : decode xM_lease.2.1 52 = .ok (.ifCond .eq 8, 3) := by decide +kernel
theorem dM_lease_55 : decode xM_lease.2.1 55 = .ok (.bipush 10, 2) := by decide +kernel
theorem dM_lease_57 : decode xM_lease.2.1 57 = .ok (.goto 4, 3) := by decide +kernel
theorem dM_lease_60 : decode xM_lease.2.1 60 = .ok (.iconst 0, 1) := by decide +kernel
theorem dM_lease_61 : decode xM_lease.2.1 61 = .ok (.iadd, 1) := by decide +kernel
theorem dM_lease_62 : decode xM_lease.2.1 62 = .ok (.aload_n 0, 1) := by decide +kernel
theorem dM_lease_63 : decode xM_lease.2.1 63 = .ok (.getfield 68, 3) := by decide +kernel
theorem dM_lease_66 : decode xM_lease.2.1 66 = .ok (.iconst 4, 1) := by decide +kernel
theorem dM_lease_67 : decode xM_lease.2.1 67 = .ok (.iload_n 1, 1) := by decide +kernel
theorem dM_lease_68 : decode xM_lease.2.1 68 = .ok (.imul, 1) := by decide +kernel
theorem dM_lease_69 : decode xM_lease.2.1 69 = .ok (.iload_n 2, 1) := by decide +kernel
theorem dM_lease_70 : decode xM_lease.2.1 70 = .ok (.iadd, 1) := by decide +kernel
theorem dM_lease_71 : decode xM_lease.2.1 71 = .ok (.baload, 1) := by decide +kernel
theorem dM_lease_72 : decode xM_lease.2.1 72 = .ok (.ifCond .eq 8, 3) := by decide +kernel
theorem dM_lease_75 : decode xM_lease.2.1 75 = .ok (.bipush 100, 2) := by decide +kernel
theorem dM_lease_77 : decode xM_lease.2.1 77 = .ok (.goto 4, 3) := by decide +kernel
theorem dM_lease_80 : decode xM_lease.2.1 80 = .ok (.iconst 0, 1) := by decide +kernel
theorem dM_lease_81 : decode xM_lease.2.1 81 = .ok (.iadd, 1) := by decide +kernel
theorem dM_lease_82 : decode xM_lease.2.1 82 = .ok (.ireturn, 1) := by decide +kernel
def xM_dirty : mt_X := (⟨"LeasedPagesModel", "dirty", "(I)I"⟩, prog_12_method_40_code, 2, (Option.some FieldType.int))
theorem dM_dirty_0 : decode xM_dirty.2.1 0 = .ok (.aload_n 0, 1) := by decide +kernel
theorem dM_dirty_1 : decode xM_dirty.2.1 1 = .ok (.iload_n 1, 1) := by decide +kernel
theorem dM_dirty_2 : decode xM_dirty.2.1 2 = .ok (.invokevirtual 215, 3) := by decide +kernel
theorem dM_dirty_5 : decode xM_dirty.2.1 5 = .ok (.ifCond .eq 12, 3) := by decide +kernel
theorem dM_dirty_8 : decode xM_dirty.2.1 8 = .ok (.aload_n 0, 1) := by decide +kernel
theorem dM_dirty_9 : decode xM_dirty.2.1 9 = .ok (.getfield 74, 3) := by decide +kernel
theorem dM_dirty_12 : decode xM_dirty.2.1 12 = .ok (.iload_n 1, 1) := by decide +kernel
theorem dM_dirty_13 : decode xM_dirty.2.1 13 = .ok (.iaload, 1) := by decide +kernel
theorem dM_dirty_14 : decode xM_dirty.2.1 14 = .ok (.goto 4, 3) := by decide +kernel
theorem dM_dirty_17 : decode xM_dirty.2.1 17 = .ok (.iconst (-1), 1) := by decide +kernel
theorem dM_dirty_18 : decode xM_dirty.2.1 18 = .ok (.ireturn, 1) := by decide +kernel
def xM_held : mt_X := (⟨"LeasedPagesModel", "held", "(II)I"⟩, prog_12_method_41_code, 3, (Option.some FieldType.int))
theorem dM_held_0 : decode xM_held.2.1 0 = .ok (.iload_n 1, 1) := by decide +kernel
theorem dM_held_1 : decode xM_held.2.1 1 = .ok (.iconst 0, 1) := by decide +kernel
theorem dM_held_2 : decode xM_held.2.1 2 = .ok (.iconst 2, 1) := by decide +kernel
theorem dM_held_3 : decode xM_held.2.1 3 = .ok (.invokestatic 138, 3) := by decide +kernel
theorem dM_held_6 : decode xM_held.2.1 6 = .ok (.ifCond .eq 12, 3) := by decide +kernel
theorem dM_held_9 : decode xM_held.2.1 9 = .ok (.iload_n 2, 1) := by decide +kernel
theorem dM_held_10 : decode xM_held.2.1 10 = .ok (.iconst 0, 1) := by decide +kernel
theorem dM_held_11 : decode xM_held.2.1 11 = .ok (.iconst 3, 1) := by decide +kernel
theorem dM_held_12 : decode xM_held.2.1 12 = .ok (.invokestatic 138, 3) := by decide +kernel
theorem dM_held_15 : decode xM_held.2.1 15 = .ok (.ifCond .ne 5, 3) := by decide +kernel
theorem dM_held_18 : decode xM_held.2.1 18 = .ok (.iconst (-1), 1) := by decide +kernel
theorem dM_held_19 : decode xM_held.2.1 19 = .ok (.ireturn, 1) := by decide +kernel
theorem dM_held_20 : decode xM_held.2.1 20 = .ok (.aload_n 0, 1) := by decide +kernel
theorem dM_held_21 : decode xM_held.2.1 21 = .ok (.getfield 20, 3) := by decide +kernel
theorem dM_held_24 : decode xM_held.2.1 24 = .ok (.iconst 4, 1) := by decide +kernel
theorem dM_held_25 : decode xM_held.2.1 25 = .ok (.iload_n 1, 1) := by decide +kernel
theorem dM_held_26 : decode xM_held.2.1 26 = .ok (.imul, 1) := by decide +kernel
theorem dM_held_27 : decode xM_held.2.1 27 = .ok (.iload_n 2, 1) := by decide +kernel
theorem dM_held_28 : decode xM_held.2.1 28 = .ok (.iadd, 1) := by decide +kernel
theorem dM_held_29 : decode xM_held.2.1 29 = .ok (.iaload, 1) := by decide +kernel
theorem dM_held_30 : decode xM_held.2.1 30 = .ok (.ifCond .ne 7, 3) := by decide +kernel
theorem dM_held_33 : decode xM_held.2.1 33 = .ok (.iconst 0, 1) := by decide +kernel
theorem dM_held_34 : decode xM_held.2.1 34 = .ok (.goto 35, 3) := by decide +kernel
theorem dM_held_37 : decode xM_held.2.1 37 = .ok (.sipush 1000, 3) := by decide +kernel
theorem dM_held_40 : decode xM_held.2.1 40 = .ok (.aload_n 0, 1) := by decide +kernel
theorem dM_held_41 : decode xM_held.2.1 41 = .ok (.getfield 20, 3) := by decide +kernel
theorem dM_held_44 : decode xM_held.2.1 44 = .ok (.iconst 4, 1) := by decide +kernel
theorem dM_held_45 : decode xM_held.2.1 45 = .ok (.iload_n 1, 1) := by decide +kernel
theorem dM_held_46 : decode xM_held.2.1 46 = .ok (.imul, 1) := by decide +kernel
theorem dM_held_47 : decode xM_held.2.1 47 = .ok (.iload_n 2, 1) := by decide +kernel
theorem dM_held_48 : decode xM_held.2.1 48 = .ok (.iadd, 1) := by decide +kernel
theorem dM_held_49 : decode xM_held.2.1 49 = .ok (.iaload, 1) := by decide +kernel
theorem dM_held_50 : decode xM_held.2.1 50 = .ok (.imul, 1) := by decide +kernel
theorem dM_held_51 : decode xM_held.2.1 51 = .ok (.aload_n 0, 1) := by decide +kernel
theorem dM_held_52 : decode xM_held.2.1 52 = .ok (.getfield 23, 3) := by decide +kernel
theorem dM_held_55 : decode xM_held.2.1 55 = .ok (.iconst 4, 1) := by decide +kernel
theorem dM_held_56 : decode xM_held.2.1 56 = .ok (.iload_n 1, 1) := by decide +kernel
theorem dM_held_57 : decode xM_held.2.1 57 = .ok (.imul, 1) := by decide +kernel
theorem dM_held_58 : decode xM_held.2.1 58 = .ok (.iload_n 2, 1) := by decide +kernel
theorem dM_held_59 : decode xM_held.2.1 59 = .ok (.iadd, 1) := by decide +kernel
theorem dM_held_60 : decode xM_held.2.1 60 = .ok (.iaload, 1) := by decide +kernel
theorem dM_held_61 : decode xM_held.2.1 61 = .ok (.iadd, 1) := by decide +kernel
theorem dM_held_62 : decode xM_held.2.1 62 = .ok (.aload_n 0, 1) := by decide +kernel
theorem dM_held_63 : decode xM_held.2.1 63 = .ok (.getfield 13, 3) := by decide +kernel
theorem dM_held_66 : decode xM_held.2.1 66 = .ok (.iconst 3, 1) := by decide +kernel
theorem dM_held_67 : decode xM_held.2.1 67 = .ok (.iaload, 1) := by decide +kernel
theorem dM_held_68 : decode xM_held.2.1 68 = .ok (.isub, 1) := by decide +kernel
theorem dM_held_69 : decode xM_held.2.1 69 = .ok (.ireturn, 1) := by decide +kernel
def xM_waiting : mt_X := (⟨"LeasedPagesModel", "waiting", "(I)I"⟩, prog_12_method_42_code, 4, (Option.some FieldType.int))
theorem dM_waiting_0 : decode xM_waiting.2.1 0 = .ok (.iload_n 1, 1) := by decide +kernel
theorem dM_waiting_1 : decode xM_waiting.2.1 1 = .ok (.iconst 0, 1) := by decide +kernel
theorem dM_waiting_2 : decode xM_waiting.2.1 2 = .ok (.iconst 3, 1) := by decide +kernel
theorem dM_waiting_3 : decode xM_waiting.2.1 3 = .ok (.invokestatic 138, 3) := by decide +kernel
theorem dM_waiting_6 : decode xM_waiting.2.1 6 = .ok (.ifCond .ne 5, 3) := by decide +kernel
theorem dM_waiting_9 : decode xM_waiting.2.1 9 = .ok (.iconst (-1), 1) := by decide +kernel
theorem dM_waiting_10 : decode xM_waiting.2.1 10 = .ok (.ireturn, 1) := by decide +kernel
theorem dM_waiting_11 : decode xM_waiting.2.1 11 = .ok (.iconst 0, 1) := by decide +kernel
theorem dM_waiting_12 : decode xM_waiting.2.1 12 = .ok (.istore_n 2, 1) := by decide +kernel
theorem dM_waiting_13 : decode xM_waiting.2.1 13 = .ok (.iconst 0, 1) := by decide +kernel
theorem dM_waiting_14 : decode xM_waiting.2.1 14 = .ok (.istore_n 3, 1) := by decide +kernel
theorem dM_waiting_15 : decode xM_waiting.2.1 15 = .ok (.iload_n 3, 1) := by decide +kernel
theorem dM_waiting_16 : decode xM_waiting.2.1 16 = .ok (.iconst 3, 1) := by decide +kernel
theorem dM_waiting_17 : decode xM_waiting.2.1 17 = .ok (.if_icmp .ge 27, 3) := by decide +kernel
theorem dM_waiting_20 : decode xM_waiting.2.1 20 = .ok (.aload_n 0, 1) := by decide +kernel
theorem dM_waiting_21 : decode xM_waiting.2.1 21 = .ok (.getfield 44, 3) := by decide +kernel
theorem dM_waiting_24 : decode xM_waiting.2.1 24 = .ok (.iload_n 3, 1) := by decide +kernel
theorem dM_waiting_25 : decode xM_waiting.2.1 25 = .ok (.iaload, 1) := by decide +kernel
theorem dM_waiting_26 : decode xM_waiting.2.1 26 = .ok (.iload_n 1, 1) := by decide +kernel
theorem dM_waiting_27 : decode xM_waiting.2.1 27 = .ok (.if_icmp .ne 9, 3) := by decide +kernel
theorem dM_waiting_30 : decode xM_waiting.2.1 30 = .ok (.iload_n 2, 1) := by decide +kernel
theorem dM_waiting_31 : decode xM_waiting.2.1 31 = .ok (.iconst 1, 1) := by decide +kernel
theorem dM_waiting_32 : decode xM_waiting.2.1 32 = .ok (.iadd, 1) := by decide +kernel
theorem dM_waiting_33 : decode xM_waiting.2.1 33 = .ok (.goto 4, 3) := by decide +kernel
theorem dM_waiting_36 : decode xM_waiting.2.1 36 = .ok (.iload_n 2, 1) := by decide +kernel
theorem dM_waiting_37 : decode xM_waiting.2.1 37 = .ok (.istore_n 2, 1) := by decide +kernel
theorem dM_waiting_38 : decode xM_waiting.2.1 38 = .ok (.iinc 3 1, 3) := by decide +kernel
theorem dM_waiting_41 : decode xM_waiting.2.1 41 = .ok (.goto (-26), 3) := by decide +kernel
theorem dM_waiting_44 : decode xM_waiting.2.1 44 = .ok (.iload_n 2, 1) := by decide +kernel
theorem dM_waiting_45 : decode xM_waiting.2.1 45 = .ok (.ireturn, 1) := by decide +kernel
def xM_stored : mt_X := (⟨"LeasedPagesModel", "stored", "(II)I"⟩, prog_12_method_43_code, 3, (Option.some FieldType.int))
theorem dM_stored_0 : decode xM_stored.2.1 0 = .ok (.iload_n 1, 1) := by decide +kernel
theorem dM_stored_1 : decode xM_stored.2.1 1 = .ok (.iconst 0, 1) := by decide +kernel
theorem dM_stored_2 : decode xM_stored.2.1 2 = .ok (.iconst 3, 1) := by decide +kernel
theorem dM_stored_3 : decode xM_stored.2.1 3 = .ok (.invokestatic 138, 3) := by decide +kernel
theorem dM_stored_6 : decode xM_stored.2.1 6 = .ok (.ifCond .eq 25, 3) := by decide +kernel
theorem dM_stored_9 : decode xM_stored.2.1 9 = .ok (.iload_n 2, 1) := by decide +kernel
theorem dM_stored_10 : decode xM_stored.2.1 10 = .ok (.iconst 0, 1) := by decide +kernel
theorem dM_stored_11 : decode xM_stored.2.1 11 = .ok (.iconst 3, 1) := by decide +kernel
theorem dM_stored_12 : decode xM_stored.2.1 12 = .ok (.invokestatic 138, 3) := by decide +kernel
theorem dM_stored_15 : decode xM_stored.2.1 15 = .ok (.ifCond .eq 16, 3) := by decide +kernel
theorem dM_stored_18 : decode xM_stored.2.1 18 = .ok (.aload_n 0, 1) := by decide +kernel
theorem dM_stored_19 : decode xM_stored.2.1 19 = .ok (.getfield 17, 3) := by decide +kernel
theorem dM_stored_22 : decode xM_stored.2.1 22 = .ok (.iconst 4, 1) := by decide +kernel
theorem dM_stored_23 : decode xM_stored.2.1 23 = .ok (.iload_n 1, 1) := by decide +kernel
theorem dM_stored_24 : decode xM_stored.2.1 24 = .ok (.imul, 1) := by decide +kernel
theorem dM_stored_25 : decode xM_stored.2.1 25 = .ok (.iload_n 2, 1) := by decide +kernel
theorem dM_stored_26 : decode xM_stored.2.1 26 = .ok (.iadd, 1) := by decide +kernel
theorem dM_stored_27 : decode xM_stored.2.1 27 = .ok (.iaload, 1) := by decide +kernel
theorem dM_stored_28 : decode xM_stored.2.1 28 = .ok (.goto 4, 3) := by decide +kernel
theorem dM_stored_31 : decode xM_stored.2.1 31 = .ok (.iconst 0, 1) := by decide +kernel
theorem dM_stored_32 : decode xM_stored.2.1 32 = .ok (.ireturn, 1) := by decide +kernel
end
section
/-! Method constants and decode rows, written by wip/whole/gen/code.py out of the listing. -/
def xZ_cell : mt_X := (⟨"LeasedPagesLaw", "cell", "([II)I"⟩, method_2_code, 2, (Option.some FieldType.int))
theorem dZ_cell_0 : decode xZ_cell.2.1 0 = .ok (.iload_n 1, 1) := by decide +kernel
theorem dZ_cell_1 : decode xZ_cell.2.1 1 = .ok (.aload_n 0, 1) := by decide +kernel
theorem dZ_cell_2 : decode xZ_cell.2.1 2 = .ok (.arraylength, 1) := by decide +kernel
theorem dZ_cell_3 : decode xZ_cell.2.1 3 = .ok (.if_icmp .ge 9, 3) := by decide +kernel
theorem dZ_cell_6 : decode xZ_cell.2.1 6 = .ok (.aload_n 0, 1) := by decide +kernel
theorem dZ_cell_7 : decode xZ_cell.2.1 7 = .ok (.iload_n 1, 1) := by decide +kernel
theorem dZ_cell_8 : decode xZ_cell.2.1 8 = .ok (.iaload, 1) := by decide +kernel
theorem dZ_cell_9 : decode xZ_cell.2.1 9 = .ok (.goto 4, 3) := by decide +kernel
theorem dZ_cell_12 : decode xZ_cell.2.1 12 = .ok (.iconst 0, 1) := by decide +kernel
theorem dZ_cell_13 : decode xZ_cell.2.1 13 = .ok (.ireturn, 1) := by decide +kernel
def xZ_law : mt_X := (⟨"LeasedPagesLaw", "law", "([I)Z"⟩, code, 4, some .boolean)
theorem dZ_law_0 : decode xZ_law.2.1 0 = .ok (.new 7, 3) := by decide +kernel
theorem dZ_law_3 : decode xZ_law.2.1 3 = .ok (.dup, 1) := by decide +kernel
theorem dZ_law_4 : decode xZ_law.2.1 4 = .ok (.aload_n 0, 1) := by decide +kernel
theorem dZ_law_5 : decode xZ_law.2.1 5 = .ok (.iconst 0, 1) := by decide +kernel
theorem dZ_law_6 : decode xZ_law.2.1 6 = .ok (.invokestatic 9, 3) := by decide +kernel
theorem dZ_law_9 : decode xZ_law.2.1 9 = .ok (.invokespecial 15, 3) := by decide +kernel
theorem dZ_law_12 : decode xZ_law.2.1 12 = .ok (.astore_n 1, 1) := by decide +kernel
theorem dZ_law_13 : decode xZ_law.2.1 13 = .ok (.new 18, 3) := by decide +kernel
theorem dZ_law_16 : decode xZ_law.2.1 16 = .ok (.dup, 1) := by decide +kernel
theorem dZ_law_17 : decode xZ_law.2.1 17 = .ok (.aload_n 0, 1) := by decide +kernel
theorem dZ_law_18 : decode xZ_law.2.1 18 = .ok (.iconst 0, 1) := by decide +kernel
theorem dZ_law_19 : decode xZ_law.2.1 19 = .ok (.invokestatic 9, 3) := by decide +kernel
theorem dZ_law_22 : decode xZ_law.2.1 22 = .ok (.invokespecial 20, 3) := by decide +kernel
theorem dZ_law_25 : decode xZ_law.2.1 25 = .ok (.astore_n 2, 1) := by decide +kernel
theorem dZ_law_26 : decode xZ_law.2.1 26 = .ok (.iconst 1, 1) := by decide +kernel
theorem dZ_law_27 : decode xZ_law.2.1 27 = .ok (.istore_n 3, 1) := by decide +kernel
theorem dZ_law_28 : decode xZ_law.2.1 28 = .ok (.iload_n 3, 1) := by decide +kernel
theorem dZ_law_29 : decode xZ_law.2.1 29 = .ok (.aload_n 0, 1) := by decide +kernel
theorem dZ_law_30 : decode xZ_law.2.1 30 = .ok (.arraylength, 1) := by decide +kernel
theorem dZ_law_31 : decode xZ_law.2.1 31 = .ok (.iconst 5, 1) := by decide +kernel
theorem dZ_law_32 : decode xZ_law.2.1 32 = .ok (.isub, 1) := by decide +kernel
theorem dZ_law_33 : decode xZ_law.2.1 33 = .ok (.if_icmp .gt 689, 3) := by decide +kernel
theorem dZ_law_36 : decode xZ_law.2.1 36 = .ok (.aload_n 0, 1) := by decide +kernel
theorem dZ_law_37 : decode xZ_law.2.1 37 = .ok (.iload_n 3, 1) := by decide +kernel
theorem dZ_law_38 : decode xZ_law.2.1 38 = .ok (.iaload, 1) := by decide +kernel
theorem dZ_law_39 : decode xZ_law.2.1 39 = .ok (.bipush 31, 2) := by decide +kernel
theorem dZ_law_41 : decode xZ_law.2.1 41 = .ok (.iand, 1) := by decide +kernel
theorem dZ_law_42 : decode xZ_law.2.1 42 = .ok (.tableswitch 674 0 19 #[94, 137, 190, 243, 266, 299, 322, 335, 358, 381, 404, 427, 460, 483, 506, 529, 562, 585, 618, 641], 94) := by decide +kernel
theorem dZ_law_136 : decode xZ_law.2.1 136 = .ok (.aload_n 1, 1) := by decide +kernel
theorem dZ_law_137 : decode xZ_law.2.1 137 = .ok (.aload_n 0, 1) := by decide +kernel
theorem dZ_law_138 : decode xZ_law.2.1 138 = .ok (.iload_n 3, 1) := by decide +kernel
theorem dZ_law_139 : decode xZ_law.2.1 139 = .ok (.iconst 1, 1) := by decide +kernel
theorem dZ_law_140 : decode xZ_law.2.1 140 = .ok (.iadd, 1) := by decide +kernel
theorem dZ_law_141 : decode xZ_law.2.1 141 = .ok (.iaload, 1) := by decide +kernel
theorem dZ_law_142 : decode xZ_law.2.1 142 = .ok (.aload_n 0, 1) := by decide +kernel
theorem dZ_law_143 : decode xZ_law.2.1 143 = .ok (.iload_n 3, 1) := by decide +kernel
theorem dZ_law_144 : decode xZ_law.2.1 144 = .ok (.iconst 2, 1) := by decide +kernel
theorem dZ_law_145 : decode xZ_law.2.1 145 = .ok (.iadd, 1) := by decide +kernel
theorem dZ_law_146 : decode xZ_law.2.1 146 = .ok (.iaload, 1) := by decide +kernel
theorem dZ_law_147 : decode xZ_law.2.1 147 = .ok (.aload_n 0, 1) := by decide +kernel
theorem dZ_law_148 : decode xZ_law.2.1 148 = .ok (.iload_n 3, 1) := by decide +kernel
theorem dZ_law_149 : decode xZ_law.2.1 149 = .ok (.iconst 3, 1) := by decide +kernel
theorem dZ_law_150 : decode xZ_law.2.1 150 = .ok (.iadd, 1) := by decide +kernel
theorem dZ_law_151 : decode xZ_law.2.1 151 = .ok (.iaload, 1) := by decide +kernel
theorem dZ_law_152 : decode xZ_law.2.1 152 = .ok (.invokevirtual 21, 3) := by decide +kernel
theorem dZ_law_155 : decode xZ_law.2.1 155 = .ok (.aload_n 2, 1) := by decide +kernel
theorem dZ_law_156 : decode xZ_law.2.1 156 = .ok (.aload_n 0, 1) := by decide +kernel
theorem dZ_law_157 : decode xZ_law.2.1 157 = .ok (.iload_n 3, 1) := by decide +kernel
theorem dZ_law_158 : decode xZ_law.2.1 158 = .ok (.iconst 1, 1) := by decide +kernel
theorem dZ_law_159 : decode xZ_law.2.1 159 = .ok (.iadd, 1) := by decide +kernel
theorem dZ_law_160 : decode xZ_law.2.1 160 = .ok (.iaload, 1) := by decide +kernel
theorem dZ_law_161 : decode xZ_law.2.1 161 = .ok (.aload_n 0, 1) := by decide +kernel
theorem dZ_law_162 : decode xZ_law.2.1 162 = .ok (.iload_n 3, 1) := by decide +kernel
theorem dZ_law_163 : decode xZ_law.2.1 163 = .ok (.iconst 2, 1) := by decide +kernel
theorem dZ_law_164 : decode xZ_law.2.1 164 = .ok (.iadd, 1) := by decide +kernel
theorem dZ_law_165 : decode xZ_law.2.1 165 = .ok (.iaload, 1) := by decide +kernel
theorem dZ_law_166 : decode xZ_law.2.1 166 = .ok (.aload_n 0, 1) := by decide +kernel
theorem dZ_law_167 : decode xZ_law.2.1 167 = .ok (.iload_n 3, 1) := by decide +kernel
theorem dZ_law_168 : decode xZ_law.2.1 168 = .ok (.iconst 3, 1) := by decide +kernel
theorem dZ_law_169 : decode xZ_law.2.1 169 = .ok (.iadd, 1) := by decide +kernel
theorem dZ_law_170 : decode xZ_law.2.1 170 = .ok (.iaload, 1) := by decide +kernel
theorem dZ_law_171 : decode xZ_law.2.1 171 = .ok (.invokevirtual 25, 3) := by decide +kernel
theorem dZ_law_174 : decode xZ_law.2.1 174 = .ok (.if_icmp .eq 542, 3) := by decide +kernel
theorem dZ_law_177 : decode xZ_law.2.1 177 = .ok (.iconst 0, 1) := by decide +kernel
theorem dZ_law_178 : decode xZ_law.2.1 178 = .ok (.ireturn, 1) := by decide +kernel
theorem dZ_law_179 : decode xZ_law.2.1 179 = .ok (.aload_n 1, 1) := by decide +kernel
theorem dZ_law_180 : decode xZ_law.2.1 180 = .ok (.aload_n 0, 1) := by decide +kernel
theorem dZ_law_181 : decode xZ_law.2.1 181 = .ok (.iload_n 3, 1) := by decide +kernel
theorem dZ_law_182 : decode xZ_law.2.1 182 = .ok (.iconst 1, 1) := by decide +kernel
theorem dZ_law_183 : decode xZ_law.2.1 183 = .ok (.iadd, 1) := by decide +kernel
theorem dZ_law_184 : decode xZ_law.2.1 184 = .ok (.iaload, 1) := by decide +kernel
theorem dZ_law_185 : decode xZ_law.2.1 185 = .ok (.aload_n 0, 1) := by decide +kernel
theorem dZ_law_186 : decode xZ_law.2.1 186 = .ok (.iload_n 3, 1) := by decide +kernel
theorem dZ_law_187 : decode xZ_law.2.1 187 = .ok (.iconst 2, 1) := by decide +kernel
theorem dZ_law_188 : decode xZ_law.2.1 188 = .ok (.iadd, 1) := by decide +kernel
theorem dZ_law_189 : decode xZ_law.2.1 189 = .ok (.iaload, 1) := by decide +kernel
theorem dZ_law_190 : decode xZ_law.2.1 190 = .ok (.aload_n 0, 1) := by decide +kernel
theorem dZ_law_191 : decode xZ_law.2.1 191 = .ok (.iload_n 3, 1) := by decide +kernel
theorem dZ_law_192 : decode xZ_law.2.1 192 = .ok (.iconst 3, 1) := by decide +kernel
theorem dZ_law_193 : decode xZ_law.2.1 193 = .ok (.iadd, 1) := by decide +kernel
theorem dZ_law_194 : decode xZ_law.2.1 194 = .ok (.iaload, 1) := by decide +kernel
theorem dZ_law_195 : decode xZ_law.2.1 195 = .ok (.aload_n 0, 1) := by decide +kernel
theorem dZ_law_196 : decode xZ_law.2.1 196 = .ok (.iload_n 3, 1) := by decide +kernel
theorem dZ_law_197 : decode xZ_law.2.1 197 = .ok (.iconst 4, 1) := by decide +kernel
theorem dZ_law_198 : decode xZ_law.2.1 198 = .ok (.iadd, 1) := by decide +kernel
theorem dZ_law_199 : decode xZ_law.2.1 199 = .ok (.iaload, 1) := by decide +kernel
theorem dZ_law_200 : decode xZ_law.2.1 200 = .ok (.invokevirtual 26, 3) := by decide +kernel
theorem dZ_law_203 : decode xZ_law.2.1 203 = .ok (.aload_n 2, 1) := by decide +kernel
theorem dZ_law_204 : decode xZ_law.2.1 204 = .ok (.aload_n 0, 1) := by decide +kernel
theorem dZ_law_205 : decode xZ_law.2.1 205 = .ok (.iload_n 3, 1) := by decide +kernel
theorem dZ_law_206 : decode xZ_law.2.1 206 = .ok (.iconst 1, 1) := by decide +kernel
theorem dZ_law_207 : decode xZ_law.2.1 207 = .ok (.iadd, 1) := by decide +kernel
theorem dZ_law_208 : decode xZ_law.2.1 208 = .ok (.iaload, 1) := by decide +kernel
theorem dZ_law_209 : decode xZ_law.2.1 209 = .ok (.aload_n 0, 1) := by decide +kernel
theorem dZ_law_210 : decode xZ_law.2.1 210 = .ok (.iload_n 3, 1) := by decide +kernel
theorem dZ_law_211 : decode xZ_law.2.1 211 = .ok (.iconst 2, 1) := by decide +kernel
theorem dZ_law_212 : decode xZ_law.2.1 212 = .ok (.iadd, 1) := by decide +kernel
theorem dZ_law_213 : decode xZ_law.2.1 213 = .ok (.iaload, 1) := by decide +kernel
theorem dZ_law_214 : decode xZ_law.2.1 214 = .ok (.aload_n 0, 1) := by decide +kernel
theorem dZ_law_215 : decode xZ_law.2.1 215 = .ok (.iload_n 3, 1) := by decide +kernel
theorem dZ_law_216 : decode xZ_law.2.1 216 = .ok (.iconst 3, 1) := by decide +kernel
theorem dZ_law_217 : decode xZ_law.2.1 217 = .ok (.iadd, 1) := by decide +kernel
theorem dZ_law_218 : decode xZ_law.2.1 218 = .ok (.iaload, 1) := by decide +kernel
theorem dZ_law_219 : decode xZ_law.2.1 219 = .ok (.aload_n 0, 1) := by decide +kernel
theorem dZ_law_220 : decode xZ_law.2.1 220 = .ok (.iload_n 3, 1) := by decide +kernel
theorem dZ_law_221 : decode xZ_law.2.1 221 = .ok (.iconst 4, 1) := by decide +kernel
theorem dZ_law_222 : decode xZ_law.2.1 222 = .ok (.iadd, 1) := by decide +kernel
theorem dZ_law_223 : decode xZ_law.2.1 223 = .ok (.iaload, 1) := by decide +kernel
theorem dZ_law_224 : decode xZ_law.2.1 224 = .ok (.invokevirtual 30, 3) := by decide +kernel
theorem dZ_law_227 : decode xZ_law.2.1 227 = .ok (.if_icmp .eq 489, 3) := by decide +kernel
theorem dZ_law_230 : decode xZ_law.2.1 230 = .ok (.iconst 0, 1) := by decide +kernel
theorem dZ_law_231 : decode xZ_law.2.1 231 = .ok (.ireturn, 1) := by decide +kernel
theorem dZ_law_232 : decode xZ_law.2.1 232 = .ok (.aload_n 1, 1) := by decide +kernel
theorem dZ_law_233 : decode xZ_law.2.1 233 = .ok (.aload_n 0, 1) := by decide +kernel
theorem dZ_law_234 : decode xZ_law.2.1 234 = .ok (.iload_n 3, 1) := by decide +kernel
theorem dZ_law_235 : decode xZ_law.2.1 235 = .ok (.iconst 1, 1) := by decide +kernel
theorem dZ_law_236 : decode xZ_law.2.1 236 = .ok (.iadd, 1) := by decide +kernel
theorem dZ_law_237 : decode xZ_law.2.1 237 = .ok (.iaload, 1) := by decide +kernel
theorem dZ_law_238 : decode xZ_law.2.1 238 = .ok (.aload_n 0, 1) := by decide +kernel
theorem dZ_law_239 : decode xZ_law.2.1 239 = .ok (.iload_n 3, 1) := by decide +kernel
theorem dZ_law_240 : decode xZ_law.2.1 240 = .ok (.iconst 2, 1) := by decide +kernel
theorem dZ_law_241 : decode xZ_law.2.1 241 = .ok (.iadd, 1) := by decide +kernel
theorem dZ_law_242 : decode xZ_law.2.1 242 = .ok (.iaload, 1) := by decide +kernel
theorem dZ_law_243 : decode xZ_law.2.1 243 = .ok (.aload_n 0, 1) := by decide +kernel
theorem dZ_law_244 : decode xZ_law.2.1 244 = .ok (.iload_n 3, 1) := by decide +kernel
theorem dZ_law_245 : decode xZ_law.2.1 245 = .ok (.iconst 3, 1) := by decide +kernel
theorem dZ_law_246 : decode xZ_law.2.1 246 = .ok (.iadd, 1) := by decide +kernel
theorem dZ_law_247 : decode xZ_law.2.1 247 = .ok (.iaload, 1) := by decide +kernel
theorem dZ_law_248 : decode xZ_law.2.1 248 = .ok (.aload_n 0, 1) := by decide +kernel
theorem dZ_law_249 : decode xZ_law.2.1 249 = .ok (.iload_n 3, 1) := by decide +kernel
theorem dZ_law_250 : decode xZ_law.2.1 250 = .ok (.iconst 4, 1) := by decide +kernel
theorem dZ_law_251 : decode xZ_law.2.1 251 = .ok (.iadd, 1) := by decide +kernel
theorem dZ_law_252 : decode xZ_law.2.1 252 = .ok (.iaload, 1) := by decide +kernel
theorem dZ_law_253 : decode xZ_law.2.1 253 = .ok (.invokevirtual 31, 3) := by decide +kernel
theorem dZ_law_256 : decode xZ_law.2.1 256 = .ok (.aload_n 2, 1) := by decide +kernel
theorem dZ_law_257 : decode xZ_law.2.1 257 = .ok (.aload_n 0, 1) := by decide +kernel
theorem dZ_law_258 : decode xZ_law.2.1 258 = .ok (.iload_n 3, 1) := by decide +kernel
theorem dZ_law_259 : decode xZ_law.2.1 259 = .ok (.iconst 1, 1) := by decide +kernel
theorem dZ_law_260 : decode xZ_law.2.1 260 = .ok (.iadd, 1) := by decide +kernel
theorem dZ_law_261 : decode xZ_law.2.1 261 = .ok (.iaload, 1) := by decide +kernel
theorem dZ_law_262 : decode xZ_law.2.1 262 = .ok (.aload_n 0, 1) := by decide +kernel
theorem dZ_law_263 : decode xZ_law.2.1 263 = .ok (.iload_n 3, 1) := by decide +kernel
theorem dZ_law_264 : decode xZ_law.2.1 264 = .ok (.iconst 2, 1) := by decide +kernel
theorem dZ_law_265 : decode xZ_law.2.1 265 = .ok (.iadd, 1) := by decide +kernel
theorem dZ_law_266 : decode xZ_law.2.1 266 = .ok (.iaload, 1) := by decide +kernel
theorem dZ_law_267 : decode xZ_law.2.1 267 = .ok (.aload_n 0, 1) := by decide +kernel
theorem dZ_law_268 : decode xZ_law.2.1 268 = .ok (.iload_n 3, 1) := by decide +kernel
theorem dZ_law_269 : decode xZ_law.2.1 269 = .ok (.iconst 3, 1) := by decide +kernel
theorem dZ_law_270 : decode xZ_law.2.1 270 = .ok (.iadd, 1) := by decide +kernel
theorem dZ_law_271 : decode xZ_law.2.1 271 = .ok (.iaload, 1) := by decide +kernel
theorem dZ_law_272 : decode xZ_law.2.1 272 = .ok (.aload_n 0, 1) := by decide +kernel
theorem dZ_law_273 : decode xZ_law.2.1 273 = .ok (.iload_n 3, 1) := by decide +kernel
theorem dZ_law_274 : decode xZ_law.2.1 274 = .ok (.iconst 4, 1) := by decide +kernel
theorem dZ_law_275 : decode xZ_law.2.1 275 = .ok (.iadd, 1) := by decide +kernel
theorem dZ_law_276 : decode xZ_law.2.1 276 = .ok (.iaload, 1) := by decide +kernel
theorem dZ_law_277 : decode xZ_law.2.1 277 = .ok (.invokevirtual 34, 3) := by decide +kernel
theorem dZ_law_280 : decode xZ_law.2.1 280 = .ok (.if_icmp .eq 436, 3) := by decide +kernel
theorem dZ_law_283 : decode xZ_law.2.1 283 = .ok (.iconst 0, 1) := by decide +kernel
theorem dZ_law_284 : decode xZ_law.2.1 284 = .ok (.ireturn, 1) := by decide +kernel
theorem dZ_law_285 : decode xZ_law.2.1 285 = .ok (.aload_n 1, 1) := by decide +kernel
theorem dZ_law_286 : decode xZ_law.2.1 286 = .ok (.aload_n 0, 1) := by decide +kernel
theorem dZ_law_287 : decode xZ_law.2.1 287 = .ok (.iload_n 3, 1) := by decide +kernel
theorem dZ_law_288 : decode xZ_law.2.1 288 = .ok (.iconst 1, 1) := by decide +kernel
theorem dZ_law_289 : decode xZ_law.2.1 289 = .ok (.iadd, 1) := by decide +kernel
theorem dZ_law_290 : decode xZ_law.2.1 290 = .ok (.iaload, 1) := by decide +kernel
theorem dZ_law_291 : decode xZ_law.2.1 291 = .ok (.invokevirtual 35, 3) := by decide +kernel
theorem dZ_law_294 : decode xZ_law.2.1 294 = .ok (.aload_n 2, 1) := by decide +kernel
theorem dZ_law_295 : decode xZ_law.2.1 295 = .ok (.aload_n 0, 1) := by decide +kernel
theorem dZ_law_296 : decode xZ_law.2.1 296 = .ok (.iload_n 3, 1) := by decide +kernel
theorem dZ_law_297 : decode xZ_law.2.1 297 = .ok (.iconst 1, 1) := by decide +kernel
theorem dZ_law_298 : decode xZ_law.2.1 298 = .ok (.iadd, 1) := by decide +kernel
theorem dZ_law_299 : decode xZ_law.2.1 299 = .ok (.iaload, 1) := by decide +kernel
theorem dZ_law_300 : decode xZ_law.2.1 300 = .ok (.invokevirtual 39, 3) := by decide +kernel
theorem dZ_law_303 : decode xZ_law.2.1 303 = .ok (.if_icmp .eq 413, 3) := by decide +kernel
theorem dZ_law_306 : decode xZ_law.2.1 306 = .ok (.iconst 0, 1) := by decide +kernel
theorem dZ_law_307 : decode xZ_law.2.1 307 = .ok (.ireturn, 1) := by decide +kernel
theorem dZ_law_308 : decode xZ_law.2.1 308 = .ok (.aload_n 1, 1) := by decide +kernel
theorem dZ_law_309 : decode xZ_law.2.1 309 = .ok (.aload_n 0, 1) := by decide +kernel
theorem dZ_law_310 : decode xZ_law.2.1 310 = .ok (.iload_n 3, 1) := by decide +kernel
theorem dZ_law_311 : decode xZ_law.2.1 311 = .ok (.iconst 1, 1) := by decide +kernel
theorem dZ_law_312 : decode xZ_law.2.1 312 = .ok (.iadd, 1) := by decide +kernel
theorem dZ_law_313 : decode xZ_law.2.1 313 = .ok (.iaload, 1) := by decide +kernel
theorem dZ_law_314 : decode xZ_law.2.1 314 = .ok (.aload_n 0, 1) := by decide +kernel
theorem dZ_law_315 : decode xZ_law.2.1 315 = .ok (.iload_n 3, 1) := by decide +kernel
theorem dZ_law_316 : decode xZ_law.2.1 316 = .ok (.iconst 2, 1) := by decide +kernel
theorem dZ_law_317 : decode xZ_law.2.1 317 = .ok (.iadd, 1) := by decide +kernel
theorem dZ_law_318 : decode xZ_law.2.1 318 = .ok (.iaload, 1) := by decide +kernel
theorem dZ_law_319 : decode xZ_law.2.1 319 = .ok (.invokevirtual 40, 3) := by decide +kernel
theorem dZ_law_322 : decode xZ_law.2.1 322 = .ok (.aload_n 2, 1) := by decide +kernel
theorem dZ_law_323 : decode xZ_law.2.1 323 = .ok (.aload_n 0, 1) := by decide +kernel
theorem dZ_law_324 : decode xZ_law.2.1 324 = .ok (.iload_n 3, 1) := by decide +kernel
theorem dZ_law_325 : decode xZ_law.2.1 325 = .ok (.iconst 1, 1) := by decide +kernel
theorem dZ_law_326 : decode xZ_law.2.1 326 = .ok (.iadd, 1) := by decide +kernel
theorem dZ_law_327 : decode xZ_law.2.1 327 = .ok (.iaload, 1) := by decide +kernel
theorem dZ_law_328 : decode xZ_law.2.1 328 = .ok (.aload_n 0, 1) := by decide +kernel
theorem dZ_law_329 : decode xZ_law.2.1 329 = .ok (.iload_n 3, 1) := by decide +kernel
theorem dZ_law_330 : decode xZ_law.2.1 330 = .ok (.iconst 2, 1) := by decide +kernel
theorem dZ_law_331 : decode xZ_law.2.1 331 = .ok (.iadd, 1) := by decide +kernel
theorem dZ_law_332 : decode xZ_law.2.1 332 = .ok (.iaload, 1) := by decide +kernel
theorem dZ_law_333 : decode xZ_law.2.1 333 = .ok (.invokevirtual 44, 3) := by decide +kernel
theorem dZ_law_336 : decode xZ_law.2.1 336 = .ok (.if_icmp .eq 380, 3) := by decide +kernel
theorem dZ_law_339 : decode xZ_law.2.1 339 = .ok (.iconst 0, 1) := by decide +kernel
theorem dZ_law_340 : decode xZ_law.2.1 340 = .ok (.ireturn, 1) := by decide +kernel
theorem dZ_law_341 : decode xZ_law.2.1 341 = .ok (.aload_n 1, 1) := by decide +kernel
theorem dZ_law_342 : decode xZ_law.2.1 342 = .ok (.aload_n 0, 1) := by decide +kernel
theorem dZ_law_343 : decode xZ_law.2.1 343 = .ok (.iload_n 3, 1) := by decide +kernel
theorem dZ_law_344 : decode xZ_law.2.1 344 = .ok (.iconst 1, 1) := by decide +kernel
theorem dZ_law_345 : decode xZ_law.2.1 345 = .ok (.iadd, 1) := by decide +kernel
theorem dZ_law_346 : decode xZ_law.2.1 346 = .ok (.iaload, 1) := by decide +kernel
theorem dZ_law_347 : decode xZ_law.2.1 347 = .ok (.invokevirtual 45, 3) := by decide +kernel
theorem dZ_law_350 : decode xZ_law.2.1 350 = .ok (.aload_n 2, 1) := by decide +kernel
theorem dZ_law_351 : decode xZ_law.2.1 351 = .ok (.aload_n 0, 1) := by decide +kernel
theorem dZ_law_352 : decode xZ_law.2.1 352 = .ok (.iload_n 3, 1) := by decide +kernel
theorem dZ_law_353 : decode xZ_law.2.1 353 = .ok (.iconst 1, 1) := by decide +kernel
theorem dZ_law_354 : decode xZ_law.2.1 354 = .ok (.iadd, 1) := by decide +kernel
theorem dZ_law_355 : decode xZ_law.2.1 355 = .ok (.iaload, 1) := by decide +kernel
theorem dZ_law_356 : decode xZ_law.2.1 356 = .ok (.invokevirtual 48, 3) := by decide +kernel
theorem dZ_law_359 : decode xZ_law.2.1 359 = .ok (.if_icmp .eq 357, 3) := by decide +kernel
theorem dZ_law_362 : decode xZ_law.2.1 362 = .ok (.iconst 0, 1) := by decide +kernel
theorem dZ_law_363 : decode xZ_law.2.1 363 = .ok (.ireturn, 1) := by decide +kernel
theorem dZ_law_364 : decode xZ_law.2.1 364 = .ok (.aload_n 1, 1) := by decide +kernel
theorem dZ_law_365 : decode xZ_law.2.1 365 = .ok (.invokevirtual 49, 3) := by decide +kernel
theorem dZ_law_368 : decode xZ_law.2.1 368 = .ok (.aload_n 2, 1) := by decide +kernel
theorem dZ_law_369 : decode xZ_law.2.1 369 = .ok (.invokevirtual 53, 3) := by decide +kernel
theorem dZ_law_372 : decode xZ_law.2.1 372 = .ok (.if_icmp .eq 344, 3) := by decide +kernel
theorem dZ_law_375 : decode xZ_law.2.1 375 = .ok (.iconst 0, 1) := by decide +kernel
theorem dZ_law_376 : decode xZ_law.2.1 376 = .ok (.ireturn, 1) := by decide +kernel
theorem dZ_law_377 : decode xZ_law.2.1 377 = .ok (.aload_n 1, 1) := by decide +kernel
theorem dZ_law_378 : decode xZ_law.2.1 378 = .ok (.aload_n 0, 1) := by decide +kernel
theorem dZ_law_379 : decode xZ_law.2.1 379 = .ok (.iload_n 3, 1) := by decide +kernel
theorem dZ_law_380 : decode xZ_law.2.1 380 = .ok (.iconst 1, 1) := by decide +kernel
theorem dZ_law_381 : decode xZ_law.2.1 381 = .ok (.iadd, 1) := by decide +kernel
theorem dZ_law_382 : decode xZ_law.2.1 382 = .ok (.iaload, 1) := by decide +kernel
theorem dZ_law_383 : decode xZ_law.2.1 383 = .ok (.invokevirtual 54, 3) := by decide +kernel
theorem dZ_law_386 : decode xZ_law.2.1 386 = .ok (.aload_n 2, 1) := by decide +kernel
theorem dZ_law_387 : decode xZ_law.2.1 387 = .ok (.aload_n 0, 1) := by decide +kernel
theorem dZ_law_388 : decode xZ_law.2.1 388 = .ok (.iload_n 3, 1) := by decide +kernel
theorem dZ_law_389 : decode xZ_law.2.1 389 = .ok (.iconst 1, 1) := by decide +kernel
theorem dZ_law_390 : decode xZ_law.2.1 390 = .ok (.iadd, 1) := by decide +kernel
theorem dZ_law_391 : decode xZ_law.2.1 391 = .ok (.iaload, 1) := by decide +kernel
theorem dZ_law_392 : decode xZ_law.2.1 392 = .ok (.invokevirtual 57, 3) := by decide +kernel
theorem dZ_law_395 : decode xZ_law.2.1 395 = .ok (.if_icmp .eq 321, 3) := by decide +kernel
theorem dZ_law_398 : decode xZ_law.2.1 398 = .ok (.iconst 0, 1) := by decide +kernel
theorem dZ_law_399 : decode xZ_law.2.1 399 = .ok (.ireturn, 1) := by decide +kernel
theorem dZ_law_400 : decode xZ_law.2.1 400 = .ok (.aload_n 1, 1) := by decide +kernel
theorem dZ_law_401 : decode xZ_law.2.1 401 = .ok (.aload_n 0, 1) := by decide +kernel
theorem dZ_law_402 : decode xZ_law.2.1 402 = .ok (.iload_n 3, 1) := by decide +kernel
theorem dZ_law_403 : decode xZ_law.2.1 403 = .ok (.iconst 1, 1) := by decide +kernel
theorem dZ_law_404 : decode xZ_law.2.1 404 = .ok (.iadd, 1) := by decide +kernel
theorem dZ_law_405 : decode xZ_law.2.1 405 = .ok (.iaload, 1) := by decide +kernel
theorem dZ_law_406 : decode xZ_law.2.1 406 = .ok (.invokevirtual 58, 3) := by decide +kernel
theorem dZ_law_409 : decode xZ_law.2.1 409 = .ok (.aload_n 2, 1) := by decide +kernel
theorem dZ_law_410 : decode xZ_law.2.1 410 = .ok (.aload_n 0, 1) := by decide +kernel
theorem dZ_law_411 : decode xZ_law.2.1 411 = .ok (.iload_n 3, 1) := by decide +kernel
theorem dZ_law_412 : decode xZ_law.2.1 412 = .ok (.iconst 1, 1) := by decide +kernel
theorem dZ_law_413 : decode xZ_law.2.1 413 = .ok (.iadd, 1) := by decide +kernel
theorem dZ_law_414 : decode xZ_law.2.1 414 = .ok (.iaload, 1) := by decide +kernel
theorem dZ_law_415 : decode xZ_law.2.1 415 = .ok (.invokevirtual 62, 3) := by decide +kernel
theorem dZ_law_418 : decode xZ_law.2.1 418 = .ok (.if_icmp .eq 298, 3) := by decide +kernel
theorem dZ_law_421 : decode xZ_law.2.1 421 = .ok (.iconst 0, 1) := by decide +kernel
theorem dZ_law_422 : decode xZ_law.2.1 422 = .ok (.ireturn, 1) := by decide +kernel
theorem dZ_law_423 : decode xZ_law.2.1 423 = .ok (.aload_n 1, 1) := by decide +kernel
theorem dZ_law_424 : decode xZ_law.2.1 424 = .ok (.aload_n 0, 1) := by decide +kernel
theorem dZ_law_425 : decode xZ_law.2.1 425 = .ok (.iload_n 3, 1) := by decide +kernel
theorem dZ_law_426 : decode xZ_law.2.1 426 = .ok (.iconst 1, 1) := by decide +kernel
theorem dZ_law_427 : decode xZ_law.2.1 427 = .ok (.iadd, 1) := by decide +kernel
theorem dZ_law_428 : decode xZ_law.2.1 428 = .ok (.iaload, 1) := by decide +kernel
theorem dZ_law_429 : decode xZ_law.2.1 429 = .ok (.invokevirtual 63, 3) := by decide +kernel
theorem dZ_law_432 : decode xZ_law.2.1 432 = .ok (.aload_n 2, 1) := by decide +kernel
theorem dZ_law_433 : decode xZ_law.2.1 433 = .ok (.aload_n 0, 1) := by decide +kernel
theorem dZ_law_434 : decode xZ_law.2.1 434 = .ok (.iload_n 3, 1) := by decide +kernel
theorem dZ_law_435 : decode xZ_law.2.1 435 = .ok (.iconst 1, 1) := by decide +kernel
theorem dZ_law_436 : decode xZ_law.2.1 436 = .ok (.iadd, 1) := by decide +kernel
theorem dZ_law_437 : decode xZ_law.2.1 437 = .ok (.iaload, 1) := by decide +kernel
theorem dZ_law_438 : decode xZ_law.2.1 438 = .ok (.invokevirtual 66, 3) := by decide +kernel
theorem dZ_law_441 : decode xZ_law.2.1 441 = .ok (.if_icmp .eq 275, 3) := by decide +kernel
theorem dZ_law_444 : decode xZ_law.2.1 444 = .ok (.iconst 0, 1) := by decide +kernel
theorem dZ_law_445 : decode xZ_law.2.1 445 = .ok (.ireturn, 1) := by decide +kernel
theorem dZ_law_446 : decode xZ_law.2.1 446 = .ok (.aload_n 1, 1) := by decide +kernel
theorem dZ_law_447 : decode xZ_law.2.1 447 = .ok (.aload_n 0, 1) := by decide +kernel
theorem dZ_law_448 : decode xZ_law.2.1 448 = .ok (.iload_n 3, 1) := by decide +kernel
theorem dZ_law_449 : decode xZ_law.2.1 449 = .ok (.iconst 1, 1) := by decide +kernel
theorem dZ_law_450 : decode xZ_law.2.1 450 = .ok (.iadd, 1) := by decide +kernel
theorem dZ_law_451 : decode xZ_law.2.1 451 = .ok (.iaload, 1) := by decide +kernel
theorem dZ_law_452 : decode xZ_law.2.1 452 = .ok (.invokevirtual 67, 3) := by decide +kernel
theorem dZ_law_455 : decode xZ_law.2.1 455 = .ok (.aload_n 2, 1) := by decide +kernel
theorem dZ_law_456 : decode xZ_law.2.1 456 = .ok (.aload_n 0, 1) := by decide +kernel
theorem dZ_law_457 : decode xZ_law.2.1 457 = .ok (.iload_n 3, 1) := by decide +kernel
theorem dZ_law_458 : decode xZ_law.2.1 458 = .ok (.iconst 1, 1) := by decide +kernel
theorem dZ_law_459 : decode xZ_law.2.1 459 = .ok (.iadd, 1) := by decide +kernel
theorem dZ_law_460 : decode xZ_law.2.1 460 = .ok (.iaload, 1) := by decide +kernel
theorem dZ_law_461 : decode xZ_law.2.1 461 = .ok (.invokevirtual 70, 3) := by decide +kernel
theorem dZ_law_464 : decode xZ_law.2.1 464 = .ok (.if_icmp .eq 252, 3) := by decide +kernel
theorem dZ_law_467 : decode xZ_law.2.1 467 = .ok (.iconst 0, 1) := by decide +kernel
theorem dZ_law_468 : decode xZ_law.2.1 468 = .ok (.ireturn, 1) := by decide +kernel
theorem dZ_law_469 : decode xZ_law.2.1 469 = .ok (.aload_n 1, 1) := by decide +kernel
theorem dZ_law_470 : decode xZ_law.2.1 470 = .ok (.aload_n 0, 1) := by decide +kernel
theorem dZ_law_471 : decode xZ_law.2.1 471 = .ok (.iload_n 3, 1) := by decide +kernel
theorem dZ_law_472 : decode xZ_law.2.1 472 = .ok (.iconst 1, 1) := by decide +kernel
theorem dZ_law_473 : decode xZ_law.2.1 473 = .ok (.iadd, 1) := by decide +kernel
theorem dZ_law_474 : decode xZ_law.2.1 474 = .ok (.iaload, 1) := by decide +kernel
theorem dZ_law_475 : decode xZ_law.2.1 475 = .ok (.aload_n 0, 1) := by decide +kernel
theorem dZ_law_476 : decode xZ_law.2.1 476 = .ok (.iload_n 3, 1) := by decide +kernel
theorem dZ_law_477 : decode xZ_law.2.1 477 = .ok (.iconst 2, 1) := by decide +kernel
theorem dZ_law_478 : decode xZ_law.2.1 478 = .ok (.iadd, 1) := by decide +kernel
theorem dZ_law_479 : decode xZ_law.2.1 479 = .ok (.iaload, 1) := by decide +kernel
theorem dZ_law_480 : decode xZ_law.2.1 480 = .ok (.invokevirtual 71, 3) := by decide +kernel
theorem dZ_law_483 : decode xZ_law.2.1 483 = .ok (.aload_n 2, 1) := by decide +kernel
theorem dZ_law_484 : decode xZ_law.2.1 484 = .ok (.aload_n 0, 1) := by decide +kernel
theorem dZ_law_485 : decode xZ_law.2.1 485 = .ok (.iload_n 3, 1) := by decide +kernel
theorem dZ_law_486 : decode xZ_law.2.1 486 = .ok (.iconst 1, 1) := by decide +kernel
theorem dZ_law_487 : decode xZ_law.2.1 487 = .ok (.iadd, 1) := by decide +kernel
theorem dZ_law_488 : decode xZ_law.2.1 488 = .ok (.iaload, 1) := by decide +kernel
theorem dZ_law_489 : decode xZ_law.2.1 489 = .ok (.aload_n 0, 1) := by decide +kernel
theorem dZ_law_490 : decode xZ_law.2.1 490 = .ok (.iload_n 3, 1) := by decide +kernel
theorem dZ_law_491 : decode xZ_law.2.1 491 = .ok (.iconst 2, 1) := by decide +kernel
theorem dZ_law_492 : decode xZ_law.2.1 492 = .ok (.iadd, 1) := by decide +kernel
theorem dZ_law_493 : decode xZ_law.2.1 493 = .ok (.iaload, 1) := by decide +kernel
theorem dZ_law_494 : decode xZ_law.2.1 494 = .ok (.invokevirtual 75, 3) := by decide +kernel
theorem dZ_law_497 : decode xZ_law.2.1 497 = .ok (.if_icmp .eq 219, 3) := by decide +kernel
theorem dZ_law_500 : decode xZ_law.2.1 500 = .ok (.iconst 0, 1) := by decide +kernel
theorem dZ_law_501 : decode xZ_law.2.1 501 = .ok (.ireturn, 1) := by decide +kernel
theorem dZ_law_502 : decode xZ_law.2.1 502 = .ok (.aload_n 1, 1) := by decide +kernel
theorem dZ_law_503 : decode xZ_law.2.1 503 = .ok (.aload_n 0, 1) := by decide +kernel
theorem dZ_law_504 : decode xZ_law.2.1 504 = .ok (.iload_n 3, 1) := by decide +kernel
theorem dZ_law_505 : decode xZ_law.2.1 505 = .ok (.iconst 1, 1) := by decide +kernel
theorem dZ_law_506 : decode xZ_law.2.1 506 = .ok (.iadd, 1) := by decide +kernel
theorem dZ_law_507 : decode xZ_law.2.1 507 = .ok (.iaload, 1) := by decide +kernel
theorem dZ_law_508 : decode xZ_law.2.1 508 = .ok (.invokevirtual 76, 3) := by decide +kernel
theorem dZ_law_511 : decode xZ_law.2.1 511 = .ok (.aload_n 2, 1) := by decide +kernel
theorem dZ_law_512 : decode xZ_law.2.1 512 = .ok (.aload_n 0, 1) := by decide +kernel
theorem dZ_law_513 : decode xZ_law.2.1 513 = .ok (.iload_n 3, 1) := by decide +kernel
theorem dZ_law_514 : decode xZ_law.2.1 514 = .ok (.iconst 1, 1) := by decide +kernel
theorem dZ_law_515 : decode xZ_law.2.1 515 = .ok (.iadd, 1) := by decide +kernel
theorem dZ_law_516 : decode xZ_law.2.1 516 = .ok (.iaload, 1) := by decide +kernel
theorem dZ_law_517 : decode xZ_law.2.1 517 = .ok (.invokevirtual 79, 3) := by decide +kernel
theorem dZ_law_520 : decode xZ_law.2.1 520 = .ok (.if_icmp .eq 196, 3) := by decide +kernel
theorem dZ_law_523 : decode xZ_law.2.1 523 = .ok (.iconst 0, 1) := by decide +kernel
theorem dZ_law_524 : decode xZ_law.2.1 524 = .ok (.ireturn, 1) := by decide +kernel
theorem dZ_law_525 : decode xZ_law.2.1 525 = .ok (.aload_n 1, 1) := by decide +kernel
theorem dZ_law_526 : decode xZ_law.2.1 526 = .ok (.aload_n 0, 1) := by decide +kernel
theorem dZ_law_527 : decode xZ_law.2.1 527 = .ok (.iload_n 3, 1) := by decide +kernel
theorem dZ_law_528 : decode xZ_law.2.1 528 = .ok (.iconst 1, 1) := by decide +kernel
theorem dZ_law_529 : decode xZ_law.2.1 529 = .ok (.iadd, 1) := by decide +kernel
theorem dZ_law_530 : decode xZ_law.2.1 530 = .ok (.iaload, 1) := by decide +kernel
theorem dZ_law_531 : decode xZ_law.2.1 531 = .ok (.invokevirtual 80, 3) := by decide +kernel
theorem dZ_law_534 : decode xZ_law.2.1 534 = .ok (.aload_n 2, 1) := by decide +kernel
theorem dZ_law_535 : decode xZ_law.2.1 535 = .ok (.aload_n 0, 1) := by decide +kernel
theorem dZ_law_536 : decode xZ_law.2.1 536 = .ok (.iload_n 3, 1) := by decide +kernel
theorem dZ_law_537 : decode xZ_law.2.1 537 = .ok (.iconst 1, 1) := by decide +kernel
theorem dZ_law_538 : decode xZ_law.2.1 538 = .ok (.iadd, 1) := by decide +kernel
theorem dZ_law_539 : decode xZ_law.2.1 539 = .ok (.iaload, 1) := by decide +kernel
theorem dZ_law_540 : decode xZ_law.2.1 540 = .ok (.invokevirtual 83, 3) := by decide +kernel
theorem dZ_law_543 : decode xZ_law.2.1 543 = .ok (.if_icmp .eq 173, 3) := by decide +kernel
theorem dZ_law_546 : decode xZ_law.2.1 546 = .ok (.iconst 0, 1) := by decide +kernel
theorem dZ_law_547 : decode xZ_law.2.1 547 = .ok (.ireturn, 1) := by decide +kernel
theorem dZ_law_548 : decode xZ_law.2.1 548 = .ok (.aload_n 1, 1) := by decide +kernel
theorem dZ_law_549 : decode xZ_law.2.1 549 = .ok (.aload_n 0, 1) := by decide +kernel
theorem dZ_law_550 : decode xZ_law.2.1 550 = .ok (.iload_n 3, 1) := by decide +kernel
theorem dZ_law_551 : decode xZ_law.2.1 551 = .ok (.iconst 1, 1) := by decide +kernel
theorem dZ_law_552 : decode xZ_law.2.1 552 = .ok (.iadd, 1) := by decide +kernel
theorem dZ_law_553 : decode xZ_law.2.1 553 = .ok (.iaload, 1) := by decide +kernel
theorem dZ_law_554 : decode xZ_law.2.1 554 = .ok (.invokevirtual 84, 3) := by decide +kernel
theorem dZ_law_557 : decode xZ_law.2.1 557 = .ok (.aload_n 2, 1) := by decide +kernel
theorem dZ_law_558 : decode xZ_law.2.1 558 = .ok (.aload_n 0, 1) := by decide +kernel
theorem dZ_law_559 : decode xZ_law.2.1 559 = .ok (.iload_n 3, 1) := by decide +kernel
theorem dZ_law_560 : decode xZ_law.2.1 560 = .ok (.iconst 1, 1) := by decide +kernel
theorem dZ_law_561 : decode xZ_law.2.1 561 = .ok (.iadd, 1) := by decide +kernel
theorem dZ_law_562 : decode xZ_law.2.1 562 = .ok (.iaload, 1) := by decide +kernel
theorem dZ_law_563 : decode xZ_law.2.1 563 = .ok (.invokevirtual 87, 3) := by decide +kernel
theorem dZ_law_566 : decode xZ_law.2.1 566 = .ok (.if_icmp .eq 150, 3) := by decide +kernel
theorem dZ_law_569 : decode xZ_law.2.1 569 = .ok (.iconst 0, 1) := by decide +kernel
theorem dZ_law_570 : decode xZ_law.2.1 570 = .ok (.ireturn, 1) := by decide +kernel
theorem dZ_law_571 : decode xZ_law.2.1 571 = .ok (.aload_n 1, 1) := by decide +kernel
theorem dZ_law_572 : decode xZ_law.2.1 572 = .ok (.aload_n 0, 1) := by decide +kernel
theorem dZ_law_573 : decode xZ_law.2.1 573 = .ok (.iload_n 3, 1) := by decide +kernel
theorem dZ_law_574 : decode xZ_law.2.1 574 = .ok (.iconst 1, 1) := by decide +kernel
theorem dZ_law_575 : decode xZ_law.2.1 575 = .ok (.iadd, 1) := by decide +kernel
theorem dZ_law_576 : decode xZ_law.2.1 576 = .ok (.iaload, 1) := by decide +kernel
theorem dZ_law_577 : decode xZ_law.2.1 577 = .ok (.aload_n 0, 1) := by decide +kernel
theorem dZ_law_578 : decode xZ_law.2.1 578 = .ok (.iload_n 3, 1) := by decide +kernel
theorem dZ_law_579 : decode xZ_law.2.1 579 = .ok (.iconst 2, 1) := by decide +kernel
theorem dZ_law_580 : decode xZ_law.2.1 580 = .ok (.iadd, 1) := by decide +kernel
theorem dZ_law_581 : decode xZ_law.2.1 581 = .ok (.iaload, 1) := by decide +kernel
theorem dZ_law_582 : decode xZ_law.2.1 582 = .ok (.invokevirtual 88, 3) := by decide +kernel
theorem dZ_law_585 : decode xZ_law.2.1 585 = .ok (.aload_n 2, 1) := by decide +kernel
theorem dZ_law_586 : decode xZ_law.2.1 586 = .ok (.aload_n 0, 1) := by decide +kernel
theorem dZ_law_587 : decode xZ_law.2.1 587 = .ok (.iload_n 3, 1) := by decide +kernel
theorem dZ_law_588 : decode xZ_law.2.1 588 = .ok (.iconst 1, 1) := by decide +kernel
theorem dZ_law_589 : decode xZ_law.2.1 589 = .ok (.iadd, 1) := by decide +kernel
theorem dZ_law_590 : decode xZ_law.2.1 590 = .ok (.iaload, 1) := by decide +kernel
theorem dZ_law_591 : decode xZ_law.2.1 591 = .ok (.aload_n 0, 1) := by decide +kernel
theorem dZ_law_592 : decode xZ_law.2.1 592 = .ok (.iload_n 3, 1) := by decide +kernel
theorem dZ_law_593 : decode xZ_law.2.1 593 = .ok (.iconst 2, 1) := by decide +kernel
theorem dZ_law_594 : decode xZ_law.2.1 594 = .ok (.iadd, 1) := by decide +kernel
theorem dZ_law_595 : decode xZ_law.2.1 595 = .ok (.iaload, 1) := by decide +kernel
theorem dZ_law_596 : decode xZ_law.2.1 596 = .ok (.invokevirtual 91, 3) := by decide +kernel
theorem dZ_law_599 : decode xZ_law.2.1 599 = .ok (.if_icmp .eq 117, 3) := by decide +kernel
theorem dZ_law_602 : decode xZ_law.2.1 602 = .ok (.iconst 0, 1) := by decide +kernel
theorem dZ_law_603 : decode xZ_law.2.1 603 = .ok (.ireturn, 1) := by decide +kernel
theorem dZ_law_604 : decode xZ_law.2.1 604 = .ok (.aload_n 1, 1) := by decide +kernel
theorem dZ_law_605 : decode xZ_law.2.1 605 = .ok (.aload_n 0, 1) := by decide +kernel
theorem dZ_law_606 : decode xZ_law.2.1 606 = .ok (.iload_n 3, 1) := by decide +kernel
theorem dZ_law_607 : decode xZ_law.2.1 607 = .ok (.iconst 1, 1) := by decide +kernel
theorem dZ_law_608 : decode xZ_law.2.1 608 = .ok (.iadd, 1) := by decide +kernel
theorem dZ_law_609 : decode xZ_law.2.1 609 = .ok (.iaload, 1) := by decide +kernel
theorem dZ_law_610 : decode xZ_law.2.1 610 = .ok (.invokevirtual 92, 3) := by decide +kernel
theorem dZ_law_613 : decode xZ_law.2.1 613 = .ok (.aload_n 2, 1) := by decide +kernel
theorem dZ_law_614 : decode xZ_law.2.1 614 = .ok (.aload_n 0, 1) := by decide +kernel
theorem dZ_law_615 : decode xZ_law.2.1 615 = .ok (.iload_n 3, 1) := by decide +kernel
theorem dZ_law_616 : decode xZ_law.2.1 616 = .ok (.iconst 1, 1) := by decide +kernel
theorem dZ_law_617 : decode xZ_law.2.1 617 = .ok (.iadd, 1) := by decide +kernel
theorem dZ_law_618 : decode xZ_law.2.1 618 = .ok (.iaload, 1) := by decide +kernel
theorem dZ_law_619 : decode xZ_law.2.1 619 = .ok (.invokevirtual 95, 3) := by decide +kernel
theorem dZ_law_622 : decode xZ_law.2.1 622 = .ok (.if_icmp .eq 94, 3) := by decide +kernel
theorem dZ_law_625 : decode xZ_law.2.1 625 = .ok (.iconst 0, 1) := by decide +kernel
theorem dZ_law_626 : decode xZ_law.2.1 626 = .ok (.ireturn, 1) := by decide +kernel
theorem dZ_law_627 : decode xZ_law.2.1 627 = .ok (.aload_n 1, 1) := by decide +kernel
theorem dZ_law_628 : decode xZ_law.2.1 628 = .ok (.aload_n 0, 1) := by decide +kernel
theorem dZ_law_629 : decode xZ_law.2.1 629 = .ok (.iload_n 3, 1) := by decide +kernel
theorem dZ_law_630 : decode xZ_law.2.1 630 = .ok (.iconst 1, 1) := by decide +kernel
theorem dZ_law_631 : decode xZ_law.2.1 631 = .ok (.iadd, 1) := by decide +kernel
theorem dZ_law_632 : decode xZ_law.2.1 632 = .ok (.iaload, 1) := by decide +kernel
theorem dZ_law_633 : decode xZ_law.2.1 633 = .ok (.aload_n 0, 1) := by decide +kernel
theorem dZ_law_634 : decode xZ_law.2.1 634 = .ok (.iload_n 3, 1) := by decide +kernel
theorem dZ_law_635 : decode xZ_law.2.1 635 = .ok (.iconst 2, 1) := by decide +kernel
theorem dZ_law_636 : decode xZ_law.2.1 636 = .ok (.iadd, 1) := by decide +kernel
theorem dZ_law_637 : decode xZ_law.2.1 637 = .ok (.iaload, 1) := by decide +kernel
theorem dZ_law_638 : decode xZ_law.2.1 638 = .ok (.invokevirtual 96, 3) := by decide +kernel
theorem dZ_law_641 : decode xZ_law.2.1 641 = .ok (.aload_n 2, 1) := by decide +kernel
theorem dZ_law_642 : decode xZ_law.2.1 642 = .ok (.aload_n 0, 1) := by decide +kernel
theorem dZ_law_643 : decode xZ_law.2.1 643 = .ok (.iload_n 3, 1) := by decide +kernel
theorem dZ_law_644 : decode xZ_law.2.1 644 = .ok (.iconst 1, 1) := by decide +kernel
theorem dZ_law_645 : decode xZ_law.2.1 645 = .ok (.iadd, 1) := by decide +kernel
theorem dZ_law_646 : decode xZ_law.2.1 646 = .ok (.iaload, 1) := by decide +kernel
theorem dZ_law_647 : decode xZ_law.2.1 647 = .ok (.aload_n 0, 1) := by decide +kernel
theorem dZ_law_648 : decode xZ_law.2.1 648 = .ok (.iload_n 3, 1) := by decide +kernel
theorem dZ_law_649 : decode xZ_law.2.1 649 = .ok (.iconst 2, 1) := by decide +kernel
theorem dZ_law_650 : decode xZ_law.2.1 650 = .ok (.iadd, 1) := by decide +kernel
theorem dZ_law_651 : decode xZ_law.2.1 651 = .ok (.iaload, 1) := by decide +kernel
theorem dZ_law_652 : decode xZ_law.2.1 652 = .ok (.invokevirtual 99, 3) := by decide +kernel
theorem dZ_law_655 : decode xZ_law.2.1 655 = .ok (.if_icmp .eq 61, 3) := by decide +kernel
theorem dZ_law_658 : decode xZ_law.2.1 658 = .ok (.iconst 0, 1) := by decide +kernel
theorem dZ_law_659 : decode xZ_law.2.1 659 = .ok (.ireturn, 1) := by decide +kernel
theorem dZ_law_660 : decode xZ_law.2.1 660 = .ok (.aload_n 1, 1) := by decide +kernel
theorem dZ_law_661 : decode xZ_law.2.1 661 = .ok (.aload_n 0, 1) := by decide +kernel
theorem dZ_law_662 : decode xZ_law.2.1 662 = .ok (.iload_n 3, 1) := by decide +kernel
theorem dZ_law_663 : decode xZ_law.2.1 663 = .ok (.iconst 1, 1) := by decide +kernel
theorem dZ_law_664 : decode xZ_law.2.1 664 = .ok (.iadd, 1) := by decide +kernel
theorem dZ_law_665 : decode xZ_law.2.1 665 = .ok (.iaload, 1) := by decide +kernel
theorem dZ_law_666 : decode xZ_law.2.1 666 = .ok (.invokevirtual 100, 3) := by decide +kernel
theorem dZ_law_669 : decode xZ_law.2.1 669 = .ok (.aload_n 2, 1) := by decide +kernel
theorem dZ_law_670 : decode xZ_law.2.1 670 = .ok (.aload_n 0, 1) := by decide +kernel
theorem dZ_law_671 : decode xZ_law.2.1 671 = .ok (.iload_n 3, 1) := by decide +kernel
theorem dZ_law_672 : decode xZ_law.2.1 672 = .ok (.iconst 1, 1) := by decide +kernel
theorem dZ_law_673 : decode xZ_law.2.1 673 = .ok (.iadd, 1) := by decide +kernel
theorem dZ_law_674 : decode xZ_law.2.1 674 = .ok (.iaload, 1) := by decide +kernel
theorem dZ_law_675 : decode xZ_law.2.1 675 = .ok (.invokevirtual 103, 3) := by decide +kernel
theorem dZ_law_678 : decode xZ_law.2.1 678 = .ok (.if_icmp .eq 38, 3) := by decide +kernel
theorem dZ_law_681 : decode xZ_law.2.1 681 = .ok (.iconst 0, 1) := by decide +kernel
theorem dZ_law_682 : decode xZ_law.2.1 682 = .ok (.ireturn, 1) := by decide +kernel
theorem dZ_law_683 : decode xZ_law.2.1 683 = .ok (.aload_n 1, 1) := by decide +kernel
theorem dZ_law_684 : decode xZ_law.2.1 684 = .ok (.aload_n 0, 1) := by decide +kernel
theorem dZ_law_685 : decode xZ_law.2.1 685 = .ok (.iload_n 3, 1) := by decide +kernel
theorem dZ_law_686 : decode xZ_law.2.1 686 = .ok (.iconst 1, 1) := by decide +kernel
theorem dZ_law_687 : decode xZ_law.2.1 687 = .ok (.iadd, 1) := by decide +kernel
theorem dZ_law_688 : decode xZ_law.2.1 688 = .ok (.iaload, 1) := by decide +kernel
theorem dZ_law_689 : decode xZ_law.2.1 689 = .ok (.aload_n 0, 1) := by decide +kernel
theorem dZ_law_690 : decode xZ_law.2.1 690 = .ok (.iload_n 3, 1) := by decide +kernel
theorem dZ_law_691 : decode xZ_law.2.1 691 = .ok (.iconst 2, 1) := by decide +kernel
theorem dZ_law_692 : decode xZ_law.2.1 692 = .ok (.iadd, 1) := by decide +kernel
theorem dZ_law_693 : decode xZ_law.2.1 693 = .ok (.iaload, 1) := by decide +kernel
theorem dZ_law_694 : decode xZ_law.2.1 694 = .ok (.invokevirtual 104, 3) := by decide +kernel
theorem dZ_law_697 : decode xZ_law.2.1 697 = .ok (.aload_n 2, 1) := by decide +kernel
theorem dZ_law_698 : decode xZ_law.2.1 698 = .ok (.aload_n 0, 1) := by decide +kernel
theorem dZ_law_699 : decode xZ_law.2.1 699 = .ok (.iload_n 3, 1) := by decide +kernel
theorem dZ_law_700 : decode xZ_law.2.1 700 = .ok (.iconst 1, 1) := by decide +kernel
theorem dZ_law_701 : decode xZ_law.2.1 701 = .ok (.iadd, 1) := by decide +kernel
theorem dZ_law_702 : decode xZ_law.2.1 702 = .ok (.iaload, 1) := by decide +kernel
theorem dZ_law_703 : decode xZ_law.2.1 703 = .ok (.aload_n 0, 1) := by decide +kernel
theorem dZ_law_704 : decode xZ_law.2.1 704 = .ok (.iload_n 3, 1) := by decide +kernel
theorem dZ_law_705 : decode xZ_law.2.1 705 = .ok (.iconst 2, 1) := by decide +kernel
theorem dZ_law_706 : decode xZ_law.2.1 706 = .ok (.iadd, 1) := by decide +kernel
theorem dZ_law_707 : decode xZ_law.2.1 707 = .ok (.iaload, 1) := by decide +kernel
theorem dZ_law_708 : decode xZ_law.2.1 708 = .ok (.invokevirtual 107, 3) := by decide +kernel
theorem dZ_law_711 : decode xZ_law.2.1 711 = .ok (.if_icmp .eq 5, 3) := by decide +kernel
theorem dZ_law_714 : decode xZ_law.2.1 714 = .ok (.iconst 0, 1) := by decide +kernel
theorem dZ_law_715 : decode xZ_law.2.1 715 = .ok (.ireturn, 1) := by decide +kernel
theorem dZ_law_716 : decode xZ_law.2.1 716 = .ok (.iinc 3 5, 3) := by decide +kernel
theorem dZ_law_719 : decode xZ_law.2.1 719 = .ok (.goto (-691), 3) := by decide +kernel
theorem dZ_law_722 : decode xZ_law.2.1 722 = .ok (.iconst 1, 1) := by decide +kernel
theorem dZ_law_723 : decode xZ_law.2.1 723 = .ok (.ireturn, 1) := by decide +kernel
end
section
/-! What each link of the code says, written by wip/whole/gen/links.py. -/
theorem mlL_20 : ml_ok "LeasedPages" 20 xN_init 0 := ⟨bw_33, bw_3, by decide +kernel, by decide, Or.inr ⟨_, nw_0⟩⟩
theorem pfL_21_L : pf_ok ⟨"LeasedPages", "<init>", "(I)V"⟩ 21 0 0 true (.object "LeasedPages$Network") := ⟨_, "LeasedPages", rfl, by decide, Or.inl rfl, by decide +kernel, by decide +kernel, Or.inr ⟨rfl, rfl, rfl, bw_187⟩⟩
theorem flL_21_L : fl_ok "LeasedPages" 21 0 0 true := ⟨_, "LeasedPages", rfl, by decide, Or.inl bw_187, Or.inl rfl, by decide +kernel⟩
theorem mlL_27 : ml_ok "LeasedPages" 27 xS_init 2 := ⟨bw_49, bw_4, by decide +kernel, by decide, Or.inl bw_47⟩
theorem pfL_30_L : pf_ok ⟨"LeasedPages", "<init>", "(I)V"⟩ 30 0 1 true (.object "LeasedPages$Server") := ⟨_, "LeasedPages", rfl, by decide, Or.inl rfl, by decide +kernel, by decide +kernel, Or.inr ⟨rfl, rfl, rfl, bw_188⟩⟩
theorem pfL_36_L : pf_ok ⟨"LeasedPages", "<init>", "(I)V"⟩ 36 0 2 true (.array (.object "LeasedPages$Client")) := ⟨_, "LeasedPages", rfl, by decide, Or.inl rfl, by decide +kernel, by decide +kernel, Or.inr ⟨rfl, rfl, rfl, bw_189⟩⟩
theorem flL_36_L : fl_ok "LeasedPages" 36 0 2 true := ⟨_, "LeasedPages", rfl, by decide, Or.inl bw_189, Or.inl rfl, by decide +kernel⟩
theorem mlL_40 : ml_ok "LeasedPages" 40 xC_init 3 := ⟨bw_117, bw_6, by decide +kernel, by decide, Or.inl bw_115⟩
theorem mlL_43 : ml_ok "LeasedPages" 43 xL_clientThatIsUp 1 := ⟨bw_204, bw_1, by decide +kernel, by decide, Or.inl bw_201⟩
theorem mlL_47 : ml_ok "LeasedPages" 47 xL_isFile 1 := ⟨bw_210, bw_1, by decide +kernel, by decide, Or.inl bw_208⟩
theorem flL_51_C : fl_ok "LeasedPages" 51 4 9 true := ⟨_, "LeasedPages$Client", rfl, by decide, Or.inr ⟨_, nw_18⟩, Or.inl rfl, by decide +kernel⟩
theorem mlL_55 : ml_ok "LeasedPages" 55 xC_askForLease 2 := ⟨bw_214, bw_6, by decide +kernel, by decide, Or.inl bw_211⟩
theorem mlL_58 : ml_ok "LeasedPages" 58 xL_isPage 1 := ⟨bw_309, bw_1, by decide +kernel, by decide, Or.inl bw_307⟩
theorem mlL_61 : ml_ok "LeasedPages" 61 xC_readPage 2 := ⟨bw_313, bw_6, by decide +kernel, by decide, Or.inl bw_310⟩
theorem mlL_64 : ml_ok "LeasedPages" 64 xC_canRead 1 := ⟨bw_317, bw_6, by decide +kernel, by decide, Or.inl bw_314⟩
theorem mlL_68 : ml_ok "LeasedPages" 68 xC_writePage 3 := ⟨bw_325, bw_6, by decide +kernel, by decide, Or.inl bw_322⟩
theorem mlL_72 : ml_ok "LeasedPages" 72 xC_storeFirstWrite 0 := ⟨bw_354, bw_6, by decide +kernel, by decide, Or.inl bw_351⟩
theorem mlL_76 : ml_ok "LeasedPages" 76 xC_hasWritesTo 1 := ⟨bw_226, bw_6, by decide +kernel, by decide, Or.inl bw_362⟩
theorem mlL_79 : ml_ok "LeasedPages" 79 xC_giveBack 1 := ⟨bw_366, bw_6, by decide +kernel, by decide, Or.inl bw_363⟩
theorem mlL_82 : ml_ok "LeasedPages" 82 xC_sendAgain 0 := ⟨bw_377, bw_6, by decide +kernel, by decide, Or.inl bw_374⟩
theorem flL_85_N : fl_ok "LeasedPages" 85 1 1 false := ⟨_, "LeasedPages$Network", rfl, by decide, Or.inr ⟨_, nw_1⟩, Or.inl rfl, by decide +kernel⟩
theorem mlL_89 : ml_ok "LeasedPages" 89 xN_at 1 := ⟨bw_389, bw_3, by decide +kernel, by decide, Or.inl bw_386⟩
theorem mlL_93 : ml_ok "LeasedPages" 93 xG_code 0 := ⟨bw_396, bw_9, by decide +kernel, by decide, Or.inl bw_390⟩
theorem mlL_98 : ml_ok "LeasedPages" 98 xN_takeOut 1 := ⟨bw_406, bw_3, by decide +kernel, by decide, Or.inl bw_403⟩
theorem flL_30_L : fl_ok "LeasedPages" 30 0 1 true := ⟨_, "LeasedPages", rfl, by decide, Or.inl bw_188, Or.inl rfl, by decide +kernel⟩
theorem mlL_103 : ml_ok "LeasedPages" 103 xS_requestArrives 1 := ⟨bw_412, bw_4, by decide +kernel, by decide, Or.inl bw_409⟩
theorem flL_109_P : fl_ok "LeasedPages" 109 8 1 false := ⟨_, "LeasedPages$Reply", rfl, by decide, Or.inl bw_259, Or.inr bw_260, by decide +kernel⟩
theorem mlL_112 : ml_ok "LeasedPages" 112 xC_replyArrives 1 := ⟨bw_523, bw_6, by decide +kernel, by decide, Or.inl bw_520⟩
theorem flL_116_G : fl_ok "LeasedPages" 116 6 1 false := ⟨_, "LeasedPages$Message", rfl, by decide, Or.inl bw_261, Or.inl rfl, by decide +kernel⟩
theorem flL_116_R : fl_ok "LeasedPages" 116 7 1 false := ⟨_, "LeasedPages$Message", rfl, by decide, Or.inl bw_261, Or.inl rfl, by decide +kernel⟩
theorem flL_116_P : fl_ok "LeasedPages" 116 8 1 false := ⟨_, "LeasedPages$Message", rfl, by decide, Or.inl bw_261, Or.inl rfl, by decide +kernel⟩
theorem flL_117_G : fl_ok "LeasedPages" 117 6 2 false := ⟨_, "LeasedPages$Message", rfl, by decide, Or.inl bw_267, Or.inl rfl, by decide +kernel⟩
theorem flL_117_R : fl_ok "LeasedPages" 117 7 2 false := ⟨_, "LeasedPages$Message", rfl, by decide, Or.inl bw_267, Or.inl rfl, by decide +kernel⟩
theorem flL_117_P : fl_ok "LeasedPages" 117 8 2 false := ⟨_, "LeasedPages$Message", rfl, by decide, Or.inl bw_267, Or.inl rfl, by decide +kernel⟩
theorem mlL_120 : ml_ok "LeasedPages" 120 xC_recallArrives 1 := ⟨bw_554, bw_6, by decide +kernel, by decide, Or.inl bw_551⟩
theorem mlL_124 : ml_ok "LeasedPages" 124 xN_send 1 := ⟨bw_302, bw_3, by decide +kernel, by decide, Or.inl bw_563⟩
theorem mlL_128 : ml_ok "LeasedPages" 128 xL_isNode 1 := ⟨bw_570, bw_1, by decide +kernel, by decide, Or.inl bw_568⟩
theorem mlL_131 : ml_ok "LeasedPages" 131 xL_isUp 1 := ⟨bw_574, bw_1, by decide +kernel, by decide, Or.inl bw_571⟩
theorem mlL_134 : ml_ok "LeasedPages" 134 xS_advance 1 := ⟨bw_578, bw_4, by decide +kernel, by decide, Or.inl bw_575⟩
theorem flL_137_C : fl_ok "LeasedPages" 137 4 7 false := ⟨_, "LeasedPages$Client", rfl, by decide, Or.inr ⟨_, nw_17⟩, Or.inl rfl, by decide +kernel⟩
theorem pfL_137_C {n d : String} : pf_ok ⟨"LeasedPages", n, d⟩ 137 4 7 false (.int) := ⟨_, "LeasedPages$Client", rfl, by decide, Or.inl rfl, by decide +kernel, by decide +kernel, Or.inl ⟨rfl, Or.inr ⟨_, nw_17⟩⟩⟩
theorem mlL_140 : ml_ok "LeasedPages" 140 xS_goDown 0 := ⟨bw_590, bw_4, by decide +kernel, by decide, Or.inl bw_587⟩
theorem mlL_143 : ml_ok "LeasedPages" 143 xC_goDown 0 := ⟨bw_601, bw_6, by decide +kernel, by decide, Or.inl bw_598⟩
theorem mlL_144 : ml_ok "LeasedPages" 144 xS_comeUp 0 := ⟨bw_614, bw_4, by decide +kernel, by decide, Or.inl bw_611⟩
theorem pfL_147_C {n d : String} : pf_ok ⟨"LeasedPages", n, d⟩ 147 4 6 false (.boolean) := ⟨_, "LeasedPages$Client", rfl, by decide, Or.inl rfl, by decide +kernel, by decide +kernel, Or.inl ⟨rfl, Or.inr ⟨_, nw_16⟩⟩⟩
theorem flL_151_S : fl_ok "LeasedPages" 151 2 8 false := ⟨_, "LeasedPages$Server", rfl, by decide, Or.inr ⟨_, nw_8⟩, Or.inl rfl, by decide +kernel⟩
theorem mlL_152 : ml_ok "LeasedPages" 152 xC_leaseAndMarks 1 := ⟨bw_626, bw_6, by decide +kernel, by decide, Or.inl bw_623⟩
theorem flL_155_C : fl_ok "LeasedPages" 155 4 5 false := ⟨_, "LeasedPages$Client", rfl, by decide, Or.inr ⟨_, nw_15⟩, Or.inl rfl, by decide +kernel⟩
theorem mlL_158 : ml_ok "LeasedPages" 158 xL_isClient 1 := ⟨bw_207, bw_1, by decide +kernel, by decide, Or.inl bw_205⟩
theorem mlL_161 : ml_ok "LeasedPages" 161 xS_leaseAndRest 2 := ⟨bw_638, bw_4, by decide +kernel, by decide, Or.inl bw_635⟩
theorem flL_164_S : fl_ok "LeasedPages" 164 2 6 true := ⟨_, "LeasedPages$Server", rfl, by decide, Or.inr ⟨_, nw_6⟩, Or.inl rfl, by decide +kernel⟩
theorem flL_168_Q : fl_ok "LeasedPages" 168 3 1 false := ⟨_, "LeasedPages$Line", rfl, by decide, Or.inr ⟨_, nw_4⟩, Or.inl rfl, by decide +kernel⟩
theorem flL_173_S : fl_ok "LeasedPages" 173 2 2 true := ⟨_, "LeasedPages$Server", rfl, by decide, Or.inr ⟨_, nw_5⟩, Or.inl rfl, by decide +kernel⟩
theorem flL_177_S : fl_ok "LeasedPages" 177 2 7 false := ⟨_, "LeasedPages$Server", rfl, by decide, Or.inr ⟨_, nw_7⟩, Or.inl rfl, by decide +kernel⟩
theorem flL_147_C : fl_ok "LeasedPages" 147 4 6 false := ⟨_, "LeasedPages$Client", rfl, by decide, Or.inr ⟨_, nw_16⟩, Or.inl rfl, by decide +kernel⟩
theorem pfM_7_M : pf_ok ⟨"LeasedPagesModel", "<init>", "(I)V"⟩ 7 10 1 true (.array (.boolean)) := ⟨_, "LeasedPagesModel", rfl, by decide, Or.inl rfl, by decide +kernel, by decide +kernel, Or.inr ⟨rfl, rfl, rfl, bw_657⟩⟩
theorem pfM_13_M : pf_ok ⟨"LeasedPagesModel", "<init>", "(I)V"⟩ 13 10 2 true (.array (.int)) := ⟨_, "LeasedPagesModel", rfl, by decide, Or.inl rfl, by decide +kernel, by decide +kernel, Or.inr ⟨rfl, rfl, rfl, bw_658⟩⟩
theorem pfM_17_M : pf_ok ⟨"LeasedPagesModel", "<init>", "(I)V"⟩ 17 10 3 true (.array (.int)) := ⟨_, "LeasedPagesModel", rfl, by decide, Or.inl rfl, by decide +kernel, by decide +kernel, Or.inr ⟨rfl, rfl, rfl, bw_659⟩⟩
theorem pfM_20_M : pf_ok ⟨"LeasedPagesModel", "<init>", "(I)V"⟩ 20 10 4 true (.array (.int)) := ⟨_, "LeasedPagesModel", rfl, by decide, Or.inl rfl, by decide +kernel, by decide +kernel, Or.inr ⟨rfl, rfl, rfl, bw_660⟩⟩
theorem pfM_23_M : pf_ok ⟨"LeasedPagesModel", "<init>", "(I)V"⟩ 23 10 5 true (.array (.int)) := ⟨_, "LeasedPagesModel", rfl, by decide, Or.inl rfl, by decide +kernel, by decide +kernel, Or.inr ⟨rfl, rfl, rfl, bw_661⟩⟩
theorem pfM_26_M : pf_ok ⟨"LeasedPagesModel", "<init>", "(I)V"⟩ 26 10 7 true (.array (.int)) := ⟨_, "LeasedPagesModel", rfl, by decide, Or.inl rfl, by decide +kernel, by decide +kernel, Or.inr ⟨rfl, rfl, rfl, bw_663⟩⟩
theorem pfM_29_M : pf_ok ⟨"LeasedPagesModel", "<init>", "(I)V"⟩ 29 10 8 true (.array (.int)) := ⟨_, "LeasedPagesModel", rfl, by decide, Or.inl rfl, by decide +kernel, by decide +kernel, Or.inr ⟨rfl, rfl, rfl, bw_664⟩⟩
theorem pfM_32_M : pf_ok ⟨"LeasedPagesModel", "<init>", "(I)V"⟩ 32 10 9 true (.array (.int)) := ⟨_, "LeasedPagesModel", rfl, by decide, Or.inl rfl, by decide +kernel, by decide +kernel, Or.inr ⟨rfl, rfl, rfl, bw_665⟩⟩
theorem pfM_35_M : pf_ok ⟨"LeasedPagesModel", "<init>", "(I)V"⟩ 35 10 10 true (.array (.int)) := ⟨_, "LeasedPagesModel", rfl, by decide, Or.inl rfl, by decide +kernel, by decide +kernel, Or.inr ⟨rfl, rfl, rfl, bw_666⟩⟩
theorem pfM_38_M : pf_ok ⟨"LeasedPagesModel", "<init>", "(I)V"⟩ 38 10 11 true (.array (.boolean)) := ⟨_, "LeasedPagesModel", rfl, by decide, Or.inl rfl, by decide +kernel, by decide +kernel, Or.inr ⟨rfl, rfl, rfl, bw_667⟩⟩
theorem pfM_41_M : pf_ok ⟨"LeasedPagesModel", "<init>", "(I)V"⟩ 41 10 12 true (.array (.int)) := ⟨_, "LeasedPagesModel", rfl, by decide, Or.inl rfl, by decide +kernel, by decide +kernel, Or.inr ⟨rfl, rfl, rfl, bw_668⟩⟩
theorem pfM_44_M : pf_ok ⟨"LeasedPagesModel", "<init>", "(I)V"⟩ 44 10 13 true (.array (.int)) := ⟨_, "LeasedPagesModel", rfl, by decide, Or.inl rfl, by decide +kernel, by decide +kernel, Or.inr ⟨rfl, rfl, rfl, bw_669⟩⟩
theorem pfM_47_M : pf_ok ⟨"LeasedPagesModel", "<init>", "(I)V"⟩ 47 10 14 true (.array (.int)) := ⟨_, "LeasedPagesModel", rfl, by decide, Or.inl rfl, by decide +kernel, by decide +kernel, Or.inr ⟨rfl, rfl, rfl, bw_670⟩⟩
theorem pfM_50_M : pf_ok ⟨"LeasedPagesModel", "<init>", "(I)V"⟩ 50 10 15 true (.array (.int)) := ⟨_, "LeasedPagesModel", rfl, by decide, Or.inl rfl, by decide +kernel, by decide +kernel, Or.inr ⟨rfl, rfl, rfl, bw_671⟩⟩
theorem pfM_53_M : pf_ok ⟨"LeasedPagesModel", "<init>", "(I)V"⟩ 53 10 16 true (.array (.int)) := ⟨_, "LeasedPagesModel", rfl, by decide, Or.inl rfl, by decide +kernel, by decide +kernel, Or.inr ⟨rfl, rfl, rfl, bw_672⟩⟩
theorem pfM_56_M : pf_ok ⟨"LeasedPagesModel", "<init>", "(I)V"⟩ 56 10 18 true (.array (.int)) := ⟨_, "LeasedPagesModel", rfl, by decide, Or.inl rfl, by decide +kernel, by decide +kernel, Or.inr ⟨rfl, rfl, rfl, bw_674⟩⟩
theorem pfM_59_M : pf_ok ⟨"LeasedPagesModel", "<init>", "(I)V"⟩ 59 10 19 true (.array (.int)) := ⟨_, "LeasedPagesModel", rfl, by decide, Or.inl rfl, by decide +kernel, by decide +kernel, Or.inr ⟨rfl, rfl, rfl, bw_675⟩⟩
theorem pfM_62_M : pf_ok ⟨"LeasedPagesModel", "<init>", "(I)V"⟩ 62 10 20 true (.array (.int)) := ⟨_, "LeasedPagesModel", rfl, by decide, Or.inl rfl, by decide +kernel, by decide +kernel, Or.inr ⟨rfl, rfl, rfl, bw_676⟩⟩
theorem pfM_65_M : pf_ok ⟨"LeasedPagesModel", "<init>", "(I)V"⟩ 65 10 21 true (.array (.boolean)) := ⟨_, "LeasedPagesModel", rfl, by decide, Or.inl rfl, by decide +kernel, by decide +kernel, Or.inr ⟨rfl, rfl, rfl, bw_677⟩⟩
theorem pfM_68_M : pf_ok ⟨"LeasedPagesModel", "<init>", "(I)V"⟩ 68 10 22 true (.array (.boolean)) := ⟨_, "LeasedPagesModel", rfl, by decide, Or.inl rfl, by decide +kernel, by decide +kernel, Or.inr ⟨rfl, rfl, rfl, bw_678⟩⟩
theorem pfM_71_M : pf_ok ⟨"LeasedPagesModel", "<init>", "(I)V"⟩ 71 10 23 true (.array (.int)) := ⟨_, "LeasedPagesModel", rfl, by decide, Or.inl rfl, by decide +kernel, by decide +kernel, Or.inr ⟨rfl, rfl, rfl, bw_679⟩⟩
theorem pfM_74_M : pf_ok ⟨"LeasedPagesModel", "<init>", "(I)V"⟩ 74 10 24 true (.array (.int)) := ⟨_, "LeasedPagesModel", rfl, by decide, Or.inl rfl, by decide +kernel, by decide +kernel, Or.inr ⟨rfl, rfl, rfl, bw_680⟩⟩
theorem pfM_77_M : pf_ok ⟨"LeasedPagesModel", "<init>", "(I)V"⟩ 77 10 25 true (.array (.int)) := ⟨_, "LeasedPagesModel", rfl, by decide, Or.inl rfl, by decide +kernel, by decide +kernel, Or.inr ⟨rfl, rfl, rfl, bw_681⟩⟩
theorem pfM_80_M : pf_ok ⟨"LeasedPagesModel", "<init>", "(I)V"⟩ 80 10 26 true (.array (.int)) := ⟨_, "LeasedPagesModel", rfl, by decide, Or.inl rfl, by decide +kernel, by decide +kernel, Or.inr ⟨rfl, rfl, rfl, bw_682⟩⟩
theorem pfM_83_M : pf_ok ⟨"LeasedPagesModel", "<init>", "(I)V"⟩ 83 10 27 true (.array (.int)) := ⟨_, "LeasedPagesModel", rfl, by decide, Or.inl rfl, by decide +kernel, by decide +kernel, Or.inr ⟨rfl, rfl, rfl, bw_683⟩⟩
theorem pfM_86_M : pf_ok ⟨"LeasedPagesModel", "<init>", "(I)V"⟩ 86 10 28 true (.array (.int)) := ⟨_, "LeasedPagesModel", rfl, by decide, Or.inl rfl, by decide +kernel, by decide +kernel, Or.inr ⟨rfl, rfl, rfl, bw_684⟩⟩
theorem pfM_89_M : pf_ok ⟨"LeasedPagesModel", "<init>", "(I)V"⟩ 89 10 29 true (.array (.int)) := ⟨_, "LeasedPagesModel", rfl, by decide, Or.inl rfl, by decide +kernel, by decide +kernel, Or.inr ⟨rfl, rfl, rfl, bw_685⟩⟩
theorem pfM_92_M : pf_ok ⟨"LeasedPagesModel", "<init>", "(I)V"⟩ 92 10 30 true (.array (.boolean)) := ⟨_, "LeasedPagesModel", rfl, by decide, Or.inl rfl, by decide +kernel, by decide +kernel, Or.inr ⟨rfl, rfl, rfl, bw_686⟩⟩
theorem pfM_95_M : pf_ok ⟨"LeasedPagesModel", "<init>", "(I)V"⟩ 95 10 31 true (.array (.int)) := ⟨_, "LeasedPagesModel", rfl, by decide, Or.inl rfl, by decide +kernel, by decide +kernel, Or.inr ⟨rfl, rfl, rfl, bw_687⟩⟩
theorem pfM_98_M : pf_ok ⟨"LeasedPagesModel", "<init>", "(I)V"⟩ 98 10 32 true (.array (.int)) := ⟨_, "LeasedPagesModel", rfl, by decide, Or.inl rfl, by decide +kernel, by decide +kernel, Or.inr ⟨rfl, rfl, rfl, bw_688⟩⟩
theorem pfM_101_M : pf_ok ⟨"LeasedPagesModel", "<init>", "(I)V"⟩ 101 10 33 true (.array (.int)) := ⟨_, "LeasedPagesModel", rfl, by decide, Or.inl rfl, by decide +kernel, by decide +kernel, Or.inr ⟨rfl, rfl, rfl, bw_689⟩⟩
theorem pfM_104_M : pf_ok ⟨"LeasedPagesModel", "<init>", "(I)V"⟩ 104 10 35 true (.array (.int)) := ⟨_, "LeasedPagesModel", rfl, by decide, Or.inl rfl, by decide +kernel, by decide +kernel, Or.inr ⟨rfl, rfl, rfl, bw_691⟩⟩
theorem pfM_107_M : pf_ok ⟨"LeasedPagesModel", "<init>", "(I)V"⟩ 107 10 36 true (.array (.int)) := ⟨_, "LeasedPagesModel", rfl, by decide, Or.inl rfl, by decide +kernel, by decide +kernel, Or.inr ⟨rfl, rfl, rfl, bw_692⟩⟩
theorem pfM_110_M : pf_ok ⟨"LeasedPagesModel", "<init>", "(I)V"⟩ 110 10 37 true (.array (.int)) := ⟨_, "LeasedPagesModel", rfl, by decide, Or.inl rfl, by decide +kernel, by decide +kernel, Or.inr ⟨rfl, rfl, rfl, bw_693⟩⟩
theorem pfM_113_M : pf_ok ⟨"LeasedPagesModel", "<init>", "(I)V"⟩ 113 10 38 true (.array (.int)) := ⟨_, "LeasedPagesModel", rfl, by decide, Or.inl rfl, by decide +kernel, by decide +kernel, Or.inr ⟨rfl, rfl, rfl, bw_694⟩⟩
theorem pfM_116_M : pf_ok ⟨"LeasedPagesModel", "<init>", "(I)V"⟩ 116 10 39 true (.array (.int)) := ⟨_, "LeasedPagesModel", rfl, by decide, Or.inl rfl, by decide +kernel, by decide +kernel, Or.inr ⟨rfl, rfl, rfl, bw_695⟩⟩
theorem pfM_119_M : pf_ok ⟨"LeasedPagesModel", "<init>", "(I)V"⟩ 119 10 40 true (.array (.boolean)) := ⟨_, "LeasedPagesModel", rfl, by decide, Or.inl rfl, by decide +kernel, by decide +kernel, Or.inr ⟨rfl, rfl, rfl, bw_696⟩⟩
theorem pfM_122_M : pf_ok ⟨"LeasedPagesModel", "<init>", "(I)V"⟩ 122 10 41 true (.array (.int)) := ⟨_, "LeasedPagesModel", rfl, by decide, Or.inl rfl, by decide +kernel, by decide +kernel, Or.inr ⟨rfl, rfl, rfl, bw_697⟩⟩
theorem pfM_125_M : pf_ok ⟨"LeasedPagesModel", "<init>", "(I)V"⟩ 125 10 42 true (.array (.int)) := ⟨_, "LeasedPagesModel", rfl, by decide, Or.inl rfl, by decide +kernel, by decide +kernel, Or.inr ⟨rfl, rfl, rfl, bw_698⟩⟩
theorem pfM_128_M : pf_ok ⟨"LeasedPagesModel", "<init>", "(I)V"⟩ 128 10 43 true (.array (.int)) := ⟨_, "LeasedPagesModel", rfl, by decide, Or.inl rfl, by decide +kernel, by decide +kernel, Or.inr ⟨rfl, rfl, rfl, bw_699⟩⟩
theorem pfM_131_M : pf_ok ⟨"LeasedPagesModel", "<init>", "(I)V"⟩ 131 10 0 false (.int) := ⟨_, "LeasedPagesModel", rfl, by decide, Or.inl rfl, by decide +kernel, by decide +kernel, Or.inr ⟨rfl, rfl, rfl, bw_656⟩⟩
theorem flM_44_M : fl_ok "LeasedPagesModel" 44 10 13 true := ⟨_, "LeasedPagesModel", rfl, by decide, Or.inl bw_669, Or.inl rfl, by decide +kernel⟩
theorem flM_135_M : fl_ok "LeasedPagesModel" 135 10 34 false := ⟨_, "LeasedPagesModel", rfl, by decide, Or.inl bw_690, Or.inl rfl, by decide +kernel⟩
theorem flM_104_M : fl_ok "LeasedPagesModel" 104 10 35 true := ⟨_, "LeasedPagesModel", rfl, by decide, Or.inl bw_691, Or.inl rfl, by decide +kernel⟩
theorem flM_107_M : fl_ok "LeasedPagesModel" 107 10 36 true := ⟨_, "LeasedPagesModel", rfl, by decide, Or.inl bw_692, Or.inl rfl, by decide +kernel⟩
theorem flM_110_M : fl_ok "LeasedPagesModel" 110 10 37 true := ⟨_, "LeasedPagesModel", rfl, by decide, Or.inl bw_693, Or.inl rfl, by decide +kernel⟩
theorem flM_113_M : fl_ok "LeasedPagesModel" 113 10 38 true := ⟨_, "LeasedPagesModel", rfl, by decide, Or.inl bw_694, Or.inl rfl, by decide +kernel⟩
theorem flM_116_M : fl_ok "LeasedPagesModel" 116 10 39 true := ⟨_, "LeasedPagesModel", rfl, by decide, Or.inl bw_695, Or.inl rfl, by decide +kernel⟩
theorem flM_119_M : fl_ok "LeasedPagesModel" 119 10 40 true := ⟨_, "LeasedPagesModel", rfl, by decide, Or.inl bw_696, Or.inl rfl, by decide +kernel⟩
theorem flM_122_M : fl_ok "LeasedPagesModel" 122 10 41 true := ⟨_, "LeasedPagesModel", rfl, by decide, Or.inl bw_697, Or.inl rfl, by decide +kernel⟩
theorem flM_125_M : fl_ok "LeasedPagesModel" 125 10 42 true := ⟨_, "LeasedPagesModel", rfl, by decide, Or.inl bw_698, Or.inl rfl, by decide +kernel⟩
theorem pfM_135_M {n d : String} : pf_ok ⟨"LeasedPagesModel", n, d⟩ 135 10 34 false (.int) := ⟨_, "LeasedPagesModel", rfl, by decide, Or.inl rfl, by decide +kernel, by decide +kernel, Or.inl ⟨rfl, Or.inl bw_690⟩⟩
theorem flM_128_M : fl_ok "LeasedPagesModel" 128 10 43 true := ⟨_, "LeasedPagesModel", rfl, by decide, Or.inl bw_699, Or.inl rfl, by decide +kernel⟩
theorem mlM_138 : ml_ok "LeasedPagesModel" 138 xM_in 3 := ⟨bw_800, bw_8, by decide +kernel, by decide, Or.inl bw_798⟩
theorem mlM_144 : ml_ok "LeasedPagesModel" 144 xM_move 2 := ⟨bw_810, bw_8, by decide +kernel, by decide, Or.inl bw_807⟩
theorem flM_83_M : fl_ok "LeasedPagesModel" 83 10 27 true := ⟨_, "LeasedPagesModel", rfl, by decide, Or.inl bw_683, Or.inl rfl, by decide +kernel⟩
theorem flM_86_M : fl_ok "LeasedPagesModel" 86 10 28 true := ⟨_, "LeasedPagesModel", rfl, by decide, Or.inl bw_684, Or.inl rfl, by decide +kernel⟩
theorem flM_56_M : fl_ok "LeasedPagesModel" 56 10 18 true := ⟨_, "LeasedPagesModel", rfl, by decide, Or.inl bw_674, Or.inl rfl, by decide +kernel⟩
theorem mlM_148 : ml_ok "LeasedPagesModel" 148 xM_room 4 := ⟨bw_843, bw_8, by decide +kernel, by decide, Or.inl bw_840⟩
theorem flM_89_M : fl_ok "LeasedPagesModel" 89 10 29 true := ⟨_, "LeasedPagesModel", rfl, by decide, Or.inl bw_685, Or.inl rfl, by decide +kernel⟩
theorem flM_92_M : fl_ok "LeasedPagesModel" 92 10 30 true := ⟨_, "LeasedPagesModel", rfl, by decide, Or.inl bw_686, Or.inl rfl, by decide +kernel⟩
theorem flM_95_M : fl_ok "LeasedPagesModel" 95 10 31 true := ⟨_, "LeasedPagesModel", rfl, by decide, Or.inl bw_687, Or.inl rfl, by decide +kernel⟩
theorem flM_98_M : fl_ok "LeasedPagesModel" 98 10 32 true := ⟨_, "LeasedPagesModel", rfl, by decide, Or.inl bw_688, Or.inl rfl, by decide +kernel⟩
theorem flM_29_M : fl_ok "LeasedPagesModel" 29 10 8 true := ⟨_, "LeasedPagesModel", rfl, by decide, Or.inl bw_664, Or.inl rfl, by decide +kernel⟩
theorem flM_32_M : fl_ok "LeasedPagesModel" 32 10 9 true := ⟨_, "LeasedPagesModel", rfl, by decide, Or.inl bw_665, Or.inl rfl, by decide +kernel⟩
theorem flM_26_M : fl_ok "LeasedPagesModel" 26 10 7 true := ⟨_, "LeasedPagesModel", rfl, by decide, Or.inl bw_663, Or.inl rfl, by decide +kernel⟩
theorem flM_35_M : fl_ok "LeasedPagesModel" 35 10 10 true := ⟨_, "LeasedPagesModel", rfl, by decide, Or.inl bw_666, Or.inl rfl, by decide +kernel⟩
theorem flM_38_M : fl_ok "LeasedPagesModel" 38 10 11 true := ⟨_, "LeasedPagesModel", rfl, by decide, Or.inl bw_667, Or.inl rfl, by decide +kernel⟩
theorem flM_41_M : fl_ok "LeasedPagesModel" 41 10 12 true := ⟨_, "LeasedPagesModel", rfl, by decide, Or.inl bw_668, Or.inl rfl, by decide +kernel⟩
theorem flM_7_M : fl_ok "LeasedPagesModel" 7 10 1 true := ⟨_, "LeasedPagesModel", rfl, by decide, Or.inl bw_657, Or.inl rfl, by decide +kernel⟩
theorem mlM_152 : ml_ok "LeasedPagesModel" 152 xM_granted 5 := ⟨bw_822, bw_8, by decide +kernel, by decide, Or.inl bw_819⟩
theorem mlM_156 : ml_ok "LeasedPagesModel" 156 xM_drop 1 := ⟨bw_806, bw_8, by decide +kernel, by decide, Or.inl bw_831⟩
theorem mlM_160 : ml_ok "LeasedPagesModel" 160 xM_request 8 := ⟨bw_835, bw_8, by decide +kernel, by decide, Or.inl bw_832⟩
theorem mlM_164 : ml_ok "LeasedPagesModel" 164 xM_serveLines 0 := ⟨bw_871, bw_8, by decide +kernel, by decide, Or.inl bw_868⟩
theorem mlM_167 : ml_ok "LeasedPagesModel" 167 xM_replied 3 := ⟨bw_879, bw_8, by decide +kernel, by decide, Or.inl bw_876⟩
theorem flM_65_M : fl_ok "LeasedPagesModel" 65 10 21 true := ⟨_, "LeasedPagesModel", rfl, by decide, Or.inl bw_677, Or.inl rfl, by decide +kernel⟩
theorem flM_20_M : fl_ok "LeasedPagesModel" 20 10 4 true := ⟨_, "LeasedPagesModel", rfl, by decide, Or.inl bw_660, Or.inl rfl, by decide +kernel⟩
theorem mlM_171 : ml_ok "LeasedPagesModel" 171 xM_has 2 := ⟨bw_851, bw_8, by decide +kernel, by decide, Or.inl bw_848⟩
theorem mlM_175 : ml_ok "LeasedPagesModel" 175 xM_answer 1 := ⟨bw_839, bw_8, by decide +kernel, by decide, Or.inl bw_836⟩
theorem flM_17_M : fl_ok "LeasedPagesModel" 17 10 3 true := ⟨_, "LeasedPagesModel", rfl, by decide, Or.inl bw_659, Or.inl rfl, by decide +kernel⟩
theorem flM_23_M : fl_ok "LeasedPagesModel" 23 10 5 true := ⟨_, "LeasedPagesModel", rfl, by decide, Or.inl bw_661, Or.inl rfl, by decide +kernel⟩
theorem flM_13_M : fl_ok "LeasedPagesModel" 13 10 2 true := ⟨_, "LeasedPagesModel", rfl, by decide, Or.inl bw_658, Or.inl rfl, by decide +kernel⟩
theorem flM_131_M : fl_ok "LeasedPagesModel" 131 10 0 false := ⟨_, "LeasedPagesModel", rfl, by decide, Or.inl bw_656, Or.inl rfl, by decide +kernel⟩
theorem mlM_179 : ml_ok "LeasedPagesModel" 179 xM_finish 4 := ⟨bw_859, bw_8, by decide +kernel, by decide, Or.inl bw_856⟩
theorem flM_47_M : fl_ok "LeasedPagesModel" 47 10 14 true := ⟨_, "LeasedPagesModel", rfl, by decide, Or.inl bw_670, Or.inl rfl, by decide +kernel⟩
theorem mlM_183 : ml_ok "LeasedPagesModel" 183 xM_askedLease 5 := ⟨bw_847, bw_8, by decide +kernel, by decide, Or.inl bw_844⟩
theorem mlM_187 : ml_ok "LeasedPagesModel" 187 xM_others 2 := ⟨bw_855, bw_8, by decide +kernel, by decide, Or.inl bw_852⟩
theorem flM_190_M : fl_ok "LeasedPagesModel" 190 10 6 false := ⟨_, "LeasedPagesModel", rfl, by decide, Or.inl bw_662, Or.inl rfl, by decide +kernel⟩
theorem mlM_193 : ml_ok "LeasedPagesModel" 193 xM_conflicts 3 := ⟨bw_863, bw_8, by decide +kernel, by decide, Or.inl bw_860⟩
theorem mlM_196 : ml_ok "LeasedPagesModel" 196 xM_grant 5 := ⟨bw_867, bw_8, by decide +kernel, by decide, Or.inl bw_864⟩
theorem flM_50_M : fl_ok "LeasedPagesModel" 50 10 15 true := ⟨_, "LeasedPagesModel", rfl, by decide, Or.inl bw_671, Or.inl rfl, by decide +kernel⟩
theorem flM_53_M : fl_ok "LeasedPagesModel" 53 10 16 true := ⟨_, "LeasedPagesModel", rfl, by decide, Or.inl bw_672, Or.inl rfl, by decide +kernel⟩
theorem flM_199_M : fl_ok "LeasedPagesModel" 199 10 17 false := ⟨_, "LeasedPagesModel", rfl, by decide, Or.inl bw_673, Or.inl rfl, by decide +kernel⟩
theorem pfM_199_M {n d : String} : pf_ok ⟨"LeasedPagesModel", n, d⟩ 199 10 17 false (.int) := ⟨_, "LeasedPagesModel", rfl, by decide, Or.inl rfl, by decide +kernel, by decide +kernel, Or.inl ⟨rfl, Or.inl bw_673⟩⟩
theorem mlM_202 : ml_ok "LeasedPagesModel" 202 xM_first 1 := ⟨bw_875, bw_8, by decide +kernel, by decide, Or.inl bw_872⟩
theorem flM_59_M : fl_ok "LeasedPagesModel" 59 10 19 true := ⟨_, "LeasedPagesModel", rfl, by decide, Or.inl bw_675, Or.inl rfl, by decide +kernel⟩
theorem flM_62_M : fl_ok "LeasedPagesModel" 62 10 20 true := ⟨_, "LeasedPagesModel", rfl, by decide, Or.inl bw_676, Or.inl rfl, by decide +kernel⟩
theorem flM_74_M : fl_ok "LeasedPagesModel" 74 10 24 true := ⟨_, "LeasedPagesModel", rfl, by decide, Or.inl bw_680, Or.inl rfl, by decide +kernel⟩
theorem flM_77_M : fl_ok "LeasedPagesModel" 77 10 25 true := ⟨_, "LeasedPagesModel", rfl, by decide, Or.inl bw_681, Or.inl rfl, by decide +kernel⟩
theorem flM_80_M : fl_ok "LeasedPagesModel" 80 10 26 true := ⟨_, "LeasedPagesModel", rfl, by decide, Or.inl bw_682, Or.inl rfl, by decide +kernel⟩
theorem flM_101_M : fl_ok "LeasedPagesModel" 101 10 33 true := ⟨_, "LeasedPagesModel", rfl, by decide, Or.inl bw_689, Or.inl rfl, by decide +kernel⟩
theorem mlM_206 : ml_ok "LeasedPagesModel" 206 xM_hasDirty 2 := ⟨bw_826, bw_8, by decide +kernel, by decide, Or.inl bw_823⟩
theorem mlM_209 : ml_ok "LeasedPagesModel" 209 xM_forget 3 := ⟨bw_830, bw_8, by decide +kernel, by decide, Or.inl bw_827⟩
theorem flM_68_M : fl_ok "LeasedPagesModel" 68 10 22 true := ⟨_, "LeasedPagesModel", rfl, by decide, Or.inl bw_678, Or.inl rfl, by decide +kernel⟩
theorem flM_71_M : fl_ok "LeasedPagesModel" 71 10 23 true := ⟨_, "LeasedPagesModel", rfl, by decide, Or.inl bw_679, Or.inl rfl, by decide +kernel⟩
theorem mlM_212 : ml_ok "LeasedPagesModel" 212 xM_ask 1 := ⟨bw_903, bw_8, by decide +kernel, by decide, Or.inl bw_900⟩
theorem mlM_215 : ml_ok "LeasedPagesModel" 215 xM_works 1 := ⟨bw_887, bw_8, by decide +kernel, by decide, Or.inl bw_884⟩
theorem mlM_218 : ml_ok "LeasedPagesModel" 218 xM_lost 2 := ⟨bw_891, bw_8, by decide +kernel, by decide, Or.inl bw_888⟩
theorem mlM_221 : ml_ok "LeasedPagesModel" 221 xM_valid 2 := ⟨bw_895, bw_8, by decide +kernel, by decide, Or.inl bw_892⟩
theorem mlM_224 : ml_ok "LeasedPagesModel" 224 xM_open 5 := ⟨bw_899, bw_8, by decide +kernel, by decide, Or.inl bw_896⟩
theorem pfM_190_M {n d : String} : pf_ok ⟨"LeasedPagesModel", n, d⟩ 190 10 6 false (.int) := ⟨_, "LeasedPagesModel", rfl, by decide, Or.inl rfl, by decide +kernel, by decide +kernel, Or.inl ⟨rfl, Or.inl bw_662⟩⟩
theorem pfC_11_C : pf_ok ⟨"LeasedPages$Client", "<init>", "(IILLeasedPages$Network;)V"⟩ 11 4 3 true (.array (.object "LeasedPages$Copy")) := ⟨_, "LeasedPages$Client", rfl, by decide, Or.inl rfl, by decide +kernel, by decide +kernel, Or.inr ⟨rfl, rfl, rfl, bw_152⟩⟩
theorem pfC_19_C : pf_ok ⟨"LeasedPages$Client", "<init>", "(IILLeasedPages$Network;)V"⟩ 19 4 4 true (.array (.object "LeasedPages$Write")) := ⟨_, "LeasedPages$Client", rfl, by decide, Or.inl rfl, by decide +kernel, by decide +kernel, Or.inr ⟨rfl, rfl, rfl, bw_153⟩⟩
theorem pfC_23_C {n d : String} : pf_ok ⟨"LeasedPages$Client", n, d⟩ 23 4 5 false (.int) := ⟨_, "LeasedPages$Client", rfl, by decide, Or.inl rfl, by decide +kernel, by decide +kernel, Or.inl ⟨rfl, Or.inl bw_154⟩⟩
theorem pfC_27_C {n d : String} : pf_ok ⟨"LeasedPages$Client", n, d⟩ 27 4 6 false (.boolean) := ⟨_, "LeasedPages$Client", rfl, by decide, Or.inl rfl, by decide +kernel, by decide +kernel, Or.inl ⟨rfl, Or.inl bw_156⟩⟩
theorem pfC_31_C {n d : String} : pf_ok ⟨"LeasedPages$Client", n, d⟩ 31 4 7 false (.int) := ⟨_, "LeasedPages$Client", rfl, by decide, Or.inl rfl, by decide +kernel, by decide +kernel, Or.inl ⟨rfl, Or.inl bw_158⟩⟩
theorem pfC_34_C {n d : String} : pf_ok ⟨"LeasedPages$Client", n, d⟩ 34 4 8 false (.int) := ⟨_, "LeasedPages$Client", rfl, by decide, Or.inl rfl, by decide +kernel, by decide +kernel, Or.inl ⟨rfl, Or.inl bw_160⟩⟩
theorem pfC_37_C {n d : String} : pf_ok ⟨"LeasedPages$Client", n, d⟩ 37 4 9 true (.object "LeasedPages$Request") := ⟨_, "LeasedPages$Client", rfl, by decide, Or.inl rfl, by decide +kernel, by decide +kernel, Or.inl ⟨rfl, Or.inl bw_161⟩⟩
theorem pfC_41_C {n d : String} : pf_ok ⟨"LeasedPages$Client", n, d⟩ 41 4 10 false (.int) := ⟨_, "LeasedPages$Client", rfl, by decide, Or.inl rfl, by decide +kernel, by decide +kernel, Or.inl ⟨rfl, Or.inl bw_163⟩⟩
theorem pfC_44_C : pf_ok ⟨"LeasedPages$Client", "<init>", "(IILLeasedPages$Network;)V"⟩ 44 4 0 false (.int) := ⟨_, "LeasedPages$Client", rfl, by decide, Or.inl rfl, by decide +kernel, by decide +kernel, Or.inr ⟨rfl, rfl, rfl, bw_149⟩⟩
theorem pfC_47_C : pf_ok ⟨"LeasedPages$Client", "<init>", "(IILLeasedPages$Network;)V"⟩ 47 4 1 false (.int) := ⟨_, "LeasedPages$Client", rfl, by decide, Or.inl rfl, by decide +kernel, by decide +kernel, Or.inr ⟨rfl, rfl, rfl, bw_150⟩⟩
theorem pfC_50_C : pf_ok ⟨"LeasedPages$Client", "<init>", "(IILLeasedPages$Network;)V"⟩ 50 4 2 true (.object "LeasedPages$Network") := ⟨_, "LeasedPages$Client", rfl, by decide, Or.inl rfl, by decide +kernel, by decide +kernel, Or.inr ⟨rfl, rfl, rfl, bw_151⟩⟩
theorem flC_11_C : fl_ok "LeasedPages$Client" 11 4 3 true := ⟨_, "LeasedPages$Client", rfl, by decide, Or.inl bw_152, Or.inl rfl, by decide +kernel⟩
theorem mlC_54 : ml_ok "LeasedPages$Client" 54 xK_init 0 := ⟨bw_126, bw_7, by decide +kernel, by decide, Or.inr ⟨_, nw_9⟩⟩
theorem mlC_55 : ml_ok "LeasedPages$Client" 55 xC_keepWrites 1 := ⟨bw_535, bw_6, by decide +kernel, by decide, Or.inl bw_532⟩
theorem mlC_59 : ml_ok "LeasedPages$Client" 59 xK_forget 0 := ⟨bw_605, bw_7, by decide +kernel, by decide, Or.inl bw_602⟩
theorem mlC_62 : ml_ok "LeasedPages$Client" 62 xK_takeLostMark 0 := ⟨bw_218, bw_7, by decide +kernel, by decide, Or.inl bw_215⟩
theorem flC_31_C : fl_ok "LeasedPages$Client" 31 4 7 false := ⟨_, "LeasedPages$Client", rfl, by decide, Or.inl bw_158, Or.inl rfl, by decide +kernel⟩
theorem mlC_66 : ml_ok "LeasedPages$Client" 66 xK_allows 2 := ⟨bw_222, bw_7, by decide +kernel, by decide, Or.inl bw_219⟩
theorem mlC_70 : ml_ok "LeasedPages$Client" 70 xC_hasWritesTo 1 := ⟨bw_226, bw_6, by decide +kernel, by decide, Or.inl bw_223⟩
theorem flC_44_C : fl_ok "LeasedPages$Client" 44 4 0 false := ⟨_, "LeasedPages$Client", rfl, by decide, Or.inl bw_149, Or.inl rfl, by decide +kernel⟩
theorem flC_34_C : fl_ok "LeasedPages$Client" 34 4 8 false := ⟨_, "LeasedPages$Client", rfl, by decide, Or.inl bw_160, Or.inl rfl, by decide +kernel⟩
theorem mlC_74 : ml_ok "LeasedPages$Client" 74 xR_forLease 5 := ⟨bw_229, bw_10, by decide +kernel, by decide, Or.inl bw_227⟩
theorem mlC_80 : ml_ok "LeasedPages$Client" 80 xC_sendNew 1 := ⟨bw_298, bw_6, by decide +kernel, by decide, Or.inl bw_295⟩
theorem flC_84_K : fl_ok "LeasedPages$Client" 84 5 0 true := ⟨_, "LeasedPages$Copy", rfl, by decide, Or.inr ⟨_, nw_10⟩, Or.inl rfl, by decide +kernel⟩
theorem flC_88_K : fl_ok "LeasedPages$Client" 88 5 4 false := ⟨_, "LeasedPages$Copy", rfl, by decide, Or.inr ⟨_, nw_14⟩, Or.inl rfl, by decide +kernel⟩
theorem flC_23_C : fl_ok "LeasedPages$Client" 23 4 5 false := ⟨_, "LeasedPages$Client", rfl, by decide, Or.inl bw_154, Or.inl rfl, by decide +kernel⟩
theorem flC_19_C : fl_ok "LeasedPages$Client" 19 4 4 true := ⟨_, "LeasedPages$Client", rfl, by decide, Or.inl bw_153, Or.inl rfl, by decide +kernel⟩
theorem mlC_91 : ml_ok "LeasedPages$Client" 91 xW_init 3 := ⟨bw_329, bw_11, by decide +kernel, by decide, Or.inl bw_327⟩
theorem flC_94_W : fl_ok "LeasedPages$Client" 94 9 0 false := ⟨_, "LeasedPages$Write", rfl, by decide, Or.inl bw_333, Or.inl rfl, by decide +kernel⟩
theorem mlC_97 : ml_ok "LeasedPages$Client" 97 xR_forStore 3 := ⟨bw_357, bw_10, by decide +kernel, by decide, Or.inl bw_355⟩
theorem flC_101_K : fl_ok "LeasedPages$Client" 101 5 1 false := ⟨_, "LeasedPages$Copy", rfl, by decide, Or.inr ⟨_, nw_11⟩, Or.inl rfl, by decide +kernel⟩
theorem pfC_101_K {n d : String} : pf_ok ⟨"LeasedPages$Client", n, d⟩ 101 5 1 false (.int) := ⟨_, "LeasedPages$Copy", rfl, by decide, Or.inl rfl, by decide +kernel, by decide +kernel, Or.inl ⟨rfl, Or.inr ⟨_, nw_11⟩⟩⟩
theorem pfC_104_K {n d : String} : pf_ok ⟨"LeasedPages$Client", n, d⟩ 104 5 3 false (.boolean) := ⟨_, "LeasedPages$Copy", rfl, by decide, Or.inl rfl, by decide +kernel, by decide +kernel, Or.inl ⟨rfl, Or.inr ⟨_, nw_13⟩⟩⟩
theorem mlC_107 : ml_ok "LeasedPages$Client" 107 xR_forRelease 3 := ⟨bw_369, bw_10, by decide +kernel, by decide, Or.inl bw_367⟩
theorem flC_37_C : fl_ok "LeasedPages$Client" 37 4 9 true := ⟨_, "LeasedPages$Client", rfl, by decide, Or.inl bw_161, Or.inl rfl, by decide +kernel⟩
theorem flC_50_C : fl_ok "LeasedPages$Client" 50 4 2 true := ⟨_, "LeasedPages$Client", rfl, by decide, Or.inl bw_151, Or.inl rfl, by decide +kernel⟩
theorem mlC_111 : ml_ok "LeasedPages$Client" 111 xN_send 1 := ⟨bw_302, bw_3, by decide +kernel, by decide, Or.inl bw_299⟩
theorem flC_117_R : fl_ok "LeasedPages$Client" 117 7 3 false := ⟨_, "LeasedPages$Request", rfl, by decide, Or.inl bw_276, Or.inr bw_271, by decide +kernel⟩
theorem flC_104_K : fl_ok "LeasedPages$Client" 104 5 3 false := ⟨_, "LeasedPages$Copy", rfl, by decide, Or.inr ⟨_, nw_13⟩, Or.inl rfl, by decide +kernel⟩
theorem flC_27_C : fl_ok "LeasedPages$Client" 27 4 6 false := ⟨_, "LeasedPages$Client", rfl, by decide, Or.inl bw_156, Or.inl rfl, by decide +kernel⟩
theorem flC_120_P : fl_ok "LeasedPages$Client" 120 8 3 false := ⟨_, "LeasedPages$Reply", rfl, by decide, Or.inl bw_277, Or.inr bw_275, by decide +kernel⟩
theorem flC_123_R : fl_ok "LeasedPages$Client" 123 7 0 false := ⟨_, "LeasedPages$Request", rfl, by decide, Or.inl bw_251, Or.inr bw_250, by decide +kernel⟩
theorem flC_126_P : fl_ok "LeasedPages$Client" 126 8 0 false := ⟨_, "LeasedPages$Reply", rfl, by decide, Or.inl bw_252, Or.inr bw_253, by decide +kernel⟩
theorem mlC_127 : ml_ok "LeasedPages$Client" 127 xC_takeLease 1 := ⟨bw_527, bw_6, by decide +kernel, by decide, Or.inl bw_524⟩
theorem flC_131_P : fl_ok "LeasedPages$Client" 131 8 2 false := ⟨_, "LeasedPages$Reply", rfl, by decide, Or.inl bw_268, Or.inr bw_269, by decide +kernel⟩
theorem mlC_132 : ml_ok "LeasedPages$Client" 132 xC_loseLease 1 := ⟨bw_546, bw_6, by decide +kernel, by decide, Or.inl bw_543⟩
theorem mlC_135 : ml_ok "LeasedPages$Client" 135 xC_removeFirstWriteTo 1 := ⟨bw_550, bw_6, by decide +kernel, by decide, Or.inl bw_547⟩
theorem flC_138_P : fl_ok "LeasedPages$Client" 138 8 4 false := ⟨_, "LeasedPages$Reply", rfl, by decide, Or.inl bw_448, Or.inl rfl, by decide +kernel⟩
theorem flC_41_C : fl_ok "LeasedPages$Client" 41 4 10 false := ⟨_, "LeasedPages$Client", rfl, by decide, Or.inl bw_163, Or.inl rfl, by decide +kernel⟩
theorem flC_47_C : fl_ok "LeasedPages$Client" 47 4 1 false := ⟨_, "LeasedPages$Client", rfl, by decide, Or.inl bw_150, Or.inl rfl, by decide +kernel⟩
theorem pfC_139_K {n d : String} : pf_ok ⟨"LeasedPages$Client", n, d⟩ 139 5 2 false (.int) := ⟨_, "LeasedPages$Copy", rfl, by decide, Or.inl rfl, by decide +kernel, by decide +kernel, Or.inl ⟨rfl, Or.inr ⟨_, nw_12⟩⟩⟩
theorem flC_142_P : fl_ok "LeasedPages$Client" 142 8 5 false := ⟨_, "LeasedPages$Reply", rfl, by decide, Or.inl bw_450, Or.inl rfl, by decide +kernel⟩
theorem mlC_145 : ml_ok "LeasedPages$Client" 145 xC_removeAllWritesTo 1 := ⟨bw_531, bw_6, by decide +kernel, by decide, Or.inl bw_528⟩
theorem pfC_88_K {n d : String} : pf_ok ⟨"LeasedPages$Client", n, d⟩ 88 5 4 false (.boolean) := ⟨_, "LeasedPages$Copy", rfl, by decide, Or.inl rfl, by decide +kernel, by decide +kernel, Or.inl ⟨rfl, Or.inr ⟨_, nw_14⟩⟩⟩
theorem flC_148_P : fl_ok "LeasedPages$Client" 148 8 6 true := ⟨_, "LeasedPages$Reply", rfl, by decide, Or.inl bw_452, Or.inl rfl, by decide +kernel⟩
theorem mlC_155 : ml_ok "LeasedPages$Client" 155 xC_redoWritesOn 1 := ⟨bw_542, bw_6, by decide +kernel, by decide, Or.inl bw_539⟩
theorem flC_158_W : fl_ok "LeasedPages$Client" 158 9 1 false := ⟨_, "LeasedPages$Write", rfl, by decide, Or.inl bw_336, Or.inl rfl, by decide +kernel⟩
theorem flC_161_W : fl_ok "LeasedPages$Client" 161 9 2 false := ⟨_, "LeasedPages$Write", rfl, by decide, Or.inl bw_339, Or.inl rfl, by decide +kernel⟩
theorem pfK_9_K : pf_ok ⟨"LeasedPages$Copy", "<init>", "()V"⟩ 9 5 0 true (.array (.int)) := ⟨_, "LeasedPages$Copy", rfl, by decide, Or.inl rfl, by decide +kernel, by decide +kernel, Or.inr ⟨rfl, rfl, rfl, bw_128⟩⟩
theorem pfK_15_K {n d : String} : pf_ok ⟨"LeasedPages$Copy", n, d⟩ 15 5 1 false (.int) := ⟨_, "LeasedPages$Copy", rfl, by decide, Or.inl rfl, by decide +kernel, by decide +kernel, Or.inl ⟨rfl, Or.inl bw_130⟩⟩
theorem pfK_19_K {n d : String} : pf_ok ⟨"LeasedPages$Copy", n, d⟩ 19 5 2 false (.int) := ⟨_, "LeasedPages$Copy", rfl, by decide, Or.inl rfl, by decide +kernel, by decide +kernel, Or.inl ⟨rfl, Or.inl bw_132⟩⟩
theorem pfK_22_K {n d : String} : pf_ok ⟨"LeasedPages$Copy", n, d⟩ 22 5 3 false (.boolean) := ⟨_, "LeasedPages$Copy", rfl, by decide, Or.inl rfl, by decide +kernel, by decide +kernel, Or.inl ⟨rfl, Or.inl bw_134⟩⟩
theorem pfK_26_K {n d : String} : pf_ok ⟨"LeasedPages$Copy", n, d⟩ 26 5 4 false (.boolean) := ⟨_, "LeasedPages$Copy", rfl, by decide, Or.inl rfl, by decide +kernel, by decide +kernel, Or.inl ⟨rfl, Or.inl bw_136⟩⟩
theorem flK_15_K : fl_ok "LeasedPages$Copy" 15 5 1 false := ⟨_, "LeasedPages$Copy", rfl, by decide, Or.inl bw_130, Or.inl rfl, by decide +kernel⟩
theorem flK_19_K : fl_ok "LeasedPages$Copy" 19 5 2 false := ⟨_, "LeasedPages$Copy", rfl, by decide, Or.inl bw_132, Or.inl rfl, by decide +kernel⟩
theorem flK_26_K : fl_ok "LeasedPages$Copy" 26 5 4 false := ⟨_, "LeasedPages$Copy", rfl, by decide, Or.inl bw_136, Or.inl rfl, by decide +kernel⟩
theorem flK_9_K : fl_ok "LeasedPages$Copy" 9 5 0 true := ⟨_, "LeasedPages$Copy", rfl, by decide, Or.inl bw_128, Or.inl rfl, by decide +kernel⟩
theorem mlK_29 : ml_ok "LeasedPages$Copy" 29 xA_fill 2 := ⟨bw_593, bw_14, by decide +kernel, by decide, Or.inl bw_606⟩
theorem pfQ_11_Q : pf_ok ⟨"LeasedPages$Line", "<init>", "()V"⟩ 11 3 0 true (.array (.object "LeasedPages$Request")) := ⟨_, "LeasedPages$Line", rfl, by decide, Or.inl rfl, by decide +kernel, by decide +kernel, Or.inr ⟨rfl, rfl, rfl, bw_64⟩⟩
theorem pfQ_17_Q {n d : String} : pf_ok ⟨"LeasedPages$Line", n, d⟩ 17 3 1 false (.int) := ⟨_, "LeasedPages$Line", rfl, by decide, Or.inl rfl, by decide +kernel, by decide +kernel, Or.inl ⟨rfl, Or.inl bw_65⟩⟩
theorem flQ_17_Q : fl_ok "LeasedPages$Line" 17 3 1 false := ⟨_, "LeasedPages$Line", rfl, by decide, Or.inl bw_65, Or.inl rfl, by decide +kernel⟩
theorem flQ_11_Q : fl_ok "LeasedPages$Line" 11 3 0 true := ⟨_, "LeasedPages$Line", rfl, by decide, Or.inl bw_64, Or.inl rfl, by decide +kernel⟩
theorem mlQ_21 : ml_ok "LeasedPages$Line" 21 xQ_placeOf 1 := ⟨bw_425, bw_5, by decide +kernel, by decide, Or.inl bw_422⟩
theorem flQ_25_R : fl_ok "LeasedPages$Line" 25 7 1 false := ⟨_, "LeasedPages$Request", rfl, by decide, Or.inl bw_258, Or.inr bw_255, by decide +kernel⟩
theorem pfG_7_G : pf_ok ⟨"LeasedPages$Message", "<init>", "(IIII)V"⟩ 7 6 0 false (.int) := ⟨_, "LeasedPages$Message", rfl, by decide, Or.inl rfl, by decide +kernel, by decide +kernel, Or.inr ⟨rfl, rfl, rfl, bw_248⟩⟩
theorem pfG_7_R : pf_ok ⟨"LeasedPages$Message", "<init>", "(IIII)V"⟩ 7 7 0 false (.int) := ⟨_, "LeasedPages$Message", rfl, by decide, Or.inl rfl, by decide +kernel, by decide +kernel, Or.inr ⟨rfl, rfl, rfl, bw_248⟩⟩
theorem pfG_7_P : pf_ok ⟨"LeasedPages$Message", "<init>", "(IIII)V"⟩ 7 8 0 false (.int) := ⟨_, "LeasedPages$Message", rfl, by decide, Or.inl rfl, by decide +kernel, by decide +kernel, Or.inr ⟨rfl, rfl, rfl, bw_248⟩⟩
theorem pfG_13_G : pf_ok ⟨"LeasedPages$Message", "<init>", "(IIII)V"⟩ 13 6 1 false (.int) := ⟨_, "LeasedPages$Message", rfl, by decide, Or.inl rfl, by decide +kernel, by decide +kernel, Or.inr ⟨rfl, rfl, rfl, bw_256⟩⟩
theorem pfG_13_R : pf_ok ⟨"LeasedPages$Message", "<init>", "(IIII)V"⟩ 13 7 1 false (.int) := ⟨_, "LeasedPages$Message", rfl, by decide, Or.inl rfl, by decide +kernel, by decide +kernel, Or.inr ⟨rfl, rfl, rfl, bw_256⟩⟩
theorem pfG_13_P : pf_ok ⟨"LeasedPages$Message", "<init>", "(IIII)V"⟩ 13 8 1 false (.int) := ⟨_, "LeasedPages$Message", rfl, by decide, Or.inl rfl, by decide +kernel, by decide +kernel, Or.inr ⟨rfl, rfl, rfl, bw_256⟩⟩
theorem pfG_16_G : pf_ok ⟨"LeasedPages$Message", "<init>", "(IIII)V"⟩ 16 6 2 false (.int) := ⟨_, "LeasedPages$Message", rfl, by decide, Or.inl rfl, by decide +kernel, by decide +kernel, Or.inr ⟨rfl, rfl, rfl, bw_265⟩⟩
theorem pfG_16_R : pf_ok ⟨"LeasedPages$Message", "<init>", "(IIII)V"⟩ 16 7 2 false (.int) := ⟨_, "LeasedPages$Message", rfl, by decide, Or.inl rfl, by decide +kernel, by decide +kernel, Or.inr ⟨rfl, rfl, rfl, bw_265⟩⟩
theorem pfG_16_P : pf_ok ⟨"LeasedPages$Message", "<init>", "(IIII)V"⟩ 16 8 2 false (.int) := ⟨_, "LeasedPages$Message", rfl, by decide, Or.inl rfl, by decide +kernel, by decide +kernel, Or.inr ⟨rfl, rfl, rfl, bw_265⟩⟩
theorem pfG_19_G : pf_ok ⟨"LeasedPages$Message", "<init>", "(IIII)V"⟩ 19 6 3 false (.int) := ⟨_, "LeasedPages$Message", rfl, by decide, Or.inl rfl, by decide +kernel, by decide +kernel, Or.inr ⟨rfl, rfl, rfl, bw_272⟩⟩
theorem pfG_19_R : pf_ok ⟨"LeasedPages$Message", "<init>", "(IIII)V"⟩ 19 7 3 false (.int) := ⟨_, "LeasedPages$Message", rfl, by decide, Or.inl rfl, by decide +kernel, by decide +kernel, Or.inr ⟨rfl, rfl, rfl, bw_272⟩⟩
theorem pfG_19_P : pf_ok ⟨"LeasedPages$Message", "<init>", "(IIII)V"⟩ 19 8 3 false (.int) := ⟨_, "LeasedPages$Message", rfl, by decide, Or.inl rfl, by decide +kernel, by decide +kernel, Or.inr ⟨rfl, rfl, rfl, bw_272⟩⟩
theorem flG_7_G : fl_ok "LeasedPages$Message" 7 6 0 false := ⟨_, "LeasedPages$Message", rfl, by decide, Or.inl bw_248, Or.inl rfl, by decide +kernel⟩
theorem flG_7_R : fl_ok "LeasedPages$Message" 7 7 0 false := ⟨_, "LeasedPages$Message", rfl, by decide, Or.inl bw_248, Or.inl rfl, by decide +kernel⟩
theorem flG_7_P : fl_ok "LeasedPages$Message" 7 8 0 false := ⟨_, "LeasedPages$Message", rfl, by decide, Or.inl bw_248, Or.inl rfl, by decide +kernel⟩
theorem flG_13_G : fl_ok "LeasedPages$Message" 13 6 1 false := ⟨_, "LeasedPages$Message", rfl, by decide, Or.inl bw_256, Or.inl rfl, by decide +kernel⟩
theorem flG_13_R : fl_ok "LeasedPages$Message" 13 7 1 false := ⟨_, "LeasedPages$Message", rfl, by decide, Or.inl bw_256, Or.inl rfl, by decide +kernel⟩
theorem flG_13_P : fl_ok "LeasedPages$Message" 13 8 1 false := ⟨_, "LeasedPages$Message", rfl, by decide, Or.inl bw_256, Or.inl rfl, by decide +kernel⟩
theorem flG_16_G : fl_ok "LeasedPages$Message" 16 6 2 false := ⟨_, "LeasedPages$Message", rfl, by decide, Or.inl bw_265, Or.inl rfl, by decide +kernel⟩
theorem flG_16_R : fl_ok "LeasedPages$Message" 16 7 2 false := ⟨_, "LeasedPages$Message", rfl, by decide, Or.inl bw_265, Or.inl rfl, by decide +kernel⟩
theorem flG_16_P : fl_ok "LeasedPages$Message" 16 8 2 false := ⟨_, "LeasedPages$Message", rfl, by decide, Or.inl bw_265, Or.inl rfl, by decide +kernel⟩
theorem flG_19_G : fl_ok "LeasedPages$Message" 19 6 3 false := ⟨_, "LeasedPages$Message", rfl, by decide, Or.inl bw_272, Or.inl rfl, by decide +kernel⟩
theorem flG_19_R : fl_ok "LeasedPages$Message" 19 7 3 false := ⟨_, "LeasedPages$Message", rfl, by decide, Or.inl bw_272, Or.inl rfl, by decide +kernel⟩
theorem flG_19_P : fl_ok "LeasedPages$Message" 19 8 3 false := ⟨_, "LeasedPages$Message", rfl, by decide, Or.inl bw_272, Or.inl rfl, by decide +kernel⟩
theorem pfN_11_N : pf_ok ⟨"LeasedPages$Network", "<init>", "()V"⟩ 11 1 0 true (.array (.object "LeasedPages$Message")) := ⟨_, "LeasedPages$Network", rfl, by decide, Or.inl rfl, by decide +kernel, by decide +kernel, Or.inr ⟨rfl, rfl, rfl, bw_37⟩⟩
theorem pfN_17_N {n d : String} : pf_ok ⟨"LeasedPages$Network", n, d⟩ 17 1 1 false (.int) := ⟨_, "LeasedPages$Network", rfl, by decide, Or.inl rfl, by decide +kernel, by decide +kernel, Or.inl ⟨rfl, Or.inl bw_38⟩⟩
theorem flN_17_N : fl_ok "LeasedPages$Network" 17 1 1 false := ⟨_, "LeasedPages$Network", rfl, by decide, Or.inl bw_38, Or.inl rfl, by decide +kernel⟩
theorem flN_11_N : fl_ok "LeasedPages$Network" 11 1 0 true := ⟨_, "LeasedPages$Network", rfl, by decide, Or.inl bw_37, Or.inl rfl, by decide +kernel⟩
theorem mlN_21 : ml_ok "LeasedPages$Network" 21 xN_at 1 := ⟨bw_389, bw_3, by decide +kernel, by decide, Or.inl bw_407⟩
theorem flP_1_R : fl_ok "LeasedPages$Reply" 1 7 1 false := ⟨_, "LeasedPages$Request", rfl, by decide, Or.inl bw_254, Or.inr bw_255, by decide +kernel⟩
theorem flP_7_R : fl_ok "LeasedPages$Reply" 7 7 2 false := ⟨_, "LeasedPages$Request", rfl, by decide, Or.inl bw_263, Or.inr bw_264, by decide +kernel⟩
theorem flP_10_R : fl_ok "LeasedPages$Reply" 10 7 3 false := ⟨_, "LeasedPages$Request", rfl, by decide, Or.inl bw_270, Or.inr bw_271, by decide +kernel⟩
theorem mlP_13 : ml_ok "LeasedPages$Reply" 13 xG_init 4 := ⟨bw_237, bw_9, by decide +kernel, by decide, Or.inl bw_446⟩
theorem flP_19_R : fl_ok "LeasedPages$Reply" 19 7 4 false := ⟨_, "LeasedPages$Request", rfl, by decide, Or.inr ⟨_, nw_19⟩, Or.inl rfl, by decide +kernel⟩
theorem pfP_22_P : pf_ok ⟨"LeasedPages$Reply", "<init>", "(ILLeasedPages$Request;Z[I)V"⟩ 22 8 4 false (.int) := ⟨_, "LeasedPages$Reply", rfl, by decide, Or.inl rfl, by decide +kernel, by decide +kernel, Or.inr ⟨rfl, rfl, rfl, bw_447⟩⟩
theorem pfP_25_P : pf_ok ⟨"LeasedPages$Reply", "<init>", "(ILLeasedPages$Request;Z[I)V"⟩ 25 8 5 false (.boolean) := ⟨_, "LeasedPages$Reply", rfl, by decide, Or.inl rfl, by decide +kernel, by decide +kernel, Or.inr ⟨rfl, rfl, rfl, bw_449⟩⟩
theorem pfP_29_P : pf_ok ⟨"LeasedPages$Reply", "<init>", "(ILLeasedPages$Request;Z[I)V"⟩ 29 8 6 true (.array (.int)) := ⟨_, "LeasedPages$Reply", rfl, by decide, Or.inl rfl, by decide +kernel, by decide +kernel, Or.inr ⟨rfl, rfl, rfl, bw_451⟩⟩
theorem mlR_3 : ml_ok "LeasedPages$Request" 3 xG_init 4 := ⟨bw_237, bw_9, by decide +kernel, by decide, Or.inl bw_235⟩
theorem mlR_11 : ml_ok "LeasedPages$Request" 11 xR_init 4 := ⟨bw_234, bw_10, by decide +kernel, by decide, Or.inl bw_232⟩
theorem pfR_12_R {n d : String} : pf_ok ⟨"LeasedPages$Request", n, d⟩ 12 7 4 false (.int) := ⟨_, "LeasedPages$Request", rfl, by decide, Or.inl rfl, by decide +kernel, by decide +kernel, Or.inl ⟨rfl, Or.inl bw_240⟩⟩
theorem pfR_16_R {n d : String} : pf_ok ⟨"LeasedPages$Request", n, d⟩ 16 7 5 false (.boolean) := ⟨_, "LeasedPages$Request", rfl, by decide, Or.inl rfl, by decide +kernel, by decide +kernel, Or.inl ⟨rfl, Or.inl bw_242⟩⟩
theorem flR_20_W : fl_ok "LeasedPages$Request" 20 9 0 false := ⟨_, "LeasedPages$Write", rfl, by decide, Or.inl bw_332, Or.inl rfl, by decide +kernel⟩
theorem flR_25_W : fl_ok "LeasedPages$Request" 25 9 1 false := ⟨_, "LeasedPages$Write", rfl, by decide, Or.inl bw_335, Or.inl rfl, by decide +kernel⟩
theorem pfR_28_R {n d : String} : pf_ok ⟨"LeasedPages$Request", n, d⟩ 28 7 6 false (.int) := ⟨_, "LeasedPages$Request", rfl, by decide, Or.inl rfl, by decide +kernel, by decide +kernel, Or.inl ⟨rfl, Or.inl bw_244⟩⟩
theorem flR_29_W : fl_ok "LeasedPages$Request" 29 9 2 false := ⟨_, "LeasedPages$Write", rfl, by decide, Or.inl bw_338, Or.inl rfl, by decide +kernel⟩
theorem pfR_32_R {n d : String} : pf_ok ⟨"LeasedPages$Request", n, d⟩ 32 7 7 false (.int) := ⟨_, "LeasedPages$Request", rfl, by decide, Or.inl rfl, by decide +kernel, by decide +kernel, Or.inl ⟨rfl, Or.inl bw_246⟩⟩
theorem pfS_11_S : pf_ok ⟨"LeasedPages$Server", "<init>", "(LLeasedPages$Network;I)V"⟩ 11 2 2 true (.array (.array (.int))) := ⟨_, "LeasedPages$Server", rfl, by decide, Or.inl rfl, by decide +kernel, by decide +kernel, Or.inr ⟨rfl, rfl, rfl, bw_76⟩⟩
theorem pfS_18_S : pf_ok ⟨"LeasedPages$Server", "<init>", "(LLeasedPages$Network;I)V"⟩ 18 2 3 true (.array (.object "LeasedPages$Reply")) := ⟨_, "LeasedPages$Server", rfl, by decide, Or.inl rfl, by decide +kernel, by decide +kernel, Or.inr ⟨rfl, rfl, rfl, bw_78⟩⟩
theorem pfS_22_S : pf_ok ⟨"LeasedPages$Server", "<init>", "(LLeasedPages$Network;I)V"⟩ 22 2 4 true (.array (.array (.int))) := ⟨_, "LeasedPages$Server", rfl, by decide, Or.inl rfl, by decide +kernel, by decide +kernel, Or.inr ⟨rfl, rfl, rfl, bw_79⟩⟩
theorem pfS_25_S : pf_ok ⟨"LeasedPages$Server", "<init>", "(LLeasedPages$Network;I)V"⟩ 25 2 5 true (.array (.array (.int))) := ⟨_, "LeasedPages$Server", rfl, by decide, Or.inl rfl, by decide +kernel, by decide +kernel, Or.inr ⟨rfl, rfl, rfl, bw_80⟩⟩
theorem pfS_30_S : pf_ok ⟨"LeasedPages$Server", "<init>", "(LLeasedPages$Network;I)V"⟩ 30 2 6 true (.array (.object "LeasedPages$Line")) := ⟨_, "LeasedPages$Server", rfl, by decide, Or.inl rfl, by decide +kernel, by decide +kernel, Or.inr ⟨rfl, rfl, rfl, bw_81⟩⟩
theorem pfS_34_S {n d : String} : pf_ok ⟨"LeasedPages$Server", n, d⟩ 34 2 7 false (.boolean) := ⟨_, "LeasedPages$Server", rfl, by decide, Or.inl rfl, by decide +kernel, by decide +kernel, Or.inl ⟨rfl, Or.inl bw_83⟩⟩
theorem pfS_38_S {n d : String} : pf_ok ⟨"LeasedPages$Server", n, d⟩ 38 2 8 false (.int) := ⟨_, "LeasedPages$Server", rfl, by decide, Or.inl rfl, by decide +kernel, by decide +kernel, Or.inl ⟨rfl, Or.inl bw_85⟩⟩
theorem pfS_42_S {n d : String} : pf_ok ⟨"LeasedPages$Server", n, d⟩ 42 2 9 false (.boolean) := ⟨_, "LeasedPages$Server", rfl, by decide, Or.inl rfl, by decide +kernel, by decide +kernel, Or.inl ⟨rfl, Or.inl bw_87⟩⟩
theorem pfS_45_S {n d : String} : pf_ok ⟨"LeasedPages$Server", n, d⟩ 45 2 10 false (.int) := ⟨_, "LeasedPages$Server", rfl, by decide, Or.inl rfl, by decide +kernel, by decide +kernel, Or.inl ⟨rfl, Or.inl bw_88⟩⟩
theorem pfS_48_S : pf_ok ⟨"LeasedPages$Server", "<init>", "(LLeasedPages$Network;I)V"⟩ 48 2 0 true (.object "LeasedPages$Network") := ⟨_, "LeasedPages$Server", rfl, by decide, Or.inl rfl, by decide +kernel, by decide +kernel, Or.inr ⟨rfl, rfl, rfl, bw_74⟩⟩
theorem pfS_52_S : pf_ok ⟨"LeasedPages$Server", "<init>", "(LLeasedPages$Network;I)V"⟩ 52 2 1 false (.int) := ⟨_, "LeasedPages$Server", rfl, by decide, Or.inl rfl, by decide +kernel, by decide +kernel, Or.inr ⟨rfl, rfl, rfl, bw_75⟩⟩
theorem flS_30_S : fl_ok "LeasedPages$Server" 30 2 6 true := ⟨_, "LeasedPages$Server", rfl, by decide, Or.inl bw_81, Or.inl rfl, by decide +kernel⟩
theorem mlS_55 : ml_ok "LeasedPages$Server" 55 xQ_init 0 := ⟨bw_60, bw_5, by decide +kernel, by decide, Or.inr ⟨_, nw_2⟩⟩
theorem flS_22_S : fl_ok "LeasedPages$Server" 22 2 4 true := ⟨_, "LeasedPages$Server", rfl, by decide, Or.inl bw_79, Or.inl rfl, by decide +kernel⟩
theorem mlS_56 : ml_ok "LeasedPages$Server" 56 xA_fill 2 := ⟨bw_593, bw_14, by decide +kernel, by decide, Or.inl bw_591⟩
theorem mlS_62 : ml_ok "LeasedPages$Server" 62 xQ_clear 0 := ⟨bw_597, bw_5, by decide +kernel, by decide, Or.inl bw_594⟩
theorem flS_38_S : fl_ok "LeasedPages$Server" 38 2 8 false := ⟨_, "LeasedPages$Server", rfl, by decide, Or.inl bw_85, Or.inl rfl, by decide +kernel⟩
theorem flS_52_S : fl_ok "LeasedPages$Server" 52 2 1 false := ⟨_, "LeasedPages$Server", rfl, by decide, Or.inl bw_75, Or.inl rfl, by decide +kernel⟩
theorem mlS_65 : ml_ok "LeasedPages$Server" 65 xS_endLeases 0 := ⟨bw_582, bw_4, by decide +kernel, by decide, Or.inl bw_579⟩
theorem flS_45_S : fl_ok "LeasedPages$Server" 45 2 10 false := ⟨_, "LeasedPages$Server", rfl, by decide, Or.inl bw_88, Or.inl rfl, by decide +kernel⟩
theorem mlS_68 : ml_ok "LeasedPages$Server" 68 xS_goThroughLines 0 := ⟨bw_514, bw_4, by decide +kernel, by decide, Or.inl bw_511⟩
theorem mlS_71 : ml_ok "LeasedPages$Server" 71 xS_hasLease 2 := ⟨bw_441, bw_4, by decide +kernel, by decide, Or.inl bw_438⟩
theorem flS_25_S : fl_ok "LeasedPages$Server" 25 2 5 true := ⟨_, "LeasedPages$Server", rfl, by decide, Or.inl bw_80, Or.inl rfl, by decide +kernel⟩
theorem flS_34_S : fl_ok "LeasedPages$Server" 34 2 7 false := ⟨_, "LeasedPages$Server", rfl, by decide, Or.inl bw_83, Or.inl rfl, by decide +kernel⟩
theorem flS_18_S : fl_ok "LeasedPages$Server" 18 2 3 true := ⟨_, "LeasedPages$Server", rfl, by decide, Or.inl bw_78, Or.inl rfl, by decide +kernel⟩
theorem flS_75_R : fl_ok "LeasedPages$Server" 75 7 1 false := ⟨_, "LeasedPages$Request", rfl, by decide, Or.inl bw_257, Or.inr bw_255, by decide +kernel⟩
theorem flS_80_R : fl_ok "LeasedPages$Server" 80 7 3 false := ⟨_, "LeasedPages$Request", rfl, by decide, Or.inl bw_273, Or.inr bw_271, by decide +kernel⟩
theorem flS_83_P : fl_ok "LeasedPages$Server" 83 8 3 false := ⟨_, "LeasedPages$Reply", rfl, by decide, Or.inl bw_274, Or.inr bw_275, by decide +kernel⟩
theorem flS_48_S : fl_ok "LeasedPages$Server" 48 2 0 true := ⟨_, "LeasedPages$Server", rfl, by decide, Or.inl bw_74, Or.inl rfl, by decide +kernel⟩
theorem mlS_84 : ml_ok "LeasedPages$Server" 84 xN_send 1 := ⟨bw_302, bw_3, by decide +kernel, by decide, Or.inl bw_413⟩
theorem mlS_90 : ml_ok "LeasedPages$Server" 90 xS_waitsAlready 1 := ⟨bw_417, bw_4, by decide +kernel, by decide, Or.inl bw_414⟩
theorem mlS_94 : ml_ok "LeasedPages$Server" 94 xS_takeOutOfLines 1 := ⟨bw_429, bw_4, by decide +kernel, by decide, Or.inl bw_426⟩
theorem flS_98_R : fl_ok "LeasedPages$Server" 98 7 0 false := ⟨_, "LeasedPages$Request", rfl, by decide, Or.inl bw_249, Or.inr bw_250, by decide +kernel⟩
theorem mlS_101 : ml_ok "LeasedPages$Server" 101 xS_serveLease 1 := ⟨bw_437, bw_4, by decide +kernel, by decide, Or.inl bw_434⟩
theorem mlS_105 : ml_ok "LeasedPages$Server" 105 xS_serveStore 1 := ⟨bw_506, bw_4, by decide +kernel, by decide, Or.inl bw_503⟩
theorem mlS_108 : ml_ok "LeasedPages$Server" 108 xS_serveRelease 1 := ⟨bw_510, bw_4, by decide +kernel, by decide, Or.inl bw_507⟩
theorem flS_111_R : fl_ok "LeasedPages$Server" 111 7 2 false := ⟨_, "LeasedPages$Request", rfl, by decide, Or.inl bw_266, Or.inr bw_264, by decide +kernel⟩
theorem flS_114_Q : fl_ok "LeasedPages$Server" 114 3 1 false := ⟨_, "LeasedPages$Line", rfl, by decide, Or.inr ⟨_, nw_3⟩, Or.inl rfl, by decide +kernel⟩
theorem mlS_117 : ml_ok "LeasedPages$Server" 117 xP_init 4 := ⟨bw_445, bw_12, by decide +kernel, by decide, Or.inl bw_443⟩
theorem mlS_120 : ml_ok "LeasedPages$Server" 120 xS_finish 1 := ⟨bw_467, bw_4, by decide +kernel, by decide, Or.inl bw_464⟩
theorem flS_42_S : fl_ok "LeasedPages$Server" 42 2 9 false := ⟨_, "LeasedPages$Server", rfl, by decide, Or.inl bw_87, Or.inl rfl, by decide +kernel⟩
theorem flS_124_R : fl_ok "LeasedPages$Server" 124 7 5 false := ⟨_, "LeasedPages$Request", rfl, by decide, Or.inr ⟨_, nw_21⟩, Or.inl rfl, by decide +kernel⟩
theorem mlS_127 : ml_ok "LeasedPages$Server" 127 xS_conflictsWithAny 1 := ⟨bw_471, bw_4, by decide +kernel, by decide, Or.inl bw_468⟩
theorem mlS_130 : ml_ok "LeasedPages$Server" 130 xS_grant 1 := ⟨bw_479, bw_4, by decide +kernel, by decide, Or.inl bw_476⟩
theorem mlS_133 : ml_ok "LeasedPages$Server" 133 xQ_add 1 := ⟨bw_490, bw_5, by decide +kernel, by decide, Or.inl bw_487⟩
theorem mlS_136 : ml_ok "LeasedPages$Server" 136 xS_recallConflicting 1 := ⟨bw_494, bw_4, by decide +kernel, by decide, Or.inl bw_491⟩
theorem flS_11_S : fl_ok "LeasedPages$Server" 11 2 2 true := ⟨_, "LeasedPages$Server", rfl, by decide, Or.inl bw_76, Or.inl rfl, by decide +kernel⟩
theorem flS_139_R : fl_ok "LeasedPages$Server" 139 7 6 false := ⟨_, "LeasedPages$Request", rfl, by decide, Or.inr ⟨_, nw_22⟩, Or.inl rfl, by decide +kernel⟩
theorem flS_142_R : fl_ok "LeasedPages$Server" 142 7 7 false := ⟨_, "LeasedPages$Request", rfl, by decide, Or.inr ⟨_, nw_23⟩, Or.inl rfl, by decide +kernel⟩
theorem flS_145_R : fl_ok "LeasedPages$Server" 145 7 4 false := ⟨_, "LeasedPages$Request", rfl, by decide, Or.inr ⟨_, nw_20⟩, Or.inl rfl, by decide +kernel⟩
theorem flS_154_P : fl_ok "LeasedPages$Server" 154 8 1 false := ⟨_, "LeasedPages$Reply", rfl, by decide, Or.inl bw_262, Or.inr bw_260, by decide +kernel⟩
theorem mlS_155 : ml_ok "LeasedPages$Server" 155 xS_conflicts 2 := ⟨bw_475, bw_4, by decide +kernel, by decide, Or.inl bw_472⟩
theorem mlS_161 : ml_ok "LeasedPages$Server" 161 xG_init 4 := ⟨bw_237, bw_9, by decide +kernel, by decide, Or.inl bw_497⟩
theorem mlS_164 : ml_ok "LeasedPages$Server" 164 xQ_first 0 := ⟨bw_518, bw_5, by decide +kernel, by decide, Or.inl bw_515⟩
theorem mlS_168 : ml_ok "LeasedPages$Server" 168 xQ_takeOut 1 := ⟨bw_433, bw_5, by decide +kernel, by decide, Or.inl bw_430⟩
theorem mlS_171 : ml_ok "LeasedPages$Server" 171 xQ_ofClient 1 := ⟨bw_421, bw_5, by decide +kernel, by decide, Or.inl bw_418⟩
theorem pfW_7_W : pf_ok ⟨"LeasedPages$Write", "<init>", "(III)V"⟩ 7 9 0 false (.int) := ⟨_, "LeasedPages$Write", rfl, by decide, Or.inl rfl, by decide +kernel, by decide +kernel, Or.inr ⟨rfl, rfl, rfl, bw_331⟩⟩
theorem pfW_13_W : pf_ok ⟨"LeasedPages$Write", "<init>", "(III)V"⟩ 13 9 1 false (.int) := ⟨_, "LeasedPages$Write", rfl, by decide, Or.inl rfl, by decide +kernel, by decide +kernel, Or.inr ⟨rfl, rfl, rfl, bw_334⟩⟩
theorem pfW_16_W : pf_ok ⟨"LeasedPages$Write", "<init>", "(III)V"⟩ 16 9 2 false (.int) := ⟨_, "LeasedPages$Write", rfl, by decide, Or.inl rfl, by decide +kernel, by decide +kernel, Or.inr ⟨rfl, rfl, rfl, bw_337⟩⟩
theorem mlZ_9 : ml_ok "LeasedPagesLaw" 9 xZ_cell 2 := ⟨bw_649, bw_0, by decide +kernel, by decide, Or.inl bw_647⟩
theorem mlZ_15 : ml_ok "LeasedPagesLaw" 15 xL_init 1 := ⟨bw_19, bw_1, by decide +kernel, by decide, Or.inl bw_17⟩
theorem mlZ_20 : ml_ok "LeasedPagesLaw" 20 xM_init 1 := ⟨bw_654, bw_8, by decide +kernel, by decide, Or.inl bw_652⟩
theorem mlZ_21 : ml_ok "LeasedPagesLaw" 21 xL_acquire 3 := ⟨bw_200, bw_1, by decide +kernel, by decide, Or.inl bw_197⟩
theorem mlZ_25 : ml_ok "LeasedPagesLaw" 25 xM_acquire 3 := ⟨bw_883, bw_8, by decide +kernel, by decide, Or.inl bw_880⟩
theorem mlZ_26 : ml_ok "LeasedPagesLaw" 26 xL_read 4 := ⟨bw_306, bw_1, by decide +kernel, by decide, Or.inl bw_303⟩
theorem mlZ_30 : ml_ok "LeasedPagesLaw" 30 xM_read 4 := ⟨bw_907, bw_8, by decide +kernel, by decide, Or.inl bw_904⟩
theorem mlZ_31 : ml_ok "LeasedPagesLaw" 31 xL_write 4 := ⟨bw_321, bw_1, by decide +kernel, by decide, Or.inl bw_318⟩
theorem mlZ_34 : ml_ok "LeasedPagesLaw" 34 xM_write 4 := ⟨bw_911, bw_8, by decide +kernel, by decide, Or.inl bw_908⟩
theorem mlZ_35 : ml_ok "LeasedPagesLaw" 35 xL_flush 1 := ⟨bw_350, bw_1, by decide +kernel, by decide, Or.inl bw_347⟩
theorem mlZ_39 : ml_ok "LeasedPagesLaw" 39 xM_flush 1 := ⟨bw_915, bw_8, by decide +kernel, by decide, Or.inl bw_912⟩
theorem mlZ_40 : ml_ok "LeasedPagesLaw" 40 xL_close 2 := ⟨bw_361, bw_1, by decide +kernel, by decide, Or.inl bw_358⟩
theorem mlZ_44 : ml_ok "LeasedPagesLaw" 44 xM_close 2 := ⟨bw_919, bw_8, by decide +kernel, by decide, Or.inl bw_916⟩
theorem mlZ_45 : ml_ok "LeasedPagesLaw" 45 xL_retry 1 := ⟨bw_373, bw_1, by decide +kernel, by decide, Or.inl bw_370⟩
theorem mlZ_48 : ml_ok "LeasedPagesLaw" 48 xM_retry 1 := ⟨bw_923, bw_8, by decide +kernel, by decide, Or.inl bw_920⟩
theorem mlZ_49 : ml_ok "LeasedPagesLaw" 49 xL_messages 0 := ⟨bw_381, bw_1, by decide +kernel, by decide, Or.inl bw_378⟩
theorem mlZ_53 : ml_ok "LeasedPagesLaw" 53 xM_messages 0 := ⟨bw_793, bw_8, by decide +kernel, by decide, Or.inl bw_790⟩
theorem mlZ_54 : ml_ok "LeasedPagesLaw" 54 xL_message 1 := ⟨bw_385, bw_1, by decide +kernel, by decide, Or.inl bw_382⟩
theorem mlZ_57 : ml_ok "LeasedPagesLaw" 57 xM_message 1 := ⟨bw_797, bw_8, by decide +kernel, by decide, Or.inl bw_794⟩
theorem mlZ_58 : ml_ok "LeasedPagesLaw" 58 xL_deliver 1 := ⟨bw_402, bw_1, by decide +kernel, by decide, Or.inl bw_399⟩
theorem mlZ_62 : ml_ok "LeasedPagesLaw" 62 xM_deliver 1 := ⟨bw_818, bw_8, by decide +kernel, by decide, Or.inl bw_815⟩
theorem mlZ_63 : ml_ok "LeasedPagesLaw" 63 xL_drop 1 := ⟨bw_558, bw_1, by decide +kernel, by decide, Or.inl bw_555⟩
theorem mlZ_66 : ml_ok "LeasedPagesLaw" 66 xM_drop 1 := ⟨bw_806, bw_8, by decide +kernel, by decide, Or.inl bw_803⟩
theorem mlZ_67 : ml_ok "LeasedPagesLaw" 67 xL_duplicate 1 := ⟨bw_562, bw_1, by decide +kernel, by decide, Or.inl bw_559⟩
theorem mlZ_70 : ml_ok "LeasedPagesLaw" 70 xM_duplicate 1 := ⟨bw_814, bw_8, by decide +kernel, by decide, Or.inl bw_811⟩
theorem mlZ_71 : ml_ok "LeasedPagesLaw" 71 xL_tick 2 := ⟨bw_567, bw_1, by decide +kernel, by decide, Or.inl bw_564⟩
theorem mlZ_75 : ml_ok "LeasedPagesLaw" 75 xM_tick 2 := ⟨bw_927, bw_8, by decide +kernel, by decide, Or.inl bw_924⟩
theorem mlZ_76 : ml_ok "LeasedPagesLaw" 76 xL_crash 1 := ⟨bw_586, bw_1, by decide +kernel, by decide, Or.inl bw_583⟩
theorem mlZ_79 : ml_ok "LeasedPagesLaw" 79 xM_crash 1 := ⟨bw_931, bw_8, by decide +kernel, by decide, Or.inl bw_928⟩
theorem mlZ_80 : ml_ok "LeasedPagesLaw" 80 xL_restart 1 := ⟨bw_610, bw_1, by decide +kernel, by decide, Or.inl bw_607⟩
theorem mlZ_83 : ml_ok "LeasedPagesLaw" 83 xM_restart 1 := ⟨bw_935, bw_8, by decide +kernel, by decide, Or.inl bw_932⟩
theorem mlZ_84 : ml_ok "LeasedPagesLaw" 84 xL_clock 1 := ⟨bw_618, bw_1, by decide +kernel, by decide, Or.inl bw_615⟩
theorem mlZ_87 : ml_ok "LeasedPagesLaw" 87 xM_clock 1 := ⟨bw_939, bw_8, by decide +kernel, by decide, Or.inl bw_936⟩
theorem mlZ_88 : ml_ok "LeasedPagesLaw" 88 xL_lease 2 := ⟨bw_622, bw_1, by decide +kernel, by decide, Or.inl bw_619⟩
theorem mlZ_91 : ml_ok "LeasedPagesLaw" 91 xM_lease 2 := ⟨bw_943, bw_8, by decide +kernel, by decide, Or.inl bw_940⟩
theorem mlZ_92 : ml_ok "LeasedPagesLaw" 92 xL_dirty 1 := ⟨bw_630, bw_1, by decide +kernel, by decide, Or.inl bw_627⟩
theorem mlZ_95 : ml_ok "LeasedPagesLaw" 95 xM_dirty 1 := ⟨bw_947, bw_8, by decide +kernel, by decide, Or.inl bw_944⟩
theorem mlZ_96 : ml_ok "LeasedPagesLaw" 96 xL_held 2 := ⟨bw_634, bw_1, by decide +kernel, by decide, Or.inl bw_631⟩
theorem mlZ_99 : ml_ok "LeasedPagesLaw" 99 xM_held 2 := ⟨bw_951, bw_8, by decide +kernel, by decide, Or.inl bw_948⟩
theorem mlZ_100 : ml_ok "LeasedPagesLaw" 100 xL_waiting 1 := ⟨bw_642, bw_1, by decide +kernel, by decide, Or.inl bw_639⟩
theorem mlZ_103 : ml_ok "LeasedPagesLaw" 103 xM_waiting 1 := ⟨bw_955, bw_8, by decide +kernel, by decide, Or.inl bw_952⟩
theorem mlZ_104 : ml_ok "LeasedPagesLaw" 104 xL_stored 2 := ⟨bw_646, bw_1, by decide +kernel, by decide, Or.inl bw_643⟩
theorem mlZ_107 : ml_ok "LeasedPagesLaw" 107 xM_stored 2 := ⟨bw_959, bw_8, by decide +kernel, by decide, Or.inl bw_956⟩
theorem miL_init : Cond.instanceMethod xL_init.1 ∈ lp_BW := bw_18
theorem miL_acquire : Cond.instanceMethod xL_acquire.1 ∈ lp_BW := bw_198
theorem mvL_acquire_L : Cond.selects "LeasedPages" xL_acquire.1 xL_acquire.1 ∈ lp_BW := bw_199
theorem miL_read : Cond.instanceMethod xL_read.1 ∈ lp_BW := bw_304
theorem mvL_read_L : Cond.selects "LeasedPages" xL_read.1 xL_read.1 ∈ lp_BW := bw_305
theorem miL_write : Cond.instanceMethod xL_write.1 ∈ lp_BW := bw_319
theorem mvL_write_L : Cond.selects "LeasedPages" xL_write.1 xL_write.1 ∈ lp_BW := bw_320
theorem miL_flush : Cond.instanceMethod xL_flush.1 ∈ lp_BW := bw_348
theorem mvL_flush_L : Cond.selects "LeasedPages" xL_flush.1 xL_flush.1 ∈ lp_BW := bw_349
theorem miL_close : Cond.instanceMethod xL_close.1 ∈ lp_BW := bw_359
theorem mvL_close_L : Cond.selects "LeasedPages" xL_close.1 xL_close.1 ∈ lp_BW := bw_360
theorem miL_retry : Cond.instanceMethod xL_retry.1 ∈ lp_BW := bw_371
theorem mvL_retry_L : Cond.selects "LeasedPages" xL_retry.1 xL_retry.1 ∈ lp_BW := bw_372
theorem miL_messages : Cond.instanceMethod xL_messages.1 ∈ lp_BW := bw_379
theorem mvL_messages_L : Cond.selects "LeasedPages" xL_messages.1 xL_messages.1 ∈ lp_BW := bw_380
theorem miL_message : Cond.instanceMethod xL_message.1 ∈ lp_BW := bw_383
theorem mvL_message_L : Cond.selects "LeasedPages" xL_message.1 xL_message.1 ∈ lp_BW := bw_384
theorem miL_deliver : Cond.instanceMethod xL_deliver.1 ∈ lp_BW := bw_400
theorem mvL_deliver_L : Cond.selects "LeasedPages" xL_deliver.1 xL_deliver.1 ∈ lp_BW := bw_401
theorem miL_drop : Cond.instanceMethod xL_drop.1 ∈ lp_BW := bw_556
theorem mvL_drop_L : Cond.selects "LeasedPages" xL_drop.1 xL_drop.1 ∈ lp_BW := bw_557
theorem miL_duplicate : Cond.instanceMethod xL_duplicate.1 ∈ lp_BW := bw_560
theorem mvL_duplicate_L : Cond.selects "LeasedPages" xL_duplicate.1 xL_duplicate.1 ∈ lp_BW := bw_561
theorem miL_tick : Cond.instanceMethod xL_tick.1 ∈ lp_BW := bw_565
theorem mvL_tick_L : Cond.selects "LeasedPages" xL_tick.1 xL_tick.1 ∈ lp_BW := bw_566
theorem miL_crash : Cond.instanceMethod xL_crash.1 ∈ lp_BW := bw_584
theorem mvL_crash_L : Cond.selects "LeasedPages" xL_crash.1 xL_crash.1 ∈ lp_BW := bw_585
theorem miL_restart : Cond.instanceMethod xL_restart.1 ∈ lp_BW := bw_608
theorem mvL_restart_L : Cond.selects "LeasedPages" xL_restart.1 xL_restart.1 ∈ lp_BW := bw_609
theorem miL_clock : Cond.instanceMethod xL_clock.1 ∈ lp_BW := bw_616
theorem mvL_clock_L : Cond.selects "LeasedPages" xL_clock.1 xL_clock.1 ∈ lp_BW := bw_617
theorem miL_lease : Cond.instanceMethod xL_lease.1 ∈ lp_BW := bw_620
theorem mvL_lease_L : Cond.selects "LeasedPages" xL_lease.1 xL_lease.1 ∈ lp_BW := bw_621
theorem miL_dirty : Cond.instanceMethod xL_dirty.1 ∈ lp_BW := bw_628
theorem mvL_dirty_L : Cond.selects "LeasedPages" xL_dirty.1 xL_dirty.1 ∈ lp_BW := bw_629
theorem miL_held : Cond.instanceMethod xL_held.1 ∈ lp_BW := bw_632
theorem mvL_held_L : Cond.selects "LeasedPages" xL_held.1 xL_held.1 ∈ lp_BW := bw_633
theorem miL_waiting : Cond.instanceMethod xL_waiting.1 ∈ lp_BW := bw_640
theorem mvL_waiting_L : Cond.selects "LeasedPages" xL_waiting.1 xL_waiting.1 ∈ lp_BW := bw_641
theorem miL_stored : Cond.instanceMethod xL_stored.1 ∈ lp_BW := bw_644
theorem mvL_stored_L : Cond.selects "LeasedPages" xL_stored.1 xL_stored.1 ∈ lp_BW := bw_645
theorem msL_isClient : Cond.static xL_isClient.1 ∈ lp_BW := bw_206
theorem msL_isNode : Cond.static xL_isNode.1 ∈ lp_BW := bw_569
theorem msL_isFile : Cond.static xL_isFile.1 ∈ lp_BW := bw_209
theorem msL_isPage : Cond.static xL_isPage.1 ∈ lp_BW := bw_308
theorem miL_isUp : Cond.instanceMethod xL_isUp.1 ∈ lp_BW := bw_573
theorem mvL_isUp_L : Cond.selects "LeasedPages" xL_isUp.1 xL_isUp.1 ∈ lp_BW := bs_21
theorem miL_clientThatIsUp : Cond.instanceMethod xL_clientThatIsUp.1 ∈ lp_BW := bw_203
theorem mvL_clientThatIsUp_L : Cond.selects "LeasedPages" xL_clientThatIsUp.1 xL_clientThatIsUp.1 ∈ lp_BW := bs_0
theorem miM_init : Cond.instanceMethod xM_init.1 ∈ lp_BW := bw_653
theorem msM_in : Cond.static xM_in.1 ∈ lp_BW := bw_799
theorem miM_room : Cond.instanceMethod xM_room.1 ∈ lp_BW := bw_842
theorem mvM_room_M : Cond.selects "LeasedPagesModel" xM_room.1 xM_room.1 ∈ lp_BW := bs_29
theorem miM_move : Cond.instanceMethod xM_move.1 ∈ lp_BW := bw_809
theorem mvM_move_M : Cond.selects "LeasedPagesModel" xM_move.1 xM_move.1 ∈ lp_BW := bs_23
theorem miM_messages : Cond.instanceMethod xM_messages.1 ∈ lp_BW := bw_791
theorem mvM_messages_M : Cond.selects "LeasedPagesModel" xM_messages.1 xM_messages.1 ∈ lp_BW := bw_792
theorem miM_message : Cond.instanceMethod xM_message.1 ∈ lp_BW := bw_795
theorem mvM_message_M : Cond.selects "LeasedPagesModel" xM_message.1 xM_message.1 ∈ lp_BW := bw_796
theorem miM_drop : Cond.instanceMethod xM_drop.1 ∈ lp_BW := bw_804
theorem mvM_drop_M : Cond.selects "LeasedPagesModel" xM_drop.1 xM_drop.1 ∈ lp_BW := bw_805
theorem miM_duplicate : Cond.instanceMethod xM_duplicate.1 ∈ lp_BW := bw_812
theorem mvM_duplicate_M : Cond.selects "LeasedPagesModel" xM_duplicate.1 xM_duplicate.1 ∈ lp_BW := bw_813
theorem miM_ask : Cond.instanceMethod xM_ask.1 ∈ lp_BW := bw_902
theorem mvM_ask_M : Cond.selects "LeasedPagesModel" xM_ask.1 xM_ask.1 ∈ lp_BW := bs_43
theorem miM_answer : Cond.instanceMethod xM_answer.1 ∈ lp_BW := bw_838
theorem mvM_answer_M : Cond.selects "LeasedPagesModel" xM_answer.1 xM_answer.1 ∈ lp_BW := bs_28
theorem miM_deliver : Cond.instanceMethod xM_deliver.1 ∈ lp_BW := bw_816
theorem mvM_deliver_M : Cond.selects "LeasedPagesModel" xM_deliver.1 xM_deliver.1 ∈ lp_BW := bw_817
theorem miM_has : Cond.instanceMethod xM_has.1 ∈ lp_BW := bw_850
theorem mvM_has_M : Cond.selects "LeasedPagesModel" xM_has.1 xM_has.1 ∈ lp_BW := bs_31
theorem miM_conflicts : Cond.instanceMethod xM_conflicts.1 ∈ lp_BW := bw_862
theorem mvM_conflicts_M : Cond.selects "LeasedPagesModel" xM_conflicts.1 xM_conflicts.1 ∈ lp_BW := bs_34
theorem miM_others : Cond.instanceMethod xM_others.1 ∈ lp_BW := bw_854
theorem mvM_others_M : Cond.selects "LeasedPagesModel" xM_others.1 xM_others.1 ∈ lp_BW := bs_32
theorem miM_finish : Cond.instanceMethod xM_finish.1 ∈ lp_BW := bw_858
theorem mvM_finish_M : Cond.selects "LeasedPagesModel" xM_finish.1 xM_finish.1 ∈ lp_BW := bs_33
theorem miM_grant : Cond.instanceMethod xM_grant.1 ∈ lp_BW := bw_866
theorem mvM_grant_M : Cond.selects "LeasedPagesModel" xM_grant.1 xM_grant.1 ∈ lp_BW := bs_35
theorem miM_request : Cond.instanceMethod xM_request.1 ∈ lp_BW := bw_834
theorem mvM_request_M : Cond.selects "LeasedPagesModel" xM_request.1 xM_request.1 ∈ lp_BW := bs_27
theorem miM_askedLease : Cond.instanceMethod xM_askedLease.1 ∈ lp_BW := bw_846
theorem mvM_askedLease_M : Cond.selects "LeasedPagesModel" xM_askedLease.1 xM_askedLease.1 ∈ lp_BW := bs_30
theorem miM_first : Cond.instanceMethod xM_first.1 ∈ lp_BW := bw_874
theorem mvM_first_M : Cond.selects "LeasedPagesModel" xM_first.1 xM_first.1 ∈ lp_BW := bs_37
theorem miM_serveLines : Cond.instanceMethod xM_serveLines.1 ∈ lp_BW := bw_870
theorem mvM_serveLines_M : Cond.selects "LeasedPagesModel" xM_serveLines.1 xM_serveLines.1 ∈ lp_BW := bs_36
theorem miM_valid : Cond.instanceMethod xM_valid.1 ∈ lp_BW := bw_894
theorem mvM_valid_M : Cond.selects "LeasedPagesModel" xM_valid.1 xM_valid.1 ∈ lp_BW := bs_41
theorem miM_hasDirty : Cond.instanceMethod xM_hasDirty.1 ∈ lp_BW := bw_825
theorem mvM_hasDirty_M : Cond.selects "LeasedPagesModel" xM_hasDirty.1 xM_hasDirty.1 ∈ lp_BW := bs_25
theorem miM_forget : Cond.instanceMethod xM_forget.1 ∈ lp_BW := bw_829
theorem mvM_forget_M : Cond.selects "LeasedPagesModel" xM_forget.1 xM_forget.1 ∈ lp_BW := bs_26
theorem miM_granted : Cond.instanceMethod xM_granted.1 ∈ lp_BW := bw_821
theorem mvM_granted_M : Cond.selects "LeasedPagesModel" xM_granted.1 xM_granted.1 ∈ lp_BW := bs_24
theorem miM_replied : Cond.instanceMethod xM_replied.1 ∈ lp_BW := bw_878
theorem mvM_replied_M : Cond.selects "LeasedPagesModel" xM_replied.1 xM_replied.1 ∈ lp_BW := bs_38
theorem miM_works : Cond.instanceMethod xM_works.1 ∈ lp_BW := bw_886
theorem mvM_works_M : Cond.selects "LeasedPagesModel" xM_works.1 xM_works.1 ∈ lp_BW := bs_39
theorem miM_lost : Cond.instanceMethod xM_lost.1 ∈ lp_BW := bw_890
theorem mvM_lost_M : Cond.selects "LeasedPagesModel" xM_lost.1 xM_lost.1 ∈ lp_BW := bs_40
theorem miM_open : Cond.instanceMethod xM_open.1 ∈ lp_BW := bw_898
theorem mvM_open_M : Cond.selects "LeasedPagesModel" xM_open.1 xM_open.1 ∈ lp_BW := bs_42
theorem miM_acquire : Cond.instanceMethod xM_acquire.1 ∈ lp_BW := bw_881
theorem mvM_acquire_M : Cond.selects "LeasedPagesModel" xM_acquire.1 xM_acquire.1 ∈ lp_BW := bw_882
theorem miM_read : Cond.instanceMethod xM_read.1 ∈ lp_BW := bw_905
theorem mvM_read_M : Cond.selects "LeasedPagesModel" xM_read.1 xM_read.1 ∈ lp_BW := bw_906
theorem miM_write : Cond.instanceMethod xM_write.1 ∈ lp_BW := bw_909
theorem mvM_write_M : Cond.selects "LeasedPagesModel" xM_write.1 xM_write.1 ∈ lp_BW := bw_910
theorem miM_flush : Cond.instanceMethod xM_flush.1 ∈ lp_BW := bw_913
theorem mvM_flush_M : Cond.selects "LeasedPagesModel" xM_flush.1 xM_flush.1 ∈ lp_BW := bw_914
theorem miM_close : Cond.instanceMethod xM_close.1 ∈ lp_BW := bw_917
theorem mvM_close_M : Cond.selects "LeasedPagesModel" xM_close.1 xM_close.1 ∈ lp_BW := bw_918
theorem miM_retry : Cond.instanceMethod xM_retry.1 ∈ lp_BW := bw_921
theorem mvM_retry_M : Cond.selects "LeasedPagesModel" xM_retry.1 xM_retry.1 ∈ lp_BW := bw_922
theorem miM_tick : Cond.instanceMethod xM_tick.1 ∈ lp_BW := bw_925
theorem mvM_tick_M : Cond.selects "LeasedPagesModel" xM_tick.1 xM_tick.1 ∈ lp_BW := bw_926
theorem miM_crash : Cond.instanceMethod xM_crash.1 ∈ lp_BW := bw_929
theorem mvM_crash_M : Cond.selects "LeasedPagesModel" xM_crash.1 xM_crash.1 ∈ lp_BW := bw_930
theorem miM_restart : Cond.instanceMethod xM_restart.1 ∈ lp_BW := bw_933
theorem mvM_restart_M : Cond.selects "LeasedPagesModel" xM_restart.1 xM_restart.1 ∈ lp_BW := bw_934
theorem miM_clock : Cond.instanceMethod xM_clock.1 ∈ lp_BW := bw_937
theorem mvM_clock_M : Cond.selects "LeasedPagesModel" xM_clock.1 xM_clock.1 ∈ lp_BW := bw_938
theorem miM_lease : Cond.instanceMethod xM_lease.1 ∈ lp_BW := bw_941
theorem mvM_lease_M : Cond.selects "LeasedPagesModel" xM_lease.1 xM_lease.1 ∈ lp_BW := bw_942
theorem miM_dirty : Cond.instanceMethod xM_dirty.1 ∈ lp_BW := bw_945
theorem mvM_dirty_M : Cond.selects "LeasedPagesModel" xM_dirty.1 xM_dirty.1 ∈ lp_BW := bw_946
theorem miM_held : Cond.instanceMethod xM_held.1 ∈ lp_BW := bw_949
theorem mvM_held_M : Cond.selects "LeasedPagesModel" xM_held.1 xM_held.1 ∈ lp_BW := bw_950
theorem miM_waiting : Cond.instanceMethod xM_waiting.1 ∈ lp_BW := bw_953
theorem mvM_waiting_M : Cond.selects "LeasedPagesModel" xM_waiting.1 xM_waiting.1 ∈ lp_BW := bw_954
theorem miM_stored : Cond.instanceMethod xM_stored.1 ∈ lp_BW := bw_957
theorem mvM_stored_M : Cond.selects "LeasedPagesModel" xM_stored.1 xM_stored.1 ∈ lp_BW := bw_958
theorem miC_init : Cond.instanceMethod xC_init.1 ∈ lp_BW := bw_116
theorem miC_goDown : Cond.instanceMethod xC_goDown.1 ∈ lp_BW := bw_599
theorem mvC_goDown_C : Cond.selects "LeasedPages$Client" xC_goDown.1 xC_goDown.1 ∈ lp_BW := bw_600
theorem miC_askForLease : Cond.instanceMethod xC_askForLease.1 ∈ lp_BW := bw_212
theorem mvC_askForLease_C : Cond.selects "LeasedPages$Client" xC_askForLease.1 xC_askForLease.1 ∈ lp_BW := bw_213
theorem miC_readPage : Cond.instanceMethod xC_readPage.1 ∈ lp_BW := bw_311
theorem mvC_readPage_C : Cond.selects "LeasedPages$Client" xC_readPage.1 xC_readPage.1 ∈ lp_BW := bw_312
theorem miC_canRead : Cond.instanceMethod xC_canRead.1 ∈ lp_BW := bw_315
theorem mvC_canRead_C : Cond.selects "LeasedPages$Client" xC_canRead.1 xC_canRead.1 ∈ lp_BW := bw_316
theorem miC_writePage : Cond.instanceMethod xC_writePage.1 ∈ lp_BW := bw_323
theorem mvC_writePage_C : Cond.selects "LeasedPages$Client" xC_writePage.1 xC_writePage.1 ∈ lp_BW := bw_324
theorem miC_storeFirstWrite : Cond.instanceMethod xC_storeFirstWrite.1 ∈ lp_BW := bw_352
theorem mvC_storeFirstWrite_C : Cond.selects "LeasedPages$Client" xC_storeFirstWrite.1 xC_storeFirstWrite.1 ∈ lp_BW := bw_353
theorem miC_giveBack : Cond.instanceMethod xC_giveBack.1 ∈ lp_BW := bw_364
theorem mvC_giveBack_C : Cond.selects "LeasedPages$Client" xC_giveBack.1 xC_giveBack.1 ∈ lp_BW := bw_365
theorem miC_sendAgain : Cond.instanceMethod xC_sendAgain.1 ∈ lp_BW := bw_375
theorem mvC_sendAgain_C : Cond.selects "LeasedPages$Client" xC_sendAgain.1 xC_sendAgain.1 ∈ lp_BW := bw_376
theorem miC_leaseAndMarks : Cond.instanceMethod xC_leaseAndMarks.1 ∈ lp_BW := bw_624
theorem mvC_leaseAndMarks_C : Cond.selects "LeasedPages$Client" xC_leaseAndMarks.1 xC_leaseAndMarks.1 ∈ lp_BW := bw_625
theorem miC_hasWritesTo : Cond.instanceMethod xC_hasWritesTo.1 ∈ lp_BW := bw_224
theorem mvC_hasWritesTo_C : Cond.selects "LeasedPages$Client" xC_hasWritesTo.1 xC_hasWritesTo.1 ∈ lp_BW := bw_225
theorem miC_recallArrives : Cond.instanceMethod xC_recallArrives.1 ∈ lp_BW := bw_552
theorem mvC_recallArrives_C : Cond.selects "LeasedPages$Client" xC_recallArrives.1 xC_recallArrives.1 ∈ lp_BW := bw_553
theorem miC_replyArrives : Cond.instanceMethod xC_replyArrives.1 ∈ lp_BW := bw_521
theorem mvC_replyArrives_C : Cond.selects "LeasedPages$Client" xC_replyArrives.1 xC_replyArrives.1 ∈ lp_BW := bw_522
theorem miC_sendNew : Cond.instanceMethod xC_sendNew.1 ∈ lp_BW := bw_297
theorem mvC_sendNew_C : Cond.selects "LeasedPages$Client" xC_sendNew.1 xC_sendNew.1 ∈ lp_BW := bs_1
theorem miC_takeLease : Cond.instanceMethod xC_takeLease.1 ∈ lp_BW := bw_526
theorem mvC_takeLease_C : Cond.selects "LeasedPages$Client" xC_takeLease.1 xC_takeLease.1 ∈ lp_BW := bs_15
theorem miC_redoWritesOn : Cond.instanceMethod xC_redoWritesOn.1 ∈ lp_BW := bw_541
theorem mvC_redoWritesOn_C : Cond.selects "LeasedPages$Client" xC_redoWritesOn.1 xC_redoWritesOn.1 ∈ lp_BW := bs_18
theorem miC_loseLease : Cond.instanceMethod xC_loseLease.1 ∈ lp_BW := bw_545
theorem mvC_loseLease_C : Cond.selects "LeasedPages$Client" xC_loseLease.1 xC_loseLease.1 ∈ lp_BW := bs_19
theorem miC_removeFirstWriteTo : Cond.instanceMethod xC_removeFirstWriteTo.1 ∈ lp_BW := bw_549
theorem mvC_removeFirstWriteTo_C : Cond.selects "LeasedPages$Client" xC_removeFirstWriteTo.1 xC_removeFirstWriteTo.1 ∈ lp_BW := bs_20
theorem miC_removeAllWritesTo : Cond.instanceMethod xC_removeAllWritesTo.1 ∈ lp_BW := bw_530
theorem mvC_removeAllWritesTo_C : Cond.selects "LeasedPages$Client" xC_removeAllWritesTo.1 xC_removeAllWritesTo.1 ∈ lp_BW := bs_16
theorem miC_keepWrites : Cond.instanceMethod xC_keepWrites.1 ∈ lp_BW := bw_534
theorem mvC_keepWrites_C : Cond.selects "LeasedPages$Client" xC_keepWrites.1 xC_keepWrites.1 ∈ lp_BW := bs_17
theorem miK_init : Cond.instanceMethod xK_init.1 ∈ lp_BW := bw_125
theorem miK_allows : Cond.instanceMethod xK_allows.1 ∈ lp_BW := bw_220
theorem mvK_allows_K : Cond.selects "LeasedPages$Copy" xK_allows.1 xK_allows.1 ∈ lp_BW := bw_221
theorem miK_takeLostMark : Cond.instanceMethod xK_takeLostMark.1 ∈ lp_BW := bw_216
theorem mvK_takeLostMark_K : Cond.selects "LeasedPages$Copy" xK_takeLostMark.1 xK_takeLostMark.1 ∈ lp_BW := bw_217
theorem miK_forget : Cond.instanceMethod xK_forget.1 ∈ lp_BW := bw_603
theorem mvK_forget_K : Cond.selects "LeasedPages$Copy" xK_forget.1 xK_forget.1 ∈ lp_BW := bw_604
theorem miQ_init : Cond.instanceMethod xQ_init.1 ∈ lp_BW := bw_59
theorem miQ_first : Cond.instanceMethod xQ_first.1 ∈ lp_BW := bw_516
theorem mvQ_first_Q : Cond.selects "LeasedPages$Line" xQ_first.1 xQ_first.1 ∈ lp_BW := bw_517
theorem miQ_ofClient : Cond.instanceMethod xQ_ofClient.1 ∈ lp_BW := bw_419
theorem mvQ_ofClient_Q : Cond.selects "LeasedPages$Line" xQ_ofClient.1 xQ_ofClient.1 ∈ lp_BW := bw_420
theorem miQ_add : Cond.instanceMethod xQ_add.1 ∈ lp_BW := bw_488
theorem mvQ_add_Q : Cond.selects "LeasedPages$Line" xQ_add.1 xQ_add.1 ∈ lp_BW := bw_489
theorem miQ_takeOut : Cond.instanceMethod xQ_takeOut.1 ∈ lp_BW := bw_431
theorem mvQ_takeOut_Q : Cond.selects "LeasedPages$Line" xQ_takeOut.1 xQ_takeOut.1 ∈ lp_BW := bw_432
theorem miQ_clear : Cond.instanceMethod xQ_clear.1 ∈ lp_BW := bw_595
theorem mvQ_clear_Q : Cond.selects "LeasedPages$Line" xQ_clear.1 xQ_clear.1 ∈ lp_BW := bw_596
theorem miQ_placeOf : Cond.instanceMethod xQ_placeOf.1 ∈ lp_BW := bw_424
theorem mvQ_placeOf_Q : Cond.selects "LeasedPages$Line" xQ_placeOf.1 xQ_placeOf.1 ∈ lp_BW := bs_3
theorem miG_init : Cond.instanceMethod xG_init.1 ∈ lp_BW := bw_236
theorem miG_code : Cond.instanceMethod xG_code.1 ∈ lp_BW := bw_391
theorem mvG_code_G : Cond.selects "LeasedPages$Message" xG_code.1 xG_code.1 ∈ lp_BW := bw_392
theorem mvG_code_R : Cond.selects "LeasedPages$Request" xG_code.1 xG_code.1 ∈ lp_BW := bw_395
theorem mvG_code_P : Cond.selects "LeasedPages$Reply" xG_code.1 xG_code.1 ∈ lp_BW := bw_394
theorem miN_init : Cond.instanceMethod xN_init.1 ∈ lp_BW := bw_32
theorem miN_send : Cond.instanceMethod xN_send.1 ∈ lp_BW := bw_300
theorem mvN_send_N : Cond.selects "LeasedPages$Network" xN_send.1 xN_send.1 ∈ lp_BW := bw_301
theorem miN_at : Cond.instanceMethod xN_at.1 ∈ lp_BW := bw_387
theorem mvN_at_N : Cond.selects "LeasedPages$Network" xN_at.1 xN_at.1 ∈ lp_BW := bw_388
theorem miN_takeOut : Cond.instanceMethod xN_takeOut.1 ∈ lp_BW := bw_404
theorem mvN_takeOut_N : Cond.selects "LeasedPages$Network" xN_takeOut.1 xN_takeOut.1 ∈ lp_BW := bw_405
theorem miP_init : Cond.instanceMethod xP_init.1 ∈ lp_BW := bw_444
theorem miR_init : Cond.instanceMethod xR_init.1 ∈ lp_BW := bw_233
theorem msR_forLease : Cond.static xR_forLease.1 ∈ lp_BW := bw_228
theorem msR_forStore : Cond.static xR_forStore.1 ∈ lp_BW := bw_356
theorem msR_forRelease : Cond.static xR_forRelease.1 ∈ lp_BW := bw_368
theorem miS_init : Cond.instanceMethod xS_init.1 ∈ lp_BW := bw_48
theorem miS_goDown : Cond.instanceMethod xS_goDown.1 ∈ lp_BW := bw_588
theorem mvS_goDown_S : Cond.selects "LeasedPages$Server" xS_goDown.1 xS_goDown.1 ∈ lp_BW := bw_589
theorem miS_comeUp : Cond.instanceMethod xS_comeUp.1 ∈ lp_BW := bw_612
theorem mvS_comeUp_S : Cond.selects "LeasedPages$Server" xS_comeUp.1 xS_comeUp.1 ∈ lp_BW := bw_613
theorem miS_advance : Cond.instanceMethod xS_advance.1 ∈ lp_BW := bw_576
theorem mvS_advance_S : Cond.selects "LeasedPages$Server" xS_advance.1 xS_advance.1 ∈ lp_BW := bw_577
theorem miS_leaseAndRest : Cond.instanceMethod xS_leaseAndRest.1 ∈ lp_BW := bw_636
theorem mvS_leaseAndRest_S : Cond.selects "LeasedPages$Server" xS_leaseAndRest.1 xS_leaseAndRest.1 ∈ lp_BW := bw_637
theorem miS_requestArrives : Cond.instanceMethod xS_requestArrives.1 ∈ lp_BW := bw_410
theorem mvS_requestArrives_S : Cond.selects "LeasedPages$Server" xS_requestArrives.1 xS_requestArrives.1 ∈ lp_BW := bw_411
theorem miS_serveLease : Cond.instanceMethod xS_serveLease.1 ∈ lp_BW := bw_436
theorem mvS_serveLease_S : Cond.selects "LeasedPages$Server" xS_serveLease.1 xS_serveLease.1 ∈ lp_BW := bs_5
theorem miS_serveStore : Cond.instanceMethod xS_serveStore.1 ∈ lp_BW := bw_505
theorem mvS_serveStore_S : Cond.selects "LeasedPages$Server" xS_serveStore.1 xS_serveStore.1 ∈ lp_BW := bs_12
theorem miS_serveRelease : Cond.instanceMethod xS_serveRelease.1 ∈ lp_BW := bw_509
theorem mvS_serveRelease_S : Cond.selects "LeasedPages$Server" xS_serveRelease.1 xS_serveRelease.1 ∈ lp_BW := bs_13
theorem miS_grant : Cond.instanceMethod xS_grant.1 ∈ lp_BW := bw_478
theorem mvS_grant_S : Cond.selects "LeasedPages$Server" xS_grant.1 xS_grant.1 ∈ lp_BW := bs_10
theorem miS_finish : Cond.instanceMethod xS_finish.1 ∈ lp_BW := bw_466
theorem mvS_finish_S : Cond.selects "LeasedPages$Server" xS_finish.1 xS_finish.1 ∈ lp_BW := bs_7
theorem miS_recallConflicting : Cond.instanceMethod xS_recallConflicting.1 ∈ lp_BW := bw_493
theorem mvS_recallConflicting_S : Cond.selects "LeasedPages$Server" xS_recallConflicting.1 xS_recallConflicting.1 ∈ lp_BW := bs_11
theorem miS_goThroughLines : Cond.instanceMethod xS_goThroughLines.1 ∈ lp_BW := bw_513
theorem mvS_goThroughLines_S : Cond.selects "LeasedPages$Server" xS_goThroughLines.1 xS_goThroughLines.1 ∈ lp_BW := bs_14
theorem miS_endLeases : Cond.instanceMethod xS_endLeases.1 ∈ lp_BW := bw_581
theorem mvS_endLeases_S : Cond.selects "LeasedPages$Server" xS_endLeases.1 xS_endLeases.1 ∈ lp_BW := bs_22
theorem miS_hasLease : Cond.instanceMethod xS_hasLease.1 ∈ lp_BW := bw_440
theorem mvS_hasLease_S : Cond.selects "LeasedPages$Server" xS_hasLease.1 xS_hasLease.1 ∈ lp_BW := bs_6
theorem miS_conflicts : Cond.instanceMethod xS_conflicts.1 ∈ lp_BW := bw_474
theorem mvS_conflicts_S : Cond.selects "LeasedPages$Server" xS_conflicts.1 xS_conflicts.1 ∈ lp_BW := bs_9
theorem miS_conflictsWithAny : Cond.instanceMethod xS_conflictsWithAny.1 ∈ lp_BW := bw_470
theorem mvS_conflictsWithAny_S : Cond.selects "LeasedPages$Server" xS_conflictsWithAny.1 xS_conflictsWithAny.1 ∈ lp_BW := bs_8
theorem miS_waitsAlready : Cond.instanceMethod xS_waitsAlready.1 ∈ lp_BW := bw_416
theorem mvS_waitsAlready_S : Cond.selects "LeasedPages$Server" xS_waitsAlready.1 xS_waitsAlready.1 ∈ lp_BW := bs_2
theorem miS_takeOutOfLines : Cond.instanceMethod xS_takeOutOfLines.1 ∈ lp_BW := bw_428
theorem mvS_takeOutOfLines_S : Cond.selects "LeasedPages$Server" xS_takeOutOfLines.1 xS_takeOutOfLines.1 ∈ lp_BW := bs_4
theorem miW_init : Cond.instanceMethod xW_init.1 ∈ lp_BW := bw_328
theorem msZ_cell : Cond.static xZ_cell.1 ∈ lp_BW := bw_648
theorem msA_fill : Cond.static xA_fill.1 ∈ lp_BW := bw_592
theorem nnL_18 : nw_ok "LeasedPages" 18 1 2 := ⟨_, rfl, rfl, bw_29, bw_30, bw_3⟩
theorem nnL_25 : nw_ok "LeasedPages" 25 2 11 := ⟨_, rfl, rfl, bw_45, bw_46, bw_4⟩
theorem nnL_34 : nw_ok "LeasedPages" 34 4 11 := ⟨_, rfl, rfl, bw_112, bw_114, bw_6⟩
theorem nnC_9 : nw_ok "LeasedPages$Client" 9 5 5 := ⟨_, rfl, rfl, bw_119, bw_123, bw_7⟩
theorem nnC_17 : nw_ok "LeasedPages$Client" 17 9 3 := ⟨_, rfl, rfl, bw_121, bw_326, bw_11⟩
theorem nnR_9 : nw_ok "LeasedPages$Request" 9 7 8 := ⟨_, rfl, rfl, bw_230, bw_231, bw_10⟩
theorem nnS_28 : nw_ok "LeasedPages$Server" 28 3 2 := ⟨_, rfl, rfl, bw_55, bw_57, bw_5⟩
theorem nnS_16 : nw_ok "LeasedPages$Server" 16 8 7 := ⟨_, rfl, rfl, bw_53, bw_442, bw_12⟩
theorem nnS_159 : nw_ok "LeasedPages$Server" 159 6 4 := ⟨_, rfl, rfl, bw_495, bw_496, bw_9⟩
theorem nnZ_7 : nw_ok "LeasedPagesLaw" 7 0 3 := ⟨_, rfl, rfl, bw_15, bw_16, bw_1⟩
theorem nnZ_18 : nw_ok "LeasedPagesLaw" 18 10 44 := ⟨_, rfl, rfl, bw_650, bw_651, bw_8⟩
theorem so_2_G : st_ok 2 6 := ⟨_, _, rfl, rfl, Or.inl rfl⟩
theorem so_2_R : st_ok 2 7 := ⟨_, _, rfl, rfl, Or.inr nw_28⟩
theorem so_2_P : st_ok 2 8 := ⟨_, _, rfl, rfl, Or.inr nw_27⟩
theorem so_3_P : st_ok 3 8 := ⟨_, _, rfl, rfl, Or.inl rfl⟩
theorem so_4_Q : st_ok 4 3 := ⟨_, _, rfl, rfl, Or.inl rfl⟩
theorem so_5_R : st_ok 5 7 := ⟨_, _, rfl, rfl, Or.inl rfl⟩
theorem so_6_C : st_ok 6 4 := ⟨_, _, rfl, rfl, Or.inl rfl⟩
theorem so_7_K : st_ok 7 5 := ⟨_, _, rfl, rfl, Or.inl rfl⟩
theorem so_8_W : st_ok 8 9 := ⟨_, _, rfl, rfl, Or.inl rfl⟩
end
section
/-! The reference: where its cells stand. -/
def mo_L : List (Nat × Nat × Nat × Nat) := [(1, 63, 1, 4), (2, 64, 0, 4), (3, 65, 0, 16), (4, 66, 0, 12), (5, 67, 0, 12), (7, 68, 0, 3), (8, 69, 0, 3), (9, 70, 0, 3), (10, 71, 0, 3), (11, 72, 1, 3), (12, 73, 0, 12), (13, 74, 0, 3), (14, 75, 0, 3), (15, 76, 0, 3), (16, 77, 0, 3), (18, 78, 0, 3), (19, 79, 0, 12), (20, 80, 0, 12), (21, 81, 1, 12), (22, 82, 1, 12), (23, 83, 0, 48), (24, 84, 0, 3), (25, 85, 0, 18), (26, 86, 0, 18), (27, 87, 0, 3), (28, 88, 0, 3), (29, 89, 0, 3), (30, 90, 1, 3), (31, 91, 0, 3), (32, 92, 0, 3), (33, 93, 0, 3), (35, 94, 0, 60), (36, 95, 0, 60), (37, 96, 0, 60), (38, 97, 0, 60), (39, 98, 0, 60), (40, 99, 1, 60), (41, 100, 0, 60), (42, 101, 0, 60), (43, 102, 0, 240)]
def mo_ok (h : ha_H) : Prop := 103 ≤ hp_n h ∧ hp_S h 62 = .inr 10 ∧ ∀ q ∈ mo_L, hp_R h 62 q.1 = some q.2.1 ∧ hp_S h q.2.1 = .inl q.2.2
theorem mo_o {h : ha_H} (hm : mo_ok h) {a : Nat} (h0 : 0 < a) (h1 : a < 103) : hp_ok h a := ⟨h0, Nat.lt_of_lt_of_le h1 hm.1⟩
theorem mo_o62 {h : ha_H} (hm : mo_ok h) : hp_ok h 62 := mo_o hm (by decide) (by decide)
theorem mo_S62 {h : ha_H} (hm : mo_ok h) : hp_S h 62 = .inr 10 := hm.2.1
theorem mo_o63 {h : ha_H} (hm : mo_ok h) : hp_ok h 63 := mo_o hm (by decide) (by decide)
theorem mo_R63 {h : ha_H} (hm : mo_ok h) : hp_R h 62 1 = some 63 := (hm.2.2 (1, 63, 1, 4) (List.mem_of_getElem? (i := 0) rfl)).1
theorem mo_S63 {h : ha_H} (hm : mo_ok h) : hp_S h 63 = .inl (1, 4) := (hm.2.2 (1, 63, 1, 4) (List.mem_of_getElem? (i := 0) rfl)).2
theorem mo_o64 {h : ha_H} (hm : mo_ok h) : hp_ok h 64 := mo_o hm (by decide) (by decide)
theorem mo_R64 {h : ha_H} (hm : mo_ok h) : hp_R h 62 2 = some 64 := (hm.2.2 (2, 64, 0, 4) (List.mem_of_getElem? (i := 1) rfl)).1
theorem mo_S64 {h : ha_H} (hm : mo_ok h) : hp_S h 64 = .inl (0, 4) := (hm.2.2 (2, 64, 0, 4) (List.mem_of_getElem? (i := 1) rfl)).2
theorem mo_o65 {h : ha_H} (hm : mo_ok h) : hp_ok h 65 := mo_o hm (by decide) (by decide)
theorem mo_R65 {h : ha_H} (hm : mo_ok h) : hp_R h 62 3 = some 65 := (hm.2.2 (3, 65, 0, 16) (List.mem_of_getElem? (i := 2) rfl)).1
theorem mo_S65 {h : ha_H} (hm : mo_ok h) : hp_S h 65 = .inl (0, 16) := (hm.2.2 (3, 65, 0, 16) (List.mem_of_getElem? (i := 2) rfl)).2
theorem mo_o66 {h : ha_H} (hm : mo_ok h) : hp_ok h 66 := mo_o hm (by decide) (by decide)
theorem mo_R66 {h : ha_H} (hm : mo_ok h) : hp_R h 62 4 = some 66 := (hm.2.2 (4, 66, 0, 12) (List.mem_of_getElem? (i := 3) rfl)).1
theorem mo_S66 {h : ha_H} (hm : mo_ok h) : hp_S h 66 = .inl (0, 12) := (hm.2.2 (4, 66, 0, 12) (List.mem_of_getElem? (i := 3) rfl)).2
theorem mo_o67 {h : ha_H} (hm : mo_ok h) : hp_ok h 67 := mo_o hm (by decide) (by decide)
theorem mo_R67 {h : ha_H} (hm : mo_ok h) : hp_R h 62 5 = some 67 := (hm.2.2 (5, 67, 0, 12) (List.mem_of_getElem? (i := 4) rfl)).1
theorem mo_S67 {h : ha_H} (hm : mo_ok h) : hp_S h 67 = .inl (0, 12) := (hm.2.2 (5, 67, 0, 12) (List.mem_of_getElem? (i := 4) rfl)).2
theorem mo_o68 {h : ha_H} (hm : mo_ok h) : hp_ok h 68 := mo_o hm (by decide) (by decide)
theorem mo_R68 {h : ha_H} (hm : mo_ok h) : hp_R h 62 7 = some 68 := (hm.2.2 (7, 68, 0, 3) (List.mem_of_getElem? (i := 5) rfl)).1
theorem mo_S68 {h : ha_H} (hm : mo_ok h) : hp_S h 68 = .inl (0, 3) := (hm.2.2 (7, 68, 0, 3) (List.mem_of_getElem? (i := 5) rfl)).2
theorem mo_o69 {h : ha_H} (hm : mo_ok h) : hp_ok h 69 := mo_o hm (by decide) (by decide)
theorem mo_R69 {h : ha_H} (hm : mo_ok h) : hp_R h 62 8 = some 69 := (hm.2.2 (8, 69, 0, 3) (List.mem_of_getElem? (i := 6) rfl)).1
theorem mo_S69 {h : ha_H} (hm : mo_ok h) : hp_S h 69 = .inl (0, 3) := (hm.2.2 (8, 69, 0, 3) (List.mem_of_getElem? (i := 6) rfl)).2
theorem mo_o70 {h : ha_H} (hm : mo_ok h) : hp_ok h 70 := mo_o hm (by decide) (by decide)
theorem mo_R70 {h : ha_H} (hm : mo_ok h) : hp_R h 62 9 = some 70 := (hm.2.2 (9, 70, 0, 3) (List.mem_of_getElem? (i := 7) rfl)).1
theorem mo_S70 {h : ha_H} (hm : mo_ok h) : hp_S h 70 = .inl (0, 3) := (hm.2.2 (9, 70, 0, 3) (List.mem_of_getElem? (i := 7) rfl)).2
theorem mo_o71 {h : ha_H} (hm : mo_ok h) : hp_ok h 71 := mo_o hm (by decide) (by decide)
theorem mo_R71 {h : ha_H} (hm : mo_ok h) : hp_R h 62 10 = some 71 := (hm.2.2 (10, 71, 0, 3) (List.mem_of_getElem? (i := 8) rfl)).1
theorem mo_S71 {h : ha_H} (hm : mo_ok h) : hp_S h 71 = .inl (0, 3) := (hm.2.2 (10, 71, 0, 3) (List.mem_of_getElem? (i := 8) rfl)).2
theorem mo_o72 {h : ha_H} (hm : mo_ok h) : hp_ok h 72 := mo_o hm (by decide) (by decide)
theorem mo_R72 {h : ha_H} (hm : mo_ok h) : hp_R h 62 11 = some 72 := (hm.2.2 (11, 72, 1, 3) (List.mem_of_getElem? (i := 9) rfl)).1
theorem mo_S72 {h : ha_H} (hm : mo_ok h) : hp_S h 72 = .inl (1, 3) := (hm.2.2 (11, 72, 1, 3) (List.mem_of_getElem? (i := 9) rfl)).2
theorem mo_o73 {h : ha_H} (hm : mo_ok h) : hp_ok h 73 := mo_o hm (by decide) (by decide)
theorem mo_R73 {h : ha_H} (hm : mo_ok h) : hp_R h 62 12 = some 73 := (hm.2.2 (12, 73, 0, 12) (List.mem_of_getElem? (i := 10) rfl)).1
theorem mo_S73 {h : ha_H} (hm : mo_ok h) : hp_S h 73 = .inl (0, 12) := (hm.2.2 (12, 73, 0, 12) (List.mem_of_getElem? (i := 10) rfl)).2
theorem mo_o74 {h : ha_H} (hm : mo_ok h) : hp_ok h 74 := mo_o hm (by decide) (by decide)
theorem mo_R74 {h : ha_H} (hm : mo_ok h) : hp_R h 62 13 = some 74 := (hm.2.2 (13, 74, 0, 3) (List.mem_of_getElem? (i := 11) rfl)).1
theorem mo_S74 {h : ha_H} (hm : mo_ok h) : hp_S h 74 = .inl (0, 3) := (hm.2.2 (13, 74, 0, 3) (List.mem_of_getElem? (i := 11) rfl)).2
theorem mo_o75 {h : ha_H} (hm : mo_ok h) : hp_ok h 75 := mo_o hm (by decide) (by decide)
theorem mo_R75 {h : ha_H} (hm : mo_ok h) : hp_R h 62 14 = some 75 := (hm.2.2 (14, 75, 0, 3) (List.mem_of_getElem? (i := 12) rfl)).1
theorem mo_S75 {h : ha_H} (hm : mo_ok h) : hp_S h 75 = .inl (0, 3) := (hm.2.2 (14, 75, 0, 3) (List.mem_of_getElem? (i := 12) rfl)).2
theorem mo_o76 {h : ha_H} (hm : mo_ok h) : hp_ok h 76 := mo_o hm (by decide) (by decide)
theorem mo_R76 {h : ha_H} (hm : mo_ok h) : hp_R h 62 15 = some 76 := (hm.2.2 (15, 76, 0, 3) (List.mem_of_getElem? (i := 13) rfl)).1
theorem mo_S76 {h : ha_H} (hm : mo_ok h) : hp_S h 76 = .inl (0, 3) := (hm.2.2 (15, 76, 0, 3) (List.mem_of_getElem? (i := 13) rfl)).2
theorem mo_o77 {h : ha_H} (hm : mo_ok h) : hp_ok h 77 := mo_o hm (by decide) (by decide)
theorem mo_R77 {h : ha_H} (hm : mo_ok h) : hp_R h 62 16 = some 77 := (hm.2.2 (16, 77, 0, 3) (List.mem_of_getElem? (i := 14) rfl)).1
theorem mo_S77 {h : ha_H} (hm : mo_ok h) : hp_S h 77 = .inl (0, 3) := (hm.2.2 (16, 77, 0, 3) (List.mem_of_getElem? (i := 14) rfl)).2
theorem mo_o78 {h : ha_H} (hm : mo_ok h) : hp_ok h 78 := mo_o hm (by decide) (by decide)
theorem mo_R78 {h : ha_H} (hm : mo_ok h) : hp_R h 62 18 = some 78 := (hm.2.2 (18, 78, 0, 3) (List.mem_of_getElem? (i := 15) rfl)).1
theorem mo_S78 {h : ha_H} (hm : mo_ok h) : hp_S h 78 = .inl (0, 3) := (hm.2.2 (18, 78, 0, 3) (List.mem_of_getElem? (i := 15) rfl)).2
theorem mo_o79 {h : ha_H} (hm : mo_ok h) : hp_ok h 79 := mo_o hm (by decide) (by decide)
theorem mo_R79 {h : ha_H} (hm : mo_ok h) : hp_R h 62 19 = some 79 := (hm.2.2 (19, 79, 0, 12) (List.mem_of_getElem? (i := 16) rfl)).1
theorem mo_S79 {h : ha_H} (hm : mo_ok h) : hp_S h 79 = .inl (0, 12) := (hm.2.2 (19, 79, 0, 12) (List.mem_of_getElem? (i := 16) rfl)).2
theorem mo_o80 {h : ha_H} (hm : mo_ok h) : hp_ok h 80 := mo_o hm (by decide) (by decide)
theorem mo_R80 {h : ha_H} (hm : mo_ok h) : hp_R h 62 20 = some 80 := (hm.2.2 (20, 80, 0, 12) (List.mem_of_getElem? (i := 17) rfl)).1
theorem mo_S80 {h : ha_H} (hm : mo_ok h) : hp_S h 80 = .inl (0, 12) := (hm.2.2 (20, 80, 0, 12) (List.mem_of_getElem? (i := 17) rfl)).2
theorem mo_o81 {h : ha_H} (hm : mo_ok h) : hp_ok h 81 := mo_o hm (by decide) (by decide)
theorem mo_R81 {h : ha_H} (hm : mo_ok h) : hp_R h 62 21 = some 81 := (hm.2.2 (21, 81, 1, 12) (List.mem_of_getElem? (i := 18) rfl)).1
theorem mo_S81 {h : ha_H} (hm : mo_ok h) : hp_S h 81 = .inl (1, 12) := (hm.2.2 (21, 81, 1, 12) (List.mem_of_getElem? (i := 18) rfl)).2
theorem mo_o82 {h : ha_H} (hm : mo_ok h) : hp_ok h 82 := mo_o hm (by decide) (by decide)
theorem mo_R82 {h : ha_H} (hm : mo_ok h) : hp_R h 62 22 = some 82 := (hm.2.2 (22, 82, 1, 12) (List.mem_of_getElem? (i := 19) rfl)).1
theorem mo_S82 {h : ha_H} (hm : mo_ok h) : hp_S h 82 = .inl (1, 12) := (hm.2.2 (22, 82, 1, 12) (List.mem_of_getElem? (i := 19) rfl)).2
theorem mo_o83 {h : ha_H} (hm : mo_ok h) : hp_ok h 83 := mo_o hm (by decide) (by decide)
theorem mo_R83 {h : ha_H} (hm : mo_ok h) : hp_R h 62 23 = some 83 := (hm.2.2 (23, 83, 0, 48) (List.mem_of_getElem? (i := 20) rfl)).1
theorem mo_S83 {h : ha_H} (hm : mo_ok h) : hp_S h 83 = .inl (0, 48) := (hm.2.2 (23, 83, 0, 48) (List.mem_of_getElem? (i := 20) rfl)).2
theorem mo_o84 {h : ha_H} (hm : mo_ok h) : hp_ok h 84 := mo_o hm (by decide) (by decide)
theorem mo_R84 {h : ha_H} (hm : mo_ok h) : hp_R h 62 24 = some 84 := (hm.2.2 (24, 84, 0, 3) (List.mem_of_getElem? (i := 21) rfl)).1
theorem mo_S84 {h : ha_H} (hm : mo_ok h) : hp_S h 84 = .inl (0, 3) := (hm.2.2 (24, 84, 0, 3) (List.mem_of_getElem? (i := 21) rfl)).2
theorem mo_o85 {h : ha_H} (hm : mo_ok h) : hp_ok h 85 := mo_o hm (by decide) (by decide)
theorem mo_R85 {h : ha_H} (hm : mo_ok h) : hp_R h 62 25 = some 85 := (hm.2.2 (25, 85, 0, 18) (List.mem_of_getElem? (i := 22) rfl)).1
theorem mo_S85 {h : ha_H} (hm : mo_ok h) : hp_S h 85 = .inl (0, 18) := (hm.2.2 (25, 85, 0, 18) (List.mem_of_getElem? (i := 22) rfl)).2
theorem mo_o86 {h : ha_H} (hm : mo_ok h) : hp_ok h 86 := mo_o hm (by decide) (by decide)
theorem mo_R86 {h : ha_H} (hm : mo_ok h) : hp_R h 62 26 = some 86 := (hm.2.2 (26, 86, 0, 18) (List.mem_of_getElem? (i := 23) rfl)).1
theorem mo_S86 {h : ha_H} (hm : mo_ok h) : hp_S h 86 = .inl (0, 18) := (hm.2.2 (26, 86, 0, 18) (List.mem_of_getElem? (i := 23) rfl)).2
theorem mo_o87 {h : ha_H} (hm : mo_ok h) : hp_ok h 87 := mo_o hm (by decide) (by decide)
theorem mo_R87 {h : ha_H} (hm : mo_ok h) : hp_R h 62 27 = some 87 := (hm.2.2 (27, 87, 0, 3) (List.mem_of_getElem? (i := 24) rfl)).1
theorem mo_S87 {h : ha_H} (hm : mo_ok h) : hp_S h 87 = .inl (0, 3) := (hm.2.2 (27, 87, 0, 3) (List.mem_of_getElem? (i := 24) rfl)).2
theorem mo_o88 {h : ha_H} (hm : mo_ok h) : hp_ok h 88 := mo_o hm (by decide) (by decide)
theorem mo_R88 {h : ha_H} (hm : mo_ok h) : hp_R h 62 28 = some 88 := (hm.2.2 (28, 88, 0, 3) (List.mem_of_getElem? (i := 25) rfl)).1
theorem mo_S88 {h : ha_H} (hm : mo_ok h) : hp_S h 88 = .inl (0, 3) := (hm.2.2 (28, 88, 0, 3) (List.mem_of_getElem? (i := 25) rfl)).2
theorem mo_o89 {h : ha_H} (hm : mo_ok h) : hp_ok h 89 := mo_o hm (by decide) (by decide)
theorem mo_R89 {h : ha_H} (hm : mo_ok h) : hp_R h 62 29 = some 89 := (hm.2.2 (29, 89, 0, 3) (List.mem_of_getElem? (i := 26) rfl)).1
theorem mo_S89 {h : ha_H} (hm : mo_ok h) : hp_S h 89 = .inl (0, 3) := (hm.2.2 (29, 89, 0, 3) (List.mem_of_getElem? (i := 26) rfl)).2
theorem mo_o90 {h : ha_H} (hm : mo_ok h) : hp_ok h 90 := mo_o hm (by decide) (by decide)
theorem mo_R90 {h : ha_H} (hm : mo_ok h) : hp_R h 62 30 = some 90 := (hm.2.2 (30, 90, 1, 3) (List.mem_of_getElem? (i := 27) rfl)).1
theorem mo_S90 {h : ha_H} (hm : mo_ok h) : hp_S h 90 = .inl (1, 3) := (hm.2.2 (30, 90, 1, 3) (List.mem_of_getElem? (i := 27) rfl)).2
theorem mo_o91 {h : ha_H} (hm : mo_ok h) : hp_ok h 91 := mo_o hm (by decide) (by decide)
theorem mo_R91 {h : ha_H} (hm : mo_ok h) : hp_R h 62 31 = some 91 := (hm.2.2 (31, 91, 0, 3) (List.mem_of_getElem? (i := 28) rfl)).1
theorem mo_S91 {h : ha_H} (hm : mo_ok h) : hp_S h 91 = .inl (0, 3) := (hm.2.2 (31, 91, 0, 3) (List.mem_of_getElem? (i := 28) rfl)).2
theorem mo_o92 {h : ha_H} (hm : mo_ok h) : hp_ok h 92 := mo_o hm (by decide) (by decide)
theorem mo_R92 {h : ha_H} (hm : mo_ok h) : hp_R h 62 32 = some 92 := (hm.2.2 (32, 92, 0, 3) (List.mem_of_getElem? (i := 29) rfl)).1
theorem mo_S92 {h : ha_H} (hm : mo_ok h) : hp_S h 92 = .inl (0, 3) := (hm.2.2 (32, 92, 0, 3) (List.mem_of_getElem? (i := 29) rfl)).2
theorem mo_o93 {h : ha_H} (hm : mo_ok h) : hp_ok h 93 := mo_o hm (by decide) (by decide)
theorem mo_R93 {h : ha_H} (hm : mo_ok h) : hp_R h 62 33 = some 93 := (hm.2.2 (33, 93, 0, 3) (List.mem_of_getElem? (i := 30) rfl)).1
theorem mo_S93 {h : ha_H} (hm : mo_ok h) : hp_S h 93 = .inl (0, 3) := (hm.2.2 (33, 93, 0, 3) (List.mem_of_getElem? (i := 30) rfl)).2
theorem mo_o94 {h : ha_H} (hm : mo_ok h) : hp_ok h 94 := mo_o hm (by decide) (by decide)
theorem mo_R94 {h : ha_H} (hm : mo_ok h) : hp_R h 62 35 = some 94 := (hm.2.2 (35, 94, 0, 60) (List.mem_of_getElem? (i := 31) rfl)).1
theorem mo_S94 {h : ha_H} (hm : mo_ok h) : hp_S h 94 = .inl (0, 60) := (hm.2.2 (35, 94, 0, 60) (List.mem_of_getElem? (i := 31) rfl)).2
theorem mo_o95 {h : ha_H} (hm : mo_ok h) : hp_ok h 95 := mo_o hm (by decide) (by decide)
theorem mo_R95 {h : ha_H} (hm : mo_ok h) : hp_R h 62 36 = some 95 := (hm.2.2 (36, 95, 0, 60) (List.mem_of_getElem? (i := 32) rfl)).1
theorem mo_S95 {h : ha_H} (hm : mo_ok h) : hp_S h 95 = .inl (0, 60) := (hm.2.2 (36, 95, 0, 60) (List.mem_of_getElem? (i := 32) rfl)).2
theorem mo_o96 {h : ha_H} (hm : mo_ok h) : hp_ok h 96 := mo_o hm (by decide) (by decide)
theorem mo_R96 {h : ha_H} (hm : mo_ok h) : hp_R h 62 37 = some 96 := (hm.2.2 (37, 96, 0, 60) (List.mem_of_getElem? (i := 33) rfl)).1
theorem mo_S96 {h : ha_H} (hm : mo_ok h) : hp_S h 96 = .inl (0, 60) := (hm.2.2 (37, 96, 0, 60) (List.mem_of_getElem? (i := 33) rfl)).2
theorem mo_o97 {h : ha_H} (hm : mo_ok h) : hp_ok h 97 := mo_o hm (by decide) (by decide)
theorem mo_R97 {h : ha_H} (hm : mo_ok h) : hp_R h 62 38 = some 97 := (hm.2.2 (38, 97, 0, 60) (List.mem_of_getElem? (i := 34) rfl)).1
theorem mo_S97 {h : ha_H} (hm : mo_ok h) : hp_S h 97 = .inl (0, 60) := (hm.2.2 (38, 97, 0, 60) (List.mem_of_getElem? (i := 34) rfl)).2
theorem mo_o98 {h : ha_H} (hm : mo_ok h) : hp_ok h 98 := mo_o hm (by decide) (by decide)
theorem mo_R98 {h : ha_H} (hm : mo_ok h) : hp_R h 62 39 = some 98 := (hm.2.2 (39, 98, 0, 60) (List.mem_of_getElem? (i := 35) rfl)).1
theorem mo_S98 {h : ha_H} (hm : mo_ok h) : hp_S h 98 = .inl (0, 60) := (hm.2.2 (39, 98, 0, 60) (List.mem_of_getElem? (i := 35) rfl)).2
theorem mo_o99 {h : ha_H} (hm : mo_ok h) : hp_ok h 99 := mo_o hm (by decide) (by decide)
theorem mo_R99 {h : ha_H} (hm : mo_ok h) : hp_R h 62 40 = some 99 := (hm.2.2 (40, 99, 1, 60) (List.mem_of_getElem? (i := 36) rfl)).1
theorem mo_S99 {h : ha_H} (hm : mo_ok h) : hp_S h 99 = .inl (1, 60) := (hm.2.2 (40, 99, 1, 60) (List.mem_of_getElem? (i := 36) rfl)).2
theorem mo_o100 {h : ha_H} (hm : mo_ok h) : hp_ok h 100 := mo_o hm (by decide) (by decide)
theorem mo_R100 {h : ha_H} (hm : mo_ok h) : hp_R h 62 41 = some 100 := (hm.2.2 (41, 100, 0, 60) (List.mem_of_getElem? (i := 37) rfl)).1
theorem mo_S100 {h : ha_H} (hm : mo_ok h) : hp_S h 100 = .inl (0, 60) := (hm.2.2 (41, 100, 0, 60) (List.mem_of_getElem? (i := 37) rfl)).2
theorem mo_o101 {h : ha_H} (hm : mo_ok h) : hp_ok h 101 := mo_o hm (by decide) (by decide)
theorem mo_R101 {h : ha_H} (hm : mo_ok h) : hp_R h 62 42 = some 101 := (hm.2.2 (42, 101, 0, 60) (List.mem_of_getElem? (i := 38) rfl)).1
theorem mo_S101 {h : ha_H} (hm : mo_ok h) : hp_S h 101 = .inl (0, 60) := (hm.2.2 (42, 101, 0, 60) (List.mem_of_getElem? (i := 38) rfl)).2
theorem mo_o102 {h : ha_H} (hm : mo_ok h) : hp_ok h 102 := mo_o hm (by decide) (by decide)
theorem mo_R102 {h : ha_H} (hm : mo_ok h) : hp_R h 62 43 = some 102 := (hm.2.2 (43, 102, 0, 240) (List.mem_of_getElem? (i := 39) rfl)).1
theorem mo_S102 {h : ha_H} (hm : mo_ok h) : hp_S h 102 = .inl (0, 240) := (hm.2.2 (43, 102, 0, 240) (List.mem_of_getElem? (i := 39) rfl)).2
/-- the booleans are 0 or 1 -/
def mo_b (h : ha_H) : Prop := ∀ a, a ∈ [63, 72, 81, 82, 90, 99] → ∀ j, hp_I h a j = 0 ∨ hp_I h a j = 1
/-- a place of one array is copied to a place of another -/
def hp_mv (h : ha_H) (A i B t : Nat) : ha_H := hp_sI h B t (hp_I h A i)
theorem mo_sI {h : ha_H} {a k : Nat} {v : Int32} (hm : mo_ok h) : mo_ok (hp_sI h a k v) := hm
theorem mo_mv {h : ha_H} {A i B t : Nat} (hm : mo_ok h) : mo_ok (hp_mv h A i B t) := hm
theorem hI_set {h : ha_H} {a k : Nat} {v : Int32} : hp_I (hp_sI h a k v) a k = v := by rw [hp_I_sI, if_pos ⟨rfl, rfl⟩]
theorem hI_sI {h : ha_H} {a k x y : Nat} {v r : Int32} (hn : ¬ x = a) (e : hp_I h x y = r) : hp_I (hp_sI h a k v) x y = r := by rw [hp_I_sI, if_neg (fun q => hn q.1)]; exact e
theorem hI_sI2 {h : ha_H} {a k x y : Nat} {v r : Int32} (hn : ¬ y = k) (e : hp_I h x y = r) : hp_I (hp_sI h a k v) x y = r := by rw [hp_I_sI, if_neg (fun q => hn q.2)]; exact e
theorem hI_mv {h : ha_H} {A i B t x y : Nat} {r : Int32} (hn : ¬ x = B) (e : hp_I h x y = r) : hp_I (hp_mv h A i B t) x y = r := hI_sI hn e
theorem hI_mv2 {h : ha_H} {A i B t x y : Nat} {r : Int32} (hn : ¬ y = t) (e : hp_I h x y = r) : hp_I (hp_mv h A i B t) x y = r := hI_sI2 hn e
def m_bi (b : Bool) : Int32 := if b = true then nI 1 else nI 0
theorem m_bi0 (b : Bool) : m_bi b = 0 ↔ b = false := by cases b <;> decide
theorem m_biT : m_bi true = nI 1 := rfl
theorem m_biF : m_bi false = nI 0 := rfl
theorem m_bi01 (b : Bool) : m_bi b = 0 ∨ m_bi b = 1 := by cases b <;> decide
end
section
def mi_in (x lo hi : Int32) : Int32 := if x < lo then 0 else if hi < x then 0 else 1
theorem cM_in (G : mt_G) (h : ha_H) (x lo hi : Int32) : rn_M G xM_in (0, 0, 0) [.inl x, .inl lo, .inl hi] h (rn_i (fun r h' => r = mi_in x lo hi ∧ h = h')) := by
  refine rn_of (by decide +kernel) (Nat.le_of_ble_eq_true rfl) ?_
  show rn_W G xM_in (0, 0, 0) 0 0 0 [some (.inl x), some (.inl lo), some (.inl hi)] [] h _
  refine rw_iload_n (pc := 0) dM_in_0 rfl ?_
  refine rw_iload_n (pc := 1) dM_in_1 rfl ?_
  refine rw_icmplt (pc := 2) dM_in_2 (tgt := 14) rfl (fun c1 => ?_) (fun c1 => ?_)
  · skip
    refine rw_iconst (pc := 14) (x := nI 0) dM_in_14 (by decide) ?_
    exact rw_zret (pc := 15) dM_in_15 rfl (Or.inl rfl) ⟨_, rfl, (by unfold mi_in; rw [if_pos c1]; try rfl), rfl⟩
  · skip
    refine rw_iload_n (pc := 5) dM_in_5 rfl ?_
    refine rw_iload_n (pc := 6) dM_in_6 rfl ?_
    refine rw_icmpgt (pc := 7) dM_in_7 (tgt := 14) rfl (fun c2 => ?_) (fun c2 => ?_)
    · skip
      refine rw_iconst (pc := 14) (x := nI 0) dM_in_14 (by decide) ?_
      exact rw_zret (pc := 15) dM_in_15 rfl (Or.inl rfl) ⟨_, rfl, (by unfold mi_in; rw [if_neg c1, if_pos c2]; try rfl), rfl⟩
    · skip
      refine rw_iconst (pc := 10) (x := nI 1) dM_in_10 (by decide) ?_
      refine rw_goto (pc := 11) dM_in_11 (tgt := 15) rfl ?_
      exact rw_zret (pc := 15) dM_in_15 rfl (Or.inr rfl) ⟨_, rfl, (by unfold mi_in; rw [if_neg c1, if_neg c2]; try rfl), rfl⟩
def m_roomH (h : ha_H) (u : Nat) (k c f x : Int32) : ha_H := hp_sI (hp_sI (hp_sI (hp_sI (hp_sI (hp_sI (hp_sI (hp_sI (hp_sI h 94 u k) 95 u c) 96 u f) 97 u x) 98 u (nI 0)) 99 u (nI 0)) 100 u (nI 0)) 101 u (nI 0)) 62 34 (nI (u + 1))
def m_room (h : ha_H) (u : Nat) (k c f x : Int32) : Int32 × ha_H := if u = 60 then (-1, h) else (nI u, m_roomH h u k c f x)
theorem cM_room (G : mt_G) (h : ha_H) (hm : mo_ok h) {u : Nat} (hu : hp_I h 62 34 = nI u) (h60 : u ≤ 60) (k c f x : Int32) : rn_M G xM_room (0, 0, 0) [.inr (some 62), .inl k, .inl c, .inl f, .inl x] h (rn_i (fun r h' => r = (m_room h u k c f x).1 ∧ (m_room h u k c f x).2 = h')) := by
  refine rn_of (by decide +kernel) (Nat.le_of_ble_eq_true rfl) ?_
  show rn_W G xM_room (0, 0, 0) 0 0 0 [some (.inr (some 62)), some (.inl k), some (.inl c), some (.inl f), some (.inl x)] [] h _
  refine rw_aload_n (pc := 0) dM_room_0 rfl ?_
  refine rw_getI (pc := 1) (x := nI u) flM_135_M dM_room_1 (mo_o62 hm) (mo_S62 hm) hu ?_
  refine rw_bipush (pc := 4) (x := nI 60) dM_room_4 (by decide) ?_
  refine rw_icmpne (pc := 6) dM_room_6 (tgt := 11) rfl (fun c1 => ?_) (fun c1 => ?_)
  · skip
    replace c1 : ¬ (u = 60) := fun q => c1 ((nI_eq (a := u) (b := 60) (by omega) (by omega)).mpr q)
    refine rw_aload_n (pc := 11) dM_room_11 rfl ?_
    refine rw_getR (pc := 12) (x := some 94) flM_104_M dM_room_12 (mo_o62 hm) (mo_S62 hm) (mo_R94 hm) ?_
    refine rw_aload_n (pc := 15) dM_room_15 rfl ?_
    refine rw_getI (pc := 16) (x := nI u) flM_135_M dM_room_16 (mo_o62 hm) (mo_S62 hm) hu ?_
    refine rw_iload_n (pc := 19) dM_room_19 rfl ?_
    refine rw_iast (pc := 20) (i := u) dM_room_20 (mo_o94 hm) (mo_S94 hm) (ix_nI (by omega) (by decide)) ?_
    replace hm := mo_sI (a := 94) (k := u) (v := k) hm
    replace hu := hI_sI (a := 94) (k := u) (v := k) (by decide) hu
    refine rw_aload_n (pc := 21) dM_room_21 rfl ?_
    refine rw_getR (pc := 22) (x := some 95) flM_107_M dM_room_22 (mo_o62 hm) (mo_S62 hm) (mo_R95 hm) ?_
    refine rw_aload_n (pc := 25) dM_room_25 rfl ?_
    refine rw_getI (pc := 26) (x := nI u) flM_135_M dM_room_26 (mo_o62 hm) (mo_S62 hm) hu ?_
    refine rw_iload_n (pc := 29) dM_room_29 rfl ?_
    refine rw_iast (pc := 30) (i := u) dM_room_30 (mo_o95 hm) (mo_S95 hm) (ix_nI (by omega) (by decide)) ?_
    replace hm := mo_sI (a := 95) (k := u) (v := c) hm
    replace hu := hI_sI (a := 95) (k := u) (v := c) (by decide) hu
    refine rw_aload_n (pc := 31) dM_room_31 rfl ?_
    refine rw_getR (pc := 32) (x := some 96) flM_110_M dM_room_32 (mo_o62 hm) (mo_S62 hm) (mo_R96 hm) ?_
    refine rw_aload_n (pc := 35) dM_room_35 rfl ?_
    refine rw_getI (pc := 36) (x := nI u) flM_135_M dM_room_36 (mo_o62 hm) (mo_S62 hm) hu ?_
    refine rw_iload_n (pc := 39) dM_room_39 rfl ?_
    refine rw_iast (pc := 40) (i := u) dM_room_40 (mo_o96 hm) (mo_S96 hm) (ix_nI (by omega) (by decide)) ?_
    replace hm := mo_sI (a := 96) (k := u) (v := f) hm
    replace hu := hI_sI (a := 96) (k := u) (v := f) (by decide) hu
    refine rw_aload_n (pc := 41) dM_room_41 rfl ?_
    refine rw_getR (pc := 42) (x := some 97) flM_113_M dM_room_42 (mo_o62 hm) (mo_S62 hm) (mo_R97 hm) ?_
    refine rw_aload_n (pc := 45) dM_room_45 rfl ?_
    refine rw_getI (pc := 46) (x := nI u) flM_135_M dM_room_46 (mo_o62 hm) (mo_S62 hm) hu ?_
    refine rw_iload (pc := 49) dM_room_49 rfl ?_
    refine rw_iast (pc := 51) (i := u) dM_room_51 (mo_o97 hm) (mo_S97 hm) (ix_nI (by omega) (by decide)) ?_
    replace hm := mo_sI (a := 97) (k := u) (v := x) hm
    replace hu := hI_sI (a := 97) (k := u) (v := x) (by decide) hu
    refine rw_aload_n (pc := 52) dM_room_52 rfl ?_
    refine rw_getR (pc := 53) (x := some 98) flM_116_M dM_room_53 (mo_o62 hm) (mo_S62 hm) (mo_R98 hm) ?_
    refine rw_aload_n (pc := 56) dM_room_56 rfl ?_
    refine rw_getI (pc := 57) (x := nI u) flM_135_M dM_room_57 (mo_o62 hm) (mo_S62 hm) hu ?_
    refine rw_iconst (pc := 60) (x := nI 0) dM_room_60 (by decide) ?_
    refine rw_iast (pc := 61) (i := u) dM_room_61 (mo_o98 hm) (mo_S98 hm) (ix_nI (by omega) (by decide)) ?_
    replace hm := mo_sI (a := 98) (k := u) (v := nI 0) hm
    replace hu := hI_sI (a := 98) (k := u) (v := nI 0) (by decide) hu
    refine rw_aload_n (pc := 62) dM_room_62 rfl ?_
    refine rw_getR (pc := 63) (x := some 99) flM_119_M dM_room_63 (mo_o62 hm) (mo_S62 hm) (mo_R99 hm) ?_
    refine rw_aload_n (pc := 66) dM_room_66 rfl ?_
    refine rw_getI (pc := 67) (x := nI u) flM_135_M dM_room_67 (mo_o62 hm) (mo_S62 hm) hu ?_
    refine rw_iconst (pc := 70) (x := nI 0) dM_room_70 (by decide) ?_
    refine rw_zast (pc := 71) (i := u) (Or.inl rfl) dM_room_71 (mo_o99 hm) (mo_S99 hm) (ix_nI (by omega) (by decide)) ?_
    replace hm := mo_sI (a := 99) (k := u) (v := nI 0) hm
    replace hu := hI_sI (a := 99) (k := u) (v := nI 0) (by decide) hu
    refine rw_aload_n (pc := 72) dM_room_72 rfl ?_
    refine rw_getR (pc := 73) (x := some 100) flM_122_M dM_room_73 (mo_o62 hm) (mo_S62 hm) (mo_R100 hm) ?_
    refine rw_aload_n (pc := 76) dM_room_76 rfl ?_
    refine rw_getI (pc := 77) (x := nI u) flM_135_M dM_room_77 (mo_o62 hm) (mo_S62 hm) hu ?_
    refine rw_iconst (pc := 80) (x := nI 0) dM_room_80 (by decide) ?_
    refine rw_iast (pc := 81) (i := u) dM_room_81 (mo_o100 hm) (mo_S100 hm) (ix_nI (by omega) (by decide)) ?_
    replace hm := mo_sI (a := 100) (k := u) (v := nI 0) hm
    replace hu := hI_sI (a := 100) (k := u) (v := nI 0) (by decide) hu
    refine rw_aload_n (pc := 82) dM_room_82 rfl ?_
    refine rw_getR (pc := 83) (x := some 101) flM_125_M dM_room_83 (mo_o62 hm) (mo_S62 hm) (mo_R101 hm) ?_
    refine rw_aload_n (pc := 86) dM_room_86 rfl ?_
    refine rw_getI (pc := 87) (x := nI u) flM_135_M dM_room_87 (mo_o62 hm) (mo_S62 hm) hu ?_
    refine rw_iconst (pc := 90) (x := nI 0) dM_room_90 (by decide) ?_
    refine rw_iast (pc := 91) (i := u) dM_room_91 (mo_o101 hm) (mo_S101 hm) (ix_nI (by omega) (by decide)) ?_
    replace hm := mo_sI (a := 101) (k := u) (v := nI 0) hm
    replace hu := hI_sI (a := 101) (k := u) (v := nI 0) (by decide) hu
    refine rw_aload_n (pc := 92) dM_room_92 rfl ?_
    refine rw_dup (pc := 93) dM_room_93 ?_
    refine rw_getI (pc := 94) (x := nI u) flM_135_M dM_room_94 (mo_o62 hm) (mo_S62 hm) hu ?_
    refine rw_iconst (pc := 97) (x := nI 1) dM_room_97 (by decide) ?_
    refine rw_iadd (pc := 98) (v := nI (u + 1)) dM_room_98 (nI_add _ _) ?_
    refine rw_putI (pc := 99) pfM_135_M dM_room_99 (mo_o62 hm) (mo_S62 hm) ?_
    replace hm := mo_sI (a := 62) (k := 34) (v := nI (u + 1)) hm
    have e2 : hp_I (hp_sI (hp_sI (hp_sI (hp_sI (hp_sI (hp_sI (hp_sI (hp_sI (hp_sI h 94 u k) 95 u c) 96 u f) 97 u x) 98 u (nI 0)) 99 u (nI 0)) 100 u (nI 0)) 101 u (nI 0)) 62 34 (nI (u + 1))) 62 34 = nI (u + 1) := hI_set
    refine rw_aload_n (pc := 102) dM_room_102 rfl ?_
    refine rw_getI (pc := 103) (x := nI (u + 1)) flM_135_M dM_room_103 (mo_o62 hm) (mo_S62 hm) e2 ?_
    refine rw_iconst (pc := 106) (x := nI 1) dM_room_106 (by decide) ?_
    refine rw_isub (pc := 107) (v := nI ((u + 1) - 1)) dM_room_107 (pk_sub (by omega)) ?_
    exact rw_iret (pc := 108) dM_room_108 rfl ⟨_, rfl, (by unfold m_room; rw [if_neg c1]; try rfl), (by unfold m_room; rw [if_neg c1]; try rfl)⟩
  · skip
    replace c1 : u = 60 := (nI_eq (a := u) (b := 60) (by omega) (by omega)).mp c1
    refine rw_iconst (pc := 9) (x := (-1)) dM_room_9 (by decide) ?_
    exact rw_iret (pc := 10) dM_room_10 rfl ⟨_, rfl, (by unfold m_room; rw [if_pos c1]; try rfl), (by unfold m_room; rw [if_pos c1]; try rfl)⟩
end
section
def m_move (h : ha_H) (i t : Nat) : ha_H := hp_mv (hp_mv (hp_mv (hp_mv (hp_mv (hp_mv (hp_mv (hp_mv (hp_mv (hp_mv (hp_mv (hp_mv h 94 i 94 t) 95 i 95 t) 96 i 96 t) 97 i 97 t) 98 i 98 t) 99 i 99 t) 100 i 100 t) 101 i 101 t) 102 (4 * i + 0) 102 (4 * t + 0)) 102 (4 * i + 1) 102 (4 * t + 1)) 102 (4 * i + 2) 102 (4 * t + 2)) 102 (4 * i + 3) 102 (4 * t + 3)
theorem cM_move (G : mt_G) (h : ha_H) (hm : mo_ok h) (hb : mo_b h) {i t : Nat} (hi : i < 60) (ht : t < 60) : rn_M G xM_move (0, 0, 0) [.inr (some 62), .inl (nI i), .inl (nI t)] h (rn_v (fun h' => m_move h i t = h')) := by
  refine rn_of (by decide +kernel) (Nat.le_of_ble_eq_true rfl) ?_
  show rn_W G xM_move (0, 0, 0) 0 0 0 [some (.inr (some 62)), some (.inl (nI i)), some (.inl (nI t)), none] [] h _
  refine rw_aload_n (pc := 0) dM_move_0 rfl ?_
  refine rw_getR (pc := 1) (x := some 94) flM_104_M dM_move_1 (mo_o62 hm) (mo_S62 hm) (mo_R94 hm) ?_
  refine rw_iload_n (pc := 4) dM_move_4 rfl ?_
  refine rw_aload_n (pc := 5) dM_move_5 rfl ?_
  refine rw_getR (pc := 6) (x := some 94) flM_104_M dM_move_6 (mo_o62 hm) (mo_S62 hm) (mo_R94 hm) ?_
  refine rw_iload_n (pc := 9) dM_move_9 rfl ?_
  refine rw_iald (pc := 10) (v := hp_I h 94 i) (i := i) dM_move_10 (mo_o94 hm) (mo_S94 hm) (ix_nI (by omega) (by decide)) rfl ?_
  refine rw_iast (pc := 11) (i := t) dM_move_11 (mo_o94 hm) (mo_S94 hm) (ix_nI (by omega) (by decide)) ?_
  show rn_W G xM_move (0, 0, 0) 0 0 12 [some (.inr (some 62)), some (.inl (nI i)), some (.inl (nI t)), none] [] (hp_mv h 94 i 94 t) _
  replace hm := mo_mv (A := 94) (i := i) (B := 94) (t := t) hm
  refine rw_aload_n (pc := 12) dM_move_12 rfl ?_
  refine rw_getR (pc := 13) (x := some 95) flM_107_M dM_move_13 (mo_o62 hm) (mo_S62 hm) (mo_R95 hm) ?_
  refine rw_iload_n (pc := 16) dM_move_16 rfl ?_
  refine rw_aload_n (pc := 17) dM_move_17 rfl ?_
  refine rw_getR (pc := 18) (x := some 95) flM_107_M dM_move_18 (mo_o62 hm) (mo_S62 hm) (mo_R95 hm) ?_
  refine rw_iload_n (pc := 21) dM_move_21 rfl ?_
  refine rw_iald (pc := 22) (v := hp_I (hp_mv h 94 i 94 t) 95 i) (i := i) dM_move_22 (mo_o95 hm) (mo_S95 hm) (ix_nI (by omega) (by decide)) rfl ?_
  refine rw_iast (pc := 23) (i := t) dM_move_23 (mo_o95 hm) (mo_S95 hm) (ix_nI (by omega) (by decide)) ?_
  show rn_W G xM_move (0, 0, 0) 0 0 24 [some (.inr (some 62)), some (.inl (nI i)), some (.inl (nI t)), none] [] (hp_mv (hp_mv h 94 i 94 t) 95 i 95 t) _
  replace hm := mo_mv (A := 95) (i := i) (B := 95) (t := t) hm
  refine rw_aload_n (pc := 24) dM_move_24 rfl ?_
  refine rw_getR (pc := 25) (x := some 96) flM_110_M dM_move_25 (mo_o62 hm) (mo_S62 hm) (mo_R96 hm) ?_
  refine rw_iload_n (pc := 28) dM_move_28 rfl ?_
  refine rw_aload_n (pc := 29) dM_move_29 rfl ?_
  refine rw_getR (pc := 30) (x := some 96) flM_110_M dM_move_30 (mo_o62 hm) (mo_S62 hm) (mo_R96 hm) ?_
  refine rw_iload_n (pc := 33) dM_move_33 rfl ?_
  refine rw_iald (pc := 34) (v := hp_I (hp_mv (hp_mv h 94 i 94 t) 95 i 95 t) 96 i) (i := i) dM_move_34 (mo_o96 hm) (mo_S96 hm) (ix_nI (by omega) (by decide)) rfl ?_
  refine rw_iast (pc := 35) (i := t) dM_move_35 (mo_o96 hm) (mo_S96 hm) (ix_nI (by omega) (by decide)) ?_
  show rn_W G xM_move (0, 0, 0) 0 0 36 [some (.inr (some 62)), some (.inl (nI i)), some (.inl (nI t)), none] [] (hp_mv (hp_mv (hp_mv h 94 i 94 t) 95 i 95 t) 96 i 96 t) _
  replace hm := mo_mv (A := 96) (i := i) (B := 96) (t := t) hm
  refine rw_aload_n (pc := 36) dM_move_36 rfl ?_
  refine rw_getR (pc := 37) (x := some 97) flM_113_M dM_move_37 (mo_o62 hm) (mo_S62 hm) (mo_R97 hm) ?_
  refine rw_iload_n (pc := 40) dM_move_40 rfl ?_
  refine rw_aload_n (pc := 41) dM_move_41 rfl ?_
  refine rw_getR (pc := 42) (x := some 97) flM_113_M dM_move_42 (mo_o62 hm) (mo_S62 hm) (mo_R97 hm) ?_
  refine rw_iload_n (pc := 45) dM_move_45 rfl ?_
  refine rw_iald (pc := 46) (v := hp_I (hp_mv (hp_mv (hp_mv h 94 i 94 t) 95 i 95 t) 96 i 96 t) 97 i) (i := i) dM_move_46 (mo_o97 hm) (mo_S97 hm) (ix_nI (by omega) (by decide)) rfl ?_
  refine rw_iast (pc := 47) (i := t) dM_move_47 (mo_o97 hm) (mo_S97 hm) (ix_nI (by omega) (by decide)) ?_
  show rn_W G xM_move (0, 0, 0) 0 0 48 [some (.inr (some 62)), some (.inl (nI i)), some (.inl (nI t)), none] [] (hp_mv (hp_mv (hp_mv (hp_mv h 94 i 94 t) 95 i 95 t) 96 i 96 t) 97 i 97 t) _
  replace hm := mo_mv (A := 97) (i := i) (B := 97) (t := t) hm
  refine rw_aload_n (pc := 48) dM_move_48 rfl ?_
  refine rw_getR (pc := 49) (x := some 98) flM_116_M dM_move_49 (mo_o62 hm) (mo_S62 hm) (mo_R98 hm) ?_
  refine rw_iload_n (pc := 52) dM_move_52 rfl ?_
  refine rw_aload_n (pc := 53) dM_move_53 rfl ?_
  refine rw_getR (pc := 54) (x := some 98) flM_116_M dM_move_54 (mo_o62 hm) (mo_S62 hm) (mo_R98 hm) ?_
  refine rw_iload_n (pc := 57) dM_move_57 rfl ?_
  refine rw_iald (pc := 58) (v := hp_I (hp_mv (hp_mv (hp_mv (hp_mv h 94 i 94 t) 95 i 95 t) 96 i 96 t) 97 i 97 t) 98 i) (i := i) dM_move_58 (mo_o98 hm) (mo_S98 hm) (ix_nI (by omega) (by decide)) rfl ?_
  refine rw_iast (pc := 59) (i := t) dM_move_59 (mo_o98 hm) (mo_S98 hm) (ix_nI (by omega) (by decide)) ?_
  show rn_W G xM_move (0, 0, 0) 0 0 60 [some (.inr (some 62)), some (.inl (nI i)), some (.inl (nI t)), none] [] (hp_mv (hp_mv (hp_mv (hp_mv (hp_mv h 94 i 94 t) 95 i 95 t) 96 i 96 t) 97 i 97 t) 98 i 98 t) _
  replace hm := mo_mv (A := 98) (i := i) (B := 98) (t := t) hm
  refine rw_aload_n (pc := 60) dM_move_60 rfl ?_
  refine rw_getR (pc := 61) (x := some 99) flM_119_M dM_move_61 (mo_o62 hm) (mo_S62 hm) (mo_R99 hm) ?_
  refine rw_iload_n (pc := 64) dM_move_64 rfl ?_
  refine rw_aload_n (pc := 65) dM_move_65 rfl ?_
  refine rw_getR (pc := 66) (x := some 99) flM_119_M dM_move_66 (mo_o62 hm) (mo_S62 hm) (mo_R99 hm) ?_
  refine rw_iload_n (pc := 69) dM_move_69 rfl ?_
  refine rw_zald (pc := 70) (v := hp_I (hp_mv (hp_mv (hp_mv (hp_mv (hp_mv h 94 i 94 t) 95 i 95 t) 96 i 96 t) 97 i 97 t) 98 i 98 t) 99 i) (i := i) dM_move_70 (mo_o99 hm) (mo_S99 hm) (ix_nI (by omega) (by decide)) rfl ?_
  refine rw_zast (pc := 71) (i := t) (hb 99 (by decide) _) dM_move_71 (mo_o99 hm) (mo_S99 hm) (ix_nI (by omega) (by decide)) ?_
  show rn_W G xM_move (0, 0, 0) 0 0 72 [some (.inr (some 62)), some (.inl (nI i)), some (.inl (nI t)), none] [] (hp_mv (hp_mv (hp_mv (hp_mv (hp_mv (hp_mv h 94 i 94 t) 95 i 95 t) 96 i 96 t) 97 i 97 t) 98 i 98 t) 99 i 99 t) _
  replace hm := mo_mv (A := 99) (i := i) (B := 99) (t := t) hm
  refine rw_aload_n (pc := 72) dM_move_72 rfl ?_
  refine rw_getR (pc := 73) (x := some 100) flM_122_M dM_move_73 (mo_o62 hm) (mo_S62 hm) (mo_R100 hm) ?_
  refine rw_iload_n (pc := 76) dM_move_76 rfl ?_
  refine rw_aload_n (pc := 77) dM_move_77 rfl ?_
  refine rw_getR (pc := 78) (x := some 100) flM_122_M dM_move_78 (mo_o62 hm) (mo_S62 hm) (mo_R100 hm) ?_
  refine rw_iload_n (pc := 81) dM_move_81 rfl ?_
  refine rw_iald (pc := 82) (v := hp_I (hp_mv (hp_mv (hp_mv (hp_mv (hp_mv (hp_mv h 94 i 94 t) 95 i 95 t) 96 i 96 t) 97 i 97 t) 98 i 98 t) 99 i 99 t) 100 i) (i := i) dM_move_82 (mo_o100 hm) (mo_S100 hm) (ix_nI (by omega) (by decide)) rfl ?_
  refine rw_iast (pc := 83) (i := t) dM_move_83 (mo_o100 hm) (mo_S100 hm) (ix_nI (by omega) (by decide)) ?_
  show rn_W G xM_move (0, 0, 0) 0 0 84 [some (.inr (some 62)), some (.inl (nI i)), some (.inl (nI t)), none] [] (hp_mv (hp_mv (hp_mv (hp_mv (hp_mv (hp_mv (hp_mv h 94 i 94 t) 95 i 95 t) 96 i 96 t) 97 i 97 t) 98 i 98 t) 99 i 99 t) 100 i 100 t) _
  replace hm := mo_mv (A := 100) (i := i) (B := 100) (t := t) hm
  refine rw_aload_n (pc := 84) dM_move_84 rfl ?_
  refine rw_getR (pc := 85) (x := some 101) flM_125_M dM_move_85 (mo_o62 hm) (mo_S62 hm) (mo_R101 hm) ?_
  refine rw_iload_n (pc := 88) dM_move_88 rfl ?_
  refine rw_aload_n (pc := 89) dM_move_89 rfl ?_
  refine rw_getR (pc := 90) (x := some 101) flM_125_M dM_move_90 (mo_o62 hm) (mo_S62 hm) (mo_R101 hm) ?_
  refine rw_iload_n (pc := 93) dM_move_93 rfl ?_
  refine rw_iald (pc := 94) (v := hp_I (hp_mv (hp_mv (hp_mv (hp_mv (hp_mv (hp_mv (hp_mv h 94 i 94 t) 95 i 95 t) 96 i 96 t) 97 i 97 t) 98 i 98 t) 99 i 99 t) 100 i 100 t) 101 i) (i := i) dM_move_94 (mo_o101 hm) (mo_S101 hm) (ix_nI (by omega) (by decide)) rfl ?_
  refine rw_iast (pc := 95) (i := t) dM_move_95 (mo_o101 hm) (mo_S101 hm) (ix_nI (by omega) (by decide)) ?_
  show rn_W G xM_move (0, 0, 0) 0 0 96 [some (.inr (some 62)), some (.inl (nI i)), some (.inl (nI t)), none] [] (hp_mv (hp_mv (hp_mv (hp_mv (hp_mv (hp_mv (hp_mv (hp_mv h 94 i 94 t) 95 i 95 t) 96 i 96 t) 97 i 97 t) 98 i 98 t) 99 i 99 t) 100 i 100 t) 101 i 101 t) _
  replace hm := mo_mv (A := 101) (i := i) (B := 101) (t := t) hm
  refine rw_iconst (pc := 96) (x := nI 0) dM_move_96 (by decide) ?_
  refine rw_istore_n (pc := 97) (L' := [some (.inr (some 62)), some (.inl (nI i)), some (.inl (nI t)), some (.inl (nI 0))]) dM_move_97 (by decide) rfl ?_
  refine rw_iload_n (pc := 98) dM_move_98 rfl ?_
  refine rw_iconst (pc := 99) (x := nI 4) dM_move_99 (by decide) ?_
  refine rw_icmpge (pc := 100) dM_move_100 (tgt := 129) rfl (fun c1 => ?_) (fun c1 => ?_)
  · skip
    replace c1 : 4 ≤ 0 := (nI_leI (a := 4) (b := 0) (by omega) (by omega)).mp c1
    exact absurd c1 (by decide)
  · skip
    replace c1 : ¬ (4 ≤ 0) := fun q => c1 ((nI_leI (a := 4) (b := 0) (by omega) (by omega)).mpr q)
    refine rw_aload_n (pc := 103) dM_move_103 rfl ?_
    refine rw_getR (pc := 104) (x := some 102) flM_128_M dM_move_104 (mo_o62 hm) (mo_S62 hm) (mo_R102 hm) ?_
    refine rw_iconst (pc := 107) (x := nI 4) dM_move_107 (by decide) ?_
    refine rw_iload_n (pc := 108) dM_move_108 rfl ?_
    refine rw_imul (pc := 109) (v := nI (4 * t)) dM_move_109 (pk_mul _ _) ?_
    refine rw_iload_n (pc := 110) dM_move_110 rfl ?_
    refine rw_iadd (pc := 111) (v := nI (4 * t + 0)) dM_move_111 (nI_add _ _) ?_
    refine rw_aload_n (pc := 112) dM_move_112 rfl ?_
    refine rw_getR (pc := 113) (x := some 102) flM_128_M dM_move_113 (mo_o62 hm) (mo_S62 hm) (mo_R102 hm) ?_
    refine rw_iconst (pc := 116) (x := nI 4) dM_move_116 (by decide) ?_
    refine rw_iload_n (pc := 117) dM_move_117 rfl ?_
    refine rw_imul (pc := 118) (v := nI (4 * i)) dM_move_118 (pk_mul _ _) ?_
    refine rw_iload_n (pc := 119) dM_move_119 rfl ?_
    refine rw_iadd (pc := 120) (v := nI (4 * i + 0)) dM_move_120 (nI_add _ _) ?_
    refine rw_iald (pc := 121) (v := hp_I (hp_mv (hp_mv (hp_mv (hp_mv (hp_mv (hp_mv (hp_mv (hp_mv h 94 i 94 t) 95 i 95 t) 96 i 96 t) 97 i 97 t) 98 i 98 t) 99 i 99 t) 100 i 100 t) 101 i 101 t) 102 (4 * i + 0)) (i := (4 * i + 0)) dM_move_121 (mo_o102 hm) (mo_S102 hm) (ix_nI (by omega) (by decide)) rfl ?_
    refine rw_iast (pc := 122) (i := (4 * t + 0)) dM_move_122 (mo_o102 hm) (mo_S102 hm) (ix_nI (by omega) (by decide)) ?_
    show rn_W G xM_move (0, 0, 0) 0 0 123 [some (.inr (some 62)), some (.inl (nI i)), some (.inl (nI t)), some (.inl (nI 0))] [] (hp_mv (hp_mv (hp_mv (hp_mv (hp_mv (hp_mv (hp_mv (hp_mv (hp_mv h 94 i 94 t) 95 i 95 t) 96 i 96 t) 97 i 97 t) 98 i 98 t) 99 i 99 t) 100 i 100 t) 101 i 101 t) 102 (4 * i + 0) 102 (4 * t + 0)) _
    replace hm := mo_mv (A := 102) (i := (4 * i + 0)) (B := 102) (t := (4 * t + 0)) hm
    refine rw_iinc (pc := 123) (x := nI 0) (y := nI 1) (L' := [some (.inr (some 62)), some (.inl (nI i)), some (.inl (nI t)), some (.inl (nI 1))]) dM_move_123 (by decide) rfl (by decide) rfl ?_
    refine rw_goto (pc := 126) dM_move_126 (tgt := 98) rfl ?_
    refine rw_iload_n (pc := 98) dM_move_98 rfl ?_
    refine rw_iconst (pc := 99) (x := nI 4) dM_move_99 (by decide) ?_
    refine rw_icmpge (pc := 100) dM_move_100 (tgt := 129) rfl (fun c2 => ?_) (fun c2 => ?_)
    · skip
      replace c2 : 4 ≤ 1 := (nI_leI (a := 4) (b := 1) (by omega) (by omega)).mp c2
      exact absurd c2 (by decide)
    · skip
      replace c2 : ¬ (4 ≤ 1) := fun q => c2 ((nI_leI (a := 4) (b := 1) (by omega) (by omega)).mpr q)
      refine rw_aload_n (pc := 103) dM_move_103 rfl ?_
      refine rw_getR (pc := 104) (x := some 102) flM_128_M dM_move_104 (mo_o62 hm) (mo_S62 hm) (mo_R102 hm) ?_
      refine rw_iconst (pc := 107) (x := nI 4) dM_move_107 (by decide) ?_
      refine rw_iload_n (pc := 108) dM_move_108 rfl ?_
      refine rw_imul (pc := 109) (v := nI (4 * t)) dM_move_109 (pk_mul _ _) ?_
      refine rw_iload_n (pc := 110) dM_move_110 rfl ?_
      refine rw_iadd (pc := 111) (v := nI (4 * t + 1)) dM_move_111 (nI_add _ _) ?_
      refine rw_aload_n (pc := 112) dM_move_112 rfl ?_
      refine rw_getR (pc := 113) (x := some 102) flM_128_M dM_move_113 (mo_o62 hm) (mo_S62 hm) (mo_R102 hm) ?_
      refine rw_iconst (pc := 116) (x := nI 4) dM_move_116 (by decide) ?_
      refine rw_iload_n (pc := 117) dM_move_117 rfl ?_
      refine rw_imul (pc := 118) (v := nI (4 * i)) dM_move_118 (pk_mul _ _) ?_
      refine rw_iload_n (pc := 119) dM_move_119 rfl ?_
      refine rw_iadd (pc := 120) (v := nI (4 * i + 1)) dM_move_120 (nI_add _ _) ?_
      refine rw_iald (pc := 121) (v := hp_I (hp_mv (hp_mv (hp_mv (hp_mv (hp_mv (hp_mv (hp_mv (hp_mv (hp_mv h 94 i 94 t) 95 i 95 t) 96 i 96 t) 97 i 97 t) 98 i 98 t) 99 i 99 t) 100 i 100 t) 101 i 101 t) 102 (4 * i + 0) 102 (4 * t + 0)) 102 (4 * i + 1)) (i := (4 * i + 1)) dM_move_121 (mo_o102 hm) (mo_S102 hm) (ix_nI (by omega) (by decide)) rfl ?_
      refine rw_iast (pc := 122) (i := (4 * t + 1)) dM_move_122 (mo_o102 hm) (mo_S102 hm) (ix_nI (by omega) (by decide)) ?_
      show rn_W G xM_move (0, 0, 0) 0 0 123 [some (.inr (some 62)), some (.inl (nI i)), some (.inl (nI t)), some (.inl (nI 1))] [] (hp_mv (hp_mv (hp_mv (hp_mv (hp_mv (hp_mv (hp_mv (hp_mv (hp_mv (hp_mv h 94 i 94 t) 95 i 95 t) 96 i 96 t) 97 i 97 t) 98 i 98 t) 99 i 99 t) 100 i 100 t) 101 i 101 t) 102 (4 * i + 0) 102 (4 * t + 0)) 102 (4 * i + 1) 102 (4 * t + 1)) _
      replace hm := mo_mv (A := 102) (i := (4 * i + 1)) (B := 102) (t := (4 * t + 1)) hm
      refine rw_iinc (pc := 123) (x := nI 1) (y := nI 2) (L' := [some (.inr (some 62)), some (.inl (nI i)), some (.inl (nI t)), some (.inl (nI 2))]) dM_move_123 (by decide) rfl (by decide) rfl ?_
      refine rw_goto (pc := 126) dM_move_126 (tgt := 98) rfl ?_
      refine rw_iload_n (pc := 98) dM_move_98 rfl ?_
      refine rw_iconst (pc := 99) (x := nI 4) dM_move_99 (by decide) ?_
      refine rw_icmpge (pc := 100) dM_move_100 (tgt := 129) rfl (fun c3 => ?_) (fun c3 => ?_)
      · skip
        replace c3 : 4 ≤ 2 := (nI_leI (a := 4) (b := 2) (by omega) (by omega)).mp c3
        exact absurd c3 (by decide)
      · skip
        replace c3 : ¬ (4 ≤ 2) := fun q => c3 ((nI_leI (a := 4) (b := 2) (by omega) (by omega)).mpr q)
        refine rw_aload_n (pc := 103) dM_move_103 rfl ?_
        refine rw_getR (pc := 104) (x := some 102) flM_128_M dM_move_104 (mo_o62 hm) (mo_S62 hm) (mo_R102 hm) ?_
        refine rw_iconst (pc := 107) (x := nI 4) dM_move_107 (by decide) ?_
        refine rw_iload_n (pc := 108) dM_move_108 rfl ?_
        refine rw_imul (pc := 109) (v := nI (4 * t)) dM_move_109 (pk_mul _ _) ?_
        refine rw_iload_n (pc := 110) dM_move_110 rfl ?_
        refine rw_iadd (pc := 111) (v := nI (4 * t + 2)) dM_move_111 (nI_add _ _) ?_
        refine rw_aload_n (pc := 112) dM_move_112 rfl ?_
        refine rw_getR (pc := 113) (x := some 102) flM_128_M dM_move_113 (mo_o62 hm) (mo_S62 hm) (mo_R102 hm) ?_
        refine rw_iconst (pc := 116) (x := nI 4) dM_move_116 (by decide) ?_
        refine rw_iload_n (pc := 117) dM_move_117 rfl ?_
        refine rw_imul (pc := 118) (v := nI (4 * i)) dM_move_118 (pk_mul _ _) ?_
        refine rw_iload_n (pc := 119) dM_move_119 rfl ?_
        refine rw_iadd (pc := 120) (v := nI (4 * i + 2)) dM_move_120 (nI_add _ _) ?_
        refine rw_iald (pc := 121) (v := hp_I (hp_mv (hp_mv (hp_mv (hp_mv (hp_mv (hp_mv (hp_mv (hp_mv (hp_mv (hp_mv h 94 i 94 t) 95 i 95 t) 96 i 96 t) 97 i 97 t) 98 i 98 t) 99 i 99 t) 100 i 100 t) 101 i 101 t) 102 (4 * i + 0) 102 (4 * t + 0)) 102 (4 * i + 1) 102 (4 * t + 1)) 102 (4 * i + 2)) (i := (4 * i + 2)) dM_move_121 (mo_o102 hm) (mo_S102 hm) (ix_nI (by omega) (by decide)) rfl ?_
        refine rw_iast (pc := 122) (i := (4 * t + 2)) dM_move_122 (mo_o102 hm) (mo_S102 hm) (ix_nI (by omega) (by decide)) ?_
        show rn_W G xM_move (0, 0, 0) 0 0 123 [some (.inr (some 62)), some (.inl (nI i)), some (.inl (nI t)), some (.inl (nI 2))] [] (hp_mv (hp_mv (hp_mv (hp_mv (hp_mv (hp_mv (hp_mv (hp_mv (hp_mv (hp_mv (hp_mv h 94 i 94 t) 95 i 95 t) 96 i 96 t) 97 i 97 t) 98 i 98 t) 99 i 99 t) 100 i 100 t) 101 i 101 t) 102 (4 * i + 0) 102 (4 * t + 0)) 102 (4 * i + 1) 102 (4 * t + 1)) 102 (4 * i + 2) 102 (4 * t + 2)) _
        replace hm := mo_mv (A := 102) (i := (4 * i + 2)) (B := 102) (t := (4 * t + 2)) hm
        refine rw_iinc (pc := 123) (x := nI 2) (y := nI 3) (L' := [some (.inr (some 62)), some (.inl (nI i)), some (.inl (nI t)), some (.inl (nI 3))]) dM_move_123 (by decide) rfl (by decide) rfl ?_
        refine rw_goto (pc := 126) dM_move_126 (tgt := 98) rfl ?_
        refine rw_iload_n (pc := 98) dM_move_98 rfl ?_
        refine rw_iconst (pc := 99) (x := nI 4) dM_move_99 (by decide) ?_
        refine rw_icmpge (pc := 100) dM_move_100 (tgt := 129) rfl (fun c4 => ?_) (fun c4 => ?_)
        · skip
          replace c4 : 4 ≤ 3 := (nI_leI (a := 4) (b := 3) (by omega) (by omega)).mp c4
          exact absurd c4 (by decide)
        · skip
          replace c4 : ¬ (4 ≤ 3) := fun q => c4 ((nI_leI (a := 4) (b := 3) (by omega) (by omega)).mpr q)
          refine rw_aload_n (pc := 103) dM_move_103 rfl ?_
          refine rw_getR (pc := 104) (x := some 102) flM_128_M dM_move_104 (mo_o62 hm) (mo_S62 hm) (mo_R102 hm) ?_
          refine rw_iconst (pc := 107) (x := nI 4) dM_move_107 (by decide) ?_
          refine rw_iload_n (pc := 108) dM_move_108 rfl ?_
          refine rw_imul (pc := 109) (v := nI (4 * t)) dM_move_109 (pk_mul _ _) ?_
          refine rw_iload_n (pc := 110) dM_move_110 rfl ?_
          refine rw_iadd (pc := 111) (v := nI (4 * t + 3)) dM_move_111 (nI_add _ _) ?_
          refine rw_aload_n (pc := 112) dM_move_112 rfl ?_
          refine rw_getR (pc := 113) (x := some 102) flM_128_M dM_move_113 (mo_o62 hm) (mo_S62 hm) (mo_R102 hm) ?_
          refine rw_iconst (pc := 116) (x := nI 4) dM_move_116 (by decide) ?_
          refine rw_iload_n (pc := 117) dM_move_117 rfl ?_
          refine rw_imul (pc := 118) (v := nI (4 * i)) dM_move_118 (pk_mul _ _) ?_
          refine rw_iload_n (pc := 119) dM_move_119 rfl ?_
          refine rw_iadd (pc := 120) (v := nI (4 * i + 3)) dM_move_120 (nI_add _ _) ?_
          refine rw_iald (pc := 121) (v := hp_I (hp_mv (hp_mv (hp_mv (hp_mv (hp_mv (hp_mv (hp_mv (hp_mv (hp_mv (hp_mv (hp_mv h 94 i 94 t) 95 i 95 t) 96 i 96 t) 97 i 97 t) 98 i 98 t) 99 i 99 t) 100 i 100 t) 101 i 101 t) 102 (4 * i + 0) 102 (4 * t + 0)) 102 (4 * i + 1) 102 (4 * t + 1)) 102 (4 * i + 2) 102 (4 * t + 2)) 102 (4 * i + 3)) (i := (4 * i + 3)) dM_move_121 (mo_o102 hm) (mo_S102 hm) (ix_nI (by omega) (by decide)) rfl ?_
          refine rw_iast (pc := 122) (i := (4 * t + 3)) dM_move_122 (mo_o102 hm) (mo_S102 hm) (ix_nI (by omega) (by decide)) ?_
          show rn_W G xM_move (0, 0, 0) 0 0 123 [some (.inr (some 62)), some (.inl (nI i)), some (.inl (nI t)), some (.inl (nI 3))] [] (hp_mv (hp_mv (hp_mv (hp_mv (hp_mv (hp_mv (hp_mv (hp_mv (hp_mv (hp_mv (hp_mv (hp_mv h 94 i 94 t) 95 i 95 t) 96 i 96 t) 97 i 97 t) 98 i 98 t) 99 i 99 t) 100 i 100 t) 101 i 101 t) 102 (4 * i + 0) 102 (4 * t + 0)) 102 (4 * i + 1) 102 (4 * t + 1)) 102 (4 * i + 2) 102 (4 * t + 2)) 102 (4 * i + 3) 102 (4 * t + 3)) _
          replace hm := mo_mv (A := 102) (i := (4 * i + 3)) (B := 102) (t := (4 * t + 3)) hm
          refine rw_iinc (pc := 123) (x := nI 3) (y := nI 4) (L' := [some (.inr (some 62)), some (.inl (nI i)), some (.inl (nI t)), some (.inl (nI 4))]) dM_move_123 (by decide) rfl (by decide) rfl ?_
          refine rw_goto (pc := 126) dM_move_126 (tgt := 98) rfl ?_
          refine rw_iload_n (pc := 98) dM_move_98 rfl ?_
          refine rw_iconst (pc := 99) (x := nI 4) dM_move_99 (by decide) ?_
          refine rw_icmpge (pc := 100) dM_move_100 (tgt := 129) rfl (fun c5 => ?_) (fun c5 => ?_)
          · skip
            replace c5 : 4 ≤ 4 := (nI_leI (a := 4) (b := 4) (by omega) (by omega)).mp c5
            exact rw_vret (pc := 129) dM_move_129 rfl ⟨rfl, rfl⟩
          · skip
            replace c5 : ¬ (4 ≤ 4) := fun q => c5 ((nI_leI (a := 4) (b := 4) (by omega) (by omega)).mpr q)
            exact absurd (by decide) c5
theorem mi_idx {u : Nat} (hu : u ≤ 60) {i : Int32} (c : ¬ mi_in i (nI 0) (nI u - nI 1) = 0) : ∃ j, j < u ∧ i = nI j := by
  unfold mi_in at c
  by_cases c1 : i < nI 0
  · rw [if_pos c1] at c
    exact absurd rfl c
  · rw [if_neg c1] at c
    by_cases c2 : nI u - nI 1 < i
    · rw [if_pos c2] at c
      exact absurd rfl c
    · obtain ⟨j, hj, rfl⟩ := nI_of (x := i) c1
      refine ⟨j, ?_, rfl⟩
      cases u with
      | zero =>
        exfalso
        apply c2
        have h1 : nI 0 - nI 1 < 0 := by decide
        exact Int32.lt_of_lt_of_le h1 (nI_pos' hj)
      | succ n =>
        rw [pk_sub (by omega), nI_ltI (by omega) hj] at c2
        omega
def m_code (h : ha_H) (j : Nat) : Int32 := 1000000 * hp_I h 94 j + 100000 * hp_I h 95 j + nI 10000 * hp_I h 96 j + hp_I h 97 j
def m_message (h : ha_H) (u : Nat) (i : Int32) : Int32 := if mi_in i (nI 0) (nI u - nI 1) = 0 then -1 else m_code h i.toNatClampNeg
theorem cM_message (G : mt_G) (h : ha_H) (hm : mo_ok h) {u : Nat} (hu : hp_I h 62 34 = nI u) (h60 : u ≤ 60) (i : Int32) : rn_M G xM_message (1, 0, 0) [.inr (some 62), .inl i] h (rn_i (fun r h' => r = m_message h u i ∧ h = h')) := by
  refine rn_of (by decide +kernel) (Nat.le_of_ble_eq_true rfl) ?_
  show rn_W G xM_message (1, 0, 0) 0 0 0 [some (.inr (some 62)), some (.inl i)] [] h _
  refine rw_iload_n (pc := 0) dM_message_0 rfl ?_
  refine rw_iconst (pc := 1) (x := nI 0) dM_message_1 (by decide) ?_
  refine rw_aload_n (pc := 2) dM_message_2 rfl ?_
  refine rw_getI (pc := 3) (x := nI u) flM_135_M dM_message_3 (mo_o62 hm) (mo_S62 hm) hu ?_
  refine rw_iconst (pc := 6) (x := nI 1) dM_message_6 (by decide) ?_
  refine rw_isub (pc := 7) (v := nI u - nI 1) dM_message_7 rfl ?_
  refine rw_si (pc := 8) (z' := (0, 0, 0)) (rc' := 0) (rs' := 0) (av := [.inl i, .inl (nI 0), .inl (nI u - nI 1)]) (st := []) mlM_138 msM_in dM_message_8 (cM_in G _ _ _ _) rfl rfl (Nat.le_of_ble_eq_true rfl) (by decide) rfl rfl (fun r1 h1 q1 => ?_)
  obtain ⟨rfl, rfl⟩ := q1
  refine rw_ifeq (pc := 11) dM_message_11 (tgt := 54) rfl (fun c2 => ?_) (fun c2 => ?_)
  · skip
    refine rw_iconst (pc := 54) (x := (-1)) dM_message_54 (by decide) ?_
    exact rw_iret (pc := 55) dM_message_55 rfl ⟨_, rfl, by unfold m_message; rw [if_pos c2], rfl⟩
  · skip
    obtain ⟨j, hj, rfl⟩ := mi_idx h60 c2
    refine rw_ldc (pc := 14) (x := 1000000) dM_message_14 bw_801 ?_
    refine rw_aload_n (pc := 16) dM_message_16 rfl ?_
    refine rw_getR (pc := 17) (x := some 94) flM_104_M dM_message_17 (mo_o62 hm) (mo_S62 hm) (mo_R94 hm) ?_
    refine rw_iload_n (pc := 20) dM_message_20 rfl ?_
    refine rw_iald (pc := 21) (v := hp_I h 94 j) (i := j) dM_message_21 (mo_o94 hm) (mo_S94 hm) (ix_nI (by omega) (by decide)) rfl ?_
    refine rw_imul (pc := 22) (v := (1000000) * (hp_I h 94 j)) dM_message_22 rfl ?_
    refine rw_ldc (pc := 23) (x := 100000) dM_message_23 bw_802 ?_
    refine rw_aload_n (pc := 25) dM_message_25 rfl ?_
    refine rw_getR (pc := 26) (x := some 95) flM_107_M dM_message_26 (mo_o62 hm) (mo_S62 hm) (mo_R95 hm) ?_
    refine rw_iload_n (pc := 29) dM_message_29 rfl ?_
    refine rw_iald (pc := 30) (v := hp_I h 95 j) (i := j) dM_message_30 (mo_o95 hm) (mo_S95 hm) (ix_nI (by omega) (by decide)) rfl ?_
    refine rw_imul (pc := 31) (v := (100000) * (hp_I h 95 j)) dM_message_31 rfl ?_
    refine rw_iadd (pc := 32) (v := ((1000000) * (hp_I h 94 j)) + ((100000) * (hp_I h 95 j))) dM_message_32 rfl ?_
    refine rw_sipush (pc := 33) (x := nI 10000) dM_message_33 (by decide) ?_
    refine rw_aload_n (pc := 36) dM_message_36 rfl ?_
    refine rw_getR (pc := 37) (x := some 96) flM_110_M dM_message_37 (mo_o62 hm) (mo_S62 hm) (mo_R96 hm) ?_
    refine rw_iload_n (pc := 40) dM_message_40 rfl ?_
    refine rw_iald (pc := 41) (v := hp_I h 96 j) (i := j) dM_message_41 (mo_o96 hm) (mo_S96 hm) (ix_nI (by omega) (by decide)) rfl ?_
    refine rw_imul (pc := 42) (v := (nI 10000) * (hp_I h 96 j)) dM_message_42 rfl ?_
    refine rw_iadd (pc := 43) (v := (((1000000) * (hp_I h 94 j)) + ((100000) * (hp_I h 95 j))) + ((nI 10000) * (hp_I h 96 j))) dM_message_43 rfl ?_
    refine rw_aload_n (pc := 44) dM_message_44 rfl ?_
    refine rw_getR (pc := 45) (x := some 97) flM_113_M dM_message_45 (mo_o62 hm) (mo_S62 hm) (mo_R97 hm) ?_
    refine rw_iload_n (pc := 48) dM_message_48 rfl ?_
    refine rw_iald (pc := 49) (v := hp_I h 97 j) (i := j) dM_message_49 (mo_o97 hm) (mo_S97 hm) (ix_nI (by omega) (by decide)) rfl ?_
    refine rw_iadd (pc := 50) (v := ((((1000000) * (hp_I h 94 j)) + ((100000) * (hp_I h 95 j))) + ((nI 10000) * (hp_I h 96 j))) + (hp_I h 97 j)) dM_message_50 rfl ?_
    refine rw_goto (pc := 51) dM_message_51 (tgt := 55) rfl ?_
    exact rw_iret (pc := 55) dM_message_55 rfl ⟨_, rfl, by unfold m_message; rw [if_neg c2]; rw [nI_clamp (by omega)]; rfl, rfl⟩
theorem cM_messages (G : mt_G) (h : ha_H) (hm : mo_ok h) : rn_M G xM_messages (0, 0, 0) [.inr (some 62)] h (rn_i (fun r h' => r = hp_I h 62 34 ∧ h = h')) := by
  refine rn_of (by decide +kernel) (Nat.le_of_ble_eq_true rfl) ?_
  show rn_W G xM_messages (0, 0, 0) 0 0 0 [some (.inr (some 62))] [] h _
  refine rw_aload_n (pc := 0) dM_messages_0 rfl ?_
  refine rw_getI (pc := 1) (x := hp_I h 62 34) flM_135_M dM_messages_1 (mo_o62 hm) (mo_S62 hm) rfl ?_
  exact rw_iret (pc := 4) dM_messages_4 rfl ⟨_, rfl, rfl, rfl⟩
end
section
theorem mb_sI {h : ha_H} (hb : mo_b h) {a k : Nat} {v : Int32} (hv : a ∈ [63, 72, 81, 82, 90, 99] → v = 0 ∨ v = 1) : mo_b (hp_sI h a k v) := by
  intro x hx j
  rw [hp_I_sI]
  by_cases e : x = a ∧ j = k
  · rw [if_pos e]
    exact hv (e.1 ▸ hx)
  · rw [if_neg e]
    exact hb x hx j
theorem mb_mv {h : ha_H} (hb : mo_b h) {A i B t : Nat} (hv : B ∈ [63, 72, 81, 82, 90, 99] → A ∈ [63, 72, 81, 82, 90, 99]) : mo_b (hp_mv h A i B t) := mb_sI hb (fun q => hb A (hv q) i)
theorem mo_roomH {h : ha_H} {u : Nat} {k c f x : Int32} (hm : mo_ok h) : mo_ok (m_roomH h u k c f x) := hm
theorem mu_roomH {h : ha_H} {u : Nat} {k c f x : Int32} : hp_I (m_roomH h u k c f x) 62 34 = nI (u + 1) := hI_set
theorem mb_roomH {h : ha_H} (hb : mo_b h) {u : Nat} {k c f x : Int32} : mo_b (m_roomH h u k c f x) := mb_sI (mb_sI (mb_sI (mb_sI (mb_sI (mb_sI (mb_sI (mb_sI (mb_sI hb (fun q => absurd q (by decide))) (fun q => absurd q (by decide))) (fun q => absurd q (by decide))) (fun q => absurd q (by decide))) (fun q => absurd q (by decide))) (fun _ => Or.inl rfl)) (fun q => absurd q (by decide))) (fun q => absurd q (by decide))) (fun q => absurd q (by decide))
theorem mo_move {h : ha_H} (hm : mo_ok h) {i t : Nat} : mo_ok (m_move h i t) := hm
theorem mb_move {h : ha_H} (hb : mo_b h) {i t : Nat} : mo_b (m_move h i t) := mb_mv (mb_mv (mb_mv (mb_mv (mb_mv (mb_mv (mb_mv (mb_mv (mb_mv (mb_mv (mb_mv (mb_mv hb (by decide)) (by decide)) (by decide)) (by decide)) (by decide)) (by decide)) (by decide)) (by decide)) (by decide)) (by decide)) (by decide)) (by decide)
theorem mu_move {h : ha_H} {i t : Nat} : hp_I (m_move h i t) 62 34 = hp_I h 62 34 := rfl
def m_shift : Nat → ha_H → Nat → ha_H
  | 0, h, _ => h
  | n + 1, h, k => m_shift n (m_move h (k + 1) k) (k + 1)
def m_drop (h : ha_H) (u j : Nat) : ha_H := m_shift (u - 1 - j) (hp_sI h 62 34 (nI (u - 1))) j
def m_dropR (u : Nat) (i : Int32) : Int32 := if mi_in i (nI 0) (nI u - nI 1) = 0 then nI 0 else nI 1
def m_dropH (h : ha_H) (u : Nat) (i : Int32) : ha_H := if mi_in i (nI 0) (nI u - nI 1) = 0 then h else m_drop h u i.toNatClampNeg
theorem cM_drop (G : mt_G) (h : ha_H) (hm : mo_ok h) (hb : mo_b h) {u : Nat} (hu : hp_I h 62 34 = nI u) (h60 : u ≤ 60) (i : Int32) : rn_M G xM_drop (1, 0, 0) [.inr (some 62), .inl i] h (rn_i (fun r h' => r = m_dropR u i ∧ m_dropH h u i = h')) := by
  refine rn_of (by decide +kernel) (Nat.le_of_ble_eq_true rfl) ?_
  show rn_W G xM_drop (1, 0, 0) 0 0 0 [some (.inr (some 62)), some (.inl i), none] [] h _
  refine rw_iload_n (pc := 0) dM_drop_0 rfl ?_
  refine rw_iconst (pc := 1) (x := nI 0) dM_drop_1 (by decide) ?_
  refine rw_aload_n (pc := 2) dM_drop_2 rfl ?_
  refine rw_getI (pc := 3) (x := nI u) flM_135_M dM_drop_3 (mo_o62 hm) (mo_S62 hm) hu ?_
  refine rw_iconst (pc := 6) (x := nI 1) dM_drop_6 (by decide) ?_
  refine rw_isub (pc := 7) (v := nI u - nI 1) dM_drop_7 rfl ?_
  refine rw_si (pc := 8) (z' := (0, 0, 0)) (rc' := 0) (rs' := 0) (av := [.inl i, .inl (nI 0), .inl (nI u - nI 1)]) (st := []) mlM_138 msM_in dM_drop_8 (cM_in G _ _ _ _) rfl rfl (Nat.le_of_ble_eq_true rfl) (by decide) rfl rfl (fun r1 h1 q1 => ?_)
  obtain ⟨rfl, rfl⟩ := q1
  refine rw_ifne (pc := 11) dM_drop_11 (tgt := 16) rfl (fun c2 => ?_) (fun c2 => ?_)
  · skip
    obtain ⟨j, hj, rfl⟩ := mi_idx h60 c2
    have hR : m_dropR u (nI j) = nI 1 := by unfold m_dropR; rw [if_neg c2]
    have hH : m_dropH h u (nI j) = m_drop h u j := by unfold m_dropH; rw [if_neg c2, nI_clamp (by omega)]
    have loop : ∀ (n k : Nat) (g : ha_H), mo_ok g → mo_b g → hp_I g 62 34 = nI (u - 1) → k + n = u - 1 → m_shift n g k = m_dropH h u (nI j) → rn_W G xM_drop (1, 0, 0) 0 0 28 [some (.inr (some 62)), some (.inl (nI j)), some (.inl (nI k))] [] g (rn_i (fun r h' => r = m_dropR u (nI j) ∧ m_dropH h u (nI j) = h')) := by
      intro n
      induction n with
      | zero =>
        intro k g hm hb hu hk hs
        refine rw_iload_n (pc := 28) dM_drop_28 rfl ?_
        refine rw_aload_n (pc := 29) dM_drop_29 rfl ?_
        refine rw_getI (pc := 30) (x := nI (u - 1)) flM_135_M dM_drop_30 (mo_o62 hm) (mo_S62 hm) hu ?_
        refine rw_icmpge (pc := 33) dM_drop_33 (tgt := 50) rfl (fun c3 => ?_) (fun c3 => ?_)
        · skip
          replace c3 : (u - 1) ≤ k := (nI_leI (a := (u - 1)) (b := k) (by omega) (by omega)).mp c3
          refine rw_iconst (pc := 50) (x := nI 1) dM_drop_50 (by decide) ?_
          exact rw_zret (pc := 51) dM_drop_51 rfl (Or.inr rfl) ⟨_, rfl, hR.symm, hs.symm⟩
        · skip
          replace c3 : ¬ ((u - 1) ≤ k) := fun q => c3 ((nI_leI (a := (u - 1)) (b := k) (by omega) (by omega)).mpr q)
          omega
      | succ n ih =>
        intro k g hm hb hu hk hs
        refine rw_iload_n (pc := 28) dM_drop_28 rfl ?_
        refine rw_aload_n (pc := 29) dM_drop_29 rfl ?_
        refine rw_getI (pc := 30) (x := nI (u - 1)) flM_135_M dM_drop_30 (mo_o62 hm) (mo_S62 hm) hu ?_
        refine rw_icmpge (pc := 33) dM_drop_33 (tgt := 50) rfl (fun c4 => ?_) (fun c4 => ?_)
        · skip
          replace c4 : (u - 1) ≤ k := (nI_leI (a := (u - 1)) (b := k) (by omega) (by omega)).mp c4
          omega
        · skip
          replace c4 : ¬ ((u - 1) ≤ k) := fun q => c4 ((nI_leI (a := (u - 1)) (b := k) (by omega) (by omega)).mpr q)
          refine rw_aload_n (pc := 36) dM_drop_36 rfl ?_
          refine rw_iload_n (pc := 37) dM_drop_37 rfl ?_
          refine rw_iconst (pc := 38) (x := nI 1) dM_drop_38 (by decide) ?_
          refine rw_iadd (pc := 39) (v := nI (k + 1)) dM_drop_39 (nI_add _ _) ?_
          refine rw_iload_n (pc := 40) dM_drop_40 rfl ?_
          refine rw_vv (pc := 41) (z' := (0, 0, 0)) (rc' := 0) (rs' := 0) (av := [.inl (nI (k + 1)), .inl (nI k)]) (st := []) (ci := 10) mlM_144 miM_move rfl mvM_move_M dM_drop_41 (mo_o62 hm) (mo_S62 hm) (cM_move G _ hm hb (by omega) (by omega)) rfl rfl (Nat.le_of_ble_eq_true rfl) (by decide) rfl rfl (fun h5 q5 => ?_)
          obtain rfl := q5
          replace hu := (mu_move (i := k + 1) (t := k)).trans hu
          replace hm := mo_move (i := k + 1) (t := k) hm
          replace hb := mb_move (i := k + 1) (t := k) hb
          refine rw_iinc (pc := 44) (x := nI k) (y := nI (k + 1)) (L' := [some (.inr (some 62)), some (.inl (nI j)), some (.inl (nI (k + 1)))]) dM_drop_44 (by decide) rfl (nI_add _ 1) rfl ?_
          refine rw_goto (pc := 47) dM_drop_47 (tgt := 28) rfl ?_
          exact ih (k + 1) _ hm hb hu (by omega) hs
    refine rw_aload_n (pc := 16) dM_drop_16 rfl ?_
    refine rw_dup (pc := 17) dM_drop_17 ?_
    refine rw_getI (pc := 18) (x := nI u) flM_135_M dM_drop_18 (mo_o62 hm) (mo_S62 hm) hu ?_
    refine rw_iconst (pc := 21) (x := nI 1) dM_drop_21 (by decide) ?_
    refine rw_isub (pc := 22) (v := nI (u - 1)) dM_drop_22 (pk_sub (by omega)) ?_
    refine rw_putI (pc := 23) pfM_135_M dM_drop_23 (mo_o62 hm) (mo_S62 hm) ?_
    replace hm := mo_sI (a := 62) (k := 34) (v := nI (u - 1)) hm
    have e6 : hp_I (hp_sI h 62 34 (nI (u - 1))) 62 34 = nI (u - 1) := hI_set
    refine rw_iload_n (pc := 26) dM_drop_26 rfl ?_
    refine rw_istore_n (pc := 27) (L' := [some (.inr (some 62)), some (.inl (nI j)), some (.inl (nI j))]) dM_drop_27 (by decide) rfl ?_
    exact loop (u - 1 - j) j _ hm (mb_sI hb (fun q => absurd q (by decide))) rfl (by omega) hH.symm
  · skip
    refine rw_iconst (pc := 14) (x := nI 0) dM_drop_14 (by decide) ?_
    exact rw_zret (pc := 15) dM_drop_15 rfl (Or.inl rfl) ⟨_, rfl, by unfold m_dropR; rw [if_pos c2], by unfold m_dropH; rw [if_pos c2]⟩
def m_dupR (u : Nat) (i : Int32) : Int32 := if mi_in i (nI 0) (nI u - nI 1) = 0 then nI 0 else if u = 60 then nI 0 else nI 1
def m_dup (h : ha_H) (u j : Nat) : ha_H := hp_sI (m_move h j u) 62 34 (nI (u + 1))
def m_dupH (h : ha_H) (u : Nat) (i : Int32) : ha_H := if mi_in i (nI 0) (nI u - nI 1) = 0 then h else if u = 60 then h else m_dup h u i.toNatClampNeg
theorem cM_duplicate (G : mt_G) (h : ha_H) (hm : mo_ok h) (hb : mo_b h) {u : Nat} (hu : hp_I h 62 34 = nI u) (h60 : u ≤ 60) (i : Int32) : rn_M G xM_duplicate (1, 0, 0) [.inr (some 62), .inl i] h (rn_i (fun r h' => r = m_dupR u i ∧ m_dupH h u i = h')) := by
  refine rn_of (by decide +kernel) (Nat.le_of_ble_eq_true rfl) ?_
  show rn_W G xM_duplicate (1, 0, 0) 0 0 0 [some (.inr (some 62)), some (.inl i)] [] h _
  refine rw_iload_n (pc := 0) dM_duplicate_0 rfl ?_
  refine rw_iconst (pc := 1) (x := nI 0) dM_duplicate_1 (by decide) ?_
  refine rw_aload_n (pc := 2) dM_duplicate_2 rfl ?_
  refine rw_getI (pc := 3) (x := nI u) flM_135_M dM_duplicate_3 (mo_o62 hm) (mo_S62 hm) hu ?_
  refine rw_iconst (pc := 6) (x := nI 1) dM_duplicate_6 (by decide) ?_
  refine rw_isub (pc := 7) (v := nI u - nI 1) dM_duplicate_7 rfl ?_
  refine rw_si (pc := 8) (z' := (0, 0, 0)) (rc' := 0) (rs' := 0) (av := [.inl i, .inl (nI 0), .inl (nI u - nI 1)]) (st := []) mlM_138 msM_in dM_duplicate_8 (cM_in G _ _ _ _) rfl rfl (Nat.le_of_ble_eq_true rfl) (by decide) rfl rfl (fun r1 h1 q1 => ?_)
  obtain ⟨rfl, rfl⟩ := q1
  refine rw_ifeq (pc := 11) dM_duplicate_11 (tgt := 23) rfl (fun c2 => ?_) (fun c2 => ?_)
  · skip
    refine rw_iconst (pc := 23) (x := nI 0) dM_duplicate_23 (by decide) ?_
    exact rw_zret (pc := 24) dM_duplicate_24 rfl (Or.inl rfl) ⟨_, rfl, by unfold m_dupR; rw [if_pos c2], by unfold m_dupH; rw [if_pos c2]⟩
  · skip
    obtain ⟨j, hj, rfl⟩ := mi_idx h60 c2
    refine rw_aload_n (pc := 14) dM_duplicate_14 rfl ?_
    refine rw_getI (pc := 15) (x := nI u) flM_135_M dM_duplicate_15 (mo_o62 hm) (mo_S62 hm) hu ?_
    refine rw_bipush (pc := 18) (x := nI 60) dM_duplicate_18 (by decide) ?_
    refine rw_icmpne (pc := 20) dM_duplicate_20 (tgt := 25) rfl (fun c3 => ?_) (fun c3 => ?_)
    · skip
      replace c3 : ¬ (u = 60) := fun q => c3 ((nI_eq (a := u) (b := 60) (by omega) (by omega)).mpr q)
      refine rw_aload_n (pc := 25) dM_duplicate_25 rfl ?_
      refine rw_iload_n (pc := 26) dM_duplicate_26 rfl ?_
      refine rw_aload_n (pc := 27) dM_duplicate_27 rfl ?_
      refine rw_getI (pc := 28) (x := nI u) flM_135_M dM_duplicate_28 (mo_o62 hm) (mo_S62 hm) hu ?_
      refine rw_vv (pc := 31) (z' := (0, 0, 0)) (rc' := 0) (rs' := 0) (av := [.inl (nI j), .inl (nI u)]) (st := []) (ci := 10) mlM_144 miM_move rfl mvM_move_M dM_duplicate_31 (mo_o62 hm) (mo_S62 hm) (cM_move G _ hm hb (by omega) (by omega)) rfl rfl (Nat.le_of_ble_eq_true rfl) (by decide) rfl rfl (fun h4 q4 => ?_)
      obtain rfl := q4
      replace hu := (mu_move (i := j) (t := u)).trans hu
      replace hm := mo_move (i := j) (t := u) hm
      replace hb := mb_move (i := j) (t := u) hb
      refine rw_aload_n (pc := 34) dM_duplicate_34 rfl ?_
      refine rw_dup (pc := 35) dM_duplicate_35 ?_
      refine rw_getI (pc := 36) (x := nI u) flM_135_M dM_duplicate_36 (mo_o62 hm) (mo_S62 hm) hu ?_
      refine rw_iconst (pc := 39) (x := nI 1) dM_duplicate_39 (by decide) ?_
      refine rw_iadd (pc := 40) (v := nI (u + 1)) dM_duplicate_40 (nI_add _ _) ?_
      refine rw_putI (pc := 41) pfM_135_M dM_duplicate_41 (mo_o62 hm) (mo_S62 hm) ?_
      replace hm := mo_sI (a := 62) (k := 34) (v := nI (u + 1)) hm
      have e5 : hp_I (hp_sI (m_move h j u) 62 34 (nI (u + 1))) 62 34 = nI (u + 1) := hI_set
      refine rw_iconst (pc := 44) (x := nI 1) dM_duplicate_44 (by decide) ?_
      exact rw_zret (pc := 45) dM_duplicate_45 rfl (Or.inr rfl) ⟨_, rfl, by unfold m_dupR; rw [if_neg c2, if_neg c3], by unfold m_dupH; rw [if_neg c2, if_neg c3]; rw [nI_clamp (by omega)]; rfl⟩
    · skip
      replace c3 : u = 60 := (nI_eq (a := u) (b := 60) (by omega) (by omega)).mp c3
      refine rw_iconst (pc := 23) (x := nI 0) dM_duplicate_23 (by decide) ?_
      exact rw_zret (pc := 24) dM_duplicate_24 rfl (Or.inl rfl) ⟨_, rfl, by unfold m_dupR; rw [if_neg c2, if_pos c3], by unfold m_dupH; rw [if_neg c2, if_pos c3]⟩
theorem cM_ask60 (G : mt_G) (h : ha_H) (hm : mo_ok h) (hb : mo_b h) (hu : hp_I h 62 34 = nI 60) {c : Nat} (hc : c < 3) : rn_M G xM_ask (1, 0, 0) [.inr (some 62), .inl (nI c)] h (rn_v (fun h' => h = h')) := by
  refine rn_of (by decide +kernel) (Nat.le_of_ble_eq_true rfl) ?_
  show rn_W G xM_ask (1, 0, 0) 0 0 0 [some (.inr (some 62)), some (.inl (nI c)), none] [] h _
  refine rw_aload_n (pc := 0) dM_ask_0 rfl ?_
  refine rw_aload_n (pc := 1) dM_ask_1 rfl ?_
  refine rw_getR (pc := 2) (x := some 87) flM_83_M dM_ask_2 (mo_o62 hm) (mo_S62 hm) (mo_R87 hm) ?_
  refine rw_iload_n (pc := 5) dM_ask_5 rfl ?_
  refine rw_iald (pc := 6) (v := hp_I h 87 c) (i := c) dM_ask_6 (mo_o87 hm) (mo_S87 hm) (ix_nI (by omega) (by decide)) rfl ?_
  refine rw_iload_n (pc := 7) dM_ask_7 rfl ?_
  refine rw_aload_n (pc := 8) dM_ask_8 rfl ?_
  refine rw_getR (pc := 9) (x := some 88) flM_86_M dM_ask_9 (mo_o62 hm) (mo_S62 hm) (mo_R88 hm) ?_
  refine rw_iload_n (pc := 12) dM_ask_12 rfl ?_
  refine rw_iald (pc := 13) (v := hp_I h 88 c) (i := c) dM_ask_13 (mo_o88 hm) (mo_S88 hm) (ix_nI (by omega) (by decide)) rfl ?_
  refine rw_aload_n (pc := 14) dM_ask_14 rfl ?_
  refine rw_getR (pc := 15) (x := some 78) flM_56_M dM_ask_15 (mo_o62 hm) (mo_S62 hm) (mo_R78 hm) ?_
  refine rw_iload_n (pc := 18) dM_ask_18 rfl ?_
  refine rw_iald (pc := 19) (v := hp_I h 78 c) (i := c) dM_ask_19 (mo_o78 hm) (mo_S78 hm) (ix_nI (by omega) (by decide)) rfl ?_
  refine rw_vi (pc := 20) (z' := (0, 0, 0)) (rc' := 0) (rs' := 0) (av := [.inl (hp_I h 87 c), .inl (nI c), .inl (hp_I h 88 c), .inl (hp_I h 78 c)]) (st := []) (ci := 10) mlM_148 miM_room rfl mvM_room_M dM_ask_20 (mo_o62 hm) (mo_S62 hm) (cM_room G _ hm hu (by omega) _ _ _ _) rfl rfl (Nat.le_of_ble_eq_true rfl) (by decide) rfl rfl (fun r1 h1 q1 => ?_)
  obtain ⟨rfl, rfl⟩ := q1
  rw [show (m_room h 60 (hp_I h 87 c) (nI c) (hp_I h 88 c) (hp_I h 78 c)).1 = -1 from rfl, show (m_room h 60 (hp_I h 87 c) (nI c) (hp_I h 88 c) (hp_I h 78 c)).2 = h from rfl]
  refine rw_istore_n (pc := 23) (L' := [some (.inr (some 62)), some (.inl (nI c)), some (.inl (-1))]) dM_ask_23 (by decide) rfl ?_
  refine rw_iload_n (pc := 24) dM_ask_24 rfl ?_
  refine rw_ifge (pc := 25) dM_ask_25 (tgt := 29) rfl (fun c2 => ?_) (fun c2 => ?_)
  · skip
    exact absurd c2 (by decide)
  · skip
    exact rw_vret (pc := 28) dM_ask_28 rfl ⟨rfl, rfl⟩
def m_askT (h : ha_H) (u c : Nat) : ha_H := hp_mv (hp_mv (hp_mv (hp_mv (m_roomH h u (hp_I h 87 c) (nI c) (hp_I h 88 c) (hp_I h 78 c)) 89 c 98 u) 90 c 99 u) 91 c 100 u) 92 c 101 u
theorem cM_askT (G : mt_G) (h : ha_H) (hm : mo_ok h) (hb : mo_b h) {u : Nat} (hu : hp_I h 62 34 = nI u) (h60 : u < 60) {c : Nat} (hc : c < 3) : rn_M G xM_ask (1, 0, 0) [.inr (some 62), .inl (nI c)] h (rn_v (fun h' => m_askT h u c = h')) := by
  refine rn_of (by decide +kernel) (Nat.le_of_ble_eq_true rfl) ?_
  show rn_W G xM_ask (1, 0, 0) 0 0 0 [some (.inr (some 62)), some (.inl (nI c)), none] [] h _
  refine rw_aload_n (pc := 0) dM_ask_0 rfl ?_
  refine rw_aload_n (pc := 1) dM_ask_1 rfl ?_
  refine rw_getR (pc := 2) (x := some 87) flM_83_M dM_ask_2 (mo_o62 hm) (mo_S62 hm) (mo_R87 hm) ?_
  refine rw_iload_n (pc := 5) dM_ask_5 rfl ?_
  refine rw_iald (pc := 6) (v := hp_I h 87 c) (i := c) dM_ask_6 (mo_o87 hm) (mo_S87 hm) (ix_nI (by omega) (by decide)) rfl ?_
  refine rw_iload_n (pc := 7) dM_ask_7 rfl ?_
  refine rw_aload_n (pc := 8) dM_ask_8 rfl ?_
  refine rw_getR (pc := 9) (x := some 88) flM_86_M dM_ask_9 (mo_o62 hm) (mo_S62 hm) (mo_R88 hm) ?_
  refine rw_iload_n (pc := 12) dM_ask_12 rfl ?_
  refine rw_iald (pc := 13) (v := hp_I h 88 c) (i := c) dM_ask_13 (mo_o88 hm) (mo_S88 hm) (ix_nI (by omega) (by decide)) rfl ?_
  refine rw_aload_n (pc := 14) dM_ask_14 rfl ?_
  refine rw_getR (pc := 15) (x := some 78) flM_56_M dM_ask_15 (mo_o62 hm) (mo_S62 hm) (mo_R78 hm) ?_
  refine rw_iload_n (pc := 18) dM_ask_18 rfl ?_
  refine rw_iald (pc := 19) (v := hp_I h 78 c) (i := c) dM_ask_19 (mo_o78 hm) (mo_S78 hm) (ix_nI (by omega) (by decide)) rfl ?_
  refine rw_vi (pc := 20) (z' := (0, 0, 0)) (rc' := 0) (rs' := 0) (av := [.inl (hp_I h 87 c), .inl (nI c), .inl (hp_I h 88 c), .inl (hp_I h 78 c)]) (st := []) (ci := 10) mlM_148 miM_room rfl mvM_room_M dM_ask_20 (mo_o62 hm) (mo_S62 hm) (cM_room G _ hm hu (by omega) _ _ _ _) rfl rfl (Nat.le_of_ble_eq_true rfl) (by decide) rfl rfl (fun r1 h1 q1 => ?_)
  obtain ⟨rfl, rfl⟩ := q1
  rw [show m_room h u (hp_I h 87 c) (nI c) (hp_I h 88 c) (hp_I h 78 c) = (nI u, m_roomH h u (hp_I h 87 c) (nI c) (hp_I h 88 c) (hp_I h 78 c)) from if_neg (by omega)]
  show rn_W G xM_ask (1, 0, 0) 0 0 23 [some (.inr (some 62)), some (.inl (nI c)), none] [.inl (nI u)] (m_roomH h u (hp_I h 87 c) (nI c) (hp_I h 88 c) (hp_I h 78 c)) _
  replace hm := mo_roomH (u := u) (k := hp_I h 87 c) (c := nI c) (f := hp_I h 88 c) (x := hp_I h 78 c) hm
  replace hb := mb_roomH hb (u := u) (k := hp_I h 87 c) (c := nI c) (f := hp_I h 88 c) (x := hp_I h 78 c)
  refine rw_istore_n (pc := 23) (L' := [some (.inr (some 62)), some (.inl (nI c)), some (.inl (nI u))]) dM_ask_23 (by decide) rfl ?_
  refine rw_iload_n (pc := 24) dM_ask_24 rfl ?_
  refine rw_ifge (pc := 25) dM_ask_25 (tgt := 29) rfl (fun c2 => ?_) (fun c2 => ?_)
  · skip
    replace c2 : 0 ≤ u := (nI_leI (a := 0) (b := u) (by omega) (by omega)).mp c2
    refine rw_aload_n (pc := 29) dM_ask_29 rfl ?_
    refine rw_getR (pc := 30) (x := some 98) flM_116_M dM_ask_30 (mo_o62 hm) (mo_S62 hm) (mo_R98 hm) ?_
    refine rw_iload_n (pc := 33) dM_ask_33 rfl ?_
    refine rw_aload_n (pc := 34) dM_ask_34 rfl ?_
    refine rw_getR (pc := 35) (x := some 89) flM_89_M dM_ask_35 (mo_o62 hm) (mo_S62 hm) (mo_R89 hm) ?_
    refine rw_iload_n (pc := 38) dM_ask_38 rfl ?_
    refine rw_iald (pc := 39) (v := hp_I (m_roomH h u (hp_I h 87 c) (nI c) (hp_I h 88 c) (hp_I h 78 c)) 89 c) (i := c) dM_ask_39 (mo_o89 hm) (mo_S89 hm) (ix_nI (by omega) (by decide)) rfl ?_
    refine rw_iast (pc := 40) (i := u) dM_ask_40 (mo_o98 hm) (mo_S98 hm) (ix_nI (by omega) (by decide)) ?_
    show rn_W G xM_ask (1, 0, 0) 0 0 41 [some (.inr (some 62)), some (.inl (nI c)), some (.inl (nI u))] [] (hp_mv (m_roomH h u (hp_I h 87 c) (nI c) (hp_I h 88 c) (hp_I h 78 c)) 89 c 98 u) _
    replace hm := mo_mv (A := 89) (i := c) (B := 98) (t := u) hm
    refine rw_aload_n (pc := 41) dM_ask_41 rfl ?_
    refine rw_getR (pc := 42) (x := some 99) flM_119_M dM_ask_42 (mo_o62 hm) (mo_S62 hm) (mo_R99 hm) ?_
    refine rw_iload_n (pc := 45) dM_ask_45 rfl ?_
    refine rw_aload_n (pc := 46) dM_ask_46 rfl ?_
    refine rw_getR (pc := 47) (x := some 90) flM_92_M dM_ask_47 (mo_o62 hm) (mo_S62 hm) (mo_R90 hm) ?_
    refine rw_iload_n (pc := 50) dM_ask_50 rfl ?_
    refine rw_zald (pc := 51) (v := hp_I (hp_mv (m_roomH h u (hp_I h 87 c) (nI c) (hp_I h 88 c) (hp_I h 78 c)) 89 c 98 u) 90 c) (i := c) dM_ask_51 (mo_o90 hm) (mo_S90 hm) (ix_nI (by omega) (by decide)) rfl ?_
    refine rw_zast (pc := 52) (i := u) (hb 90 (by decide) _) dM_ask_52 (mo_o99 hm) (mo_S99 hm) (ix_nI (by omega) (by decide)) ?_
    show rn_W G xM_ask (1, 0, 0) 0 0 53 [some (.inr (some 62)), some (.inl (nI c)), some (.inl (nI u))] [] (hp_mv (hp_mv (m_roomH h u (hp_I h 87 c) (nI c) (hp_I h 88 c) (hp_I h 78 c)) 89 c 98 u) 90 c 99 u) _
    replace hm := mo_mv (A := 90) (i := c) (B := 99) (t := u) hm
    refine rw_aload_n (pc := 53) dM_ask_53 rfl ?_
    refine rw_getR (pc := 54) (x := some 100) flM_122_M dM_ask_54 (mo_o62 hm) (mo_S62 hm) (mo_R100 hm) ?_
    refine rw_iload_n (pc := 57) dM_ask_57 rfl ?_
    refine rw_aload_n (pc := 58) dM_ask_58 rfl ?_
    refine rw_getR (pc := 59) (x := some 91) flM_95_M dM_ask_59 (mo_o62 hm) (mo_S62 hm) (mo_R91 hm) ?_
    refine rw_iload_n (pc := 62) dM_ask_62 rfl ?_
    refine rw_iald (pc := 63) (v := hp_I (hp_mv (hp_mv (m_roomH h u (hp_I h 87 c) (nI c) (hp_I h 88 c) (hp_I h 78 c)) 89 c 98 u) 90 c 99 u) 91 c) (i := c) dM_ask_63 (mo_o91 hm) (mo_S91 hm) (ix_nI (by omega) (by decide)) rfl ?_
    refine rw_iast (pc := 64) (i := u) dM_ask_64 (mo_o100 hm) (mo_S100 hm) (ix_nI (by omega) (by decide)) ?_
    show rn_W G xM_ask (1, 0, 0) 0 0 65 [some (.inr (some 62)), some (.inl (nI c)), some (.inl (nI u))] [] (hp_mv (hp_mv (hp_mv (m_roomH h u (hp_I h 87 c) (nI c) (hp_I h 88 c) (hp_I h 78 c)) 89 c 98 u) 90 c 99 u) 91 c 100 u) _
    replace hm := mo_mv (A := 91) (i := c) (B := 100) (t := u) hm
    refine rw_aload_n (pc := 65) dM_ask_65 rfl ?_
    refine rw_getR (pc := 66) (x := some 101) flM_125_M dM_ask_66 (mo_o62 hm) (mo_S62 hm) (mo_R101 hm) ?_
    refine rw_iload_n (pc := 69) dM_ask_69 rfl ?_
    refine rw_aload_n (pc := 70) dM_ask_70 rfl ?_
    refine rw_getR (pc := 71) (x := some 92) flM_98_M dM_ask_71 (mo_o62 hm) (mo_S62 hm) (mo_R92 hm) ?_
    refine rw_iload_n (pc := 74) dM_ask_74 rfl ?_
    refine rw_iald (pc := 75) (v := hp_I (hp_mv (hp_mv (hp_mv (m_roomH h u (hp_I h 87 c) (nI c) (hp_I h 88 c) (hp_I h 78 c)) 89 c 98 u) 90 c 99 u) 91 c 100 u) 92 c) (i := c) dM_ask_75 (mo_o92 hm) (mo_S92 hm) (ix_nI (by omega) (by decide)) rfl ?_
    refine rw_iast (pc := 76) (i := u) dM_ask_76 (mo_o101 hm) (mo_S101 hm) (ix_nI (by omega) (by decide)) ?_
    show rn_W G xM_ask (1, 0, 0) 0 0 77 [some (.inr (some 62)), some (.inl (nI c)), some (.inl (nI u))] [] (hp_mv (hp_mv (hp_mv (hp_mv (m_roomH h u (hp_I h 87 c) (nI c) (hp_I h 88 c) (hp_I h 78 c)) 89 c 98 u) 90 c 99 u) 91 c 100 u) 92 c 101 u) _
    replace hm := mo_mv (A := 92) (i := c) (B := 101) (t := u) hm
    exact rw_vret (pc := 77) dM_ask_77 rfl ⟨rfl, rfl⟩
  · skip
    replace c2 : ¬ (0 ≤ u) := fun q => c2 ((nI_leI (a := 0) (b := u) (by omega) (by omega)).mpr q)
    omega
def m_ask (h : ha_H) (u c : Nat) : ha_H := if u = 60 then h else m_askT h u c
theorem cM_ask (G : mt_G) (h : ha_H) (hm : mo_ok h) (hb : mo_b h) {u : Nat} (hu : hp_I h 62 34 = nI u) (h60 : u ≤ 60) {c : Nat} (hc : c < 3) : rn_M G xM_ask (1, 0, 0) [.inr (some 62), .inl (nI c)] h (rn_v (fun h' => m_ask h u c = h')) := by
  unfold m_ask
  by_cases e : u = 60
  · rw [if_pos e]
    subst e
    exact cM_ask60 G h hm hb hu hc
  · rw [if_neg e]
    exact cM_askT G h hm hb hu (by omega) hc
theorem cM_answer60 (G : mt_G) (h : ha_H) (hm : mo_ok h) (hb : mo_b h) (hu : hp_I h 62 34 = nI 60) {c : Nat} (hc : c < 3) : rn_M G xM_answer (1, 0, 0) [.inr (some 62), .inl (nI c)] h (rn_v (fun h' => h = h')) := by
  refine rn_of (by decide +kernel) (Nat.le_of_ble_eq_true rfl) ?_
  show rn_W G xM_answer (1, 0, 0) 0 0 0 [some (.inr (some 62)), some (.inl (nI c)), none, none] [] h _
  refine rw_aload_n (pc := 0) dM_answer_0 rfl ?_
  refine rw_aload_n (pc := 1) dM_answer_1 rfl ?_
  refine rw_getR (pc := 2) (x := some 69) flM_29_M dM_answer_2 (mo_o62 hm) (mo_S62 hm) (mo_R69 hm) ?_
  refine rw_iload_n (pc := 5) dM_answer_5 rfl ?_
  refine rw_iald (pc := 6) (v := hp_I h 69 c) (i := c) dM_answer_6 (mo_o69 hm) (mo_S69 hm) (ix_nI (by omega) (by decide)) rfl ?_
  refine rw_iload_n (pc := 7) dM_answer_7 rfl ?_
  refine rw_aload_n (pc := 8) dM_answer_8 rfl ?_
  refine rw_getR (pc := 9) (x := some 70) flM_32_M dM_answer_9 (mo_o62 hm) (mo_S62 hm) (mo_R70 hm) ?_
  refine rw_iload_n (pc := 12) dM_answer_12 rfl ?_
  refine rw_iald (pc := 13) (v := hp_I h 70 c) (i := c) dM_answer_13 (mo_o70 hm) (mo_S70 hm) (ix_nI (by omega) (by decide)) rfl ?_
  refine rw_aload_n (pc := 14) dM_answer_14 rfl ?_
  refine rw_getR (pc := 15) (x := some 68) flM_26_M dM_answer_15 (mo_o62 hm) (mo_S62 hm) (mo_R68 hm) ?_
  refine rw_iload_n (pc := 18) dM_answer_18 rfl ?_
  refine rw_iald (pc := 19) (v := hp_I h 68 c) (i := c) dM_answer_19 (mo_o68 hm) (mo_S68 hm) (ix_nI (by omega) (by decide)) rfl ?_
  refine rw_vi (pc := 20) (z' := (0, 0, 0)) (rc' := 0) (rs' := 0) (av := [.inl (hp_I h 69 c), .inl (nI c), .inl (hp_I h 70 c), .inl (hp_I h 68 c)]) (st := []) (ci := 10) mlM_148 miM_room rfl mvM_room_M dM_answer_20 (mo_o62 hm) (mo_S62 hm) (cM_room G _ hm hu (by omega) _ _ _ _) rfl rfl (Nat.le_of_ble_eq_true rfl) (by decide) rfl rfl (fun r1 h1 q1 => ?_)
  obtain ⟨rfl, rfl⟩ := q1
  rw [show (m_room h 60 (hp_I h 69 c) (nI c) (hp_I h 70 c) (hp_I h 68 c)).1 = -1 from rfl, show (m_room h 60 (hp_I h 69 c) (nI c) (hp_I h 70 c) (hp_I h 68 c)).2 = h from rfl]
  refine rw_istore_n (pc := 23) (L' := [some (.inr (some 62)), some (.inl (nI c)), some (.inl (-1)), none]) dM_answer_23 (by decide) rfl ?_
  refine rw_iload_n (pc := 24) dM_answer_24 rfl ?_
  refine rw_ifge (pc := 25) dM_answer_25 (tgt := 29) rfl (fun c2 => ?_) (fun c2 => ?_)
  · skip
    exact absurd c2 (by decide)
  · skip
    exact rw_vret (pc := 28) dM_answer_28 rfl ⟨rfl, rfl⟩
def m_ansT (h : ha_H) (u c : Nat) : ha_H := hp_mv (hp_mv (hp_mv (hp_mv (hp_mv (hp_mv (m_roomH h u (hp_I h 69 c) (nI c) (hp_I h 70 c) (hp_I h 68 c)) 71 c 98 u) 72 c 99 u) 73 (4 * c + 0) 102 (4 * u + 0)) 73 (4 * c + 1) 102 (4 * u + 1)) 73 (4 * c + 2) 102 (4 * u + 2)) 73 (4 * c + 3) 102 (4 * u + 3)
theorem cM_answerT (G : mt_G) (h : ha_H) (hm : mo_ok h) (hb : mo_b h) {u : Nat} (hu : hp_I h 62 34 = nI u) (h60 : u < 60) {c : Nat} (hc : c < 3) : rn_M G xM_answer (1, 0, 0) [.inr (some 62), .inl (nI c)] h (rn_v (fun h' => m_ansT h u c = h')) := by
  refine rn_of (by decide +kernel) (Nat.le_of_ble_eq_true rfl) ?_
  show rn_W G xM_answer (1, 0, 0) 0 0 0 [some (.inr (some 62)), some (.inl (nI c)), none, none] [] h _
  refine rw_aload_n (pc := 0) dM_answer_0 rfl ?_
  refine rw_aload_n (pc := 1) dM_answer_1 rfl ?_
  refine rw_getR (pc := 2) (x := some 69) flM_29_M dM_answer_2 (mo_o62 hm) (mo_S62 hm) (mo_R69 hm) ?_
  refine rw_iload_n (pc := 5) dM_answer_5 rfl ?_
  refine rw_iald (pc := 6) (v := hp_I h 69 c) (i := c) dM_answer_6 (mo_o69 hm) (mo_S69 hm) (ix_nI (by omega) (by decide)) rfl ?_
  refine rw_iload_n (pc := 7) dM_answer_7 rfl ?_
  refine rw_aload_n (pc := 8) dM_answer_8 rfl ?_
  refine rw_getR (pc := 9) (x := some 70) flM_32_M dM_answer_9 (mo_o62 hm) (mo_S62 hm) (mo_R70 hm) ?_
  refine rw_iload_n (pc := 12) dM_answer_12 rfl ?_
  refine rw_iald (pc := 13) (v := hp_I h 70 c) (i := c) dM_answer_13 (mo_o70 hm) (mo_S70 hm) (ix_nI (by omega) (by decide)) rfl ?_
  refine rw_aload_n (pc := 14) dM_answer_14 rfl ?_
  refine rw_getR (pc := 15) (x := some 68) flM_26_M dM_answer_15 (mo_o62 hm) (mo_S62 hm) (mo_R68 hm) ?_
  refine rw_iload_n (pc := 18) dM_answer_18 rfl ?_
  refine rw_iald (pc := 19) (v := hp_I h 68 c) (i := c) dM_answer_19 (mo_o68 hm) (mo_S68 hm) (ix_nI (by omega) (by decide)) rfl ?_
  refine rw_vi (pc := 20) (z' := (0, 0, 0)) (rc' := 0) (rs' := 0) (av := [.inl (hp_I h 69 c), .inl (nI c), .inl (hp_I h 70 c), .inl (hp_I h 68 c)]) (st := []) (ci := 10) mlM_148 miM_room rfl mvM_room_M dM_answer_20 (mo_o62 hm) (mo_S62 hm) (cM_room G _ hm hu (by omega) _ _ _ _) rfl rfl (Nat.le_of_ble_eq_true rfl) (by decide) rfl rfl (fun r1 h1 q1 => ?_)
  obtain ⟨rfl, rfl⟩ := q1
  rw [show m_room h u (hp_I h 69 c) (nI c) (hp_I h 70 c) (hp_I h 68 c) = (nI u, m_roomH h u (hp_I h 69 c) (nI c) (hp_I h 70 c) (hp_I h 68 c)) from if_neg (by omega)]
  show rn_W G xM_answer (1, 0, 0) 0 0 23 [some (.inr (some 62)), some (.inl (nI c)), none, none] [.inl (nI u)] (m_roomH h u (hp_I h 69 c) (nI c) (hp_I h 70 c) (hp_I h 68 c)) _
  replace hm := mo_roomH (u := u) (k := hp_I h 69 c) (c := nI c) (f := hp_I h 70 c) (x := hp_I h 68 c) hm
  replace hb := mb_roomH hb (u := u) (k := hp_I h 69 c) (c := nI c) (f := hp_I h 70 c) (x := hp_I h 68 c)
  refine rw_istore_n (pc := 23) (L' := [some (.inr (some 62)), some (.inl (nI c)), some (.inl (nI u)), none]) dM_answer_23 (by decide) rfl ?_
  refine rw_iload_n (pc := 24) dM_answer_24 rfl ?_
  refine rw_ifge (pc := 25) dM_answer_25 (tgt := 29) rfl (fun c2 => ?_) (fun c2 => ?_)
  · skip
    replace c2 : 0 ≤ u := (nI_leI (a := 0) (b := u) (by omega) (by omega)).mp c2
    refine rw_aload_n (pc := 29) dM_answer_29 rfl ?_
    refine rw_getR (pc := 30) (x := some 98) flM_116_M dM_answer_30 (mo_o62 hm) (mo_S62 hm) (mo_R98 hm) ?_
    refine rw_iload_n (pc := 33) dM_answer_33 rfl ?_
    refine rw_aload_n (pc := 34) dM_answer_34 rfl ?_
    refine rw_getR (pc := 35) (x := some 71) flM_35_M dM_answer_35 (mo_o62 hm) (mo_S62 hm) (mo_R71 hm) ?_
    refine rw_iload_n (pc := 38) dM_answer_38 rfl ?_
    refine rw_iald (pc := 39) (v := hp_I (m_roomH h u (hp_I h 69 c) (nI c) (hp_I h 70 c) (hp_I h 68 c)) 71 c) (i := c) dM_answer_39 (mo_o71 hm) (mo_S71 hm) (ix_nI (by omega) (by decide)) rfl ?_
    refine rw_iast (pc := 40) (i := u) dM_answer_40 (mo_o98 hm) (mo_S98 hm) (ix_nI (by omega) (by decide)) ?_
    show rn_W G xM_answer (1, 0, 0) 0 0 41 [some (.inr (some 62)), some (.inl (nI c)), some (.inl (nI u)), none] [] (hp_mv (m_roomH h u (hp_I h 69 c) (nI c) (hp_I h 70 c) (hp_I h 68 c)) 71 c 98 u) _
    replace hm := mo_mv (A := 71) (i := c) (B := 98) (t := u) hm
    refine rw_aload_n (pc := 41) dM_answer_41 rfl ?_
    refine rw_getR (pc := 42) (x := some 99) flM_119_M dM_answer_42 (mo_o62 hm) (mo_S62 hm) (mo_R99 hm) ?_
    refine rw_iload_n (pc := 45) dM_answer_45 rfl ?_
    refine rw_aload_n (pc := 46) dM_answer_46 rfl ?_
    refine rw_getR (pc := 47) (x := some 72) flM_38_M dM_answer_47 (mo_o62 hm) (mo_S62 hm) (mo_R72 hm) ?_
    refine rw_iload_n (pc := 50) dM_answer_50 rfl ?_
    refine rw_zald (pc := 51) (v := hp_I (hp_mv (m_roomH h u (hp_I h 69 c) (nI c) (hp_I h 70 c) (hp_I h 68 c)) 71 c 98 u) 72 c) (i := c) dM_answer_51 (mo_o72 hm) (mo_S72 hm) (ix_nI (by omega) (by decide)) rfl ?_
    refine rw_zast (pc := 52) (i := u) (hb 72 (by decide) _) dM_answer_52 (mo_o99 hm) (mo_S99 hm) (ix_nI (by omega) (by decide)) ?_
    show rn_W G xM_answer (1, 0, 0) 0 0 53 [some (.inr (some 62)), some (.inl (nI c)), some (.inl (nI u)), none] [] (hp_mv (hp_mv (m_roomH h u (hp_I h 69 c) (nI c) (hp_I h 70 c) (hp_I h 68 c)) 71 c 98 u) 72 c 99 u) _
    replace hm := mo_mv (A := 72) (i := c) (B := 99) (t := u) hm
    refine rw_iconst (pc := 53) (x := nI 0) dM_answer_53 (by decide) ?_
    refine rw_istore_n (pc := 54) (L' := [some (.inr (some 62)), some (.inl (nI c)), some (.inl (nI u)), some (.inl (nI 0))]) dM_answer_54 (by decide) rfl ?_
    refine rw_iload_n (pc := 55) dM_answer_55 rfl ?_
    refine rw_iconst (pc := 56) (x := nI 4) dM_answer_56 (by decide) ?_
    refine rw_icmpge (pc := 57) dM_answer_57 (tgt := 86) rfl (fun c3 => ?_) (fun c3 => ?_)
    · skip
      replace c3 : 4 ≤ 0 := (nI_leI (a := 4) (b := 0) (by omega) (by omega)).mp c3
      exact absurd c3 (by decide)
    · skip
      replace c3 : ¬ (4 ≤ 0) := fun q => c3 ((nI_leI (a := 4) (b := 0) (by omega) (by omega)).mpr q)
      refine rw_aload_n (pc := 60) dM_answer_60 rfl ?_
      refine rw_getR (pc := 61) (x := some 102) flM_128_M dM_answer_61 (mo_o62 hm) (mo_S62 hm) (mo_R102 hm) ?_
      refine rw_iconst (pc := 64) (x := nI 4) dM_answer_64 (by decide) ?_
      refine rw_iload_n (pc := 65) dM_answer_65 rfl ?_
      refine rw_imul (pc := 66) (v := nI (4 * u)) dM_answer_66 (pk_mul _ _) ?_
      refine rw_iload_n (pc := 67) dM_answer_67 rfl ?_
      refine rw_iadd (pc := 68) (v := nI (4 * u + 0)) dM_answer_68 (nI_add _ _) ?_
      refine rw_aload_n (pc := 69) dM_answer_69 rfl ?_
      refine rw_getR (pc := 70) (x := some 73) flM_41_M dM_answer_70 (mo_o62 hm) (mo_S62 hm) (mo_R73 hm) ?_
      refine rw_iconst (pc := 73) (x := nI 4) dM_answer_73 (by decide) ?_
      refine rw_iload_n (pc := 74) dM_answer_74 rfl ?_
      refine rw_imul (pc := 75) (v := nI (4 * c)) dM_answer_75 (pk_mul _ _) ?_
      refine rw_iload_n (pc := 76) dM_answer_76 rfl ?_
      refine rw_iadd (pc := 77) (v := nI (4 * c + 0)) dM_answer_77 (nI_add _ _) ?_
      refine rw_iald (pc := 78) (v := hp_I (hp_mv (hp_mv (m_roomH h u (hp_I h 69 c) (nI c) (hp_I h 70 c) (hp_I h 68 c)) 71 c 98 u) 72 c 99 u) 73 (4 * c + 0)) (i := (4 * c + 0)) dM_answer_78 (mo_o73 hm) (mo_S73 hm) (ix_nI (by omega) (by decide)) rfl ?_
      refine rw_iast (pc := 79) (i := (4 * u + 0)) dM_answer_79 (mo_o102 hm) (mo_S102 hm) (ix_nI (by omega) (by decide)) ?_
      show rn_W G xM_answer (1, 0, 0) 0 0 80 [some (.inr (some 62)), some (.inl (nI c)), some (.inl (nI u)), some (.inl (nI 0))] [] (hp_mv (hp_mv (hp_mv (m_roomH h u (hp_I h 69 c) (nI c) (hp_I h 70 c) (hp_I h 68 c)) 71 c 98 u) 72 c 99 u) 73 (4 * c + 0) 102 (4 * u + 0)) _
      replace hm := mo_mv (A := 73) (i := (4 * c + 0)) (B := 102) (t := (4 * u + 0)) hm
      refine rw_iinc (pc := 80) (x := nI 0) (y := nI 1) (L' := [some (.inr (some 62)), some (.inl (nI c)), some (.inl (nI u)), some (.inl (nI 1))]) dM_answer_80 (by decide) rfl (by decide) rfl ?_
      refine rw_goto (pc := 83) dM_answer_83 (tgt := 55) rfl ?_
      refine rw_iload_n (pc := 55) dM_answer_55 rfl ?_
      refine rw_iconst (pc := 56) (x := nI 4) dM_answer_56 (by decide) ?_
      refine rw_icmpge (pc := 57) dM_answer_57 (tgt := 86) rfl (fun c4 => ?_) (fun c4 => ?_)
      · skip
        replace c4 : 4 ≤ 1 := (nI_leI (a := 4) (b := 1) (by omega) (by omega)).mp c4
        exact absurd c4 (by decide)
      · skip
        replace c4 : ¬ (4 ≤ 1) := fun q => c4 ((nI_leI (a := 4) (b := 1) (by omega) (by omega)).mpr q)
        refine rw_aload_n (pc := 60) dM_answer_60 rfl ?_
        refine rw_getR (pc := 61) (x := some 102) flM_128_M dM_answer_61 (mo_o62 hm) (mo_S62 hm) (mo_R102 hm) ?_
        refine rw_iconst (pc := 64) (x := nI 4) dM_answer_64 (by decide) ?_
        refine rw_iload_n (pc := 65) dM_answer_65 rfl ?_
        refine rw_imul (pc := 66) (v := nI (4 * u)) dM_answer_66 (pk_mul _ _) ?_
        refine rw_iload_n (pc := 67) dM_answer_67 rfl ?_
        refine rw_iadd (pc := 68) (v := nI (4 * u + 1)) dM_answer_68 (nI_add _ _) ?_
        refine rw_aload_n (pc := 69) dM_answer_69 rfl ?_
        refine rw_getR (pc := 70) (x := some 73) flM_41_M dM_answer_70 (mo_o62 hm) (mo_S62 hm) (mo_R73 hm) ?_
        refine rw_iconst (pc := 73) (x := nI 4) dM_answer_73 (by decide) ?_
        refine rw_iload_n (pc := 74) dM_answer_74 rfl ?_
        refine rw_imul (pc := 75) (v := nI (4 * c)) dM_answer_75 (pk_mul _ _) ?_
        refine rw_iload_n (pc := 76) dM_answer_76 rfl ?_
        refine rw_iadd (pc := 77) (v := nI (4 * c + 1)) dM_answer_77 (nI_add _ _) ?_
        refine rw_iald (pc := 78) (v := hp_I (hp_mv (hp_mv (hp_mv (m_roomH h u (hp_I h 69 c) (nI c) (hp_I h 70 c) (hp_I h 68 c)) 71 c 98 u) 72 c 99 u) 73 (4 * c + 0) 102 (4 * u + 0)) 73 (4 * c + 1)) (i := (4 * c + 1)) dM_answer_78 (mo_o73 hm) (mo_S73 hm) (ix_nI (by omega) (by decide)) rfl ?_
        refine rw_iast (pc := 79) (i := (4 * u + 1)) dM_answer_79 (mo_o102 hm) (mo_S102 hm) (ix_nI (by omega) (by decide)) ?_
        show rn_W G xM_answer (1, 0, 0) 0 0 80 [some (.inr (some 62)), some (.inl (nI c)), some (.inl (nI u)), some (.inl (nI 1))] [] (hp_mv (hp_mv (hp_mv (hp_mv (m_roomH h u (hp_I h 69 c) (nI c) (hp_I h 70 c) (hp_I h 68 c)) 71 c 98 u) 72 c 99 u) 73 (4 * c + 0) 102 (4 * u + 0)) 73 (4 * c + 1) 102 (4 * u + 1)) _
        replace hm := mo_mv (A := 73) (i := (4 * c + 1)) (B := 102) (t := (4 * u + 1)) hm
        refine rw_iinc (pc := 80) (x := nI 1) (y := nI 2) (L' := [some (.inr (some 62)), some (.inl (nI c)), some (.inl (nI u)), some (.inl (nI 2))]) dM_answer_80 (by decide) rfl (by decide) rfl ?_
        refine rw_goto (pc := 83) dM_answer_83 (tgt := 55) rfl ?_
        refine rw_iload_n (pc := 55) dM_answer_55 rfl ?_
        refine rw_iconst (pc := 56) (x := nI 4) dM_answer_56 (by decide) ?_
        refine rw_icmpge (pc := 57) dM_answer_57 (tgt := 86) rfl (fun c5 => ?_) (fun c5 => ?_)
        · skip
          replace c5 : 4 ≤ 2 := (nI_leI (a := 4) (b := 2) (by omega) (by omega)).mp c5
          exact absurd c5 (by decide)
        · skip
          replace c5 : ¬ (4 ≤ 2) := fun q => c5 ((nI_leI (a := 4) (b := 2) (by omega) (by omega)).mpr q)
          refine rw_aload_n (pc := 60) dM_answer_60 rfl ?_
          refine rw_getR (pc := 61) (x := some 102) flM_128_M dM_answer_61 (mo_o62 hm) (mo_S62 hm) (mo_R102 hm) ?_
          refine rw_iconst (pc := 64) (x := nI 4) dM_answer_64 (by decide) ?_
          refine rw_iload_n (pc := 65) dM_answer_65 rfl ?_
          refine rw_imul (pc := 66) (v := nI (4 * u)) dM_answer_66 (pk_mul _ _) ?_
          refine rw_iload_n (pc := 67) dM_answer_67 rfl ?_
          refine rw_iadd (pc := 68) (v := nI (4 * u + 2)) dM_answer_68 (nI_add _ _) ?_
          refine rw_aload_n (pc := 69) dM_answer_69 rfl ?_
          refine rw_getR (pc := 70) (x := some 73) flM_41_M dM_answer_70 (mo_o62 hm) (mo_S62 hm) (mo_R73 hm) ?_
          refine rw_iconst (pc := 73) (x := nI 4) dM_answer_73 (by decide) ?_
          refine rw_iload_n (pc := 74) dM_answer_74 rfl ?_
          refine rw_imul (pc := 75) (v := nI (4 * c)) dM_answer_75 (pk_mul _ _) ?_
          refine rw_iload_n (pc := 76) dM_answer_76 rfl ?_
          refine rw_iadd (pc := 77) (v := nI (4 * c + 2)) dM_answer_77 (nI_add _ _) ?_
          refine rw_iald (pc := 78) (v := hp_I (hp_mv (hp_mv (hp_mv (hp_mv (m_roomH h u (hp_I h 69 c) (nI c) (hp_I h 70 c) (hp_I h 68 c)) 71 c 98 u) 72 c 99 u) 73 (4 * c + 0) 102 (4 * u + 0)) 73 (4 * c + 1) 102 (4 * u + 1)) 73 (4 * c + 2)) (i := (4 * c + 2)) dM_answer_78 (mo_o73 hm) (mo_S73 hm) (ix_nI (by omega) (by decide)) rfl ?_
          refine rw_iast (pc := 79) (i := (4 * u + 2)) dM_answer_79 (mo_o102 hm) (mo_S102 hm) (ix_nI (by omega) (by decide)) ?_
          show rn_W G xM_answer (1, 0, 0) 0 0 80 [some (.inr (some 62)), some (.inl (nI c)), some (.inl (nI u)), some (.inl (nI 2))] [] (hp_mv (hp_mv (hp_mv (hp_mv (hp_mv (m_roomH h u (hp_I h 69 c) (nI c) (hp_I h 70 c) (hp_I h 68 c)) 71 c 98 u) 72 c 99 u) 73 (4 * c + 0) 102 (4 * u + 0)) 73 (4 * c + 1) 102 (4 * u + 1)) 73 (4 * c + 2) 102 (4 * u + 2)) _
          replace hm := mo_mv (A := 73) (i := (4 * c + 2)) (B := 102) (t := (4 * u + 2)) hm
          refine rw_iinc (pc := 80) (x := nI 2) (y := nI 3) (L' := [some (.inr (some 62)), some (.inl (nI c)), some (.inl (nI u)), some (.inl (nI 3))]) dM_answer_80 (by decide) rfl (by decide) rfl ?_
          refine rw_goto (pc := 83) dM_answer_83 (tgt := 55) rfl ?_
          refine rw_iload_n (pc := 55) dM_answer_55 rfl ?_
          refine rw_iconst (pc := 56) (x := nI 4) dM_answer_56 (by decide) ?_
          refine rw_icmpge (pc := 57) dM_answer_57 (tgt := 86) rfl (fun c6 => ?_) (fun c6 => ?_)
          · skip
            replace c6 : 4 ≤ 3 := (nI_leI (a := 4) (b := 3) (by omega) (by omega)).mp c6
            exact absurd c6 (by decide)
          · skip
            replace c6 : ¬ (4 ≤ 3) := fun q => c6 ((nI_leI (a := 4) (b := 3) (by omega) (by omega)).mpr q)
            refine rw_aload_n (pc := 60) dM_answer_60 rfl ?_
            refine rw_getR (pc := 61) (x := some 102) flM_128_M dM_answer_61 (mo_o62 hm) (mo_S62 hm) (mo_R102 hm) ?_
            refine rw_iconst (pc := 64) (x := nI 4) dM_answer_64 (by decide) ?_
            refine rw_iload_n (pc := 65) dM_answer_65 rfl ?_
            refine rw_imul (pc := 66) (v := nI (4 * u)) dM_answer_66 (pk_mul _ _) ?_
            refine rw_iload_n (pc := 67) dM_answer_67 rfl ?_
            refine rw_iadd (pc := 68) (v := nI (4 * u + 3)) dM_answer_68 (nI_add _ _) ?_
            refine rw_aload_n (pc := 69) dM_answer_69 rfl ?_
            refine rw_getR (pc := 70) (x := some 73) flM_41_M dM_answer_70 (mo_o62 hm) (mo_S62 hm) (mo_R73 hm) ?_
            refine rw_iconst (pc := 73) (x := nI 4) dM_answer_73 (by decide) ?_
            refine rw_iload_n (pc := 74) dM_answer_74 rfl ?_
            refine rw_imul (pc := 75) (v := nI (4 * c)) dM_answer_75 (pk_mul _ _) ?_
            refine rw_iload_n (pc := 76) dM_answer_76 rfl ?_
            refine rw_iadd (pc := 77) (v := nI (4 * c + 3)) dM_answer_77 (nI_add _ _) ?_
            refine rw_iald (pc := 78) (v := hp_I (hp_mv (hp_mv (hp_mv (hp_mv (hp_mv (m_roomH h u (hp_I h 69 c) (nI c) (hp_I h 70 c) (hp_I h 68 c)) 71 c 98 u) 72 c 99 u) 73 (4 * c + 0) 102 (4 * u + 0)) 73 (4 * c + 1) 102 (4 * u + 1)) 73 (4 * c + 2) 102 (4 * u + 2)) 73 (4 * c + 3)) (i := (4 * c + 3)) dM_answer_78 (mo_o73 hm) (mo_S73 hm) (ix_nI (by omega) (by decide)) rfl ?_
            refine rw_iast (pc := 79) (i := (4 * u + 3)) dM_answer_79 (mo_o102 hm) (mo_S102 hm) (ix_nI (by omega) (by decide)) ?_
            show rn_W G xM_answer (1, 0, 0) 0 0 80 [some (.inr (some 62)), some (.inl (nI c)), some (.inl (nI u)), some (.inl (nI 3))] [] (hp_mv (hp_mv (hp_mv (hp_mv (hp_mv (hp_mv (m_roomH h u (hp_I h 69 c) (nI c) (hp_I h 70 c) (hp_I h 68 c)) 71 c 98 u) 72 c 99 u) 73 (4 * c + 0) 102 (4 * u + 0)) 73 (4 * c + 1) 102 (4 * u + 1)) 73 (4 * c + 2) 102 (4 * u + 2)) 73 (4 * c + 3) 102 (4 * u + 3)) _
            replace hm := mo_mv (A := 73) (i := (4 * c + 3)) (B := 102) (t := (4 * u + 3)) hm
            refine rw_iinc (pc := 80) (x := nI 3) (y := nI 4) (L' := [some (.inr (some 62)), some (.inl (nI c)), some (.inl (nI u)), some (.inl (nI 4))]) dM_answer_80 (by decide) rfl (by decide) rfl ?_
            refine rw_goto (pc := 83) dM_answer_83 (tgt := 55) rfl ?_
            refine rw_iload_n (pc := 55) dM_answer_55 rfl ?_
            refine rw_iconst (pc := 56) (x := nI 4) dM_answer_56 (by decide) ?_
            refine rw_icmpge (pc := 57) dM_answer_57 (tgt := 86) rfl (fun c7 => ?_) (fun c7 => ?_)
            · skip
              replace c7 : 4 ≤ 4 := (nI_leI (a := 4) (b := 4) (by omega) (by omega)).mp c7
              exact rw_vret (pc := 86) dM_answer_86 rfl ⟨rfl, rfl⟩
            · skip
              replace c7 : ¬ (4 ≤ 4) := fun q => c7 ((nI_leI (a := 4) (b := 4) (by omega) (by omega)).mpr q)
              exact absurd (by decide) c7
  · skip
    replace c2 : ¬ (0 ≤ u) := fun q => c2 ((nI_leI (a := 0) (b := u) (by omega) (by omega)).mpr q)
    omega
def m_ans (h : ha_H) (u c : Nat) : ha_H := if u = 60 then h else m_ansT h u c
theorem cM_answer (G : mt_G) (h : ha_H) (hm : mo_ok h) (hb : mo_b h) {u : Nat} (hu : hp_I h 62 34 = nI u) (h60 : u ≤ 60) {c : Nat} (hc : c < 3) : rn_M G xM_answer (1, 0, 0) [.inr (some 62), .inl (nI c)] h (rn_v (fun h' => m_ans h u c = h')) := by
  unfold m_ans
  by_cases e : u = 60
  · rw [if_pos e]
    subst e
    exact cM_answer60 G h hm hb hu hc
  · rw [if_neg e]
    exact cM_answerT G h hm hb hu (by omega) hc
end
section
theorem mo_u {h : ha_H} {u : Nat} (hu : hp_I h 62 34 = nI u) (h60 : u ≤ 60) : (hp_I h 62 34).toNatClampNeg = u := by rw [hu]; exact nI_clamp (by omega)
def m_finH (h : ha_H) (c : Nat) (x k f : Int32) : ha_H := hp_sI (hp_sI (hp_sI h 68 c x) 69 c k) 70 c f
def m_fin (h : ha_H) (u c : Nat) (x k f : Int32) : ha_H := m_ans (m_finH h c x k f) u c
theorem cM_finish (G : mt_G) (h : ha_H) (hm : mo_ok h) (hb : mo_b h) {u : Nat} (hu : hp_I h 62 34 = nI u) (h60 : u ≤ 60) {c : Nat} (hc : c < 3) (x k f : Int32) : rn_M G xM_finish (2, 0, 0) [.inr (some 62), .inl (nI c), .inl x, .inl k, .inl f] h (rn_v (fun h' => m_fin h u c x k f = h')) := by
  refine rn_of (by decide +kernel) (Nat.le_of_ble_eq_true rfl) ?_
  show rn_W G xM_finish (2, 0, 0) 0 0 0 [some (.inr (some 62)), some (.inl (nI c)), some (.inl x), some (.inl k), some (.inl f)] [] h _
  refine rw_aload_n (pc := 0) dM_finish_0 rfl ?_
  refine rw_getR (pc := 1) (x := some 68) flM_26_M dM_finish_1 (mo_o62 hm) (mo_S62 hm) (mo_R68 hm) ?_
  refine rw_iload_n (pc := 4) dM_finish_4 rfl ?_
  refine rw_iload_n (pc := 5) dM_finish_5 rfl ?_
  refine rw_iast (pc := 6) (i := c) dM_finish_6 (mo_o68 hm) (mo_S68 hm) (ix_nI (by omega) (by decide)) ?_
  replace hm := mo_sI (a := 68) (k := c) (v := x) hm
  replace hu := hI_sI (a := 68) (k := c) (v := x) (by decide) hu
  replace hb := mb_sI (a := 68) (k := c) (v := x) hb (fun q => absurd q (by decide))
  refine rw_aload_n (pc := 7) dM_finish_7 rfl ?_
  refine rw_getR (pc := 8) (x := some 69) flM_29_M dM_finish_8 (mo_o62 hm) (mo_S62 hm) (mo_R69 hm) ?_
  refine rw_iload_n (pc := 11) dM_finish_11 rfl ?_
  refine rw_iload_n (pc := 12) dM_finish_12 rfl ?_
  refine rw_iast (pc := 13) (i := c) dM_finish_13 (mo_o69 hm) (mo_S69 hm) (ix_nI (by omega) (by decide)) ?_
  replace hm := mo_sI (a := 69) (k := c) (v := k) hm
  replace hu := hI_sI (a := 69) (k := c) (v := k) (by decide) hu
  replace hb := mb_sI (a := 69) (k := c) (v := k) hb (fun q => absurd q (by decide))
  refine rw_aload_n (pc := 14) dM_finish_14 rfl ?_
  refine rw_getR (pc := 15) (x := some 70) flM_32_M dM_finish_15 (mo_o62 hm) (mo_S62 hm) (mo_R70 hm) ?_
  refine rw_iload_n (pc := 18) dM_finish_18 rfl ?_
  refine rw_iload (pc := 19) dM_finish_19 rfl ?_
  refine rw_iast (pc := 21) (i := c) dM_finish_21 (mo_o70 hm) (mo_S70 hm) (ix_nI (by omega) (by decide)) ?_
  replace hm := mo_sI (a := 70) (k := c) (v := f) hm
  replace hu := hI_sI (a := 70) (k := c) (v := f) (by decide) hu
  replace hb := mb_sI (a := 70) (k := c) (v := f) hb (fun q => absurd q (by decide))
  refine rw_aload_n (pc := 22) dM_finish_22 rfl ?_
  refine rw_iload_n (pc := 23) dM_finish_23 rfl ?_
  refine rw_vv (pc := 24) (z' := (1, 0, 0)) (rc' := 0) (rs' := 0) (av := [.inl (nI c)]) (st := []) (ci := 10) mlM_175 miM_answer rfl mvM_answer_M dM_finish_24 (mo_o62 hm) (mo_S62 hm) (cM_answer G _ hm hb hu h60 hc) rfl rfl (Nat.le_of_ble_eq_true rfl) (by decide) rfl rfl (fun h1 q1 => ?_)
  obtain rfl := q1
  exact rw_vret (pc := 27) dM_finish_27 rfl ⟨rfl, rfl⟩
def m_hs (h : ha_H) (c f : Nat) : Bool := !decide (hp_I h 66 (4 * c + f) ≤ 0)
theorem cM_has (G : mt_G) (h : ha_H) (hm : mo_ok h) {c f : Nat} (hc : c < 3) (hf : f < 4) : rn_M G xM_has (0, 0, 0) [.inr (some 62), .inl (nI c), .inl (nI f)] h (rn_i (fun r h' => r = m_bi (m_hs h c f) ∧ h = h')) := by
  refine rn_of (by decide +kernel) (Nat.le_of_ble_eq_true rfl) ?_
  show rn_W G xM_has (0, 0, 0) 0 0 0 [some (.inr (some 62)), some (.inl (nI c)), some (.inl (nI f))] [] h _
  refine rw_aload_n (pc := 0) dM_has_0 rfl ?_
  refine rw_getR (pc := 1) (x := some 66) flM_20_M dM_has_1 (mo_o62 hm) (mo_S62 hm) (mo_R66 hm) ?_
  refine rw_iconst (pc := 4) (x := nI 4) dM_has_4 (by decide) ?_
  refine rw_iload_n (pc := 5) dM_has_5 rfl ?_
  refine rw_imul (pc := 6) (v := nI (4 * c)) dM_has_6 (pk_mul _ _) ?_
  refine rw_iload_n (pc := 7) dM_has_7 rfl ?_
  refine rw_iadd (pc := 8) (v := nI (4 * c + f)) dM_has_8 (nI_add _ _) ?_
  refine rw_iald (pc := 9) (v := hp_I h 66 (4 * c + f)) (i := (4 * c + f)) dM_has_9 (mo_o66 hm) (mo_S66 hm) (ix_nI (by omega) (by decide)) rfl ?_
  refine rw_ifle (pc := 10) dM_has_10 (tgt := 17) rfl (fun c1 => ?_) (fun c1 => ?_)
  · skip
    refine rw_iconst (pc := 17) (x := nI 0) dM_has_17 (by decide) ?_
    exact rw_zret (pc := 18) dM_has_18 rfl (Or.inl rfl) ⟨_, rfl, by unfold m_hs; simp [c1, m_bi], rfl⟩
  · skip
    refine rw_iconst (pc := 13) (x := nI 1) dM_has_13 (by decide) ?_
    refine rw_goto (pc := 14) dM_has_14 (tgt := 18) rfl ?_
    exact rw_zret (pc := 18) dM_has_18 rfl (Or.inr rfl) ⟨_, rfl, by unfold m_hs; simp [c1, m_bi], rfl⟩
def m_otB (h : ha_H) (c : Nat) (f : Int32) (d : Nat) : Bool := !decide (d = c) && decide (hp_I h 74 d = f)
def m_otN (h : ha_H) (c : Nat) (f : Int32) : Nat → Bool
  | 0 => false
  | d + 1 => m_otN h c f d || m_otB h c f d
theorem cM_others (G : mt_G) (h : ha_H) (hm : mo_ok h) {c f : Nat} (hc : c < 3) (hf : f < 4) : rn_M G xM_others (0, 0, 0) [.inr (some 62), .inl (nI c), .inl (nI f)] h (rn_i (fun r h' => r = m_bi (m_otN h c (nI f) 3) ∧ h = h')) := by
  refine rn_of (by decide +kernel) (Nat.le_of_ble_eq_true rfl) ?_
  show rn_W G xM_others (0, 0, 0) 0 0 0 [some (.inr (some 62)), some (.inl (nI c)), some (.inl (nI f)), none, none] [] h _
  refine rw_iconst (pc := 0) (x := nI 0) dM_others_0 (by decide) ?_
  refine rw_istore_n (pc := 1) (L' := [some (.inr (some 62)), some (.inl (nI c)), some (.inl (nI f)), some (.inl (nI 0)), none]) dM_others_1 (by decide) rfl ?_
  refine rw_iconst (pc := 2) (x := nI 0) dM_others_2 (by decide) ?_
  refine rw_istore (pc := 3) (L' := [some (.inr (some 62)), some (.inl (nI c)), some (.inl (nI f)), some (.inl (nI 0)), some (.inl (nI 0))]) dM_others_3 (by decide) rfl ?_
  have loop : ∀ (n d : Nat), d + n = 3 → rn_W G xM_others (0, 0, 0) 0 0 5 [some (.inr (some 62)), some (.inl (nI c)), some (.inl (nI f)), some (.inl (m_bi (m_otN h c (nI f) d))), some (.inl (nI d))] [] h (rn_i (fun r h' => r = m_bi (m_otN h c (nI f) 3) ∧ h = h')) := by
    intro n
    induction n with
    | zero =>
      intro d hd
      refine rw_iload (pc := 5) dM_others_5 rfl ?_
      refine rw_iconst (pc := 7) (x := nI 3) dM_others_7 (by decide) ?_
      refine rw_icmpge (pc := 8) dM_others_8 (tgt := 44) rfl (fun c1 => ?_) (fun c1 => ?_)
      · skip
        replace c1 : 3 ≤ d := (nI_leI (a := 3) (b := d) (by omega) (by omega)).mp c1
        refine rw_iload_n (pc := 44) dM_others_44 rfl ?_
        exact rw_zret (pc := 45) dM_others_45 rfl (m_bi01 _) ⟨_, rfl, by rw [show d = 3 by omega], rfl⟩
      · skip
        replace c1 : ¬ (3 ≤ d) := fun q => c1 ((nI_leI (a := 3) (b := d) (by omega) (by omega)).mpr q)
        omega
    | succ n ih =>
      intro d hd
      have join : ∀ (v : Int32), v = m_bi (m_otN h c (nI f) (d + 1)) → rn_W G xM_others (0, 0, 0) 0 0 37 [some (.inr (some 62)), some (.inl (nI c)), some (.inl (nI f)), some (.inl (m_bi (m_otN h c (nI f) d))), some (.inl (nI d))] [.inl v] h (rn_i (fun r h' => r = m_bi (m_otN h c (nI f) 3) ∧ h = h')) := by
        intro v hv
        refine rw_istore_n (pc := 37) (L' := [some (.inr (some 62)), some (.inl (nI c)), some (.inl (nI f)), some (.inl v), some (.inl (nI d))]) dM_others_37 (by decide) rfl ?_
        refine rw_iinc (pc := 38) (x := nI d) (y := nI (d + 1)) (L' := [some (.inr (some 62)), some (.inl (nI c)), some (.inl (nI f)), some (.inl v), some (.inl (nI (d + 1)))]) dM_others_38 (by decide) rfl (nI_add _ 1) rfl ?_
        refine rw_goto (pc := 41) dM_others_41 (tgt := 5) rfl ?_
        subst hv
        exact ih (d + 1) (by omega)
      refine rw_iload (pc := 5) dM_others_5 rfl ?_
      refine rw_iconst (pc := 7) (x := nI 3) dM_others_7 (by decide) ?_
      refine rw_icmpge (pc := 8) dM_others_8 (tgt := 44) rfl (fun c2 => ?_) (fun c2 => ?_)
      · skip
        replace c2 : 3 ≤ d := (nI_leI (a := 3) (b := d) (by omega) (by omega)).mp c2
        omega
      · skip
        replace c2 : ¬ (3 ≤ d) := fun q => c2 ((nI_leI (a := 3) (b := d) (by omega) (by omega)).mpr q)
        refine rw_iload_n (pc := 11) dM_others_11 rfl ?_
        refine rw_ifne (pc := 12) dM_others_12 (tgt := 32) rfl (fun c3 => ?_) (fun c3 => ?_)
        · skip
          refine rw_iconst (pc := 32) (x := nI 1) dM_others_32 (by decide) ?_
          refine rw_goto (pc := 33) dM_others_33 (tgt := 37) rfl ?_
          exact join _ (by clear join ih; simp_all [m_bi0, m_biT, m_biF, m_otN, m_otB])
        · skip
          refine rw_iload (pc := 15) dM_others_15 rfl ?_
          refine rw_iload_n (pc := 17) dM_others_17 rfl ?_
          refine rw_icmpeq (pc := 18) dM_others_18 (tgt := 36) rfl (fun c4 => ?_) (fun c4 => ?_)
          · skip
            replace c4 : d = c := (nI_eq (a := d) (b := c) (by omega) (by omega)).mp c4
            refine rw_iconst (pc := 36) (x := nI 0) dM_others_36 (by decide) ?_
            exact join _ (by clear join ih; simp_all [m_bi0, m_biT, m_biF, m_otN, m_otB])
          · skip
            replace c4 : ¬ (d = c) := fun q => c4 ((nI_eq (a := d) (b := c) (by omega) (by omega)).mpr q)
            refine rw_aload_n (pc := 21) dM_others_21 rfl ?_
            refine rw_getR (pc := 22) (x := some 74) flM_44_M dM_others_22 (mo_o62 hm) (mo_S62 hm) (mo_R74 hm) ?_
            refine rw_iload (pc := 25) dM_others_25 rfl ?_
            refine rw_iald (pc := 27) (v := hp_I h 74 d) (i := d) dM_others_27 (mo_o74 hm) (mo_S74 hm) (ix_nI (by omega) (by decide)) rfl ?_
            refine rw_iload_n (pc := 28) dM_others_28 rfl ?_
            refine rw_icmpne (pc := 29) dM_others_29 (tgt := 36) rfl (fun c5 => ?_) (fun c5 => ?_)
            · skip
              refine rw_iconst (pc := 36) (x := nI 0) dM_others_36 (by decide) ?_
              exact join _ (by clear join ih; simp_all [m_bi0, m_biT, m_biF, m_otN, m_otB])
            · skip
              refine rw_iconst (pc := 32) (x := nI 1) dM_others_32 (by decide) ?_
              refine rw_goto (pc := 33) dM_others_33 (tgt := 37) rfl ?_
              exact join _ (by clear join ih; simp_all [m_bi0, m_biT, m_biF, m_otN, m_otB])
  exact loop 3 0 rfl
def m_cfB (h : ha_H) (c f : Nat) (m : Int32) (d : Nat) : Bool := !decide (d = c) && (m_hs h d f && (decide (m = nI 2) || decide (hp_I h 66 (4 * d + f) = nI 2)))
def m_cfN (h : ha_H) (c f : Nat) (m : Int32) : Nat → Bool
  | 0 => false
  | d + 1 => m_cfN h c f m d || m_cfB h c f m d
theorem cM_conflicts (G : mt_G) (h : ha_H) (hm : mo_ok h) {c f : Nat} (hc : c < 3) (hf : f < 4) (m : Int32) : rn_M G xM_conflicts (1, 0, 0) [.inr (some 62), .inl (nI c), .inl (nI f), .inl m] h (rn_i (fun r h' => r = m_bi (m_cfN h c f m 3) ∧ h = h')) := by
  refine rn_of (by decide +kernel) (Nat.le_of_ble_eq_true rfl) ?_
  show rn_W G xM_conflicts (1, 0, 0) 0 0 0 [some (.inr (some 62)), some (.inl (nI c)), some (.inl (nI f)), some (.inl m), none, none] [] h _
  refine rw_iconst (pc := 0) (x := nI 0) dM_conflicts_0 (by decide) ?_
  refine rw_istore (pc := 1) (L' := [some (.inr (some 62)), some (.inl (nI c)), some (.inl (nI f)), some (.inl m), some (.inl (nI 0)), none]) dM_conflicts_1 (by decide) rfl ?_
  refine rw_iconst (pc := 3) (x := nI 0) dM_conflicts_3 (by decide) ?_
  refine rw_istore (pc := 4) (L' := [some (.inr (some 62)), some (.inl (nI c)), some (.inl (nI f)), some (.inl m), some (.inl (nI 0)), some (.inl (nI 0))]) dM_conflicts_4 (by decide) rfl ?_
  have loop : ∀ (n d : Nat), d + n = 3 → rn_W G xM_conflicts (1, 0, 0) 0 0 6 [some (.inr (some 62)), some (.inl (nI c)), some (.inl (nI f)), some (.inl m), some (.inl (m_bi (m_cfN h c f m d))), some (.inl (nI d))] [] h (rn_i (fun r h' => r = m_bi (m_cfN h c f m 3) ∧ h = h')) := by
    intro n
    induction n with
    | zero =>
      intro d hd
      refine rw_iload (pc := 6) dM_conflicts_6 rfl ?_
      refine rw_iconst (pc := 8) (x := nI 3) dM_conflicts_8 (by decide) ?_
      refine rw_icmpge (pc := 9) dM_conflicts_9 (tgt := 66) rfl (fun c1 => ?_) (fun c1 => ?_)
      · skip
        replace c1 : 3 ≤ d := (nI_leI (a := 3) (b := d) (by omega) (by omega)).mp c1
        refine rw_iload (pc := 66) dM_conflicts_66 rfl ?_
        exact rw_zret (pc := 68) dM_conflicts_68 rfl (m_bi01 _) ⟨_, rfl, by rw [show d = 3 by omega], rfl⟩
      · skip
        replace c1 : ¬ (3 ≤ d) := fun q => c1 ((nI_leI (a := 3) (b := d) (by omega) (by omega)).mpr q)
        omega
    | succ n ih =>
      intro d hd
      have join : ∀ (v : Int32), v = m_bi (m_cfN h c f m (d + 1)) → rn_W G xM_conflicts (1, 0, 0) 0 0 58 [some (.inr (some 62)), some (.inl (nI c)), some (.inl (nI f)), some (.inl m), some (.inl (m_bi (m_cfN h c f m d))), some (.inl (nI d))] [.inl v] h (rn_i (fun r h' => r = m_bi (m_cfN h c f m 3) ∧ h = h')) := by
        intro v hv
        refine rw_istore (pc := 58) (L' := [some (.inr (some 62)), some (.inl (nI c)), some (.inl (nI f)), some (.inl m), some (.inl v), some (.inl (nI d))]) dM_conflicts_58 (by decide) rfl ?_
        refine rw_iinc (pc := 60) (x := nI d) (y := nI (d + 1)) (L' := [some (.inr (some 62)), some (.inl (nI c)), some (.inl (nI f)), some (.inl m), some (.inl v), some (.inl (nI (d + 1)))]) dM_conflicts_60 (by decide) rfl (nI_add _ 1) rfl ?_
        refine rw_goto (pc := 63) dM_conflicts_63 (tgt := 6) rfl ?_
        subst hv
        exact ih (d + 1) (by omega)
      refine rw_iload (pc := 6) dM_conflicts_6 rfl ?_
      refine rw_iconst (pc := 8) (x := nI 3) dM_conflicts_8 (by decide) ?_
      refine rw_icmpge (pc := 9) dM_conflicts_9 (tgt := 66) rfl (fun c2 => ?_) (fun c2 => ?_)
      · skip
        replace c2 : 3 ≤ d := (nI_leI (a := 3) (b := d) (by omega) (by omega)).mp c2
        omega
      · skip
        replace c2 : ¬ (3 ≤ d) := fun q => c2 ((nI_leI (a := 3) (b := d) (by omega) (by omega)).mpr q)
        refine rw_iload (pc := 12) dM_conflicts_12 rfl ?_
        refine rw_ifne (pc := 14) dM_conflicts_14 (tgt := 53) rfl (fun c3 => ?_) (fun c3 => ?_)
        · skip
          refine rw_iconst (pc := 53) (x := nI 1) dM_conflicts_53 (by decide) ?_
          refine rw_goto (pc := 54) dM_conflicts_54 (tgt := 58) rfl ?_
          exact join _ (by clear join ih; simp_all [m_bi0, m_biT, m_biF, m_cfN, m_cfB])
        · skip
          refine rw_iload (pc := 17) dM_conflicts_17 rfl ?_
          refine rw_iload_n (pc := 19) dM_conflicts_19 rfl ?_
          refine rw_icmpeq (pc := 20) dM_conflicts_20 (tgt := 57) rfl (fun c4 => ?_) (fun c4 => ?_)
          · skip
            replace c4 : d = c := (nI_eq (a := d) (b := c) (by omega) (by omega)).mp c4
            refine rw_iconst (pc := 57) (x := nI 0) dM_conflicts_57 (by decide) ?_
            exact join _ (by clear join ih; simp_all [m_bi0, m_biT, m_biF, m_cfN, m_cfB])
          · skip
            replace c4 : ¬ (d = c) := fun q => c4 ((nI_eq (a := d) (b := c) (by omega) (by omega)).mpr q)
            refine rw_aload_n (pc := 23) dM_conflicts_23 rfl ?_
            refine rw_iload (pc := 24) dM_conflicts_24 rfl ?_
            refine rw_iload_n (pc := 26) dM_conflicts_26 rfl ?_
            refine rw_vi (pc := 27) (z' := (0, 0, 0)) (rc' := 0) (rs' := 0) (av := [.inl (nI d), .inl (nI f)]) (st := []) (ci := 10) mlM_171 miM_has rfl mvM_has_M dM_conflicts_27 (mo_o62 hm) (mo_S62 hm) (cM_has G _ hm (by omega) (by omega)) rfl rfl (Nat.le_of_ble_eq_true rfl) (by decide) rfl rfl (fun r5 h5 q5 => ?_)
            obtain ⟨rfl, rfl⟩ := q5
            refine rw_ifeq (pc := 30) dM_conflicts_30 (tgt := 57) rfl (fun c6 => ?_) (fun c6 => ?_)
            · skip
              refine rw_iconst (pc := 57) (x := nI 0) dM_conflicts_57 (by decide) ?_
              exact join _ (by clear join ih; simp_all [m_bi0, m_biT, m_biF, m_cfN, m_cfB])
            · skip
              refine rw_iload_n (pc := 33) dM_conflicts_33 rfl ?_
              refine rw_iconst (pc := 34) (x := nI 2) dM_conflicts_34 (by decide) ?_
              refine rw_icmpeq (pc := 35) dM_conflicts_35 (tgt := 53) rfl (fun c7 => ?_) (fun c7 => ?_)
              · skip
                refine rw_iconst (pc := 53) (x := nI 1) dM_conflicts_53 (by decide) ?_
                refine rw_goto (pc := 54) dM_conflicts_54 (tgt := 58) rfl ?_
                exact join _ (by clear join ih; simp_all [m_bi0, m_biT, m_biF, m_cfN, m_cfB])
              · skip
                refine rw_aload_n (pc := 38) dM_conflicts_38 rfl ?_
                refine rw_getR (pc := 39) (x := some 66) flM_20_M dM_conflicts_39 (mo_o62 hm) (mo_S62 hm) (mo_R66 hm) ?_
                refine rw_iconst (pc := 42) (x := nI 4) dM_conflicts_42 (by decide) ?_
                refine rw_iload (pc := 43) dM_conflicts_43 rfl ?_
                refine rw_imul (pc := 45) (v := nI (4 * d)) dM_conflicts_45 (pk_mul _ _) ?_
                refine rw_iload_n (pc := 46) dM_conflicts_46 rfl ?_
                refine rw_iadd (pc := 47) (v := nI (4 * d + f)) dM_conflicts_47 (nI_add _ _) ?_
                refine rw_iald (pc := 48) (v := hp_I h 66 (4 * d + f)) (i := (4 * d + f)) dM_conflicts_48 (mo_o66 hm) (mo_S66 hm) (ix_nI (by omega) (by decide)) rfl ?_
                refine rw_iconst (pc := 49) (x := nI 2) dM_conflicts_49 (by decide) ?_
                refine rw_icmpne (pc := 50) dM_conflicts_50 (tgt := 57) rfl (fun c8 => ?_) (fun c8 => ?_)
                · skip
                  refine rw_iconst (pc := 57) (x := nI 0) dM_conflicts_57 (by decide) ?_
                  exact join _ (by clear join ih; simp_all [m_bi0, m_biT, m_biF, m_cfN, m_cfB])
                · skip
                  refine rw_iconst (pc := 53) (x := nI 1) dM_conflicts_53 (by decide) ?_
                  refine rw_goto (pc := 54) dM_conflicts_54 (tgt := 58) rfl ?_
                  exact join _ (by clear join ih; simp_all [m_bi0, m_biT, m_biF, m_cfN, m_cfB])
  exact loop 3 0 rfl
end
section
def m_u (h : ha_H) : Nat := (hp_I h 62 34).toNatClampNeg
/-- the reference's cells stand, its booleans are such, its count of messages is one -/
def mo_I (h : ha_H) : Prop := mo_ok h ∧ mo_b h ∧ hp_I h 62 34 = nI (m_u h) ∧ m_u h ≤ 60
theorem mI_of {h : ha_H} {u : Nat} (hm : mo_ok h) (hb : mo_b h) (hu : hp_I h 62 34 = nI u) (h60 : u ≤ 60) : mo_I h := by
  have e : m_u h = u := mo_u hu h60
  exact ⟨hm, hb, by rw [e]; exact hu, by rw [e]; exact h60⟩
theorem mI_u {h : ha_H} {u : Nat} (hu : hp_I h 62 34 = nI u) (h60 : u ≤ 60) : m_u h = u := mo_u hu h60
theorem mI_sI {h : ha_H} (hi : mo_I h) {a k : Nat} {v : Int32} (ha : ¬ 62 = a) (hv : a ∈ [63, 72, 81, 82, 90, 99] → v = 0 ∨ v = 1) : mo_I (hp_sI h a k v) ∧ m_u (hp_sI h a k v) = m_u h :=
  have e := hI_sI (k := k) (v := v) ha hi.2.2.1
  ⟨mI_of (mo_sI hi.1) (mb_sI hi.2.1 hv) e hi.2.2.2, mI_u e hi.2.2.2⟩
theorem mI_mv {h : ha_H} (hi : mo_I h) {A i B t : Nat} (ha : ¬ 62 = B) (hv : B ∈ [63, 72, 81, 82, 90, 99] → A ∈ [63, 72, 81, 82, 90, 99]) : mo_I (hp_mv h A i B t) ∧ m_u (hp_mv h A i B t) = m_u h := mI_sI hi ha (fun q => hi.2.1 A (hv q) i)
theorem mI_room {h : ha_H} (hi : mo_I h) (hu : m_u h < 60) {k c f x : Int32} : mo_I (m_roomH h (m_u h) k c f x) ∧ m_u (m_roomH h (m_u h) k c f x) = m_u h + 1 :=
  ⟨mI_of (mo_roomH hi.1) (mb_roomH hi.2.1) mu_roomH hu, mI_u mu_roomH hu⟩
/-- how many messages there are behind one more -/
def m_inc (u : Nat) : Nat := if u = 60 then 60 else u + 1
theorem m_inc_le {u : Nat} (h : u ≤ 60) : m_inc u ≤ 60 := by unfold m_inc; split <;> omega
theorem mI_ans {h : ha_H} (hi : mo_I h) {c : Nat} : mo_I (m_ans h (m_u h) c) ∧ m_u (m_ans h (m_u h) c) = m_inc (m_u h) := by
  unfold m_ans m_inc
  by_cases e : m_u h = 60
  · rw [if_pos e, if_pos e]
    exact ⟨hi, e⟩
  · rw [if_neg e, if_neg e]
    have h60 := hi.2.2.2
    have h1 := mI_room hi (by omega) (k := hp_I h 69 c) (c := nI c) (f := hp_I h 70 c) (x := hp_I h 68 c)
    unfold m_ansT
    have h2 := mI_mv h1.1 (A := 71) (i := c) (B := 98) (t := m_u h) (by decide) (by decide)
    have h3 := mI_mv h2.1 (A := 72) (i := c) (B := 99) (t := m_u h) (by decide) (by decide)
    have h4 := mI_mv h3.1 (A := 73) (i := 4 * c + 0) (B := 102) (t := 4 * m_u h + 0) (by decide) (by decide)
    have h5 := mI_mv h4.1 (A := 73) (i := 4 * c + 1) (B := 102) (t := 4 * m_u h + 1) (by decide) (by decide)
    have h6 := mI_mv h5.1 (A := 73) (i := 4 * c + 2) (B := 102) (t := 4 * m_u h + 2) (by decide) (by decide)
    have h7 := mI_mv h6.1 (A := 73) (i := 4 * c + 3) (B := 102) (t := 4 * m_u h + 3) (by decide) (by decide)
    exact ⟨h7.1, by rw [h7.2, h6.2, h5.2, h4.2, h3.2, h2.2, h1.2]⟩
theorem mI_ask {h : ha_H} (hi : mo_I h) {c : Nat} : mo_I (m_ask h (m_u h) c) ∧ m_u (m_ask h (m_u h) c) = m_inc (m_u h) := by
  unfold m_ask m_inc
  by_cases e : m_u h = 60
  · rw [if_pos e, if_pos e]
    exact ⟨hi, e⟩
  · rw [if_neg e, if_neg e]
    have h60 := hi.2.2.2
    have h1 := mI_room hi (by omega) (k := hp_I h 87 c) (c := nI c) (f := hp_I h 88 c) (x := hp_I h 78 c)
    unfold m_askT
    have h2 := mI_mv h1.1 (A := 89) (i := c) (B := 98) (t := m_u h) (by decide) (by decide)
    have h3 := mI_mv h2.1 (A := 90) (i := c) (B := 99) (t := m_u h) (by decide) (by decide)
    have h4 := mI_mv h3.1 (A := 91) (i := c) (B := 100) (t := m_u h) (by decide) (by decide)
    have h5 := mI_mv h4.1 (A := 92) (i := c) (B := 101) (t := m_u h) (by decide) (by decide)
    exact ⟨h5.1, by rw [h5.2, h4.2, h3.2, h2.2, h1.2]⟩
theorem mI_fin {h : ha_H} (hi : mo_I h) {c : Nat} {x k f : Int32} : mo_I (m_fin h (m_u h) c x k f) ∧ m_u (m_fin h (m_u h) c x k f) = m_inc (m_u h) := by
  have h1 := mI_sI hi (a := 68) (k := c) (v := x) (by decide) (fun q => absurd q (by decide))
  have h2 := mI_sI h1.1 (a := 69) (k := c) (v := k) (by decide) (fun q => absurd q (by decide))
  have h3 := mI_sI h2.1 (a := 70) (k := c) (v := f) (by decide) (fun q => absurd q (by decide))
  have e : m_u (m_finH h c x k f) = m_u h := by rw [show m_u (m_finH h c x k f) = _ from h3.2, h2.2, h1.2]
  have h4 := mI_ans (h := m_finH h c x k f) h3.1 (c := c)
  rw [e] at h4
  exact h4
def m_grH (h : ha_H) (c f : Nat) (m : Int32) (b : Bool) : ha_H := hp_sI (hp_sI (hp_mv (hp_mv (hp_mv (hp_mv (hp_sI (hp_sI h 72 c (m_bi (m_hs h c f || b))) 71 c m) 65 (4 * f + 0) 73 (4 * c + 0)) 65 (4 * f + 1) 73 (4 * c + 1)) 65 (4 * f + 2) 73 (4 * c + 2)) 65 (4 * f + 3) 73 (4 * c + 3)) 66 (4 * c + f) m) 67 (4 * c + f) (hp_I h 64 3 + hp_I h 62 0)
def m_gr (h : ha_H) (u c f : Nat) (x m : Int32) (b : Bool) : ha_H := m_fin (m_grH h c f m b) u c x (nI 4) (nI f)
theorem cM_grant (G : mt_G) (h : ha_H) (hm : mo_ok h) (hb : mo_b h) {u : Nat} (hu : hp_I h 62 34 = nI u) (h60 : u ≤ 60) {c f : Nat} (hc : c < 3) (hf : f < 4) (x m : Int32) (b : Bool) : rn_M G xM_grant (3, 0, 0) [.inr (some 62), .inl (nI c), .inl (nI f), .inl x, .inl m, .inl (m_bi b)] h (rn_v (fun h' => m_gr h u c f x m b = h')) := by
  refine rn_of (by decide +kernel) (Nat.le_of_ble_eq_true rfl) ?_
  show rn_W G xM_grant (3, 0, 0) 0 0 0 [some (.inr (some 62)), some (.inl (nI c)), some (.inl (nI f)), some (.inl x), some (.inl m), some (.inl (m_bi b)), none] [] h _
  obtain ⟨t3, ht0⟩ : ∃ t, hp_I h 64 3 = t := ⟨_, rfl⟩
  obtain ⟨du, hd0⟩ : ∃ t, hp_I h 62 0 = t := ⟨_, rfl⟩
  have ht := ht0
  have hd := hd0
  have join : ∀ (v : Int32), v = m_bi (m_hs h c f || b) → rn_W G xM_grant (3, 0, 0) 0 0 24 [some (.inr (some 62)), some (.inl (nI c)), some (.inl (nI f)), some (.inl x), some (.inl m), some (.inl (m_bi b)), none] [.inl v, .inl (nI c), .inr (some 72)] h (rn_v (fun h' => m_gr h u c f x m b = h')) := by
    intro v hv
    subst hv
    refine rw_zast (pc := 24) (i := c) (m_bi01 _) dM_grant_24 (mo_o72 hm) (mo_S72 hm) (ix_nI (by omega) (by decide)) ?_
    replace hm := mo_sI (a := 72) (k := c) (v := m_bi (m_hs h c f || b)) hm
    replace hu := hI_sI (a := 72) (k := c) (v := m_bi (m_hs h c f || b)) (by decide) hu
    replace ht := hI_sI (a := 72) (k := c) (v := m_bi (m_hs h c f || b)) (by decide) ht
    replace hd := hI_sI (a := 72) (k := c) (v := m_bi (m_hs h c f || b)) (by decide) hd
    replace hb := mb_sI hb (a := 72) (k := c) (v := m_bi (m_hs h c f || b)) (fun _ => m_bi01 _)
    refine rw_aload_n (pc := 25) dM_grant_25 rfl ?_
    refine rw_getR (pc := 26) (x := some 71) flM_35_M dM_grant_26 (mo_o62 hm) (mo_S62 hm) (mo_R71 hm) ?_
    refine rw_iload_n (pc := 29) dM_grant_29 rfl ?_
    refine rw_iload (pc := 30) dM_grant_30 rfl ?_
    refine rw_iast (pc := 32) (i := c) dM_grant_32 (mo_o71 hm) (mo_S71 hm) (ix_nI (by omega) (by decide)) ?_
    replace hm := mo_sI (a := 71) (k := c) (v := m) hm
    replace hu := hI_sI (a := 71) (k := c) (v := m) (by decide) hu
    replace ht := hI_sI (a := 71) (k := c) (v := m) (by decide) ht
    replace hd := hI_sI (a := 71) (k := c) (v := m) (by decide) hd
    replace hb := mb_sI hb (a := 71) (k := c) (v := m) (fun q => absurd q (by decide))
    refine rw_iconst (pc := 33) (x := nI 0) dM_grant_33 (by decide) ?_
    refine rw_istore (pc := 34) (L' := [some (.inr (some 62)), some (.inl (nI c)), some (.inl (nI f)), some (.inl x), some (.inl m), some (.inl (m_bi b)), some (.inl (nI 0))]) dM_grant_34 (by decide) rfl ?_
    refine rw_iload (pc := 36) dM_grant_36 rfl ?_
    refine rw_iconst (pc := 38) (x := nI 4) dM_grant_38 (by decide) ?_
    refine rw_icmpge (pc := 39) dM_grant_39 (tgt := 70) rfl (fun c1 => ?_) (fun c1 => ?_)
    · skip
      replace c1 : 4 ≤ 0 := (nI_leI (a := 4) (b := 0) (by omega) (by omega)).mp c1
      exact absurd c1 (by decide)
    · skip
      replace c1 : ¬ (4 ≤ 0) := fun q => c1 ((nI_leI (a := 4) (b := 0) (by omega) (by omega)).mpr q)
      refine rw_aload_n (pc := 42) dM_grant_42 rfl ?_
      refine rw_getR (pc := 43) (x := some 73) flM_41_M dM_grant_43 (mo_o62 hm) (mo_S62 hm) (mo_R73 hm) ?_
      refine rw_iconst (pc := 46) (x := nI 4) dM_grant_46 (by decide) ?_
      refine rw_iload_n (pc := 47) dM_grant_47 rfl ?_
      refine rw_imul (pc := 48) (v := nI (4 * c)) dM_grant_48 (pk_mul _ _) ?_
      refine rw_iload (pc := 49) dM_grant_49 rfl ?_
      refine rw_iadd (pc := 51) (v := nI (4 * c + 0)) dM_grant_51 (nI_add _ _) ?_
      refine rw_aload_n (pc := 52) dM_grant_52 rfl ?_
      refine rw_getR (pc := 53) (x := some 65) flM_17_M dM_grant_53 (mo_o62 hm) (mo_S62 hm) (mo_R65 hm) ?_
      refine rw_iconst (pc := 56) (x := nI 4) dM_grant_56 (by decide) ?_
      refine rw_iload_n (pc := 57) dM_grant_57 rfl ?_
      refine rw_imul (pc := 58) (v := nI (4 * f)) dM_grant_58 (pk_mul _ _) ?_
      refine rw_iload (pc := 59) dM_grant_59 rfl ?_
      refine rw_iadd (pc := 61) (v := nI (4 * f + 0)) dM_grant_61 (nI_add _ _) ?_
      refine rw_iald (pc := 62) (v := hp_I (hp_sI (hp_sI h 72 c (m_bi (m_hs h c f || b))) 71 c m) 65 (4 * f + 0)) (i := (4 * f + 0)) dM_grant_62 (mo_o65 hm) (mo_S65 hm) (ix_nI (by omega) (by decide)) rfl ?_
      refine rw_iast (pc := 63) (i := (4 * c + 0)) dM_grant_63 (mo_o73 hm) (mo_S73 hm) (ix_nI (by omega) (by decide)) ?_
      show rn_W G xM_grant (3, 0, 0) 0 0 64 [some (.inr (some 62)), some (.inl (nI c)), some (.inl (nI f)), some (.inl x), some (.inl m), some (.inl (m_bi b)), some (.inl (nI 0))] [] (hp_mv (hp_sI (hp_sI h 72 c (m_bi (m_hs h c f || b))) 71 c m) 65 (4 * f + 0) 73 (4 * c + 0)) (rn_v (fun h' => m_gr h u c f x m b = h'))
      replace hm := mo_mv (A := 65) (i := (4 * f + 0)) (B := 73) (t := (4 * c + 0)) hm
      replace hu := hI_mv (A := 65) (i := (4 * f + 0)) (B := 73) (t := (4 * c + 0)) (by decide) hu
      replace ht := hI_mv (A := 65) (i := (4 * f + 0)) (B := 73) (t := (4 * c + 0)) (by decide) ht
      replace hd := hI_mv (A := 65) (i := (4 * f + 0)) (B := 73) (t := (4 * c + 0)) (by decide) hd
      replace hb := mb_mv hb (A := 65) (i := (4 * f + 0)) (B := 73) (t := (4 * c + 0)) (by decide)
      refine rw_iinc (pc := 64) (x := nI 0) (y := nI 1) (L' := [some (.inr (some 62)), some (.inl (nI c)), some (.inl (nI f)), some (.inl x), some (.inl m), some (.inl (m_bi b)), some (.inl (nI 1))]) dM_grant_64 (by decide) rfl (by decide) rfl ?_
      refine rw_goto (pc := 67) dM_grant_67 (tgt := 36) rfl ?_
      refine rw_iload (pc := 36) dM_grant_36 rfl ?_
      refine rw_iconst (pc := 38) (x := nI 4) dM_grant_38 (by decide) ?_
      refine rw_icmpge (pc := 39) dM_grant_39 (tgt := 70) rfl (fun c2 => ?_) (fun c2 => ?_)
      · skip
        replace c2 : 4 ≤ 1 := (nI_leI (a := 4) (b := 1) (by omega) (by omega)).mp c2
        exact absurd c2 (by decide)
      · skip
        replace c2 : ¬ (4 ≤ 1) := fun q => c2 ((nI_leI (a := 4) (b := 1) (by omega) (by omega)).mpr q)
        refine rw_aload_n (pc := 42) dM_grant_42 rfl ?_
        refine rw_getR (pc := 43) (x := some 73) flM_41_M dM_grant_43 (mo_o62 hm) (mo_S62 hm) (mo_R73 hm) ?_
        refine rw_iconst (pc := 46) (x := nI 4) dM_grant_46 (by decide) ?_
        refine rw_iload_n (pc := 47) dM_grant_47 rfl ?_
        refine rw_imul (pc := 48) (v := nI (4 * c)) dM_grant_48 (pk_mul _ _) ?_
        refine rw_iload (pc := 49) dM_grant_49 rfl ?_
        refine rw_iadd (pc := 51) (v := nI (4 * c + 1)) dM_grant_51 (nI_add _ _) ?_
        refine rw_aload_n (pc := 52) dM_grant_52 rfl ?_
        refine rw_getR (pc := 53) (x := some 65) flM_17_M dM_grant_53 (mo_o62 hm) (mo_S62 hm) (mo_R65 hm) ?_
        refine rw_iconst (pc := 56) (x := nI 4) dM_grant_56 (by decide) ?_
        refine rw_iload_n (pc := 57) dM_grant_57 rfl ?_
        refine rw_imul (pc := 58) (v := nI (4 * f)) dM_grant_58 (pk_mul _ _) ?_
        refine rw_iload (pc := 59) dM_grant_59 rfl ?_
        refine rw_iadd (pc := 61) (v := nI (4 * f + 1)) dM_grant_61 (nI_add _ _) ?_
        refine rw_iald (pc := 62) (v := hp_I (hp_mv (hp_sI (hp_sI h 72 c (m_bi (m_hs h c f || b))) 71 c m) 65 (4 * f + 0) 73 (4 * c + 0)) 65 (4 * f + 1)) (i := (4 * f + 1)) dM_grant_62 (mo_o65 hm) (mo_S65 hm) (ix_nI (by omega) (by decide)) rfl ?_
        refine rw_iast (pc := 63) (i := (4 * c + 1)) dM_grant_63 (mo_o73 hm) (mo_S73 hm) (ix_nI (by omega) (by decide)) ?_
        show rn_W G xM_grant (3, 0, 0) 0 0 64 [some (.inr (some 62)), some (.inl (nI c)), some (.inl (nI f)), some (.inl x), some (.inl m), some (.inl (m_bi b)), some (.inl (nI 1))] [] (hp_mv (hp_mv (hp_sI (hp_sI h 72 c (m_bi (m_hs h c f || b))) 71 c m) 65 (4 * f + 0) 73 (4 * c + 0)) 65 (4 * f + 1) 73 (4 * c + 1)) (rn_v (fun h' => m_gr h u c f x m b = h'))
        replace hm := mo_mv (A := 65) (i := (4 * f + 1)) (B := 73) (t := (4 * c + 1)) hm
        replace hu := hI_mv (A := 65) (i := (4 * f + 1)) (B := 73) (t := (4 * c + 1)) (by decide) hu
        replace ht := hI_mv (A := 65) (i := (4 * f + 1)) (B := 73) (t := (4 * c + 1)) (by decide) ht
        replace hd := hI_mv (A := 65) (i := (4 * f + 1)) (B := 73) (t := (4 * c + 1)) (by decide) hd
        replace hb := mb_mv hb (A := 65) (i := (4 * f + 1)) (B := 73) (t := (4 * c + 1)) (by decide)
        refine rw_iinc (pc := 64) (x := nI 1) (y := nI 2) (L' := [some (.inr (some 62)), some (.inl (nI c)), some (.inl (nI f)), some (.inl x), some (.inl m), some (.inl (m_bi b)), some (.inl (nI 2))]) dM_grant_64 (by decide) rfl (by decide) rfl ?_
        refine rw_goto (pc := 67) dM_grant_67 (tgt := 36) rfl ?_
        refine rw_iload (pc := 36) dM_grant_36 rfl ?_
        refine rw_iconst (pc := 38) (x := nI 4) dM_grant_38 (by decide) ?_
        refine rw_icmpge (pc := 39) dM_grant_39 (tgt := 70) rfl (fun c3 => ?_) (fun c3 => ?_)
        · skip
          replace c3 : 4 ≤ 2 := (nI_leI (a := 4) (b := 2) (by omega) (by omega)).mp c3
          exact absurd c3 (by decide)
        · skip
          replace c3 : ¬ (4 ≤ 2) := fun q => c3 ((nI_leI (a := 4) (b := 2) (by omega) (by omega)).mpr q)
          refine rw_aload_n (pc := 42) dM_grant_42 rfl ?_
          refine rw_getR (pc := 43) (x := some 73) flM_41_M dM_grant_43 (mo_o62 hm) (mo_S62 hm) (mo_R73 hm) ?_
          refine rw_iconst (pc := 46) (x := nI 4) dM_grant_46 (by decide) ?_
          refine rw_iload_n (pc := 47) dM_grant_47 rfl ?_
          refine rw_imul (pc := 48) (v := nI (4 * c)) dM_grant_48 (pk_mul _ _) ?_
          refine rw_iload (pc := 49) dM_grant_49 rfl ?_
          refine rw_iadd (pc := 51) (v := nI (4 * c + 2)) dM_grant_51 (nI_add _ _) ?_
          refine rw_aload_n (pc := 52) dM_grant_52 rfl ?_
          refine rw_getR (pc := 53) (x := some 65) flM_17_M dM_grant_53 (mo_o62 hm) (mo_S62 hm) (mo_R65 hm) ?_
          refine rw_iconst (pc := 56) (x := nI 4) dM_grant_56 (by decide) ?_
          refine rw_iload_n (pc := 57) dM_grant_57 rfl ?_
          refine rw_imul (pc := 58) (v := nI (4 * f)) dM_grant_58 (pk_mul _ _) ?_
          refine rw_iload (pc := 59) dM_grant_59 rfl ?_
          refine rw_iadd (pc := 61) (v := nI (4 * f + 2)) dM_grant_61 (nI_add _ _) ?_
          refine rw_iald (pc := 62) (v := hp_I (hp_mv (hp_mv (hp_sI (hp_sI h 72 c (m_bi (m_hs h c f || b))) 71 c m) 65 (4 * f + 0) 73 (4 * c + 0)) 65 (4 * f + 1) 73 (4 * c + 1)) 65 (4 * f + 2)) (i := (4 * f + 2)) dM_grant_62 (mo_o65 hm) (mo_S65 hm) (ix_nI (by omega) (by decide)) rfl ?_
          refine rw_iast (pc := 63) (i := (4 * c + 2)) dM_grant_63 (mo_o73 hm) (mo_S73 hm) (ix_nI (by omega) (by decide)) ?_
          show rn_W G xM_grant (3, 0, 0) 0 0 64 [some (.inr (some 62)), some (.inl (nI c)), some (.inl (nI f)), some (.inl x), some (.inl m), some (.inl (m_bi b)), some (.inl (nI 2))] [] (hp_mv (hp_mv (hp_mv (hp_sI (hp_sI h 72 c (m_bi (m_hs h c f || b))) 71 c m) 65 (4 * f + 0) 73 (4 * c + 0)) 65 (4 * f + 1) 73 (4 * c + 1)) 65 (4 * f + 2) 73 (4 * c + 2)) (rn_v (fun h' => m_gr h u c f x m b = h'))
          replace hm := mo_mv (A := 65) (i := (4 * f + 2)) (B := 73) (t := (4 * c + 2)) hm
          replace hu := hI_mv (A := 65) (i := (4 * f + 2)) (B := 73) (t := (4 * c + 2)) (by decide) hu
          replace ht := hI_mv (A := 65) (i := (4 * f + 2)) (B := 73) (t := (4 * c + 2)) (by decide) ht
          replace hd := hI_mv (A := 65) (i := (4 * f + 2)) (B := 73) (t := (4 * c + 2)) (by decide) hd
          replace hb := mb_mv hb (A := 65) (i := (4 * f + 2)) (B := 73) (t := (4 * c + 2)) (by decide)
          refine rw_iinc (pc := 64) (x := nI 2) (y := nI 3) (L' := [some (.inr (some 62)), some (.inl (nI c)), some (.inl (nI f)), some (.inl x), some (.inl m), some (.inl (m_bi b)), some (.inl (nI 3))]) dM_grant_64 (by decide) rfl (by decide) rfl ?_
          refine rw_goto (pc := 67) dM_grant_67 (tgt := 36) rfl ?_
          refine rw_iload (pc := 36) dM_grant_36 rfl ?_
          refine rw_iconst (pc := 38) (x := nI 4) dM_grant_38 (by decide) ?_
          refine rw_icmpge (pc := 39) dM_grant_39 (tgt := 70) rfl (fun c4 => ?_) (fun c4 => ?_)
          · skip
            replace c4 : 4 ≤ 3 := (nI_leI (a := 4) (b := 3) (by omega) (by omega)).mp c4
            exact absurd c4 (by decide)
          · skip
            replace c4 : ¬ (4 ≤ 3) := fun q => c4 ((nI_leI (a := 4) (b := 3) (by omega) (by omega)).mpr q)
            refine rw_aload_n (pc := 42) dM_grant_42 rfl ?_
            refine rw_getR (pc := 43) (x := some 73) flM_41_M dM_grant_43 (mo_o62 hm) (mo_S62 hm) (mo_R73 hm) ?_
            refine rw_iconst (pc := 46) (x := nI 4) dM_grant_46 (by decide) ?_
            refine rw_iload_n (pc := 47) dM_grant_47 rfl ?_
            refine rw_imul (pc := 48) (v := nI (4 * c)) dM_grant_48 (pk_mul _ _) ?_
            refine rw_iload (pc := 49) dM_grant_49 rfl ?_
            refine rw_iadd (pc := 51) (v := nI (4 * c + 3)) dM_grant_51 (nI_add _ _) ?_
            refine rw_aload_n (pc := 52) dM_grant_52 rfl ?_
            refine rw_getR (pc := 53) (x := some 65) flM_17_M dM_grant_53 (mo_o62 hm) (mo_S62 hm) (mo_R65 hm) ?_
            refine rw_iconst (pc := 56) (x := nI 4) dM_grant_56 (by decide) ?_
            refine rw_iload_n (pc := 57) dM_grant_57 rfl ?_
            refine rw_imul (pc := 58) (v := nI (4 * f)) dM_grant_58 (pk_mul _ _) ?_
            refine rw_iload (pc := 59) dM_grant_59 rfl ?_
            refine rw_iadd (pc := 61) (v := nI (4 * f + 3)) dM_grant_61 (nI_add _ _) ?_
            refine rw_iald (pc := 62) (v := hp_I (hp_mv (hp_mv (hp_mv (hp_sI (hp_sI h 72 c (m_bi (m_hs h c f || b))) 71 c m) 65 (4 * f + 0) 73 (4 * c + 0)) 65 (4 * f + 1) 73 (4 * c + 1)) 65 (4 * f + 2) 73 (4 * c + 2)) 65 (4 * f + 3)) (i := (4 * f + 3)) dM_grant_62 (mo_o65 hm) (mo_S65 hm) (ix_nI (by omega) (by decide)) rfl ?_
            refine rw_iast (pc := 63) (i := (4 * c + 3)) dM_grant_63 (mo_o73 hm) (mo_S73 hm) (ix_nI (by omega) (by decide)) ?_
            show rn_W G xM_grant (3, 0, 0) 0 0 64 [some (.inr (some 62)), some (.inl (nI c)), some (.inl (nI f)), some (.inl x), some (.inl m), some (.inl (m_bi b)), some (.inl (nI 3))] [] (hp_mv (hp_mv (hp_mv (hp_mv (hp_sI (hp_sI h 72 c (m_bi (m_hs h c f || b))) 71 c m) 65 (4 * f + 0) 73 (4 * c + 0)) 65 (4 * f + 1) 73 (4 * c + 1)) 65 (4 * f + 2) 73 (4 * c + 2)) 65 (4 * f + 3) 73 (4 * c + 3)) (rn_v (fun h' => m_gr h u c f x m b = h'))
            replace hm := mo_mv (A := 65) (i := (4 * f + 3)) (B := 73) (t := (4 * c + 3)) hm
            replace hu := hI_mv (A := 65) (i := (4 * f + 3)) (B := 73) (t := (4 * c + 3)) (by decide) hu
            replace ht := hI_mv (A := 65) (i := (4 * f + 3)) (B := 73) (t := (4 * c + 3)) (by decide) ht
            replace hd := hI_mv (A := 65) (i := (4 * f + 3)) (B := 73) (t := (4 * c + 3)) (by decide) hd
            replace hb := mb_mv hb (A := 65) (i := (4 * f + 3)) (B := 73) (t := (4 * c + 3)) (by decide)
            refine rw_iinc (pc := 64) (x := nI 3) (y := nI 4) (L' := [some (.inr (some 62)), some (.inl (nI c)), some (.inl (nI f)), some (.inl x), some (.inl m), some (.inl (m_bi b)), some (.inl (nI 4))]) dM_grant_64 (by decide) rfl (by decide) rfl ?_
            refine rw_goto (pc := 67) dM_grant_67 (tgt := 36) rfl ?_
            refine rw_iload (pc := 36) dM_grant_36 rfl ?_
            refine rw_iconst (pc := 38) (x := nI 4) dM_grant_38 (by decide) ?_
            refine rw_icmpge (pc := 39) dM_grant_39 (tgt := 70) rfl (fun c5 => ?_) (fun c5 => ?_)
            · skip
              replace c5 : 4 ≤ 4 := (nI_leI (a := 4) (b := 4) (by omega) (by omega)).mp c5
              refine rw_aload_n (pc := 70) dM_grant_70 rfl ?_
              refine rw_getR (pc := 71) (x := some 66) flM_20_M dM_grant_71 (mo_o62 hm) (mo_S62 hm) (mo_R66 hm) ?_
              refine rw_iconst (pc := 74) (x := nI 4) dM_grant_74 (by decide) ?_
              refine rw_iload_n (pc := 75) dM_grant_75 rfl ?_
              refine rw_imul (pc := 76) (v := nI (4 * c)) dM_grant_76 (pk_mul _ _) ?_
              refine rw_iload_n (pc := 77) dM_grant_77 rfl ?_
              refine rw_iadd (pc := 78) (v := nI (4 * c + f)) dM_grant_78 (nI_add _ _) ?_
              refine rw_iload (pc := 79) dM_grant_79 rfl ?_
              refine rw_iast (pc := 81) (i := (4 * c + f)) dM_grant_81 (mo_o66 hm) (mo_S66 hm) (ix_nI (by omega) (by decide)) ?_
              replace hm := mo_sI (a := 66) (k := (4 * c + f)) (v := m) hm
              replace hu := hI_sI (a := 66) (k := (4 * c + f)) (v := m) (by decide) hu
              replace ht := hI_sI (a := 66) (k := (4 * c + f)) (v := m) (by decide) ht
              replace hd := hI_sI (a := 66) (k := (4 * c + f)) (v := m) (by decide) hd
              replace hb := mb_sI hb (a := 66) (k := (4 * c + f)) (v := m) (fun q => absurd q (by decide))
              refine rw_aload_n (pc := 82) dM_grant_82 rfl ?_
              refine rw_getR (pc := 83) (x := some 67) flM_23_M dM_grant_83 (mo_o62 hm) (mo_S62 hm) (mo_R67 hm) ?_
              refine rw_iconst (pc := 86) (x := nI 4) dM_grant_86 (by decide) ?_
              refine rw_iload_n (pc := 87) dM_grant_87 rfl ?_
              refine rw_imul (pc := 88) (v := nI (4 * c)) dM_grant_88 (pk_mul _ _) ?_
              refine rw_iload_n (pc := 89) dM_grant_89 rfl ?_
              refine rw_iadd (pc := 90) (v := nI (4 * c + f)) dM_grant_90 (nI_add _ _) ?_
              refine rw_aload_n (pc := 91) dM_grant_91 rfl ?_
              refine rw_getR (pc := 92) (x := some 64) flM_13_M dM_grant_92 (mo_o62 hm) (mo_S62 hm) (mo_R64 hm) ?_
              refine rw_iconst (pc := 95) (x := nI 3) dM_grant_95 (by decide) ?_
              refine rw_iald (pc := 96) (v := t3) (i := 3) dM_grant_96 (mo_o64 hm) (mo_S64 hm) (ix_nI (by omega) (by decide)) ht ?_
              refine rw_aload_n (pc := 97) dM_grant_97 rfl ?_
              refine rw_getI (pc := 98) (x := du) flM_131_M dM_grant_98 (mo_o62 hm) (mo_S62 hm) hd ?_
              refine rw_iadd (pc := 101) (v := t3 + du) dM_grant_101 rfl ?_
              refine rw_iast (pc := 102) (i := (4 * c + f)) dM_grant_102 (mo_o67 hm) (mo_S67 hm) (ix_nI (by omega) (by decide)) ?_
              replace hm := mo_sI (a := 67) (k := (4 * c + f)) (v := t3 + du) hm
              replace hu := hI_sI (a := 67) (k := (4 * c + f)) (v := t3 + du) (by decide) hu
              replace ht := hI_sI (a := 67) (k := (4 * c + f)) (v := t3 + du) (by decide) ht
              replace hd := hI_sI (a := 67) (k := (4 * c + f)) (v := t3 + du) (by decide) hd
              replace hb := mb_sI hb (a := 67) (k := (4 * c + f)) (v := t3 + du) (fun q => absurd q (by decide))
              refine rw_aload_n (pc := 103) dM_grant_103 rfl ?_
              refine rw_iload_n (pc := 104) dM_grant_104 rfl ?_
              refine rw_iload_n (pc := 105) dM_grant_105 rfl ?_
              refine rw_iconst (pc := 106) (x := nI 4) dM_grant_106 (by decide) ?_
              refine rw_iload_n (pc := 107) dM_grant_107 rfl ?_
              refine rw_vv (pc := 108) (z' := (2, 0, 0)) (rc' := 0) (rs' := 0) (av := [.inl (nI c), .inl x, .inl (nI 4), .inl (nI f)]) (st := []) (ci := 10) mlM_179 miM_finish rfl mvM_finish_M dM_grant_108 (mo_o62 hm) (mo_S62 hm) (cM_finish G _ hm hb hu h60 hc _ _ _) rfl rfl (Nat.le_of_ble_eq_true rfl) (by decide) rfl rfl (fun h6 q6 => ?_)
              obtain rfl := q6
              exact rw_vret (pc := 111) dM_grant_111 rfl ⟨rfl, by unfold m_gr m_grH; rw [ht0, hd0]⟩
            · skip
              replace c5 : ¬ (4 ≤ 4) := fun q => c5 ((nI_leI (a := 4) (b := 4) (by omega) (by omega)).mpr q)
              exact absurd (by decide) c5
  refine rw_aload_n (pc := 0) dM_grant_0 rfl ?_
  refine rw_getR (pc := 1) (x := some 72) flM_38_M dM_grant_1 (mo_o62 hm) (mo_S62 hm) (mo_R72 hm) ?_
  refine rw_iload_n (pc := 4) dM_grant_4 rfl ?_
  refine rw_aload_n (pc := 5) dM_grant_5 rfl ?_
  refine rw_iload_n (pc := 6) dM_grant_6 rfl ?_
  refine rw_iload_n (pc := 7) dM_grant_7 rfl ?_
  refine rw_vi (pc := 8) (z' := (0, 0, 0)) (rc' := 0) (rs' := 0) (av := [.inl (nI c), .inl (nI f)]) (st := [.inl (nI c), .inr (some 72)]) (ci := 10) mlM_171 miM_has rfl mvM_has_M dM_grant_8 (mo_o62 hm) (mo_S62 hm) (cM_has G _ hm (by omega) (by omega)) rfl rfl (Nat.le_of_ble_eq_true rfl) (by decide) rfl rfl (fun r7 h7 q7 => ?_)
  obtain ⟨rfl, rfl⟩ := q7
  refine rw_ifne (pc := 11) dM_grant_11 (tgt := 19) rfl (fun c8 => ?_) (fun c8 => ?_)
  · skip
    refine rw_iconst (pc := 19) (x := nI 1) dM_grant_19 (by decide) ?_
    refine rw_goto (pc := 20) dM_grant_20 (tgt := 24) rfl ?_
    exact join _ (by simp_all [m_bi0, m_biT, m_biF])
  · skip
    refine rw_iload (pc := 14) dM_grant_14 rfl ?_
    refine rw_ifeq (pc := 16) dM_grant_16 (tgt := 23) rfl (fun c9 => ?_) (fun c9 => ?_)
    · skip
      refine rw_iconst (pc := 23) (x := nI 0) dM_grant_23 (by decide) ?_
      exact join _ (by simp_all [m_bi0, m_biT, m_biF])
    · skip
      refine rw_iconst (pc := 19) (x := nI 1) dM_grant_19 (by decide) ?_
      refine rw_goto (pc := 20) dM_grant_20 (tgt := 24) rfl ?_
      exact join _ (by simp_all [m_bi0, m_biT, m_biF])
end
section
theorem m_bi1 {b : Bool} (h : ¬ m_bi b = 0) : b = true := by cases b with
  | true => rfl
  | false => exact absurd rfl h
theorem mI_grH {h : ha_H} (hi : mo_I h) {c f : Nat} {m : Int32} {b : Bool} : mo_I (m_grH h c f m b) ∧ m_u (m_grH h c f m b) = m_u h := by
  have h1 := mI_sI hi (a := 72) (k := c) (v := m_bi (m_hs h c f || b)) (by decide) (fun _ => m_bi01 _)
  have h2 := mI_sI h1.1 (a := 71) (k := c) (v := m) (by decide) (fun q => absurd q (by decide))
  have h3 := mI_mv h2.1 (A := 65) (i := 4 * f + 0) (B := 73) (t := 4 * c + 0) (by decide) (by decide)
  have h4 := mI_mv h3.1 (A := 65) (i := 4 * f + 1) (B := 73) (t := 4 * c + 1) (by decide) (by decide)
  have h5 := mI_mv h4.1 (A := 65) (i := 4 * f + 2) (B := 73) (t := 4 * c + 2) (by decide) (by decide)
  have h6 := mI_mv h5.1 (A := 65) (i := 4 * f + 3) (B := 73) (t := 4 * c + 3) (by decide) (by decide)
  have h7 := mI_sI h6.1 (a := 66) (k := 4 * c + f) (v := m) (by decide) (fun q => absurd q (by decide))
  have h8 := mI_sI h7.1 (a := 67) (k := 4 * c + f) (v := hp_I h 64 3 + hp_I h 62 0) (by decide) (fun q => absurd q (by decide))
  exact ⟨h8.1, by rw [show m_u (m_grH h c f m b) = _ from h8.2, h7.2, h6.2, h5.2, h4.2, h3.2, h2.2, h1.2]⟩
theorem mI_gr {h : ha_H} (hi : mo_I h) {c f : Nat} {x m : Int32} {b : Bool} : mo_I (m_gr h (m_u h) c f x m b) ∧ m_u (m_gr h (m_u h) c f x m b) = m_inc (m_u h) := by
  have h1 := mI_grH hi (c := c) (f := f) (m := m) (b := b)
  have h2 := mI_fin h1.1 (c := c) (x := x) (k := nI 4) (f := nI f)
  rw [h1.2] at h2
  exact h2
def m_oi : Option Nat → Int32
  | none => -1
  | some c => nI c
def m_fs (h : ha_H) (f : Int32) : Nat → Option Nat
  | 0 => none
  | d + 1 => match m_fs h f d with
    | none => if hp_I h 74 d = f then some d else none
    | some b => if hp_I h 74 d = f then (if hp_I h 77 b ≤ hp_I h 77 d then some b else some d) else some b
theorem m_fs_lt {h : ha_H} {f : Int32} : ∀ (d b : Nat), m_fs h f d = some b → b < d ∧ hp_I h 74 b = f
  | 0, b, e => by cases e
  | d + 1, b, e => by
    unfold m_fs at e
    cases ho : m_fs h f d with
    | none =>
      rw [ho] at e
      by_cases c : hp_I h 74 d = f
      · simp [c] at e
        subst e
        exact ⟨by omega, c⟩
      · simp [c] at e
    | some b0 =>
      rw [ho] at e
      have ih := m_fs_lt d b0 ho
      by_cases c : hp_I h 74 d = f
      · by_cases c2 : hp_I h 77 b0 ≤ hp_I h 77 d
        · simp [c, c2] at e
          subst e
          exact ⟨by omega, ih.2⟩
        · simp [c, c2] at e
          subst e
          exact ⟨by omega, c⟩
      · simp [c] at e
        subst e
        exact ⟨by omega, ih.2⟩
theorem cM_first (G : mt_G) (h : ha_H) (hm : mo_ok h) {f : Nat} (hf : f < 4) : rn_M G xM_first (0, 0, 0) [.inr (some 62), .inl (nI f)] h (rn_i (fun r h' => r = m_oi (m_fs h (nI f) 3) ∧ h = h')) := by
  refine rn_of (by decide +kernel) (Nat.le_of_ble_eq_true rfl) ?_
  show rn_W G xM_first (0, 0, 0) 0 0 0 [some (.inr (some 62)), some (.inl (nI f)), none, none] [] h _
  refine rw_iconst (pc := 0) (x := (-1)) dM_first_0 (by decide) ?_
  refine rw_istore_n (pc := 1) (L' := [some (.inr (some 62)), some (.inl (nI f)), some (.inl (-1)), none]) dM_first_1 (by decide) rfl ?_
  refine rw_iconst (pc := 2) (x := nI 0) dM_first_2 (by decide) ?_
  refine rw_istore_n (pc := 3) (L' := [some (.inr (some 62)), some (.inl (nI f)), some (.inl (-1)), some (.inl (nI 0))]) dM_first_3 (by decide) rfl ?_
  have loop : ∀ (n d : Nat), d + n = 3 → rn_W G xM_first (0, 0, 0) 0 0 4 [some (.inr (some 62)), some (.inl (nI f)), some (.inl (m_oi (m_fs h (nI f) d))), some (.inl (nI d))] [] h (rn_i (fun r h' => r = m_oi (m_fs h (nI f) 3) ∧ h = h')) := by
    intro n
    induction n with
    | zero =>
      intro d hd
      refine rw_iload_n (pc := 4) dM_first_4 rfl ?_
      refine rw_iconst (pc := 5) (x := nI 3) dM_first_5 (by decide) ?_
      refine rw_icmpge (pc := 6) dM_first_6 (tgt := 46) rfl (fun c1 => ?_) (fun c1 => ?_)
      · skip
        replace c1 : 3 ≤ d := (nI_leI (a := 3) (b := d) (by omega) (by omega)).mp c1
        refine rw_iload_n (pc := 46) dM_first_46 rfl ?_
        exact rw_iret (pc := 47) dM_first_47 rfl ⟨_, rfl, by rw [show d = 3 by omega], rfl⟩
      · skip
        replace c1 : ¬ (3 ≤ d) := fun q => c1 ((nI_leI (a := 3) (b := d) (by omega) (by omega)).mpr q)
        omega
    | succ n ih =>
      intro d hd
      cases ho : m_fs h (nI f) d with
      | none =>
        show rn_W G xM_first (0, 0, 0) 0 0 4 [some (.inr (some 62)), some (.inl (nI f)), some (.inl (-1)), some (.inl (nI d))] [] h (rn_i (fun r h' => r = m_oi (m_fs h (nI f) 3) ∧ h = h'))
        refine rw_iload_n (pc := 4) dM_first_4 rfl ?_
        refine rw_iconst (pc := 5) (x := nI 3) dM_first_5 (by decide) ?_
        refine rw_icmpge (pc := 6) dM_first_6 (tgt := 46) rfl (fun c2 => ?_) (fun c2 => ?_)
        · skip
          replace c2 : 3 ≤ d := (nI_leI (a := 3) (b := d) (by omega) (by omega)).mp c2
          omega
        · skip
          replace c2 : ¬ (3 ≤ d) := fun q => c2 ((nI_leI (a := 3) (b := d) (by omega) (by omega)).mpr q)
          refine rw_aload_n (pc := 9) dM_first_9 rfl ?_
          refine rw_getR (pc := 10) (x := some 74) flM_44_M dM_first_10 (mo_o62 hm) (mo_S62 hm) (mo_R74 hm) ?_
          refine rw_iload_n (pc := 13) dM_first_13 rfl ?_
          refine rw_iald (pc := 14) (v := hp_I h 74 d) (i := d) dM_first_14 (mo_o74 hm) (mo_S74 hm) (ix_nI (by omega) (by decide)) rfl ?_
          refine rw_iload_n (pc := 15) dM_first_15 rfl ?_
          refine rw_icmpne (pc := 16) dM_first_16 (tgt := 40) rfl (fun c3 => ?_) (fun c3 => ?_)
          · skip
            refine rw_iinc (pc := 40) (x := nI d) (y := nI (d + 1)) (L' := [some (.inr (some 62)), some (.inl (nI f)), some (.inl (-1)), some (.inl (nI (d + 1)))]) dM_first_40 (by decide) rfl (nI_add _ 1) rfl ?_
            refine rw_goto (pc := 43) dM_first_43 (tgt := 4) rfl ?_
            have e9 : m_fs h (nI f) (d + 1) = none := by simp [m_fs, ho, c3]
            have i9 := ih (d + 1) (by omega)
            rw [e9] at i9
            exact i9
          · skip
            refine rw_iload_n (pc := 19) dM_first_19 rfl ?_
            refine rw_iflt (pc := 20) dM_first_20 (tgt := 38) rfl (fun c4 => ?_) (fun c4 => ?_)
            · skip
              refine rw_iload_n (pc := 38) dM_first_38 rfl ?_
              refine rw_istore_n (pc := 39) (L' := [some (.inr (some 62)), some (.inl (nI f)), some (.inl (nI d)), some (.inl (nI d))]) dM_first_39 (by decide) rfl ?_
              refine rw_iinc (pc := 40) (x := nI d) (y := nI (d + 1)) (L' := [some (.inr (some 62)), some (.inl (nI f)), some (.inl (nI d)), some (.inl (nI (d + 1)))]) dM_first_40 (by decide) rfl (nI_add _ 1) rfl ?_
              refine rw_goto (pc := 43) dM_first_43 (tgt := 4) rfl ?_
              have e9 : m_fs h (nI f) (d + 1) = some d := by simp [m_fs, ho, c3]
              have i9 := ih (d + 1) (by omega)
              rw [e9] at i9
              exact i9
            · skip
              exact absurd (by decide) c4
      | some b =>
        show rn_W G xM_first (0, 0, 0) 0 0 4 [some (.inr (some 62)), some (.inl (nI f)), some (.inl (nI b)), some (.inl (nI d))] [] h (rn_i (fun r h' => r = m_oi (m_fs h (nI f) 3) ∧ h = h'))
        have hb3 := (m_fs_lt d b ho).1
        refine rw_iload_n (pc := 4) dM_first_4 rfl ?_
        refine rw_iconst (pc := 5) (x := nI 3) dM_first_5 (by decide) ?_
        refine rw_icmpge (pc := 6) dM_first_6 (tgt := 46) rfl (fun c5 => ?_) (fun c5 => ?_)
        · skip
          replace c5 : 3 ≤ d := (nI_leI (a := 3) (b := d) (by omega) (by omega)).mp c5
          omega
        · skip
          replace c5 : ¬ (3 ≤ d) := fun q => c5 ((nI_leI (a := 3) (b := d) (by omega) (by omega)).mpr q)
          refine rw_aload_n (pc := 9) dM_first_9 rfl ?_
          refine rw_getR (pc := 10) (x := some 74) flM_44_M dM_first_10 (mo_o62 hm) (mo_S62 hm) (mo_R74 hm) ?_
          refine rw_iload_n (pc := 13) dM_first_13 rfl ?_
          refine rw_iald (pc := 14) (v := hp_I h 74 d) (i := d) dM_first_14 (mo_o74 hm) (mo_S74 hm) (ix_nI (by omega) (by decide)) rfl ?_
          refine rw_iload_n (pc := 15) dM_first_15 rfl ?_
          refine rw_icmpne (pc := 16) dM_first_16 (tgt := 40) rfl (fun c6 => ?_) (fun c6 => ?_)
          · skip
            refine rw_iinc (pc := 40) (x := nI d) (y := nI (d + 1)) (L' := [some (.inr (some 62)), some (.inl (nI f)), some (.inl (nI b)), some (.inl (nI (d + 1)))]) dM_first_40 (by decide) rfl (nI_add _ 1) rfl ?_
            refine rw_goto (pc := 43) dM_first_43 (tgt := 4) rfl ?_
            have e9 : m_fs h (nI f) (d + 1) = some b := by simp [m_fs, ho, c6]
            have i9 := ih (d + 1) (by omega)
            rw [e9] at i9
            exact i9
          · skip
            refine rw_iload_n (pc := 19) dM_first_19 rfl ?_
            refine rw_iflt (pc := 20) dM_first_20 (tgt := 38) rfl (fun c7 => ?_) (fun c7 => ?_)
            · skip
              replace c7 : b < 0 := (nI_ltI (a := b) (b := 0) (by omega) (by omega)).mp c7
              omega
            · skip
              replace c7 : ¬ (b < 0) := fun q => c7 ((nI_ltI (a := b) (b := 0) (by omega) (by omega)).mpr q)
              refine rw_aload_n (pc := 23) dM_first_23 rfl ?_
              refine rw_getR (pc := 24) (x := some 77) flM_53_M dM_first_24 (mo_o62 hm) (mo_S62 hm) (mo_R77 hm) ?_
              refine rw_iload_n (pc := 27) dM_first_27 rfl ?_
              refine rw_iald (pc := 28) (v := hp_I h 77 d) (i := d) dM_first_28 (mo_o77 hm) (mo_S77 hm) (ix_nI (by omega) (by decide)) rfl ?_
              refine rw_aload_n (pc := 29) dM_first_29 rfl ?_
              refine rw_getR (pc := 30) (x := some 77) flM_53_M dM_first_30 (mo_o62 hm) (mo_S62 hm) (mo_R77 hm) ?_
              refine rw_iload_n (pc := 33) dM_first_33 rfl ?_
              refine rw_iald (pc := 34) (v := hp_I h 77 b) (i := b) dM_first_34 (mo_o77 hm) (mo_S77 hm) (ix_nI (by omega) (by decide)) rfl ?_
              refine rw_icmpge (pc := 35) dM_first_35 (tgt := 40) rfl (fun c8 => ?_) (fun c8 => ?_)
              · skip
                refine rw_iinc (pc := 40) (x := nI d) (y := nI (d + 1)) (L' := [some (.inr (some 62)), some (.inl (nI f)), some (.inl (nI b)), some (.inl (nI (d + 1)))]) dM_first_40 (by decide) rfl (nI_add _ 1) rfl ?_
                refine rw_goto (pc := 43) dM_first_43 (tgt := 4) rfl ?_
                have e9 : m_fs h (nI f) (d + 1) = some b := by simp [m_fs, ho, c6, c8]
                have i9 := ih (d + 1) (by omega)
                rw [e9] at i9
                exact i9
              · skip
                refine rw_iload_n (pc := 38) dM_first_38 rfl ?_
                refine rw_istore_n (pc := 39) (L' := [some (.inr (some 62)), some (.inl (nI f)), some (.inl (nI d)), some (.inl (nI d))]) dM_first_39 (by decide) rfl ?_
                refine rw_iinc (pc := 40) (x := nI d) (y := nI (d + 1)) (L' := [some (.inr (some 62)), some (.inl (nI f)), some (.inl (nI d)), some (.inl (nI (d + 1)))]) dM_first_40 (by decide) rfl (nI_add _ 1) rfl ?_
                refine rw_goto (pc := 43) dM_first_43 (tgt := 4) rfl ?_
                have e9 : m_fs h (nI f) (d + 1) = some d := by simp [m_fs, ho, c6, c8]
                have i9 := ih (d + 1) (by omega)
                rw [e9] at i9
                exact i9
  exact loop 3 0 rfl
def m_gw (h : ha_H) (c f : Nat) : ha_H := m_gr (hp_sI h 74 c (-1)) (m_u h) c f (hp_I (hp_sI h 74 c (-1)) 75 c) (hp_I (hp_sI h 74 c (-1)) 76 c) false
def m_sv : Nat → ha_H → Nat → ha_H
  | 0, h, _ => h
  | n + 1, h, f => match m_fs h (nI f) 3 with
    | none => h
    | some c => if hp_I h 62 6 = 0 then (if m_cfN h c f (hp_I h 76 c) 3 = false then m_sv n (m_gw h c f) f else h) else h
def m_svN : Nat → ha_H → Nat → ha_H
  | 0, h, _ => h
  | n + 1, h, f => m_svN n (m_sv 3 h f) (f + 1)
def m_serve (h : ha_H) : ha_H := m_svN 4 h 0
def m_ct (h : ha_H) (f : Nat) : Nat := (if hp_I h 74 0 = nI f then 1 else 0) + (if hp_I h 74 1 = nI f then 1 else 0) + (if hp_I h 74 2 = nI f then 1 else 0)
theorem m_gr74 {h : ha_H} {u c f j : Nat} {x m : Int32} {b : Bool} : hp_I (m_gr h u c f x m b) 74 j = hp_I h 74 j := by
  unfold m_gr m_fin m_ans
  by_cases e : u = 60
  · rw [if_pos e]
    rfl
  · rw [if_neg e]
    rfl
theorem m_ctF {h : ha_H} {c f : Nat} (hc : c < 3) (hw : hp_I h 74 c = nI f) (hf : f < 4) : m_ct (m_gw h c f) f + 1 ≤ m_ct h f := by
  unfold m_ct m_gw
  rw [m_gr74, m_gr74, m_gr74, hp_I_sI, hp_I_sI, hp_I_sI]
  have hn : ¬ (-1 : Int32) = nI f := by
    intro q
    have h1 := congrArg Int32.toInt q
    rw [nI_toInt (by omega)] at h1
    have h2 : (-1 : Int32).toInt = -1 := by decide
    omega
  rcases (show c = 0 ∨ c = 1 ∨ c = 2 by omega) with rfl | rfl | rfl
  · simp [hw, hn]; omega
  · simp [hw, hn]; omega
  · simp [hw, hn]
theorem m_fs0 {h : ha_H} {f : Nat} (h0 : m_ct h f = 0) : m_fs h (nI f) 3 = none := by
  cases ho : m_fs h (nI f) 3 with
  | none => rfl
  | some c =>
    exfalso
    obtain ⟨h1, h2⟩ := m_fs_lt 3 c ho
    unfold m_ct at h0
    rcases (show c = 0 ∨ c = 1 ∨ c = 2 by omega) with rfl | rfl | rfl <;> simp [h2] at h0
theorem mI_gw {h : ha_H} (hi : mo_I h) {c f : Nat} : mo_I (m_gw h c f) ∧ m_u (m_gw h c f) = m_inc (m_u h) := by
  have h1 := mI_sI hi (a := 74) (k := c) (v := -1) (by decide) (fun q => absurd q (by decide))
  have h2 := mI_gr h1.1 (c := c) (f := f) (x := hp_I (hp_sI h 74 c (-1)) 75 c) (m := hp_I (hp_sI h 74 c (-1)) 76 c) (b := false)
  rw [h1.2] at h2
  exact h2
theorem mI_sv : ∀ (n : Nat) {h : ha_H} (_ : mo_I h) {f : Nat}, mo_I (m_sv n h f)
  | 0, h, hi, f => hi
  | n + 1, h, hi, f => by
    unfold m_sv
    cases m_fs h (nI f) 3 with
    | none => exact hi
    | some c =>
      dsimp only
      by_cases e : hp_I h 62 6 = 0
      · rw [if_pos e]
        by_cases e2 : m_cfN h c f (hp_I h 76 c) 3 = false
        · rw [if_pos e2]
          exact mI_sv n (mI_gw hi).1
        · rw [if_neg e2]
          exact hi
      · rw [if_neg e]
        exact hi
theorem mI_svN : ∀ (n : Nat) {h : ha_H} (_ : mo_I h) {f : Nat}, mo_I (m_svN n h f)
  | 0, h, hi, f => hi
  | n + 1, h, hi, f => mI_svN n (mI_sv 3 hi)
theorem mw_sv (G : mt_G) (post : Option ha_V → ha_H → Prop) {f : Nat} (hf : f < 4) : ∀ (n : Nat) (g : ha_H), mo_I g → m_ct g f ≤ n → (∀ v : Int32, rn_W G xM_serveLines (4, 0, 0) 0 0 74 [some (.inr (some 62)), some (.inl (nI f)), some (.inl v)] [] (m_sv n g f) post) → rn_W G xM_serveLines (4, 0, 0) 0 0 13 [some (.inr (some 62)), some (.inl (nI f)), some (.inl (m_oi (m_fs g (nI f) 3)))] [] g post := by
  intro n
  induction n with
  | zero =>
    intro g hi hc hk
    have hm := hi.1
    have e9 := m_fs0 (h := g) (f := f) (by omega)
    rw [e9]
    show rn_W G xM_serveLines (4, 0, 0) 0 0 13 [some (.inr (some 62)), some (.inl (nI f)), some (.inl (-1))] [] g post
    refine rw_iload_n (pc := 13) dM_serveLines_13 rfl ?_
    refine rw_iflt (pc := 14) dM_serveLines_14 (tgt := 74) rfl (fun c1 => ?_) (fun c1 => ?_)
    · skip
      exact hk _
    · skip
      exact absurd (by decide) c1
  | succ n ih =>
    intro g hi hc hk
    have hm := hi.1
    have hu := hi.2.2.1
    cases ho : m_fs g (nI f) 3 with
    | none =>
      have e8 : m_sv (n + 1) g f = g := by simp [m_sv, ho]
      rw [e8] at hk
      show rn_W G xM_serveLines (4, 0, 0) 0 0 13 [some (.inr (some 62)), some (.inl (nI f)), some (.inl (-1))] [] g post
      refine rw_iload_n (pc := 13) dM_serveLines_13 rfl ?_
      refine rw_iflt (pc := 14) dM_serveLines_14 (tgt := 74) rfl (fun c2 => ?_) (fun c2 => ?_)
      · skip
        exact hk _
      · skip
        exact absurd (by decide) c2
    | some c =>
      obtain ⟨h3, hw⟩ := m_fs_lt 3 c ho
      show rn_W G xM_serveLines (4, 0, 0) 0 0 13 [some (.inr (some 62)), some (.inl (nI f)), some (.inl (nI c))] [] g post
      refine rw_iload_n (pc := 13) dM_serveLines_13 rfl ?_
      refine rw_iflt (pc := 14) dM_serveLines_14 (tgt := 74) rfl (fun c3 => ?_) (fun c3 => ?_)
      · skip
        replace c3 : c < 0 := (nI_ltI (a := c) (b := 0) (by omega) (by omega)).mp c3
        omega
      · skip
        replace c3 : ¬ (c < 0) := fun q => c3 ((nI_ltI (a := c) (b := 0) (by omega) (by omega)).mpr q)
        refine rw_aload_n (pc := 17) dM_serveLines_17 rfl ?_
        refine rw_getI (pc := 18) (x := hp_I g 62 6) flM_190_M dM_serveLines_18 (mo_o62 hm) (mo_S62 hm) rfl ?_
        refine rw_ifne (pc := 21) dM_serveLines_21 (tgt := 74) rfl (fun c4 => ?_) (fun c4 => ?_)
        · skip
          have e8 : m_sv (n + 1) g f = g := by simp [m_sv, ho, c4]
          rw [e8] at hk
          exact hk _
        · skip
          refine rw_aload_n (pc := 24) dM_serveLines_24 rfl ?_
          refine rw_iload_n (pc := 25) dM_serveLines_25 rfl ?_
          refine rw_iload_n (pc := 26) dM_serveLines_26 rfl ?_
          refine rw_aload_n (pc := 27) dM_serveLines_27 rfl ?_
          refine rw_getR (pc := 28) (x := some 76) flM_50_M dM_serveLines_28 (mo_o62 hm) (mo_S62 hm) (mo_R76 hm) ?_
          refine rw_iload_n (pc := 31) dM_serveLines_31 rfl ?_
          refine rw_iald (pc := 32) (v := hp_I g 76 c) (i := c) dM_serveLines_32 (mo_o76 hm) (mo_S76 hm) (ix_nI (by omega) (by decide)) rfl ?_
          refine rw_vi (pc := 33) (z' := (1, 0, 0)) (rc' := 0) (rs' := 0) (av := [.inl (nI c), .inl (nI f), .inl (hp_I g 76 c)]) (st := []) (ci := 10) mlM_193 miM_conflicts rfl mvM_conflicts_M dM_serveLines_33 (mo_o62 hm) (mo_S62 hm) (cM_conflicts G _ hm (by omega) (by omega) _) rfl rfl (Nat.le_of_ble_eq_true rfl) (by decide) rfl rfl (fun r5 h5 q5 => ?_)
          obtain ⟨rfl, rfl⟩ := q5
          refine rw_ifne (pc := 36) dM_serveLines_36 (tgt := 74) rfl (fun c6 => ?_) (fun c6 => ?_)
          · skip
            replace c6 := m_bi1 c6
            have e8 : m_sv (n + 1) g f = g := by simp [m_sv, ho, c4, c6]
            rw [e8] at hk
            exact hk _
          · skip
            refine rw_aload_n (pc := 39) dM_serveLines_39 rfl ?_
            refine rw_getR (pc := 40) (x := some 74) flM_44_M dM_serveLines_40 (mo_o62 hm) (mo_S62 hm) (mo_R74 hm) ?_
            refine rw_iload_n (pc := 43) dM_serveLines_43 rfl ?_
            refine rw_iconst (pc := 44) (x := (-1)) dM_serveLines_44 (by decide) ?_
            refine rw_iast (pc := 45) (i := c) dM_serveLines_45 (mo_o74 hm) (mo_S74 hm) (ix_nI (by omega) (by decide)) ?_
            replace hm := mo_sI (a := 74) (k := c) (v := (-1)) hm
            replace hu := hI_sI (a := 74) (k := c) (v := (-1)) (by decide) hu
            refine rw_aload_n (pc := 46) dM_serveLines_46 rfl ?_
            refine rw_iload_n (pc := 47) dM_serveLines_47 rfl ?_
            refine rw_iload_n (pc := 48) dM_serveLines_48 rfl ?_
            refine rw_aload_n (pc := 49) dM_serveLines_49 rfl ?_
            refine rw_getR (pc := 50) (x := some 75) flM_47_M dM_serveLines_50 (mo_o62 hm) (mo_S62 hm) (mo_R75 hm) ?_
            refine rw_iload_n (pc := 53) dM_serveLines_53 rfl ?_
            refine rw_iald (pc := 54) (v := hp_I (hp_sI g 74 c (-1)) 75 c) (i := c) dM_serveLines_54 (mo_o75 hm) (mo_S75 hm) (ix_nI (by omega) (by decide)) rfl ?_
            refine rw_aload_n (pc := 55) dM_serveLines_55 rfl ?_
            refine rw_getR (pc := 56) (x := some 76) flM_50_M dM_serveLines_56 (mo_o62 hm) (mo_S62 hm) (mo_R76 hm) ?_
            refine rw_iload_n (pc := 59) dM_serveLines_59 rfl ?_
            refine rw_iald (pc := 60) (v := hp_I (hp_sI g 74 c (-1)) 76 c) (i := c) dM_serveLines_60 (mo_o76 hm) (mo_S76 hm) (ix_nI (by omega) (by decide)) rfl ?_
            refine rw_iconst (pc := 61) (x := nI 0) dM_serveLines_61 (by decide) ?_
            refine rw_vv (pc := 62) (z' := (3, 0, 0)) (rc' := 0) (rs' := 0) (av := [.inl (nI c), .inl (nI f), .inl (hp_I (hp_sI g 74 c (-1)) 75 c), .inl (hp_I (hp_sI g 74 c (-1)) 76 c), .inl (nI 0)]) (st := []) (ci := 10) mlM_196 miM_grant rfl mvM_grant_M dM_serveLines_62 (mo_o62 hm) (mo_S62 hm) (cM_grant G _ hm (mb_sI hi.2.1 (fun q => absurd q (by decide))) hu hi.2.2.2 (by omega) (by omega) _ _ false) rfl rfl (Nat.le_of_ble_eq_true rfl) (by decide) rfl rfl (fun h7 q7 => ?_)
            obtain rfl := q7
            show rn_W G xM_serveLines (4, 0, 0) 0 0 65 [some (.inr (some 62)), some (.inl (nI f)), some (.inl (nI c))] [] (m_gw g c f) post
            have hi2 := (mI_gw hi (c := c) (f := f)).1
            replace hm := hi2.1
            refine rw_aload_n (pc := 65) dM_serveLines_65 rfl ?_
            refine rw_iload_n (pc := 66) dM_serveLines_66 rfl ?_
            refine rw_vi (pc := 67) (z' := (0, 0, 0)) (rc' := 0) (rs' := 0) (av := [.inl (nI f)]) (st := []) (ci := 10) mlM_202 miM_first rfl mvM_first_M dM_serveLines_67 (mo_o62 hm) (mo_S62 hm) (cM_first G _ hm (by omega)) rfl rfl (Nat.le_of_ble_eq_true rfl) (by decide) rfl rfl (fun r8 h8 q8 => ?_)
            obtain ⟨rfl, rfl⟩ := q8
            refine rw_istore_n (pc := 70) (L' := [some (.inr (some 62)), some (.inl (nI f)), some (.inl (m_oi (m_fs (m_gw g c f) (nI f) 3)))]) dM_serveLines_70 (by decide) rfl ?_
            refine rw_goto (pc := 71) dM_serveLines_71 (tgt := 13) rfl ?_
            replace c6 := (m_bi0 _).mp c6
            have e8 : m_sv (n + 1) g f = m_sv n (m_gw g c f) f := by simp [m_sv, ho, c4, c6]
            rw [e8] at hk
            exact ih _ hi2 (by have := m_ctF h3 hw hf; omega) hk
theorem cM_serveLines (G : mt_G) (h : ha_H) (hi : mo_I h) : rn_M G xM_serveLines (4, 0, 0) [.inr (some 62)] h (rn_v (fun h' => m_serve h = h')) := by
  refine rn_of (by decide +kernel) (Nat.le_of_ble_eq_true rfl) ?_
  show rn_W G xM_serveLines (4, 0, 0) 0 0 0 [some (.inr (some 62)), none, none] [] h _
  refine rw_iconst (pc := 0) (x := nI 0) dM_serveLines_0 (by decide) ?_
  refine rw_istore_n (pc := 1) (L' := [some (.inr (some 62)), some (.inl (nI 0)), none]) dM_serveLines_1 (by decide) rfl ?_
  have loop : ∀ (n f : Nat) (g : ha_H) (l2 : Option ha_V), f + n = 4 → mo_I g → m_svN n g f = m_serve h → rn_W G xM_serveLines (4, 0, 0) 0 0 2 [some (.inr (some 62)), some (.inl (nI f)), l2] [] g (rn_v (fun h' => m_serve h = h')) := by
    intro n
    induction n with
    | zero =>
      intro f g l2 hd hi he
      refine rw_iload_n (pc := 2) dM_serveLines_2 rfl ?_
      refine rw_iconst (pc := 3) (x := nI 4) dM_serveLines_3 (by decide) ?_
      refine rw_icmpge (pc := 4) dM_serveLines_4 (tgt := 80) rfl (fun c1 => ?_) (fun c1 => ?_)
      · exact rw_vret (pc := 80) dM_serveLines_80 rfl ⟨rfl, he.symm⟩
      · exact absurd ((nI_leI (a := 4) (b := f) (by omega) (by omega)).mpr (by omega)) c1
    | succ n ih =>
      intro f g l2 hd hi he
      have hm := hi.1
      refine rw_iload_n (pc := 2) dM_serveLines_2 rfl ?_
      refine rw_iconst (pc := 3) (x := nI 4) dM_serveLines_3 (by decide) ?_
      refine rw_icmpge (pc := 4) dM_serveLines_4 (tgt := 80) rfl (fun c1 => ?_) (fun c1 => ?_)
      · exact absurd ((nI_leI (a := 4) (b := f) (by omega) (by omega)).mp c1) (by omega)
      · skip
        refine rw_aload_n (pc := 7) dM_serveLines_7 rfl ?_
        refine rw_iload_n (pc := 8) dM_serveLines_8 rfl ?_
        refine rw_vi (pc := 9) (z' := (0, 0, 0)) (rc' := 0) (rs' := 0) (av := [.inl (nI f)]) (st := []) (ci := 10) mlM_202 miM_first rfl mvM_first_M dM_serveLines_9 (mo_o62 hm) (mo_S62 hm) (cM_first G _ hm (by omega)) rfl rfl (Nat.le_of_ble_eq_true rfl) (by decide) rfl rfl (fun r2 h2 q2 => ?_)
        obtain ⟨rfl, rfl⟩ := q2
        refine rw_istore_n (pc := 12) (L' := [some (.inr (some 62)), some (.inl (nI f)), some (.inl (m_oi (m_fs g (nI f) 3)))]) dM_serveLines_12 (by decide) rfl ?_
        refine mw_sv G _ (by omega) 3 g hi (by unfold m_ct; split <;> split <;> split <;> omega) (fun v => ?_)
        refine rw_iinc (pc := 74) (x := nI f) (y := nI (f + 1)) (L' := [some (.inr (some 62)), some (.inl (nI (f + 1))), some (.inl v)]) dM_serveLines_74 (by decide) rfl (nI_add _ 1) rfl ?_
        refine rw_goto (pc := 77) dM_serveLines_77 (tgt := 2) rfl ?_
        exact ih (f + 1) _ _ (by omega) (mI_sv 3 hi) he
  exact loop 4 0 h none rfl hi rfl
end
section
theorem mI_sF {h : ha_H} (hi : mo_I h) {k : Nat} {v : Int32} (hk : ¬ 34 = k) : mo_I (hp_sI h 62 k v) ∧ m_u (hp_sI h 62 k v) = m_u h :=
  have e := hI_sI2 (a := 62) (v := v) hk hi.2.2.1
  ⟨mI_of (mo_sI hi.1) (mb_sI hi.2.1 (fun q => absurd q (by decide))) e hi.2.2.2, mI_u e hi.2.2.2⟩
theorem mI_room2 {h : ha_H} (hi : mo_I h) {k c f x : Int32} : mo_I (m_room h (m_u h) k c f x).2 ∧ m_u (m_room h (m_u h) k c f x).2 = m_inc (m_u h) := by
  unfold m_room m_inc
  have h60 := hi.2.2.2
  by_cases e : m_u h = 60
  · rw [if_pos e, if_pos e]
    exact ⟨hi, e⟩
  · rw [if_neg e, if_neg e]
    exact mI_room hi (by omega)
def m_rc (c f : Nat) (m : Int32) : Nat → ha_H → Nat → ha_H
  | 0, h, _ => h
  | n + 1, h, d => m_rc c f m n (if m_cfB h c f m d = true then (m_room h (m_u h) (nI 8) (nI d) (nI f) (nI 0)).2 else h) (d + 1)
theorem mI_rc (c f : Nat) (m : Int32) : ∀ (n : Nat) {h : ha_H} (_ : mo_I h) {d : Nat}, mo_I (m_rc c f m n h d)
  | 0, h, hi, d => hi
  | n + 1, h, hi, d => by
    unfold m_rc
    apply mI_rc
    split
    · exact (mI_room2 hi).1
    · exact hi
def m_wtH (h : ha_H) (c f : Nat) (x m : Int32) : ha_H := hp_sI (hp_sI (hp_sI (hp_sI (hp_sI h 74 c (nI f)) 75 c x) 76 c m) 77 c (hp_I h 62 17)) 62 17 (hp_I h 62 17 + nI 1)
theorem mI_wtH {h : ha_H} (hi : mo_I h) {c f : Nat} {x m : Int32} : mo_I (m_wtH h c f x m) ∧ m_u (m_wtH h c f x m) = m_u h := by
  have h1 := mI_sI hi (a := 74) (k := c) (v := nI f) (by decide) (fun q => absurd q (by decide))
  have h2 := mI_sI h1.1 (a := 75) (k := c) (v := x) (by decide) (fun q => absurd q (by decide))
  have h3 := mI_sI h2.1 (a := 76) (k := c) (v := m) (by decide) (fun q => absurd q (by decide))
  have h4 := mI_sI h3.1 (a := 77) (k := c) (v := hp_I h 62 17) (by decide) (fun q => absurd q (by decide))
  have h5 := mI_sF h4.1 (k := 17) (v := hp_I h 62 17 + nI 1) (by decide)
  exact ⟨h5.1, by rw [show m_u (m_wtH h c f x m) = _ from h5.2, h4.2, h3.2, h2.2, h1.2]⟩
def m_alT (h : ha_H) (c f : Nat) (cl : Bool) : Bool := if hp_I h 62 6 ≤ 0 then (m_hs h c f || !(m_otN h c (nI f) 3)) else cl
def m_al (h : ha_H) (u c f : Nat) (x m : Int32) (cl : Bool) : ha_H := if (m_hs h c f && m_otN h c (nI f) 3) = true then m_fin h u c x (nI 5) (nI f) else if (!(m_cfN h c f m 3) && m_alT h c f cl) = true then m_gr h u c f x m (!decide (hp_I h 62 6 ≤ 0)) else m_rc c f m 3 (m_wtH h c f x m) 0
theorem mI_al {h : ha_H} (hi : mo_I h) {c f : Nat} {x m : Int32} {cl : Bool} : mo_I (m_al h (m_u h) c f x m cl) := by
  unfold m_al
  split
  · exact (mI_fin hi).1
  · split
    · exact (mI_gr hi).1
    · exact mI_rc c f m 3 (mI_wtH hi).1
theorem cM_askedLease (G : mt_G) (h : ha_H) (hi : mo_I h) {c f : Nat} (hc : c < 3) (hf : f < 4) (x m : Int32) (cl : Bool) : rn_M G xM_askedLease (4, 0, 0) [.inr (some 62), .inl (nI c), .inl (nI f), .inl x, .inl m, .inl (m_bi cl)] h (rn_v (fun h' => m_al h (m_u h) c f x m cl = h')) := by
  have hm := hi.1
  have hb := hi.2.1
  have hu := hi.2.2.1
  have h60 := hi.2.2.2
  refine rn_of (by decide +kernel) (Nat.le_of_ble_eq_true rfl) ?_
  show rn_W G xM_askedLease (4, 0, 0) 0 0 0 [some (.inr (some 62)), some (.inl (nI c)), some (.inl (nI f)), some (.inl x), some (.inl m), some (.inl (m_bi cl)), none, none] [] h _
  have loop : ∀ (n d : Nat) (g : ha_H), d + n = 3 → mo_I g → m_rc c f m n g d = m_al h (m_u h) c f x m cl → rn_W G xM_askedLease (4, 0, 0) 0 0 147 [some (.inr (some 62)), some (.inl (nI c)), some (.inl (nI f)), some (.inl x), some (.inl m), some (.inl (m_bi cl)), some (.inl (m_bi (m_alT h c f cl))), some (.inl (nI d))] [] g (rn_v (fun h' => m_al h (m_u h) c f x m cl = h')) := by
    intro n
    induction n with
    | zero =>
      intro d g hd hi he
      have hm := hi.1
      refine rw_iload (pc := 147) dM_askedLease_147 rfl ?_
      refine rw_iconst (pc := 149) (x := nI 3) dM_askedLease_149 (by decide) ?_
      refine rw_icmpge (pc := 150) dM_askedLease_150 (tgt := 207) rfl (fun c1 => ?_) (fun c1 => ?_)
      · skip
        replace c1 : 3 ≤ d := (nI_leI (a := 3) (b := d) (by omega) (by omega)).mp c1
        exact rw_vret (pc := 207) dM_askedLease_207 rfl ⟨rfl, he.symm⟩
      · skip
        replace c1 : ¬ (3 ≤ d) := fun q => c1 ((nI_leI (a := 3) (b := d) (by omega) (by omega)).mpr q)
        omega
    | succ n ih =>
      intro d g hd hi he
      have hm := hi.1
      have hu := hi.2.2.1
      have h60 := hi.2.2.2
      refine rw_iload (pc := 147) dM_askedLease_147 rfl ?_
      refine rw_iconst (pc := 149) (x := nI 3) dM_askedLease_149 (by decide) ?_
      refine rw_icmpge (pc := 150) dM_askedLease_150 (tgt := 207) rfl (fun c2 => ?_) (fun c2 => ?_)
      · skip
        replace c2 : 3 ≤ d := (nI_leI (a := 3) (b := d) (by omega) (by omega)).mp c2
        omega
      · skip
        replace c2 : ¬ (3 ≤ d) := fun q => c2 ((nI_leI (a := 3) (b := d) (by omega) (by omega)).mpr q)
        refine rw_iload (pc := 153) dM_askedLease_153 rfl ?_
        refine rw_iload_n (pc := 155) dM_askedLease_155 rfl ?_
        refine rw_icmpeq (pc := 156) dM_askedLease_156 (tgt := 201) rfl (fun c3 => ?_) (fun c3 => ?_)
        · skip
          replace c3 : d = c := (nI_eq (a := d) (b := c) (by omega) (by omega)).mp c3
          refine rw_iinc (pc := 201) (x := nI d) (y := nI (d + 1)) (L' := [some (.inr (some 62)), some (.inl (nI c)), some (.inl (nI f)), some (.inl x), some (.inl m), some (.inl (m_bi cl)), some (.inl (m_bi (m_alT h c f cl))), some (.inl (nI (d + 1)))]) dM_askedLease_201 (by decide) rfl (nI_add _ 1) rfl ?_
          refine rw_goto (pc := 204) dM_askedLease_204 (tgt := 147) rfl ?_
          have eB : m_cfB g c f m d = false := by simp [m_cfB, c3]
          refine ih (d + 1) _ (by omega) hi ?_
          rw [← he]
          simp [m_rc, eB]
        · skip
          replace c3 : ¬ (d = c) := fun q => c3 ((nI_eq (a := d) (b := c) (by omega) (by omega)).mpr q)
          refine rw_aload_n (pc := 159) dM_askedLease_159 rfl ?_
          refine rw_iload (pc := 160) dM_askedLease_160 rfl ?_
          refine rw_iload_n (pc := 162) dM_askedLease_162 rfl ?_
          refine rw_vi (pc := 163) (z' := (0, 0, 0)) (rc' := 0) (rs' := 0) (av := [.inl (nI d), .inl (nI f)]) (st := []) (ci := 10) mlM_171 miM_has rfl mvM_has_M dM_askedLease_163 (mo_o62 hm) (mo_S62 hm) (cM_has G _ hm (by omega) (by omega)) rfl rfl (Nat.le_of_ble_eq_true rfl) (by decide) rfl rfl (fun r4 h4 q4 => ?_)
          obtain ⟨rfl, rfl⟩ := q4
          refine rw_ifeq (pc := 166) dM_askedLease_166 (tgt := 201) rfl (fun c5 => ?_) (fun c5 => ?_)
          · skip
            refine rw_iinc (pc := 201) (x := nI d) (y := nI (d + 1)) (L' := [some (.inr (some 62)), some (.inl (nI c)), some (.inl (nI f)), some (.inl x), some (.inl m), some (.inl (m_bi cl)), some (.inl (m_bi (m_alT h c f cl))), some (.inl (nI (d + 1)))]) dM_askedLease_201 (by decide) rfl (nI_add _ 1) rfl ?_
            refine rw_goto (pc := 204) dM_askedLease_204 (tgt := 147) rfl ?_
            replace c5 := (m_bi0 _).mp c5
            have eB : m_cfB g c f m d = false := by simp [m_cfB, c3, c5]
            refine ih (d + 1) _ (by omega) hi ?_
            rw [← he]
            simp [m_rc, eB]
          · skip
            refine rw_iload (pc := 169) dM_askedLease_169 rfl ?_
            refine rw_iconst (pc := 171) (x := nI 2) dM_askedLease_171 (by decide) ?_
            refine rw_icmpeq (pc := 172) dM_askedLease_172 (tgt := 190) rfl (fun c6 => ?_) (fun c6 => ?_)
            · skip
              refine rw_aload_n (pc := 190) dM_askedLease_190 rfl ?_
              refine rw_bipush (pc := 191) (x := nI 8) dM_askedLease_191 (by decide) ?_
              refine rw_iload (pc := 193) dM_askedLease_193 rfl ?_
              refine rw_iload_n (pc := 195) dM_askedLease_195 rfl ?_
              refine rw_iconst (pc := 196) (x := nI 0) dM_askedLease_196 (by decide) ?_
              refine rw_vi (pc := 197) (z' := (0, 0, 0)) (rc' := 0) (rs' := 0) (av := [.inl (nI 8), .inl (nI d), .inl (nI f), .inl (nI 0)]) (st := []) (ci := 10) mlM_148 miM_room rfl mvM_room_M dM_askedLease_197 (mo_o62 hm) (mo_S62 hm) (cM_room G _ hm hu h60 _ _ _ _) rfl rfl (Nat.le_of_ble_eq_true rfl) (by decide) rfl rfl (fun r7 h7 q7 => ?_)
              obtain ⟨rfl, rfl⟩ := q7
              refine rw_pop (pc := 200) dM_askedLease_200 ?_
              refine rw_iinc (pc := 201) (x := nI d) (y := nI (d + 1)) (L' := [some (.inr (some 62)), some (.inl (nI c)), some (.inl (nI f)), some (.inl x), some (.inl m), some (.inl (m_bi cl)), some (.inl (m_bi (m_alT h c f cl))), some (.inl (nI (d + 1)))]) dM_askedLease_201 (by decide) rfl (nI_add _ 1) rfl ?_
              refine rw_goto (pc := 204) dM_askedLease_204 (tgt := 147) rfl ?_
              replace c5 := m_bi1 c5
              have eB : m_cfB g c f m d = true := by simp [m_cfB, c3, c5, c6]
              refine ih (d + 1) _ (by omega) (mI_room2 hi).1 ?_
              rw [← he]
              simp [m_rc, eB]
            · skip
              refine rw_aload_n (pc := 175) dM_askedLease_175 rfl ?_
              refine rw_getR (pc := 176) (x := some 66) flM_20_M dM_askedLease_176 (mo_o62 hm) (mo_S62 hm) (mo_R66 hm) ?_
              refine rw_iconst (pc := 179) (x := nI 4) dM_askedLease_179 (by decide) ?_
              refine rw_iload (pc := 180) dM_askedLease_180 rfl ?_
              refine rw_imul (pc := 182) (v := nI (4 * d)) dM_askedLease_182 (pk_mul _ _) ?_
              refine rw_iload_n (pc := 183) dM_askedLease_183 rfl ?_
              refine rw_iadd (pc := 184) (v := nI (4 * d + f)) dM_askedLease_184 (nI_add _ _) ?_
              refine rw_iald (pc := 185) (v := hp_I g 66 (4 * d + f)) (i := (4 * d + f)) dM_askedLease_185 (mo_o66 hm) (mo_S66 hm) (ix_nI (by omega) (by decide)) rfl ?_
              refine rw_iconst (pc := 186) (x := nI 2) dM_askedLease_186 (by decide) ?_
              refine rw_icmpne (pc := 187) dM_askedLease_187 (tgt := 201) rfl (fun c8 => ?_) (fun c8 => ?_)
              · skip
                refine rw_iinc (pc := 201) (x := nI d) (y := nI (d + 1)) (L' := [some (.inr (some 62)), some (.inl (nI c)), some (.inl (nI f)), some (.inl x), some (.inl m), some (.inl (m_bi cl)), some (.inl (m_bi (m_alT h c f cl))), some (.inl (nI (d + 1)))]) dM_askedLease_201 (by decide) rfl (nI_add _ 1) rfl ?_
                refine rw_goto (pc := 204) dM_askedLease_204 (tgt := 147) rfl ?_
                replace c5 := m_bi1 c5
                have eB : m_cfB g c f m d = false := by simp [m_cfB, c3, c5, c6, c8]
                refine ih (d + 1) _ (by omega) hi ?_
                rw [← he]
                simp [m_rc, eB]
              · skip
                refine rw_aload_n (pc := 190) dM_askedLease_190 rfl ?_
                refine rw_bipush (pc := 191) (x := nI 8) dM_askedLease_191 (by decide) ?_
                refine rw_iload (pc := 193) dM_askedLease_193 rfl ?_
                refine rw_iload_n (pc := 195) dM_askedLease_195 rfl ?_
                refine rw_iconst (pc := 196) (x := nI 0) dM_askedLease_196 (by decide) ?_
                refine rw_vi (pc := 197) (z' := (0, 0, 0)) (rc' := 0) (rs' := 0) (av := [.inl (nI 8), .inl (nI d), .inl (nI f), .inl (nI 0)]) (st := []) (ci := 10) mlM_148 miM_room rfl mvM_room_M dM_askedLease_197 (mo_o62 hm) (mo_S62 hm) (cM_room G _ hm hu h60 _ _ _ _) rfl rfl (Nat.le_of_ble_eq_true rfl) (by decide) rfl rfl (fun r9 h9 q9 => ?_)
                obtain ⟨rfl, rfl⟩ := q9
                refine rw_pop (pc := 200) dM_askedLease_200 ?_
                refine rw_iinc (pc := 201) (x := nI d) (y := nI (d + 1)) (L' := [some (.inr (some 62)), some (.inl (nI c)), some (.inl (nI f)), some (.inl x), some (.inl m), some (.inl (m_bi cl)), some (.inl (m_bi (m_alT h c f cl))), some (.inl (nI (d + 1)))]) dM_askedLease_201 (by decide) rfl (nI_add _ 1) rfl ?_
                refine rw_goto (pc := 204) dM_askedLease_204 (tgt := 147) rfl ?_
                replace c5 := m_bi1 c5
                have eB : m_cfB g c f m d = true := by simp [m_cfB, c3, c5, c6, c8]
                refine ih (d + 1) _ (by omega) (mI_room2 hi).1 ?_
                rw [← he]
                simp [m_rc, eB]
  have wait : (m_hs h c f && m_otN h c (nI f) 3) = false → (!(m_cfN h c f m 3) && m_alT h c f cl) = false → rn_W G xM_askedLease (4, 0, 0) 0 0 102 [some (.inr (some 62)), some (.inl (nI c)), some (.inl (nI f)), some (.inl x), some (.inl m), some (.inl (m_bi cl)), some (.inl (m_bi (m_alT h c f cl))), none] [] h (rn_v (fun h' => m_al h (m_u h) c f x m cl = h')) := by
    intro e1 e2
    obtain ⟨ar, ha0⟩ : ∃ t, hp_I h 62 17 = t := ⟨_, rfl⟩
    have ha := ha0
    refine rw_aload_n (pc := 102) dM_askedLease_102 rfl ?_
    refine rw_getR (pc := 103) (x := some 74) flM_44_M dM_askedLease_103 (mo_o62 hm) (mo_S62 hm) (mo_R74 hm) ?_
    refine rw_iload_n (pc := 106) dM_askedLease_106 rfl ?_
    refine rw_iload_n (pc := 107) dM_askedLease_107 rfl ?_
    refine rw_iast (pc := 108) (i := c) dM_askedLease_108 (mo_o74 hm) (mo_S74 hm) (ix_nI (by omega) (by decide)) ?_
    replace hm := mo_sI (a := 74) (k := c) (v := nI f) hm
    replace hu := hI_sI (a := 74) (k := c) (v := nI f) (by decide) hu
    replace ha := hI_sI (a := 74) (k := c) (v := nI f) (by decide) ha
    refine rw_aload_n (pc := 109) dM_askedLease_109 rfl ?_
    refine rw_getR (pc := 110) (x := some 75) flM_47_M dM_askedLease_110 (mo_o62 hm) (mo_S62 hm) (mo_R75 hm) ?_
    refine rw_iload_n (pc := 113) dM_askedLease_113 rfl ?_
    refine rw_iload_n (pc := 114) dM_askedLease_114 rfl ?_
    refine rw_iast (pc := 115) (i := c) dM_askedLease_115 (mo_o75 hm) (mo_S75 hm) (ix_nI (by omega) (by decide)) ?_
    replace hm := mo_sI (a := 75) (k := c) (v := x) hm
    replace hu := hI_sI (a := 75) (k := c) (v := x) (by decide) hu
    replace ha := hI_sI (a := 75) (k := c) (v := x) (by decide) ha
    refine rw_aload_n (pc := 116) dM_askedLease_116 rfl ?_
    refine rw_getR (pc := 117) (x := some 76) flM_50_M dM_askedLease_117 (mo_o62 hm) (mo_S62 hm) (mo_R76 hm) ?_
    refine rw_iload_n (pc := 120) dM_askedLease_120 rfl ?_
    refine rw_iload (pc := 121) dM_askedLease_121 rfl ?_
    refine rw_iast (pc := 123) (i := c) dM_askedLease_123 (mo_o76 hm) (mo_S76 hm) (ix_nI (by omega) (by decide)) ?_
    replace hm := mo_sI (a := 76) (k := c) (v := m) hm
    replace hu := hI_sI (a := 76) (k := c) (v := m) (by decide) hu
    replace ha := hI_sI (a := 76) (k := c) (v := m) (by decide) ha
    refine rw_aload_n (pc := 124) dM_askedLease_124 rfl ?_
    refine rw_getR (pc := 125) (x := some 77) flM_53_M dM_askedLease_125 (mo_o62 hm) (mo_S62 hm) (mo_R77 hm) ?_
    refine rw_iload_n (pc := 128) dM_askedLease_128 rfl ?_
    refine rw_aload_n (pc := 129) dM_askedLease_129 rfl ?_
    refine rw_getI (pc := 130) (x := ar) flM_199_M dM_askedLease_130 (mo_o62 hm) (mo_S62 hm) ha ?_
    refine rw_iast (pc := 133) (i := c) dM_askedLease_133 (mo_o77 hm) (mo_S77 hm) (ix_nI (by omega) (by decide)) ?_
    replace hm := mo_sI (a := 77) (k := c) (v := ar) hm
    replace hu := hI_sI (a := 77) (k := c) (v := ar) (by decide) hu
    replace ha := hI_sI (a := 77) (k := c) (v := ar) (by decide) ha
    refine rw_aload_n (pc := 134) dM_askedLease_134 rfl ?_
    refine rw_dup (pc := 135) dM_askedLease_135 ?_
    refine rw_getI (pc := 136) (x := ar) flM_199_M dM_askedLease_136 (mo_o62 hm) (mo_S62 hm) ha ?_
    refine rw_iconst (pc := 139) (x := nI 1) dM_askedLease_139 (by decide) ?_
    refine rw_iadd (pc := 140) (v := ar + (nI 1)) dM_askedLease_140 rfl ?_
    refine rw_putI (pc := 141) pfM_199_M dM_askedLease_141 (mo_o62 hm) (mo_S62 hm) ?_
    replace hm := mo_sI (a := 62) (k := 17) (v := ar + (nI 1)) hm
    replace hu := hI_sI2 (a := 62) (k := 17) (v := ar + (nI 1)) (by decide) hu
    have e10 : hp_I (hp_sI (hp_sI (hp_sI (hp_sI (hp_sI h 74 c (nI f)) 75 c x) 76 c m) 77 c ar) 62 17 (ar + (nI 1))) 62 17 = ar + (nI 1) := hI_set
    refine rw_iconst (pc := 144) (x := nI 0) dM_askedLease_144 (by decide) ?_
    refine rw_istore (pc := 145) (L' := [some (.inr (some 62)), some (.inl (nI c)), some (.inl (nI f)), some (.inl x), some (.inl m), some (.inl (m_bi cl)), some (.inl (m_bi (m_alT h c f cl))), some (.inl (nI 0))]) dM_askedLease_145 (by decide) rfl ?_
    refine loop 3 0 _ rfl ?_ ?_
    · have hz := (mI_wtH hi (c := c) (f := f) (x := x) (m := m)).1
      unfold m_wtH at hz
      rw [ha0] at hz
      exact hz
    · unfold m_al m_wtH
      rw [e1, e2, ha0]
      simp
  have turn : (m_hs h c f && m_otN h c (nI f) 3) = false → ∀ v : Int32, v = m_bi (m_alT h c f cl) → rn_W G xM_askedLease (4, 0, 0) 0 0 62 [some (.inr (some 62)), some (.inl (nI c)), some (.inl (nI f)), some (.inl x), some (.inl m), some (.inl (m_bi cl)), none, none] [.inl v] h (rn_v (fun h' => m_al h (m_u h) c f x m cl = h')) := by
    intro e1 v hv
    subst hv
    refine rw_istore (pc := 62) (L' := [some (.inr (some 62)), some (.inl (nI c)), some (.inl (nI f)), some (.inl x), some (.inl m), some (.inl (m_bi cl)), some (.inl (m_bi (m_alT h c f cl))), none]) dM_askedLease_62 (by decide) rfl ?_
    refine rw_aload_n (pc := 64) dM_askedLease_64 rfl ?_
    refine rw_iload_n (pc := 65) dM_askedLease_65 rfl ?_
    refine rw_iload_n (pc := 66) dM_askedLease_66 rfl ?_
    refine rw_iload (pc := 67) dM_askedLease_67 rfl ?_
    refine rw_vi (pc := 69) (z' := (1, 0, 0)) (rc' := 0) (rs' := 0) (av := [.inl (nI c), .inl (nI f), .inl m]) (st := []) (ci := 10) mlM_193 miM_conflicts rfl mvM_conflicts_M dM_askedLease_69 (mo_o62 hm) (mo_S62 hm) (cM_conflicts G _ hm (by omega) (by omega) _) rfl rfl (Nat.le_of_ble_eq_true rfl) (by decide) rfl rfl (fun r11 h11 q11 => ?_)
    obtain ⟨rfl, rfl⟩ := q11
    refine rw_ifne (pc := 72) dM_askedLease_72 (tgt := 102) rfl (fun c12 => ?_) (fun c12 => ?_)
    · skip
      replace c12 := m_bi1 c12
      exact wait e1 (by simp [c12])
    · skip
      refine rw_iload (pc := 75) dM_askedLease_75 rfl ?_
      refine rw_ifeq (pc := 77) dM_askedLease_77 (tgt := 102) rfl (fun c13 => ?_) (fun c13 => ?_)
      · skip
        replace c12 := (m_bi0 _).mp c12
        replace c13 := (m_bi0 _).mp c13
        exact wait e1 (by simp [c12, c13])
      · skip
        refine rw_aload_n (pc := 80) dM_askedLease_80 rfl ?_
        refine rw_iload_n (pc := 81) dM_askedLease_81 rfl ?_
        refine rw_iload_n (pc := 82) dM_askedLease_82 rfl ?_
        refine rw_iload_n (pc := 83) dM_askedLease_83 rfl ?_
        refine rw_iload (pc := 84) dM_askedLease_84 rfl ?_
        refine rw_aload_n (pc := 86) dM_askedLease_86 rfl ?_
        refine rw_getI (pc := 87) (x := hp_I h 62 6) flM_190_M dM_askedLease_87 (mo_o62 hm) (mo_S62 hm) rfl ?_
        refine rw_ifle (pc := 90) dM_askedLease_90 (tgt := 97) rfl (fun c14 => ?_) (fun c14 => ?_)
        · skip
          refine rw_iconst (pc := 97) (x := nI 0) dM_askedLease_97 (by decide) ?_
          refine rw_vv (pc := 98) (z' := (3, 0, 0)) (rc' := 0) (rs' := 0) (av := [.inl (nI c), .inl (nI f), .inl x, .inl m, .inl (nI 0)]) (st := []) (ci := 10) mlM_196 miM_grant rfl mvM_grant_M dM_askedLease_98 (mo_o62 hm) (mo_S62 hm) (cM_grant G _ hm hb hu h60 hc hf _ _ false) rfl rfl (Nat.le_of_ble_eq_true rfl) (by decide) rfl rfl (fun h15 q15 => ?_)
          obtain rfl := q15
          replace c12 := (m_bi0 _).mp c12
          replace c13 := m_bi1 c13
          refine rw_vret (pc := 101) dM_askedLease_101 rfl ⟨rfl, ?_⟩
          unfold m_al
          simp [e1, c12, c13, c14, m_bi]
        · skip
          refine rw_iconst (pc := 93) (x := nI 1) dM_askedLease_93 (by decide) ?_
          refine rw_goto (pc := 94) dM_askedLease_94 (tgt := 98) rfl ?_
          refine rw_vv (pc := 98) (z' := (3, 0, 0)) (rc' := 0) (rs' := 0) (av := [.inl (nI c), .inl (nI f), .inl x, .inl m, .inl (nI 1)]) (st := []) (ci := 10) mlM_196 miM_grant rfl mvM_grant_M dM_askedLease_98 (mo_o62 hm) (mo_S62 hm) (cM_grant G _ hm hb hu h60 hc hf _ _ true) rfl rfl (Nat.le_of_ble_eq_true rfl) (by decide) rfl rfl (fun h16 q16 => ?_)
          obtain rfl := q16
          replace c12 := (m_bi0 _).mp c12
          replace c13 := m_bi1 c13
          refine rw_vret (pc := 101) dM_askedLease_101 rfl ⟨rfl, ?_⟩
          unfold m_al
          simp [e1, c12, c13, c14, m_bi]
  have step27 : (m_hs h c f && m_otN h c (nI f) 3) = false → rn_W G xM_askedLease (4, 0, 0) 0 0 27 [some (.inr (some 62)), some (.inl (nI c)), some (.inl (nI f)), some (.inl x), some (.inl m), some (.inl (m_bi cl)), none, none] [] h (rn_v (fun h' => m_al h (m_u h) c f x m cl = h')) := by
    intro e1
    refine rw_aload_n (pc := 27) dM_askedLease_27 rfl ?_
    refine rw_getI (pc := 28) (x := hp_I h 62 6) flM_190_M dM_askedLease_28 (mo_o62 hm) (mo_S62 hm) rfl ?_
    refine rw_ifle (pc := 31) dM_askedLease_31 (tgt := 39) rfl (fun c17 => ?_) (fun c17 => ?_)
    · skip
      refine rw_aload_n (pc := 39) dM_askedLease_39 rfl ?_
      refine rw_iload_n (pc := 40) dM_askedLease_40 rfl ?_
      refine rw_iload_n (pc := 41) dM_askedLease_41 rfl ?_
      refine rw_vi (pc := 42) (z' := (0, 0, 0)) (rc' := 0) (rs' := 0) (av := [.inl (nI c), .inl (nI f)]) (st := []) (ci := 10) mlM_171 miM_has rfl mvM_has_M dM_askedLease_42 (mo_o62 hm) (mo_S62 hm) (cM_has G _ hm (by omega) (by omega)) rfl rfl (Nat.le_of_ble_eq_true rfl) (by decide) rfl rfl (fun r18 h18 q18 => ?_)
      obtain ⟨rfl, rfl⟩ := q18
      refine rw_ifne (pc := 45) dM_askedLease_45 (tgt := 57) rfl (fun c19 => ?_) (fun c19 => ?_)
      · skip
        refine rw_iconst (pc := 57) (x := nI 1) dM_askedLease_57 (by decide) ?_
        refine rw_goto (pc := 58) dM_askedLease_58 (tgt := 62) rfl ?_
        replace c19 := m_bi1 c19
        exact turn e1 _ (by simp [m_alT, c17, c19, m_bi])
      · skip
        refine rw_aload_n (pc := 48) dM_askedLease_48 rfl ?_
        refine rw_iload_n (pc := 49) dM_askedLease_49 rfl ?_
        refine rw_iload_n (pc := 50) dM_askedLease_50 rfl ?_
        refine rw_vi (pc := 51) (z' := (0, 0, 0)) (rc' := 0) (rs' := 0) (av := [.inl (nI c), .inl (nI f)]) (st := []) (ci := 10) mlM_187 miM_others rfl mvM_others_M dM_askedLease_51 (mo_o62 hm) (mo_S62 hm) (cM_others G _ hm (by omega) (by omega)) rfl rfl (Nat.le_of_ble_eq_true rfl) (by decide) rfl rfl (fun r20 h20 q20 => ?_)
        obtain ⟨rfl, rfl⟩ := q20
        refine rw_ifne (pc := 54) dM_askedLease_54 (tgt := 61) rfl (fun c21 => ?_) (fun c21 => ?_)
        · skip
          refine rw_iconst (pc := 61) (x := nI 0) dM_askedLease_61 (by decide) ?_
          replace c19 := (m_bi0 _).mp c19
          replace c21 := m_bi1 c21
          exact turn e1 _ (by simp [m_alT, c17, c19, c21, m_bi])
        · skip
          refine rw_iconst (pc := 57) (x := nI 1) dM_askedLease_57 (by decide) ?_
          refine rw_goto (pc := 58) dM_askedLease_58 (tgt := 62) rfl ?_
          replace c19 := (m_bi0 _).mp c19
          replace c21 := (m_bi0 _).mp c21
          exact turn e1 _ (by simp [m_alT, c17, c19, c21, m_bi])
    · skip
      refine rw_iload (pc := 34) dM_askedLease_34 rfl ?_
      refine rw_goto (pc := 36) dM_askedLease_36 (tgt := 62) rfl ?_
      exact turn e1 _ (by simp [m_alT, c17, m_bi])
  refine rw_aload_n (pc := 0) dM_askedLease_0 rfl ?_
  refine rw_iload_n (pc := 1) dM_askedLease_1 rfl ?_
  refine rw_iload_n (pc := 2) dM_askedLease_2 rfl ?_
  refine rw_vi (pc := 3) (z' := (0, 0, 0)) (rc' := 0) (rs' := 0) (av := [.inl (nI c), .inl (nI f)]) (st := []) (ci := 10) mlM_171 miM_has rfl mvM_has_M dM_askedLease_3 (mo_o62 hm) (mo_S62 hm) (cM_has G _ hm (by omega) (by omega)) rfl rfl (Nat.le_of_ble_eq_true rfl) (by decide) rfl rfl (fun r22 h22 q22 => ?_)
  obtain ⟨rfl, rfl⟩ := q22
  refine rw_ifeq (pc := 6) dM_askedLease_6 (tgt := 27) rfl (fun c23 => ?_) (fun c23 => ?_)
  · skip
    replace c23 := (m_bi0 _).mp c23
    exact step27 (by simp [c23])
  · skip
    refine rw_aload_n (pc := 9) dM_askedLease_9 rfl ?_
    refine rw_iload_n (pc := 10) dM_askedLease_10 rfl ?_
    refine rw_iload_n (pc := 11) dM_askedLease_11 rfl ?_
    refine rw_vi (pc := 12) (z' := (0, 0, 0)) (rc' := 0) (rs' := 0) (av := [.inl (nI c), .inl (nI f)]) (st := []) (ci := 10) mlM_187 miM_others rfl mvM_others_M dM_askedLease_12 (mo_o62 hm) (mo_S62 hm) (cM_others G _ hm (by omega) (by omega)) rfl rfl (Nat.le_of_ble_eq_true rfl) (by decide) rfl rfl (fun r24 h24 q24 => ?_)
    obtain ⟨rfl, rfl⟩ := q24
    refine rw_ifeq (pc := 15) dM_askedLease_15 (tgt := 27) rfl (fun c25 => ?_) (fun c25 => ?_)
    · skip
      replace c23 := m_bi1 c23
      replace c25 := (m_bi0 _).mp c25
      exact step27 (by simp [c23, c25])
    · skip
      refine rw_aload_n (pc := 18) dM_askedLease_18 rfl ?_
      refine rw_iload_n (pc := 19) dM_askedLease_19 rfl ?_
      refine rw_iload_n (pc := 20) dM_askedLease_20 rfl ?_
      refine rw_iconst (pc := 21) (x := nI 5) dM_askedLease_21 (by decide) ?_
      refine rw_iload_n (pc := 22) dM_askedLease_22 rfl ?_
      refine rw_vv (pc := 23) (z' := (2, 0, 0)) (rc' := 0) (rs' := 0) (av := [.inl (nI c), .inl x, .inl (nI 5), .inl (nI f)]) (st := []) (ci := 10) mlM_179 miM_finish rfl mvM_finish_M dM_askedLease_23 (mo_o62 hm) (mo_S62 hm) (cM_finish G _ hm hb hu h60 hc _ _ _) rfl rfl (Nat.le_of_ble_eq_true rfl) (by decide) rfl rfl (fun h26 q26 => ?_)
      obtain rfl := q26
      replace c23 := m_bi1 c23
      replace c25 := m_bi1 c25
      refine rw_vret (pc := 26) dM_askedLease_26 rfl ⟨rfl, ?_⟩
      unfold m_al
      simp [c23, c25]
end
