section
-- ===== PART A: goes FIRST, ahead of the names: the tables' words, and 'selects' of the private methods out of them =====
/-- a private method of a class that the tables say can be made, by its rows of tables_1 -/
def lw_okq (q : MethodName × Nat) : Prop := (q.1.cls ≠ "java/lang/invoke/MethodHandle" ∧ q.1.cls ≠ "java/lang/invoke/VarHandle") ∧ Cond.instantiable q.1.cls q.2 ∈ tables_1 ∧ Cond.privateMethod q.1 ∈ tables_1 ∧ Cond.instanceMethod q.1 ∈ tables_1
theorem lw_p0 : lw_okq (⟨"LeasedPages", "clientThatIsUp", "(I)LLeasedPages$Client;"⟩, 3) := ⟨⟨by decide +kernel, by decide +kernel⟩, List.mem_of_getElem? (i := 16) (by decide +kernel), List.mem_of_getElem? (i := 202) (by decide +kernel), List.mem_of_getElem? (i := 203) (by decide +kernel)⟩
theorem lw_p1 : lw_okq (⟨"LeasedPages$Client", "sendNew", "(LLeasedPages$Request;)I"⟩, 11) := ⟨⟨by decide +kernel, by decide +kernel⟩, List.mem_of_getElem? (i := 114) (by decide +kernel), List.mem_of_getElem? (i := 296) (by decide +kernel), List.mem_of_getElem? (i := 297) (by decide +kernel)⟩
theorem lw_p2 : lw_okq (⟨"LeasedPages$Server", "waitsAlready", "(LLeasedPages$Request;)Z"⟩, 11) := ⟨⟨by decide +kernel, by decide +kernel⟩, List.mem_of_getElem? (i := 46) (by decide +kernel), List.mem_of_getElem? (i := 415) (by decide +kernel), List.mem_of_getElem? (i := 416) (by decide +kernel)⟩
theorem lw_p3 : lw_okq (⟨"LeasedPages$Line", "placeOf", "(I)I"⟩, 2) := ⟨⟨by decide +kernel, by decide +kernel⟩, List.mem_of_getElem? (i := 57) (by decide +kernel), List.mem_of_getElem? (i := 423) (by decide +kernel), List.mem_of_getElem? (i := 424) (by decide +kernel)⟩
theorem lw_p4 : lw_okq (⟨"LeasedPages$Server", "takeOutOfLines", "(I)V"⟩, 11) := ⟨⟨by decide +kernel, by decide +kernel⟩, List.mem_of_getElem? (i := 46) (by decide +kernel), List.mem_of_getElem? (i := 427) (by decide +kernel), List.mem_of_getElem? (i := 428) (by decide +kernel)⟩
theorem lw_p5 : lw_okq (⟨"LeasedPages$Server", "serveLease", "(LLeasedPages$Request;)V"⟩, 11) := ⟨⟨by decide +kernel, by decide +kernel⟩, List.mem_of_getElem? (i := 46) (by decide +kernel), List.mem_of_getElem? (i := 435) (by decide +kernel), List.mem_of_getElem? (i := 436) (by decide +kernel)⟩
theorem lw_p6 : lw_okq (⟨"LeasedPages$Server", "hasLease", "(II)Z"⟩, 11) := ⟨⟨by decide +kernel, by decide +kernel⟩, List.mem_of_getElem? (i := 46) (by decide +kernel), List.mem_of_getElem? (i := 439) (by decide +kernel), List.mem_of_getElem? (i := 440) (by decide +kernel)⟩
theorem lw_p7 : lw_okq (⟨"LeasedPages$Server", "finish", "(LLeasedPages$Reply;)V"⟩, 11) := ⟨⟨by decide +kernel, by decide +kernel⟩, List.mem_of_getElem? (i := 46) (by decide +kernel), List.mem_of_getElem? (i := 465) (by decide +kernel), List.mem_of_getElem? (i := 466) (by decide +kernel)⟩
theorem lw_p8 : lw_okq (⟨"LeasedPages$Server", "conflictsWithAny", "(LLeasedPages$Request;)Z"⟩, 11) := ⟨⟨by decide +kernel, by decide +kernel⟩, List.mem_of_getElem? (i := 46) (by decide +kernel), List.mem_of_getElem? (i := 469) (by decide +kernel), List.mem_of_getElem? (i := 470) (by decide +kernel)⟩
theorem lw_p9 : lw_okq (⟨"LeasedPages$Server", "conflicts", "(LLeasedPages$Request;I)Z"⟩, 11) := ⟨⟨by decide +kernel, by decide +kernel⟩, List.mem_of_getElem? (i := 46) (by decide +kernel), List.mem_of_getElem? (i := 473) (by decide +kernel), List.mem_of_getElem? (i := 474) (by decide +kernel)⟩
theorem lw_p10 : lw_okq (⟨"LeasedPages$Server", "grant", "(LLeasedPages$Request;)V"⟩, 11) := ⟨⟨by decide +kernel, by decide +kernel⟩, List.mem_of_getElem? (i := 46) (by decide +kernel), List.mem_of_getElem? (i := 477) (by decide +kernel), List.mem_of_getElem? (i := 478) (by decide +kernel)⟩
theorem lw_p11 : lw_okq (⟨"LeasedPages$Server", "recallConflicting", "(LLeasedPages$Request;)V"⟩, 11) := ⟨⟨by decide +kernel, by decide +kernel⟩, List.mem_of_getElem? (i := 46) (by decide +kernel), List.mem_of_getElem? (i := 492) (by decide +kernel), List.mem_of_getElem? (i := 493) (by decide +kernel)⟩
theorem lw_p12 : lw_okq (⟨"LeasedPages$Server", "serveStore", "(LLeasedPages$Request;)V"⟩, 11) := ⟨⟨by decide +kernel, by decide +kernel⟩, List.mem_of_getElem? (i := 46) (by decide +kernel), List.mem_of_getElem? (i := 504) (by decide +kernel), List.mem_of_getElem? (i := 505) (by decide +kernel)⟩
theorem lw_p13 : lw_okq (⟨"LeasedPages$Server", "serveRelease", "(LLeasedPages$Request;)V"⟩, 11) := ⟨⟨by decide +kernel, by decide +kernel⟩, List.mem_of_getElem? (i := 46) (by decide +kernel), List.mem_of_getElem? (i := 508) (by decide +kernel), List.mem_of_getElem? (i := 509) (by decide +kernel)⟩
theorem lw_p14 : lw_okq (⟨"LeasedPages$Server", "goThroughLines", "()V"⟩, 11) := ⟨⟨by decide +kernel, by decide +kernel⟩, List.mem_of_getElem? (i := 46) (by decide +kernel), List.mem_of_getElem? (i := 512) (by decide +kernel), List.mem_of_getElem? (i := 513) (by decide +kernel)⟩
theorem lw_p15 : lw_okq (⟨"LeasedPages$Client", "takeLease", "(LLeasedPages$Reply;)V"⟩, 11) := ⟨⟨by decide +kernel, by decide +kernel⟩, List.mem_of_getElem? (i := 114) (by decide +kernel), List.mem_of_getElem? (i := 525) (by decide +kernel), List.mem_of_getElem? (i := 526) (by decide +kernel)⟩
def lw_privs_1 : List (MethodName × Nat) := [(⟨"LeasedPages", "clientThatIsUp", "(I)LLeasedPages$Client;"⟩, 3), (⟨"LeasedPages$Client", "sendNew", "(LLeasedPages$Request;)I"⟩, 11), (⟨"LeasedPages$Server", "waitsAlready", "(LLeasedPages$Request;)Z"⟩, 11), (⟨"LeasedPages$Line", "placeOf", "(I)I"⟩, 2), (⟨"LeasedPages$Server", "takeOutOfLines", "(I)V"⟩, 11), (⟨"LeasedPages$Server", "serveLease", "(LLeasedPages$Request;)V"⟩, 11), (⟨"LeasedPages$Server", "hasLease", "(II)Z"⟩, 11), (⟨"LeasedPages$Server", "finish", "(LLeasedPages$Reply;)V"⟩, 11), (⟨"LeasedPages$Server", "conflictsWithAny", "(LLeasedPages$Request;)Z"⟩, 11), (⟨"LeasedPages$Server", "conflicts", "(LLeasedPages$Request;I)Z"⟩, 11), (⟨"LeasedPages$Server", "grant", "(LLeasedPages$Request;)V"⟩, 11), (⟨"LeasedPages$Server", "recallConflicting", "(LLeasedPages$Request;)V"⟩, 11), (⟨"LeasedPages$Server", "serveStore", "(LLeasedPages$Request;)V"⟩, 11), (⟨"LeasedPages$Server", "serveRelease", "(LLeasedPages$Request;)V"⟩, 11), (⟨"LeasedPages$Server", "goThroughLines", "()V"⟩, 11), (⟨"LeasedPages$Client", "takeLease", "(LLeasedPages$Reply;)V"⟩, 11)]
theorem lw_r1 : ∀ q ∈ lw_privs_1, lw_okq q := List.forall_mem_cons.mpr ⟨lw_p0, List.forall_mem_cons.mpr ⟨lw_p1, List.forall_mem_cons.mpr ⟨lw_p2, List.forall_mem_cons.mpr ⟨lw_p3, List.forall_mem_cons.mpr ⟨lw_p4, List.forall_mem_cons.mpr ⟨lw_p5, List.forall_mem_cons.mpr ⟨lw_p6, List.forall_mem_cons.mpr ⟨lw_p7, List.forall_mem_cons.mpr ⟨lw_p8, List.forall_mem_cons.mpr ⟨lw_p9, List.forall_mem_cons.mpr ⟨lw_p10, List.forall_mem_cons.mpr ⟨lw_p11, List.forall_mem_cons.mpr ⟨lw_p12, List.forall_mem_cons.mpr ⟨lw_p13, List.forall_mem_cons.mpr ⟨lw_p14, List.forall_mem_cons.mpr ⟨lw_p15, fun _ h => absurd h List.not_mem_nil⟩⟩⟩⟩⟩⟩⟩⟩⟩⟩⟩⟩⟩⟩⟩⟩
theorem lw_p16 : lw_okq (⟨"LeasedPages$Client", "removeAllWritesTo", "(I)V"⟩, 11) := ⟨⟨by decide +kernel, by decide +kernel⟩, List.mem_of_getElem? (i := 114) (by decide +kernel), List.mem_of_getElem? (i := 529) (by decide +kernel), List.mem_of_getElem? (i := 530) (by decide +kernel)⟩
theorem lw_p17 : lw_okq (⟨"LeasedPages$Client", "keepWrites", "(I)V"⟩, 11) := ⟨⟨by decide +kernel, by decide +kernel⟩, List.mem_of_getElem? (i := 114) (by decide +kernel), List.mem_of_getElem? (i := 533) (by decide +kernel), List.mem_of_getElem? (i := 534) (by decide +kernel)⟩
theorem lw_p18 : lw_okq (⟨"LeasedPages$Client", "redoWritesOn", "(I)V"⟩, 11) := ⟨⟨by decide +kernel, by decide +kernel⟩, List.mem_of_getElem? (i := 114) (by decide +kernel), List.mem_of_getElem? (i := 540) (by decide +kernel), List.mem_of_getElem? (i := 541) (by decide +kernel)⟩
theorem lw_p19 : lw_okq (⟨"LeasedPages$Client", "loseLease", "(I)V"⟩, 11) := ⟨⟨by decide +kernel, by decide +kernel⟩, List.mem_of_getElem? (i := 114) (by decide +kernel), List.mem_of_getElem? (i := 544) (by decide +kernel), List.mem_of_getElem? (i := 545) (by decide +kernel)⟩
theorem lw_p20 : lw_okq (⟨"LeasedPages$Client", "removeFirstWriteTo", "(I)V"⟩, 11) := ⟨⟨by decide +kernel, by decide +kernel⟩, List.mem_of_getElem? (i := 114) (by decide +kernel), List.mem_of_getElem? (i := 548) (by decide +kernel), List.mem_of_getElem? (i := 549) (by decide +kernel)⟩
theorem lw_p21 : lw_okq (⟨"LeasedPages", "isUp", "(I)Z"⟩, 3) := ⟨⟨by decide +kernel, by decide +kernel⟩, List.mem_of_getElem? (i := 16) (by decide +kernel), List.mem_of_getElem? (i := 572) (by decide +kernel), List.mem_of_getElem? (i := 573) (by decide +kernel)⟩
theorem lw_p22 : lw_okq (⟨"LeasedPages$Server", "endLeases", "()V"⟩, 11) := ⟨⟨by decide +kernel, by decide +kernel⟩, List.mem_of_getElem? (i := 46) (by decide +kernel), List.mem_of_getElem? (i := 580) (by decide +kernel), List.mem_of_getElem? (i := 581) (by decide +kernel)⟩
theorem lw_p23 : lw_okq (⟨"LeasedPagesModel", "move", "(II)V"⟩, 44) := ⟨⟨by decide +kernel, by decide +kernel⟩, List.mem_of_getElem? (i := 651) (by decide +kernel), List.mem_of_getElem? (i := 808) (by decide +kernel), List.mem_of_getElem? (i := 809) (by decide +kernel)⟩
theorem lw_p24 : lw_okq (⟨"LeasedPagesModel", "granted", "(IIIZI)V"⟩, 44) := ⟨⟨by decide +kernel, by decide +kernel⟩, List.mem_of_getElem? (i := 651) (by decide +kernel), List.mem_of_getElem? (i := 820) (by decide +kernel), List.mem_of_getElem? (i := 821) (by decide +kernel)⟩
theorem lw_p25 : lw_okq (⟨"LeasedPagesModel", "hasDirty", "(II)Z"⟩, 44) := ⟨⟨by decide +kernel, by decide +kernel⟩, List.mem_of_getElem? (i := 651) (by decide +kernel), List.mem_of_getElem? (i := 824) (by decide +kernel), List.mem_of_getElem? (i := 825) (by decide +kernel)⟩
theorem lw_p26 : lw_okq (⟨"LeasedPagesModel", "forget", "(III)V"⟩, 44) := ⟨⟨by decide +kernel, by decide +kernel⟩, List.mem_of_getElem? (i := 651) (by decide +kernel), List.mem_of_getElem? (i := 828) (by decide +kernel), List.mem_of_getElem? (i := 829) (by decide +kernel)⟩
theorem lw_p27 : lw_okq (⟨"LeasedPagesModel", "request", "(IIIIIZII)V"⟩, 44) := ⟨⟨by decide +kernel, by decide +kernel⟩, List.mem_of_getElem? (i := 651) (by decide +kernel), List.mem_of_getElem? (i := 833) (by decide +kernel), List.mem_of_getElem? (i := 834) (by decide +kernel)⟩
theorem lw_p28 : lw_okq (⟨"LeasedPagesModel", "answer", "(I)V"⟩, 44) := ⟨⟨by decide +kernel, by decide +kernel⟩, List.mem_of_getElem? (i := 651) (by decide +kernel), List.mem_of_getElem? (i := 837) (by decide +kernel), List.mem_of_getElem? (i := 838) (by decide +kernel)⟩
theorem lw_p29 : lw_okq (⟨"LeasedPagesModel", "room", "(IIII)I"⟩, 44) := ⟨⟨by decide +kernel, by decide +kernel⟩, List.mem_of_getElem? (i := 651) (by decide +kernel), List.mem_of_getElem? (i := 841) (by decide +kernel), List.mem_of_getElem? (i := 842) (by decide +kernel)⟩
theorem lw_p30 : lw_okq (⟨"LeasedPagesModel", "askedLease", "(IIIIZ)V"⟩, 44) := ⟨⟨by decide +kernel, by decide +kernel⟩, List.mem_of_getElem? (i := 651) (by decide +kernel), List.mem_of_getElem? (i := 845) (by decide +kernel), List.mem_of_getElem? (i := 846) (by decide +kernel)⟩
theorem lw_p31 : lw_okq (⟨"LeasedPagesModel", "has", "(II)Z"⟩, 44) := ⟨⟨by decide +kernel, by decide +kernel⟩, List.mem_of_getElem? (i := 651) (by decide +kernel), List.mem_of_getElem? (i := 849) (by decide +kernel), List.mem_of_getElem? (i := 850) (by decide +kernel)⟩
def lw_privs_2 : List (MethodName × Nat) := [(⟨"LeasedPages$Client", "removeAllWritesTo", "(I)V"⟩, 11), (⟨"LeasedPages$Client", "keepWrites", "(I)V"⟩, 11), (⟨"LeasedPages$Client", "redoWritesOn", "(I)V"⟩, 11), (⟨"LeasedPages$Client", "loseLease", "(I)V"⟩, 11), (⟨"LeasedPages$Client", "removeFirstWriteTo", "(I)V"⟩, 11), (⟨"LeasedPages", "isUp", "(I)Z"⟩, 3), (⟨"LeasedPages$Server", "endLeases", "()V"⟩, 11), (⟨"LeasedPagesModel", "move", "(II)V"⟩, 44), (⟨"LeasedPagesModel", "granted", "(IIIZI)V"⟩, 44), (⟨"LeasedPagesModel", "hasDirty", "(II)Z"⟩, 44), (⟨"LeasedPagesModel", "forget", "(III)V"⟩, 44), (⟨"LeasedPagesModel", "request", "(IIIIIZII)V"⟩, 44), (⟨"LeasedPagesModel", "answer", "(I)V"⟩, 44), (⟨"LeasedPagesModel", "room", "(IIII)I"⟩, 44), (⟨"LeasedPagesModel", "askedLease", "(IIIIZ)V"⟩, 44), (⟨"LeasedPagesModel", "has", "(II)Z"⟩, 44)]
theorem lw_r2 : ∀ q ∈ lw_privs_2, lw_okq q := List.forall_mem_cons.mpr ⟨lw_p16, List.forall_mem_cons.mpr ⟨lw_p17, List.forall_mem_cons.mpr ⟨lw_p18, List.forall_mem_cons.mpr ⟨lw_p19, List.forall_mem_cons.mpr ⟨lw_p20, List.forall_mem_cons.mpr ⟨lw_p21, List.forall_mem_cons.mpr ⟨lw_p22, List.forall_mem_cons.mpr ⟨lw_p23, List.forall_mem_cons.mpr ⟨lw_p24, List.forall_mem_cons.mpr ⟨lw_p25, List.forall_mem_cons.mpr ⟨lw_p26, List.forall_mem_cons.mpr ⟨lw_p27, List.forall_mem_cons.mpr ⟨lw_p28, List.forall_mem_cons.mpr ⟨lw_p29, List.forall_mem_cons.mpr ⟨lw_p30, List.forall_mem_cons.mpr ⟨lw_p31, fun _ h => absurd h List.not_mem_nil⟩⟩⟩⟩⟩⟩⟩⟩⟩⟩⟩⟩⟩⟩⟩⟩
theorem lw_p32 : lw_okq (⟨"LeasedPagesModel", "others", "(II)Z"⟩, 44) := ⟨⟨by decide +kernel, by decide +kernel⟩, List.mem_of_getElem? (i := 651) (by decide +kernel), List.mem_of_getElem? (i := 853) (by decide +kernel), List.mem_of_getElem? (i := 854) (by decide +kernel)⟩
theorem lw_p33 : lw_okq (⟨"LeasedPagesModel", "finish", "(IIII)V"⟩, 44) := ⟨⟨by decide +kernel, by decide +kernel⟩, List.mem_of_getElem? (i := 651) (by decide +kernel), List.mem_of_getElem? (i := 857) (by decide +kernel), List.mem_of_getElem? (i := 858) (by decide +kernel)⟩
theorem lw_p34 : lw_okq (⟨"LeasedPagesModel", "conflicts", "(III)Z"⟩, 44) := ⟨⟨by decide +kernel, by decide +kernel⟩, List.mem_of_getElem? (i := 651) (by decide +kernel), List.mem_of_getElem? (i := 861) (by decide +kernel), List.mem_of_getElem? (i := 862) (by decide +kernel)⟩
theorem lw_p35 : lw_okq (⟨"LeasedPagesModel", "grant", "(IIIIZ)V"⟩, 44) := ⟨⟨by decide +kernel, by decide +kernel⟩, List.mem_of_getElem? (i := 651) (by decide +kernel), List.mem_of_getElem? (i := 865) (by decide +kernel), List.mem_of_getElem? (i := 866) (by decide +kernel)⟩
theorem lw_p36 : lw_okq (⟨"LeasedPagesModel", "serveLines", "()V"⟩, 44) := ⟨⟨by decide +kernel, by decide +kernel⟩, List.mem_of_getElem? (i := 651) (by decide +kernel), List.mem_of_getElem? (i := 869) (by decide +kernel), List.mem_of_getElem? (i := 870) (by decide +kernel)⟩
theorem lw_p37 : lw_okq (⟨"LeasedPagesModel", "first", "(I)I"⟩, 44) := ⟨⟨by decide +kernel, by decide +kernel⟩, List.mem_of_getElem? (i := 651) (by decide +kernel), List.mem_of_getElem? (i := 873) (by decide +kernel), List.mem_of_getElem? (i := 874) (by decide +kernel)⟩
theorem lw_p38 : lw_okq (⟨"LeasedPagesModel", "replied", "(III)V"⟩, 44) := ⟨⟨by decide +kernel, by decide +kernel⟩, List.mem_of_getElem? (i := 651) (by decide +kernel), List.mem_of_getElem? (i := 877) (by decide +kernel), List.mem_of_getElem? (i := 878) (by decide +kernel)⟩
theorem lw_p39 : lw_okq (⟨"LeasedPagesModel", "works", "(I)Z"⟩, 44) := ⟨⟨by decide +kernel, by decide +kernel⟩, List.mem_of_getElem? (i := 651) (by decide +kernel), List.mem_of_getElem? (i := 885) (by decide +kernel), List.mem_of_getElem? (i := 886) (by decide +kernel)⟩
theorem lw_p40 : lw_okq (⟨"LeasedPagesModel", "lost", "(II)Z"⟩, 44) := ⟨⟨by decide +kernel, by decide +kernel⟩, List.mem_of_getElem? (i := 651) (by decide +kernel), List.mem_of_getElem? (i := 889) (by decide +kernel), List.mem_of_getElem? (i := 890) (by decide +kernel)⟩
theorem lw_p41 : lw_okq (⟨"LeasedPagesModel", "valid", "(II)Z"⟩, 44) := ⟨⟨by decide +kernel, by decide +kernel⟩, List.mem_of_getElem? (i := 651) (by decide +kernel), List.mem_of_getElem? (i := 893) (by decide +kernel), List.mem_of_getElem? (i := 894) (by decide +kernel)⟩
theorem lw_p42 : lw_okq (⟨"LeasedPagesModel", "open", "(IIIIZ)I"⟩, 44) := ⟨⟨by decide +kernel, by decide +kernel⟩, List.mem_of_getElem? (i := 651) (by decide +kernel), List.mem_of_getElem? (i := 897) (by decide +kernel), List.mem_of_getElem? (i := 898) (by decide +kernel)⟩
theorem lw_p43 : lw_okq (⟨"LeasedPagesModel", "ask", "(I)V"⟩, 44) := ⟨⟨by decide +kernel, by decide +kernel⟩, List.mem_of_getElem? (i := 651) (by decide +kernel), List.mem_of_getElem? (i := 901) (by decide +kernel), List.mem_of_getElem? (i := 902) (by decide +kernel)⟩
def lw_privs_3 : List (MethodName × Nat) := [(⟨"LeasedPagesModel", "others", "(II)Z"⟩, 44), (⟨"LeasedPagesModel", "finish", "(IIII)V"⟩, 44), (⟨"LeasedPagesModel", "conflicts", "(III)Z"⟩, 44), (⟨"LeasedPagesModel", "grant", "(IIIIZ)V"⟩, 44), (⟨"LeasedPagesModel", "serveLines", "()V"⟩, 44), (⟨"LeasedPagesModel", "first", "(I)I"⟩, 44), (⟨"LeasedPagesModel", "replied", "(III)V"⟩, 44), (⟨"LeasedPagesModel", "works", "(I)Z"⟩, 44), (⟨"LeasedPagesModel", "lost", "(II)Z"⟩, 44), (⟨"LeasedPagesModel", "valid", "(II)Z"⟩, 44), (⟨"LeasedPagesModel", "open", "(IIIIZ)I"⟩, 44), (⟨"LeasedPagesModel", "ask", "(I)V"⟩, 44)]
theorem lw_r3 : ∀ q ∈ lw_privs_3, lw_okq q := List.forall_mem_cons.mpr ⟨lw_p32, List.forall_mem_cons.mpr ⟨lw_p33, List.forall_mem_cons.mpr ⟨lw_p34, List.forall_mem_cons.mpr ⟨lw_p35, List.forall_mem_cons.mpr ⟨lw_p36, List.forall_mem_cons.mpr ⟨lw_p37, List.forall_mem_cons.mpr ⟨lw_p38, List.forall_mem_cons.mpr ⟨lw_p39, List.forall_mem_cons.mpr ⟨lw_p40, List.forall_mem_cons.mpr ⟨lw_p41, List.forall_mem_cons.mpr ⟨lw_p42, List.forall_mem_cons.mpr ⟨lw_p43, fun _ h => absurd h List.not_mem_nil⟩⟩⟩⟩⟩⟩⟩⟩⟩⟩⟩⟩
def lw_privs : List (MethodName × Nat) := lw_privs_1 ++ (lw_privs_2 ++ (lw_privs_3))
def lw_tbl : List Cond := k2_sels lw_privs ++ tables_1
theorem lw_privs_ok : ∀ q ∈ lw_privs, lw_okq q := by
  show ∀ q ∈ lw_privs_1 ++ (lw_privs_2 ++ (lw_privs_3)), lw_okq q
  exact List.forall_mem_append.mpr ⟨lw_r1, List.forall_mem_append.mpr ⟨lw_r2, lw_r3⟩⟩
end
section
/-! Names of the classes, their fields in my own order, array kinds, the words in three lists. Written by wip/whole/gen/names.py. -/
def lp_T0 : u_T := fun k => match k with
  | 0 => ("LeasedPages", "network", "LLeasedPages$Network;", true)
  | 1 => ("LeasedPages", "server", "LLeasedPages$Server;", true)
  | _ => ("LeasedPages", "clients", "[LLeasedPages$Client;", true)
def lp_y0 : Nat → FieldType := fun k => match k with
  | 0 => .object "LeasedPages$Network"
  | 1 => .object "LeasedPages$Server"
  | _ => .array (.object "LeasedPages$Client")
theorem lp_nm0 : ∀ a, a < 3 → ∀ b, b < 3 → a ≠ b → (lp_T0 a).2.1 ≠ (lp_T0 b).2.1 := by decide +kernel
theorem lp_ty0 : ∀ k, k < 3 → parseFieldDescriptor (lp_T0 k).2.2.1 = some (lp_y0 k) := by decide +kernel
def lp_T1 : u_T := fun k => match k with
  | 0 => ("LeasedPages$Network", "list", "[LLeasedPages$Message;", true)
  | _ => ("LeasedPages$Network", "count", "I", false)
def lp_y1 : Nat → FieldType := fun k => match k with
  | 0 => .array (.object "LeasedPages$Message")
  | _ => .int
theorem lp_nm1 : ∀ a, a < 2 → ∀ b, b < 2 → a ≠ b → (lp_T1 a).2.1 ≠ (lp_T1 b).2.1 := by decide +kernel
theorem lp_ty1 : ∀ k, k < 2 → parseFieldDescriptor (lp_T1 k).2.2.1 = some (lp_y1 k) := by decide +kernel
def lp_T2 : u_T := fun k => match k with
  | 0 => ("LeasedPages$Server", "network", "LLeasedPages$Network;", true)
  | 1 => ("LeasedPages$Server", "length", "I", true)
  | 2 => ("LeasedPages$Server", "pages", "[[I", true)
  | 3 => ("LeasedPages$Server", "latestReplies", "[LLeasedPages$Reply;", true)
  | 4 => ("LeasedPages$Server", "modes", "[[I", true)
  | 5 => ("LeasedPages$Server", "ends", "[[I", true)
  | 6 => ("LeasedPages$Server", "lines", "[LLeasedPages$Line;", true)
  | 7 => ("LeasedPages$Server", "up", "Z", false)
  | 8 => ("LeasedPages$Server", "now", "I", false)
  | 9 => ("LeasedPages$Server", "inGrace", "Z", false)
  | _ => ("LeasedPages$Server", "graceEnd", "I", false)
def lp_y2 : Nat → FieldType := fun k => match k with
  | 0 => .object "LeasedPages$Network"
  | 1 => .int
  | 2 => .array (.array (.int))
  | 3 => .array (.object "LeasedPages$Reply")
  | 4 => .array (.array (.int))
  | 5 => .array (.array (.int))
  | 6 => .array (.object "LeasedPages$Line")
  | 7 => .boolean
  | 8 => .int
  | 9 => .boolean
  | _ => .int
theorem lp_nm2 : ∀ a, a < 11 → ∀ b, b < 11 → a ≠ b → (lp_T2 a).2.1 ≠ (lp_T2 b).2.1 := by decide +kernel
theorem lp_ty2 : ∀ k, k < 11 → parseFieldDescriptor (lp_T2 k).2.2.1 = some (lp_y2 k) := by decide +kernel
def lp_T3 : u_T := fun k => match k with
  | 0 => ("LeasedPages$Line", "requests", "[LLeasedPages$Request;", true)
  | _ => ("LeasedPages$Line", "size", "I", false)
def lp_y3 : Nat → FieldType := fun k => match k with
  | 0 => .array (.object "LeasedPages$Request")
  | _ => .int
theorem lp_nm3 : ∀ a, a < 2 → ∀ b, b < 2 → a ≠ b → (lp_T3 a).2.1 ≠ (lp_T3 b).2.1 := by decide +kernel
theorem lp_ty3 : ∀ k, k < 2 → parseFieldDescriptor (lp_T3 k).2.2.1 = some (lp_y3 k) := by decide +kernel
def lp_T4 : u_T := fun k => match k with
  | 0 => ("LeasedPages$Client", "id", "I", true)
  | 1 => ("LeasedPages$Client", "term", "I", true)
  | 2 => ("LeasedPages$Client", "network", "LLeasedPages$Network;", true)
  | 3 => ("LeasedPages$Client", "copies", "[LLeasedPages$Copy;", true)
  | 4 => ("LeasedPages$Client", "writes", "[LLeasedPages$Write;", true)
  | 5 => ("LeasedPages$Client", "writeCount", "I", false)
  | 6 => ("LeasedPages$Client", "up", "Z", false)
  | 7 => ("LeasedPages$Client", "now", "I", false)
  | 8 => ("LeasedPages$Client", "latestNumber", "I", false)
  | 9 => ("LeasedPages$Client", "open", "LLeasedPages$Request;", false)
  | _ => ("LeasedPages$Client", "openSince", "I", false)
def lp_y4 : Nat → FieldType := fun k => match k with
  | 0 => .int
  | 1 => .int
  | 2 => .object "LeasedPages$Network"
  | 3 => .array (.object "LeasedPages$Copy")
  | 4 => .array (.object "LeasedPages$Write")
  | 5 => .int
  | 6 => .boolean
  | 7 => .int
  | 8 => .int
  | 9 => .object "LeasedPages$Request"
  | _ => .int
theorem lp_nm4 : ∀ a, a < 11 → ∀ b, b < 11 → a ≠ b → (lp_T4 a).2.1 ≠ (lp_T4 b).2.1 := by decide +kernel
theorem lp_ty4 : ∀ k, k < 11 → parseFieldDescriptor (lp_T4 k).2.2.1 = some (lp_y4 k) := by decide +kernel
def lp_T5 : u_T := fun k => match k with
  | 0 => ("LeasedPages$Copy", "pages", "[I", true)
  | 1 => ("LeasedPages$Copy", "mode", "I", false)
  | 2 => ("LeasedPages$Copy", "validUntil", "I", false)
  | 3 => ("LeasedPages$Copy", "recalled", "Z", false)
  | _ => ("LeasedPages$Copy", "lost", "Z", false)
def lp_y5 : Nat → FieldType := fun k => match k with
  | 0 => .array (.int)
  | 1 => .int
  | 2 => .int
  | 3 => .boolean
  | _ => .boolean
theorem lp_nm5 : ∀ a, a < 5 → ∀ b, b < 5 → a ≠ b → (lp_T5 a).2.1 ≠ (lp_T5 b).2.1 := by decide +kernel
theorem lp_ty5 : ∀ k, k < 5 → parseFieldDescriptor (lp_T5 k).2.2.1 = some (lp_y5 k) := by decide +kernel
def lp_T6 : u_T := fun k => match k with
  | 0 => ("LeasedPages$Message", "kind", "I", true)
  | 1 => ("LeasedPages$Message", "client", "I", true)
  | 2 => ("LeasedPages$Message", "file", "I", true)
  | _ => ("LeasedPages$Message", "number", "I", true)
def lp_y6 : Nat → FieldType := fun k => match k with
  | 0 => .int
  | 1 => .int
  | 2 => .int
  | _ => .int
theorem lp_nm6 : ∀ a, a < 4 → ∀ b, b < 4 → a ≠ b → (lp_T6 a).2.1 ≠ (lp_T6 b).2.1 := by decide +kernel
theorem lp_ty6 : ∀ k, k < 4 → parseFieldDescriptor (lp_T6 k).2.2.1 = some (lp_y6 k) := by decide +kernel
def lp_T7 : u_T := fun k => match k with
  | 0 => ("LeasedPages$Message", "kind", "I", true)
  | 1 => ("LeasedPages$Message", "client", "I", true)
  | 2 => ("LeasedPages$Message", "file", "I", true)
  | 3 => ("LeasedPages$Message", "number", "I", true)
  | 4 => ("LeasedPages$Request", "mode", "I", false)
  | 5 => ("LeasedPages$Request", "claim", "Z", false)
  | 6 => ("LeasedPages$Request", "page", "I", false)
  | _ => ("LeasedPages$Request", "value", "I", false)
def lp_y7 : Nat → FieldType := fun k => match k with
  | 0 => .int
  | 1 => .int
  | 2 => .int
  | 3 => .int
  | 4 => .int
  | 5 => .boolean
  | 6 => .int
  | _ => .int
theorem lp_nm7 : ∀ a, a < 8 → ∀ b, b < 8 → a ≠ b → (lp_T7 a).2.1 ≠ (lp_T7 b).2.1 := by decide +kernel
theorem lp_ty7 : ∀ k, k < 8 → parseFieldDescriptor (lp_T7 k).2.2.1 = some (lp_y7 k) := by decide +kernel
def lp_T8 : u_T := fun k => match k with
  | 0 => ("LeasedPages$Message", "kind", "I", true)
  | 1 => ("LeasedPages$Message", "client", "I", true)
  | 2 => ("LeasedPages$Message", "file", "I", true)
  | 3 => ("LeasedPages$Message", "number", "I", true)
  | 4 => ("LeasedPages$Reply", "mode", "I", true)
  | 5 => ("LeasedPages$Reply", "continued", "Z", true)
  | _ => ("LeasedPages$Reply", "pages", "[I", true)
def lp_y8 : Nat → FieldType := fun k => match k with
  | 0 => .int
  | 1 => .int
  | 2 => .int
  | 3 => .int
  | 4 => .int
  | 5 => .boolean
  | _ => .array (.int)
theorem lp_nm8 : ∀ a, a < 7 → ∀ b, b < 7 → a ≠ b → (lp_T8 a).2.1 ≠ (lp_T8 b).2.1 := by decide +kernel
theorem lp_ty8 : ∀ k, k < 7 → parseFieldDescriptor (lp_T8 k).2.2.1 = some (lp_y8 k) := by decide +kernel
def lp_T9 : u_T := fun k => match k with
  | 0 => ("LeasedPages$Write", "file", "I", true)
  | 1 => ("LeasedPages$Write", "page", "I", true)
  | _ => ("LeasedPages$Write", "value", "I", true)
def lp_y9 : Nat → FieldType := fun k => match k with
  | 0 => .int
  | 1 => .int
  | _ => .int
theorem lp_nm9 : ∀ a, a < 3 → ∀ b, b < 3 → a ≠ b → (lp_T9 a).2.1 ≠ (lp_T9 b).2.1 := by decide +kernel
theorem lp_ty9 : ∀ k, k < 3 → parseFieldDescriptor (lp_T9 k).2.2.1 = some (lp_y9 k) := by decide +kernel
def lp_T10 : u_T := fun k => match k with
  | 0 => ("LeasedPagesModel", "duration", "I", true)
  | 1 => ("LeasedPagesModel", "down", "[Z", true)
  | 2 => ("LeasedPagesModel", "clocks", "[I", true)
  | 3 => ("LeasedPagesModel", "pages", "[I", true)
  | 4 => ("LeasedPagesModel", "modes", "[I", true)
  | 5 => ("LeasedPagesModel", "ends", "[I", true)
  | 6 => ("LeasedPagesModel", "grace", "I", false)
  | 7 => ("LeasedPagesModel", "done", "[I", true)
  | 8 => ("LeasedPagesModel", "saidKind", "[I", true)
  | 9 => ("LeasedPagesModel", "saidFile", "[I", true)
  | 10 => ("LeasedPagesModel", "saidMode", "[I", true)
  | 11 => ("LeasedPagesModel", "saidMore", "[Z", true)
  | 12 => ("LeasedPagesModel", "saidPages", "[I", true)
  | 13 => ("LeasedPagesModel", "waitFile", "[I", true)
  | 14 => ("LeasedPagesModel", "waitNumber", "[I", true)
  | 15 => ("LeasedPagesModel", "waitMode", "[I", true)
  | 16 => ("LeasedPagesModel", "waitSince", "[I", true)
  | 17 => ("LeasedPagesModel", "arrivals", "I", false)
  | 18 => ("LeasedPagesModel", "number", "[I", true)
  | 19 => ("LeasedPagesModel", "knownMode", "[I", true)
  | 20 => ("LeasedPagesModel", "knownEnd", "[I", true)
  | 21 => ("LeasedPagesModel", "recalled", "[Z", true)
  | 22 => ("LeasedPagesModel", "missed", "[Z", true)
  | 23 => ("LeasedPagesModel", "copies", "[I", true)
  | 24 => ("LeasedPagesModel", "dirties", "[I", true)
  | 25 => ("LeasedPagesModel", "dirtyPlace", "[I", true)
  | 26 => ("LeasedPagesModel", "dirtyValue", "[I", true)
  | 27 => ("LeasedPagesModel", "openKind", "[I", true)
  | 28 => ("LeasedPagesModel", "openFile", "[I", true)
  | 29 => ("LeasedPagesModel", "openMode", "[I", true)
  | 30 => ("LeasedPagesModel", "openClaim", "[Z", true)
  | 31 => ("LeasedPagesModel", "openPage", "[I", true)
  | 32 => ("LeasedPagesModel", "openValue", "[I", true)
  | 33 => ("LeasedPagesModel", "openSince", "[I", true)
  | 34 => ("LeasedPagesModel", "under", "I", false)
  | 35 => ("LeasedPagesModel", "kind", "[I", true)
  | 36 => ("LeasedPagesModel", "client", "[I", true)
  | 37 => ("LeasedPagesModel", "file", "[I", true)
  | 38 => ("LeasedPagesModel", "which", "[I", true)
  | 39 => ("LeasedPagesModel", "mode", "[I", true)
  | 40 => ("LeasedPagesModel", "yes", "[Z", true)
  | 41 => ("LeasedPagesModel", "page", "[I", true)
  | 42 => ("LeasedPagesModel", "content", "[I", true)
  | _ => ("LeasedPagesModel", "four", "[I", true)
def lp_y10 : Nat → FieldType := fun k => match k with
  | 0 => .int
  | 1 => .array (.boolean)
  | 2 => .array (.int)
  | 3 => .array (.int)
  | 4 => .array (.int)
  | 5 => .array (.int)
  | 6 => .int
  | 7 => .array (.int)
  | 8 => .array (.int)
  | 9 => .array (.int)
  | 10 => .array (.int)
  | 11 => .array (.boolean)
  | 12 => .array (.int)
  | 13 => .array (.int)
  | 14 => .array (.int)
  | 15 => .array (.int)
  | 16 => .array (.int)
  | 17 => .int
  | 18 => .array (.int)
  | 19 => .array (.int)
  | 20 => .array (.int)
  | 21 => .array (.boolean)
  | 22 => .array (.boolean)
  | 23 => .array (.int)
  | 24 => .array (.int)
  | 25 => .array (.int)
  | 26 => .array (.int)
  | 27 => .array (.int)
  | 28 => .array (.int)
  | 29 => .array (.int)
  | 30 => .array (.boolean)
  | 31 => .array (.int)
  | 32 => .array (.int)
  | 33 => .array (.int)
  | 34 => .int
  | 35 => .array (.int)
  | 36 => .array (.int)
  | 37 => .array (.int)
  | 38 => .array (.int)
  | 39 => .array (.int)
  | 40 => .array (.boolean)
  | 41 => .array (.int)
  | 42 => .array (.int)
  | _ => .array (.int)
theorem lp_nm10 : ∀ a, a < 44 → ∀ b, b < 44 → a ≠ b → (lp_T10 a).2.1 ≠ (lp_T10 b).2.1 := by decide +kernel
theorem lp_ty10 : ∀ k, k < 44 → parseFieldDescriptor (lp_T10 k).2.2.1 = some (lp_y10 k) := by decide +kernel
def lp_CL : List vw_C := [("LeasedPages", lp_T0, 3), ("LeasedPages$Network", lp_T1, 2), ("LeasedPages$Server", lp_T2, 11), ("LeasedPages$Line", lp_T3, 2), ("LeasedPages$Client", lp_T4, 11), ("LeasedPages$Copy", lp_T5, 5), ("LeasedPages$Message", lp_T6, 4), ("LeasedPages$Request", lp_T7, 8), ("LeasedPages$Reply", lp_T8, 7), ("LeasedPages$Write", lp_T9, 3), ("LeasedPagesModel", lp_T10, 44)]
def lp_AT : List FieldType := [FieldType.int, FieldType.boolean, FieldType.object "LeasedPages$Message", FieldType.object "LeasedPages$Reply", FieldType.object "LeasedPages$Line", FieldType.object "LeasedPages$Request", FieldType.object "LeasedPages$Client", FieldType.object "LeasedPages$Copy", FieldType.object "LeasedPages$Write", FieldType.array FieldType.int]
theorem lp_AT0 : lp_AT[0]? = some .int := rfl
theorem lp_AT1 : lp_AT[1]? = some .boolean := rfl
/-- the words that stay good for every callee -/
def lp_BW : List Cond := lw_tbl.filter goodWord
/-- links within the nest, casts -/
def lp_NW : List Cond := [Cond.methodLinkNest "LeasedPages" 20 ⟨"LeasedPages$Network", "<init>", "()V"⟩ "LeasedPages",
  Cond.fieldLinkNest "LeasedPages" 85 "LeasedPages$Network" "count" "I" "LeasedPages",
  Cond.methodLinkNest "LeasedPages$Server" 55 ⟨"LeasedPages$Line", "<init>", "()V"⟩ "LeasedPages",
  Cond.fieldLinkNest "LeasedPages$Server" 114 "LeasedPages$Line" "size" "I" "LeasedPages",
  Cond.fieldLinkNest "LeasedPages" 168 "LeasedPages$Line" "size" "I" "LeasedPages",
  Cond.fieldLinkNest "LeasedPages" 173 "LeasedPages$Server" "pages" "[[I" "LeasedPages",
  Cond.fieldLinkNest "LeasedPages" 164 "LeasedPages$Server" "lines" "[LLeasedPages$Line;" "LeasedPages",
  Cond.fieldLinkNest "LeasedPages" 177 "LeasedPages$Server" "up" "Z" "LeasedPages",
  Cond.fieldLinkNest "LeasedPages" 151 "LeasedPages$Server" "now" "I" "LeasedPages",
  Cond.methodLinkNest "LeasedPages$Client" 54 ⟨"LeasedPages$Copy", "<init>", "()V"⟩ "LeasedPages",
  Cond.fieldLinkNest "LeasedPages$Client" 84 "LeasedPages$Copy" "pages" "[I" "LeasedPages",
  Cond.fieldLinkNest "LeasedPages$Client" 101 "LeasedPages$Copy" "mode" "I" "LeasedPages",
  Cond.fieldLinkNest "LeasedPages$Client" 139 "LeasedPages$Copy" "validUntil" "I" "LeasedPages",
  Cond.fieldLinkNest "LeasedPages$Client" 104 "LeasedPages$Copy" "recalled" "Z" "LeasedPages",
  Cond.fieldLinkNest "LeasedPages$Client" 88 "LeasedPages$Copy" "lost" "Z" "LeasedPages",
  Cond.fieldLinkNest "LeasedPages" 155 "LeasedPages$Client" "writeCount" "I" "LeasedPages",
  Cond.fieldLinkNest "LeasedPages" 147 "LeasedPages$Client" "up" "Z" "LeasedPages",
  Cond.fieldLinkNest "LeasedPages" 137 "LeasedPages$Client" "now" "I" "LeasedPages",
  Cond.fieldLinkNest "LeasedPages" 51 "LeasedPages$Client" "open" "LLeasedPages$Request;" "LeasedPages",
  Cond.fieldLinkNest "LeasedPages$Reply" 19 "LeasedPages$Request" "mode" "I" "LeasedPages",
  Cond.fieldLinkNest "LeasedPages$Server" 145 "LeasedPages$Request" "mode" "I" "LeasedPages",
  Cond.fieldLinkNest "LeasedPages$Server" 124 "LeasedPages$Request" "claim" "Z" "LeasedPages",
  Cond.fieldLinkNest "LeasedPages$Server" 139 "LeasedPages$Request" "page" "I" "LeasedPages",
  Cond.fieldLinkNest "LeasedPages$Server" 142 "LeasedPages$Request" "value" "I" "LeasedPages",
  Cond.castable "[I" "java/lang/Cloneable",
  Cond.castable "LeasedPages$Request" "LeasedPages$Request",
  Cond.castable "LeasedPages$Reply" "LeasedPages$Reply",
  Cond.castable "LeasedPages$Reply" "LeasedPages$Message",
  Cond.castable "LeasedPages$Request" "LeasedPages$Message"]
/-- arrays over these -/
def lp_AO : List FieldType := [FieldType.object "LeasedPages$Message", FieldType.array FieldType.int, FieldType.object "LeasedPages$Reply", FieldType.object "LeasedPages$Line", FieldType.object "LeasedPages$Request", FieldType.object "LeasedPages$Client", FieldType.object "LeasedPages$Copy", FieldType.object "LeasedPages$Write"]
/-- an object of the first class is none of the second -/
def lp_NC : List (String × String) := [("LeasedPages$Message", "LeasedPages$Request"), ("LeasedPages$Reply", "LeasedPages$Request"), ("LeasedPages$Message", "LeasedPages$Reply")]
theorem lp_t1 {w : Cond} (i : Nat) (h : tables_1_1[i]? = some w) (hg : goodWord w = true) : w ∈ lp_BW := List.mem_filter.mpr ⟨List.mem_append_right _ (List.mem_append_left _ (List.mem_of_getElem? h)), hg⟩
theorem lp_t2 {w : Cond} (i : Nat) (h : tables_1_2[i]? = some w) (hg : goodWord w = true) : w ∈ lp_BW := List.mem_filter.mpr ⟨List.mem_append_right _ (List.mem_append_right _ (List.mem_append_left _ (List.mem_of_getElem? h))), hg⟩
theorem lp_t3 {w : Cond} (i : Nat) (h : tables_1_3[i]? = some w) (hg : goodWord w = true) : w ∈ lp_BW := List.mem_filter.mpr ⟨List.mem_append_right _ (List.mem_append_right _ (List.mem_append_right _ (List.mem_append_left _ (List.mem_of_getElem? h)))), hg⟩
theorem lp_t4 {w : Cond} (i : Nat) (h : tables_1_4[i]? = some w) (hg : goodWord w = true) : w ∈ lp_BW := List.mem_filter.mpr ⟨List.mem_append_right _ (List.mem_append_right _ (List.mem_append_right _ (List.mem_append_right _ (List.mem_append_left _ (List.mem_of_getElem? h))))), hg⟩
theorem lp_t5 {w : Cond} (i : Nat) (h : tables_1_5[i]? = some w) (hg : goodWord w = true) : w ∈ lp_BW := List.mem_filter.mpr ⟨List.mem_append_right _ (List.mem_append_right _ (List.mem_append_right _ (List.mem_append_right _ (List.mem_append_right _ (List.mem_of_getElem? h))))), hg⟩
theorem lp_sl {w : Cond} (i : Nat) (h : (k2_sels lw_privs)[i]? = some w) (hg : goodWord w = true) : w ∈ lp_BW := List.mem_filter.mpr ⟨List.mem_append_left _ (List.mem_of_getElem? h), hg⟩
theorem lp_good : ∀ w ∈ lp_BW, (w.onTables && w.keeps) = true ∨ ∃ ty, w = .arrayClass ty := fun w h => good_of_word (List.mem_filter.mp h).2
theorem bw_0 : Cond.initialized "LeasedPagesLaw" ∈ lp_BW := lp_t1 0 rfl rfl
theorem bw_1 : Cond.initialized "LeasedPages" ∈ lp_BW := lp_t1 1 rfl rfl
theorem bw_2 : Cond.initialized "java/lang/Math" ∈ lp_BW := lp_t1 2 rfl rfl
theorem bw_3 : Cond.initialized "LeasedPages$Network" ∈ lp_BW := lp_t1 3 rfl rfl
theorem bw_4 : Cond.initialized "LeasedPages$Server" ∈ lp_BW := lp_t1 4 rfl rfl
theorem bw_5 : Cond.initialized "LeasedPages$Line" ∈ lp_BW := lp_t1 5 rfl rfl
theorem bw_6 : Cond.initialized "LeasedPages$Client" ∈ lp_BW := lp_t1 6 rfl rfl
theorem bw_7 : Cond.initialized "LeasedPages$Copy" ∈ lp_BW := lp_t1 7 rfl rfl
theorem bw_8 : Cond.initialized "LeasedPagesModel" ∈ lp_BW := lp_t1 8 rfl rfl
theorem bw_9 : Cond.initialized "LeasedPages$Message" ∈ lp_BW := lp_t1 9 rfl rfl
theorem bw_10 : Cond.initialized "LeasedPages$Request" ∈ lp_BW := lp_t1 10 rfl rfl
theorem bw_11 : Cond.initialized "LeasedPages$Write" ∈ lp_BW := lp_t1 11 rfl rfl
theorem bw_12 : Cond.initialized "LeasedPages$Reply" ∈ lp_BW := lp_t1 12 rfl rfl
theorem bw_13 : Cond.initialized "java/lang/System" ∈ lp_BW := lp_t1 13 rfl rfl
theorem bw_14 : Cond.initialized "java/util/Arrays" ∈ lp_BW := lp_t1 14 rfl rfl
theorem bw_15 : Cond.classLink "LeasedPagesLaw" 7 "LeasedPages" ∈ lp_BW := lp_t1 15 rfl rfl
theorem bw_16 : Cond.instantiable "LeasedPages" 3 ∈ lp_BW := lp_t1 16 rfl rfl
theorem bw_17 : Cond.methodLink "LeasedPagesLaw" 15 ⟨"LeasedPages", "<init>", "(I)V"⟩ ∈ lp_BW := lp_t1 17 rfl rfl
theorem bw_18 : Cond.instanceMethod ⟨"LeasedPages", "<init>", "(I)V"⟩ ∈ lp_BW := lp_t1 18 rfl rfl
theorem bw_19 : Cond.code ⟨"LeasedPages", "<init>", "(I)V"⟩ prog_1_method_1_code 4 (Option.none : Option FieldType) ∈ lp_BW := lp_t1 19 rfl rfl
theorem bw_20 : Cond.methodLink "LeasedPages" 1 ⟨"java/lang/Object", "<init>", "()V"⟩ ∈ lp_BW := lp_t1 20 rfl rfl
theorem bw_21 : Cond.instanceMethod ⟨"java/lang/Object", "<init>", "()V"⟩ ∈ lp_BW := lp_t1 21 rfl rfl
theorem bw_22 : Cond.code ⟨"java/lang/Object", "<init>", "()V"⟩ object_method_1_code 1 (Option.none : Option FieldType) ∈ lp_BW := lp_t1 22 rfl rfl
theorem bw_23 : Cond.methodLink "LeasedPages" 9 ⟨"java/lang/Math", "min", "(II)I"⟩ ∈ lp_BW := lp_t1 23 rfl rfl
theorem bw_24 : Cond.static ⟨"java/lang/Math", "min", "(II)I"⟩ ∈ lp_BW := lp_t1 24 rfl rfl
theorem bw_25 : Cond.code ⟨"java/lang/Math", "min", "(II)I"⟩ prog_14_method_69_code 2 (Option.some FieldType.int) ∈ lp_BW := lp_t1 25 rfl rfl
theorem bw_26 : Cond.methodLink "LeasedPages" 15 ⟨"java/lang/Math", "max", "(II)I"⟩ ∈ lp_BW := lp_t1 26 rfl rfl
theorem bw_27 : Cond.static ⟨"java/lang/Math", "max", "(II)I"⟩ ∈ lp_BW := lp_t1 27 rfl rfl
theorem bw_28 : Cond.code ⟨"java/lang/Math", "max", "(II)I"⟩ prog_14_method_65_code 2 (Option.some FieldType.int) ∈ lp_BW := lp_t1 28 rfl rfl
theorem bw_29 : Cond.classLink "LeasedPages" 18 "LeasedPages$Network" ∈ lp_BW := lp_t1 29 rfl rfl
theorem bw_30 : Cond.instantiable "LeasedPages$Network" 2 ∈ lp_BW := lp_t1 30 rfl rfl
theorem bw_32 : Cond.instanceMethod ⟨"LeasedPages$Network", "<init>", "()V"⟩ ∈ lp_BW := lp_t1 32 rfl rfl
theorem bw_33 : Cond.code ⟨"LeasedPages$Network", "<init>", "()V"⟩ prog_6_method_1_code 1 (Option.none : Option FieldType) ∈ lp_BW := lp_t1 33 rfl rfl
theorem bw_34 : Cond.methodLink "LeasedPages$Network" 3 ⟨"java/lang/Object", "<init>", "()V"⟩ ∈ lp_BW := lp_t1 34 rfl rfl
theorem bw_35 : Cond.classLink "LeasedPages$Network" 9 "LeasedPages$Message" ∈ lp_BW := lp_t1 35 rfl rfl
theorem bw_37 : Cond.fieldLink "LeasedPages$Network" 11 "LeasedPages$Network" "list" "[LLeasedPages$Message;" ∈ lp_BW := lp_t1 37 rfl rfl
theorem bw_38 : Cond.fieldLink "LeasedPages$Network" 17 "LeasedPages$Network" "count" "I" ∈ lp_BW := lp_t1 38 rfl rfl
theorem bw_40 : Cond.laysFinal "LeasedPages$Network" "LeasedPages$Network" "list" "[LLeasedPages$Message;" ∈ lp_BW := lp_t1 40 rfl rfl
theorem bw_42 : Cond.lays "LeasedPages$Network" "LeasedPages$Network" "count" "I" ∈ lp_BW := lp_t1 42 rfl rfl
theorem bw_45 : Cond.classLink "LeasedPages" 25 "LeasedPages$Server" ∈ lp_BW := lp_t1 45 rfl rfl
theorem bw_46 : Cond.instantiable "LeasedPages$Server" 11 ∈ lp_BW := lp_t1 46 rfl rfl
theorem bw_47 : Cond.methodLink "LeasedPages" 27 ⟨"LeasedPages$Server", "<init>", "(LLeasedPages$Network;I)V"⟩ ∈ lp_BW := lp_t1 47 rfl rfl
theorem bw_48 : Cond.instanceMethod ⟨"LeasedPages$Server", "<init>", "(LLeasedPages$Network;I)V"⟩ ∈ lp_BW := lp_t1 48 rfl rfl
theorem bw_49 : Cond.code ⟨"LeasedPages$Server", "<init>", "(LLeasedPages$Network;I)V"⟩ prog_9_method_1_code 4 (Option.none : Option FieldType) ∈ lp_BW := lp_t1 49 rfl rfl
theorem bw_50 : Cond.methodLink "LeasedPages$Server" 3 ⟨"java/lang/Object", "<init>", "()V"⟩ ∈ lp_BW := lp_t1 50 rfl rfl
theorem bw_51 : Cond.classLink "LeasedPages$Server" 9 "[[I" ∈ lp_BW := lp_t1 51 rfl rfl
theorem bw_53 : Cond.classLink "LeasedPages$Server" 16 "LeasedPages$Reply" ∈ lp_BW := lp_t1 53 rfl rfl
theorem bw_55 : Cond.classLink "LeasedPages$Server" 28 "LeasedPages$Line" ∈ lp_BW := lp_t1 55 rfl rfl
theorem bw_57 : Cond.instantiable "LeasedPages$Line" 2 ∈ lp_BW := lp_t1 57 rfl rfl
theorem bw_59 : Cond.instanceMethod ⟨"LeasedPages$Line", "<init>", "()V"⟩ ∈ lp_BW := lp_t1 59 rfl rfl
theorem bw_60 : Cond.code ⟨"LeasedPages$Line", "<init>", "()V"⟩ prog_4_method_1_code 1 (Option.none : Option FieldType) ∈ lp_BW := lp_t1 60 rfl rfl
theorem bw_61 : Cond.methodLink "LeasedPages$Line" 3 ⟨"java/lang/Object", "<init>", "()V"⟩ ∈ lp_BW := lp_t1 61 rfl rfl
theorem bw_62 : Cond.classLink "LeasedPages$Line" 9 "LeasedPages$Request" ∈ lp_BW := lp_t1 62 rfl rfl
theorem bw_64 : Cond.fieldLink "LeasedPages$Line" 11 "LeasedPages$Line" "requests" "[LLeasedPages$Request;" ∈ lp_BW := lp_t1 64 rfl rfl
theorem bw_65 : Cond.fieldLink "LeasedPages$Line" 17 "LeasedPages$Line" "size" "I" ∈ lp_BW := lp_t1 65 rfl rfl
theorem bw_68 : Cond.laysFinal "LeasedPages$Line" "LeasedPages$Line" "requests" "[LLeasedPages$Request;" ∈ lp_BW := lp_t1 68 rfl rfl
theorem bw_70 : Cond.lays "LeasedPages$Line" "LeasedPages$Line" "size" "I" ∈ lp_BW := lp_t1 70 rfl rfl
theorem bw_73 : Cond.arrayClass FieldType.int ∈ lp_BW := lp_t1 73 rfl rfl
theorem bw_74 : Cond.fieldLink "LeasedPages$Server" 48 "LeasedPages$Server" "network" "LLeasedPages$Network;" ∈ lp_BW := lp_t1 74 rfl rfl
theorem bw_75 : Cond.fieldLink "LeasedPages$Server" 52 "LeasedPages$Server" "length" "I" ∈ lp_BW := lp_t1 75 rfl rfl
theorem bw_76 : Cond.fieldLink "LeasedPages$Server" 11 "LeasedPages$Server" "pages" "[[I" ∈ lp_BW := lp_t1 76 rfl rfl
theorem bw_78 : Cond.fieldLink "LeasedPages$Server" 18 "LeasedPages$Server" "latestReplies" "[LLeasedPages$Reply;" ∈ lp_BW := lp_t1 78 rfl rfl
theorem bw_79 : Cond.fieldLink "LeasedPages$Server" 22 "LeasedPages$Server" "modes" "[[I" ∈ lp_BW := lp_t1 79 rfl rfl
theorem bw_80 : Cond.fieldLink "LeasedPages$Server" 25 "LeasedPages$Server" "ends" "[[I" ∈ lp_BW := lp_t1 80 rfl rfl
theorem bw_81 : Cond.fieldLink "LeasedPages$Server" 30 "LeasedPages$Server" "lines" "[LLeasedPages$Line;" ∈ lp_BW := lp_t1 81 rfl rfl
theorem bw_83 : Cond.fieldLink "LeasedPages$Server" 34 "LeasedPages$Server" "up" "Z" ∈ lp_BW := lp_t1 83 rfl rfl
theorem bw_85 : Cond.fieldLink "LeasedPages$Server" 38 "LeasedPages$Server" "now" "I" ∈ lp_BW := lp_t1 85 rfl rfl
theorem bw_87 : Cond.fieldLink "LeasedPages$Server" 42 "LeasedPages$Server" "inGrace" "Z" ∈ lp_BW := lp_t1 87 rfl rfl
theorem bw_88 : Cond.fieldLink "LeasedPages$Server" 45 "LeasedPages$Server" "graceEnd" "I" ∈ lp_BW := lp_t1 88 rfl rfl
theorem bw_89 : Cond.laysFinal "LeasedPages$Server" "LeasedPages$Server" "network" "LLeasedPages$Network;" ∈ lp_BW := lp_t1 89 rfl rfl
theorem bw_91 : Cond.laysFinal "LeasedPages$Server" "LeasedPages$Server" "length" "I" ∈ lp_BW := lp_t1 91 rfl rfl
theorem bw_93 : Cond.laysFinal "LeasedPages$Server" "LeasedPages$Server" "pages" "[[I" ∈ lp_BW := lp_t1 93 rfl rfl
theorem bw_95 : Cond.laysFinal "LeasedPages$Server" "LeasedPages$Server" "latestReplies" "[LLeasedPages$Reply;" ∈ lp_BW := lp_t1 95 rfl rfl
theorem bw_97 : Cond.laysFinal "LeasedPages$Server" "LeasedPages$Server" "modes" "[[I" ∈ lp_BW := lp_t1 97 rfl rfl
theorem bw_99 : Cond.laysFinal "LeasedPages$Server" "LeasedPages$Server" "ends" "[[I" ∈ lp_BW := lp_t1 99 rfl rfl
theorem bw_101 : Cond.laysFinal "LeasedPages$Server" "LeasedPages$Server" "lines" "[LLeasedPages$Line;" ∈ lp_BW := lp_t1 101 rfl rfl
theorem bw_103 : Cond.lays "LeasedPages$Server" "LeasedPages$Server" "up" "Z" ∈ lp_BW := lp_t1 103 rfl rfl
theorem bw_105 : Cond.lays "LeasedPages$Server" "LeasedPages$Server" "now" "I" ∈ lp_BW := lp_t1 105 rfl rfl
theorem bw_107 : Cond.lays "LeasedPages$Server" "LeasedPages$Server" "inGrace" "Z" ∈ lp_BW := lp_t1 107 rfl rfl
theorem bw_109 : Cond.lays "LeasedPages$Server" "LeasedPages$Server" "graceEnd" "I" ∈ lp_BW := lp_t1 109 rfl rfl
theorem bw_112 : Cond.classLink "LeasedPages" 34 "LeasedPages$Client" ∈ lp_BW := lp_t1 112 rfl rfl
theorem bw_114 : Cond.instantiable "LeasedPages$Client" 11 ∈ lp_BW := lp_t1 114 rfl rfl
theorem bw_115 : Cond.methodLink "LeasedPages" 40 ⟨"LeasedPages$Client", "<init>", "(IILLeasedPages$Network;)V"⟩ ∈ lp_BW := lp_t1 115 rfl rfl
theorem bw_116 : Cond.instanceMethod ⟨"LeasedPages$Client", "<init>", "(IILLeasedPages$Network;)V"⟩ ∈ lp_BW := lp_t1 116 rfl rfl
theorem bw_117 : Cond.code ⟨"LeasedPages$Client", "<init>", "(IILLeasedPages$Network;)V"⟩ prog_2_method_1_code 5 (Option.none : Option FieldType) ∈ lp_BW := lp_t1 117 rfl rfl
theorem bw_118 : Cond.methodLink "LeasedPages$Client" 3 ⟨"java/lang/Object", "<init>", "()V"⟩ ∈ lp_BW := lp_t1 118 rfl rfl
theorem bw_119 : Cond.classLink "LeasedPages$Client" 9 "LeasedPages$Copy" ∈ lp_BW := lp_t1 119 rfl rfl
theorem bw_121 : Cond.classLink "LeasedPages$Client" 17 "LeasedPages$Write" ∈ lp_BW := lp_t1 121 rfl rfl
theorem bw_123 : Cond.instantiable "LeasedPages$Copy" 5 ∈ lp_BW := lp_t1 123 rfl rfl
theorem bw_125 : Cond.instanceMethod ⟨"LeasedPages$Copy", "<init>", "()V"⟩ ∈ lp_BW := lp_t1 125 rfl rfl
theorem bw_126 : Cond.code ⟨"LeasedPages$Copy", "<init>", "()V"⟩ prog_3_method_1_code 1 (Option.none : Option FieldType) ∈ lp_BW := lp_t1 126 rfl rfl
theorem bw_127 : Cond.methodLink "LeasedPages$Copy" 3 ⟨"java/lang/Object", "<init>", "()V"⟩ ∈ lp_BW := lp_t1 127 rfl rfl
theorem bw_128 : Cond.fieldLink "LeasedPages$Copy" 9 "LeasedPages$Copy" "pages" "[I" ∈ lp_BW := lp_t1 128 rfl rfl
theorem bw_130 : Cond.fieldLink "LeasedPages$Copy" 15 "LeasedPages$Copy" "mode" "I" ∈ lp_BW := lp_t1 130 rfl rfl
theorem bw_132 : Cond.fieldLink "LeasedPages$Copy" 19 "LeasedPages$Copy" "validUntil" "I" ∈ lp_BW := lp_t1 132 rfl rfl
theorem bw_134 : Cond.fieldLink "LeasedPages$Copy" 22 "LeasedPages$Copy" "recalled" "Z" ∈ lp_BW := lp_t1 134 rfl rfl
theorem bw_136 : Cond.fieldLink "LeasedPages$Copy" 26 "LeasedPages$Copy" "lost" "Z" ∈ lp_BW := lp_t1 136 rfl rfl
theorem bw_138 : Cond.laysFinal "LeasedPages$Copy" "LeasedPages$Copy" "pages" "[I" ∈ lp_BW := lp_t1 138 rfl rfl
theorem bw_140 : Cond.lays "LeasedPages$Copy" "LeasedPages$Copy" "mode" "I" ∈ lp_BW := lp_t1 140 rfl rfl
theorem bw_142 : Cond.lays "LeasedPages$Copy" "LeasedPages$Copy" "validUntil" "I" ∈ lp_BW := lp_t1 142 rfl rfl
theorem bw_144 : Cond.lays "LeasedPages$Copy" "LeasedPages$Copy" "recalled" "Z" ∈ lp_BW := lp_t1 144 rfl rfl
theorem bw_146 : Cond.lays "LeasedPages$Copy" "LeasedPages$Copy" "lost" "Z" ∈ lp_BW := lp_t1 146 rfl rfl
theorem bw_149 : Cond.fieldLink "LeasedPages$Client" 44 "LeasedPages$Client" "id" "I" ∈ lp_BW := lp_t1 149 rfl rfl
theorem bw_150 : Cond.fieldLink "LeasedPages$Client" 47 "LeasedPages$Client" "term" "I" ∈ lp_BW := lp_t1 150 rfl rfl
theorem bw_151 : Cond.fieldLink "LeasedPages$Client" 50 "LeasedPages$Client" "network" "LLeasedPages$Network;" ∈ lp_BW := lp_t1 151 rfl rfl
theorem bw_152 : Cond.fieldLink "LeasedPages$Client" 11 "LeasedPages$Client" "copies" "[LLeasedPages$Copy;" ∈ lp_BW := lp_t1 152 rfl rfl
theorem bw_153 : Cond.fieldLink "LeasedPages$Client" 19 "LeasedPages$Client" "writes" "[LLeasedPages$Write;" ∈ lp_BW := lp_t1 153 rfl rfl
theorem bw_154 : Cond.fieldLink "LeasedPages$Client" 23 "LeasedPages$Client" "writeCount" "I" ∈ lp_BW := lp_t1 154 rfl rfl
theorem bw_156 : Cond.fieldLink "LeasedPages$Client" 27 "LeasedPages$Client" "up" "Z" ∈ lp_BW := lp_t1 156 rfl rfl
theorem bw_158 : Cond.fieldLink "LeasedPages$Client" 31 "LeasedPages$Client" "now" "I" ∈ lp_BW := lp_t1 158 rfl rfl
theorem bw_160 : Cond.fieldLink "LeasedPages$Client" 34 "LeasedPages$Client" "latestNumber" "I" ∈ lp_BW := lp_t1 160 rfl rfl
theorem bw_161 : Cond.fieldLink "LeasedPages$Client" 37 "LeasedPages$Client" "open" "LLeasedPages$Request;" ∈ lp_BW := lp_t1 161 rfl rfl
theorem bw_163 : Cond.fieldLink "LeasedPages$Client" 41 "LeasedPages$Client" "openSince" "I" ∈ lp_BW := lp_t1 163 rfl rfl
theorem bw_164 : Cond.laysFinal "LeasedPages$Client" "LeasedPages$Client" "id" "I" ∈ lp_BW := lp_t1 164 rfl rfl
theorem bw_166 : Cond.laysFinal "LeasedPages$Client" "LeasedPages$Client" "term" "I" ∈ lp_BW := lp_t1 166 rfl rfl
theorem bw_168 : Cond.laysFinal "LeasedPages$Client" "LeasedPages$Client" "network" "LLeasedPages$Network;" ∈ lp_BW := lp_t1 168 rfl rfl
theorem bw_170 : Cond.laysFinal "LeasedPages$Client" "LeasedPages$Client" "copies" "[LLeasedPages$Copy;" ∈ lp_BW := lp_t1 170 rfl rfl
theorem bw_172 : Cond.laysFinal "LeasedPages$Client" "LeasedPages$Client" "writes" "[LLeasedPages$Write;" ∈ lp_BW := lp_t1 172 rfl rfl
theorem bw_174 : Cond.lays "LeasedPages$Client" "LeasedPages$Client" "writeCount" "I" ∈ lp_BW := lp_t1 174 rfl rfl
theorem bw_176 : Cond.lays "LeasedPages$Client" "LeasedPages$Client" "up" "Z" ∈ lp_BW := lp_t1 176 rfl rfl
theorem bw_178 : Cond.lays "LeasedPages$Client" "LeasedPages$Client" "now" "I" ∈ lp_BW := lp_t1 178 rfl rfl
theorem bw_180 : Cond.lays "LeasedPages$Client" "LeasedPages$Client" "latestNumber" "I" ∈ lp_BW := lp_t1 180 rfl rfl
theorem bw_182 : Cond.lays "LeasedPages$Client" "LeasedPages$Client" "open" "LLeasedPages$Request;" ∈ lp_BW := lp_t1 182 rfl rfl
theorem bw_184 : Cond.lays "LeasedPages$Client" "LeasedPages$Client" "openSince" "I" ∈ lp_BW := lp_t1 184 rfl rfl
theorem bw_187 : Cond.fieldLink "LeasedPages" 21 "LeasedPages" "network" "LLeasedPages$Network;" ∈ lp_BW := lp_t1 187 rfl rfl
theorem bw_188 : Cond.fieldLink "LeasedPages" 30 "LeasedPages" "server" "LLeasedPages$Server;" ∈ lp_BW := lp_t1 188 rfl rfl
theorem bw_189 : Cond.fieldLink "LeasedPages" 36 "LeasedPages" "clients" "[LLeasedPages$Client;" ∈ lp_BW := lp_t1 189 rfl rfl
theorem bw_190 : Cond.laysFinal "LeasedPages" "LeasedPages" "network" "LLeasedPages$Network;" ∈ lp_BW := lp_t1 190 rfl rfl
theorem bw_192 : Cond.laysFinal "LeasedPages" "LeasedPages" "server" "LLeasedPages$Server;" ∈ lp_BW := lp_t1 192 rfl rfl
theorem bw_194 : Cond.laysFinal "LeasedPages" "LeasedPages" "clients" "[LLeasedPages$Client;" ∈ lp_BW := lp_t1 194 rfl rfl
theorem bw_197 : Cond.methodLink "LeasedPagesLaw" 21 ⟨"LeasedPages", "acquire", "(III)I"⟩ ∈ lp_BW := lp_t1 197 rfl rfl
theorem bw_198 : Cond.instanceMethod ⟨"LeasedPages", "acquire", "(III)I"⟩ ∈ lp_BW := lp_t1 198 rfl rfl
theorem bw_199 : Cond.selects "LeasedPages" ⟨"LeasedPages", "acquire", "(III)I"⟩ ⟨"LeasedPages", "acquire", "(III)I"⟩ ∈ lp_BW := lp_t1 199 rfl rfl
theorem bw_200 : Cond.code ⟨"LeasedPages", "acquire", "(III)I"⟩ prog_1_method_2_code 5 (Option.some FieldType.int) ∈ lp_BW := lp_t1 200 rfl rfl
theorem bw_201 : Cond.methodLink "LeasedPages" 43 ⟨"LeasedPages", "clientThatIsUp", "(I)LLeasedPages$Client;"⟩ ∈ lp_BW := lp_t1 201 rfl rfl
theorem bw_203 : Cond.instanceMethod ⟨"LeasedPages", "clientThatIsUp", "(I)LLeasedPages$Client;"⟩ ∈ lp_BW := lp_t1 203 rfl rfl
theorem bw_204 : Cond.code ⟨"LeasedPages", "clientThatIsUp", "(I)LLeasedPages$Client;"⟩ prog_1_method_27_code 2 (Option.some (FieldType.object "LeasedPages$Client")) ∈ lp_BW := lp_t1 204 rfl rfl
theorem bw_205 : Cond.methodLink "LeasedPages" 158 ⟨"LeasedPages", "isClient", "(I)Z"⟩ ∈ lp_BW := lp_t1 205 rfl rfl
theorem bw_206 : Cond.static ⟨"LeasedPages", "isClient", "(I)Z"⟩ ∈ lp_BW := lp_t1 206 rfl rfl
theorem bw_207 : Cond.code ⟨"LeasedPages", "isClient", "(I)Z"⟩ prog_1_method_22_code 1 (Option.some FieldType.boolean) ∈ lp_BW := lp_t1 207 rfl rfl
theorem bw_208 : Cond.methodLink "LeasedPages" 47 ⟨"LeasedPages", "isFile", "(I)Z"⟩ ∈ lp_BW := lp_t1 208 rfl rfl
theorem bw_209 : Cond.static ⟨"LeasedPages", "isFile", "(I)Z"⟩ ∈ lp_BW := lp_t1 209 rfl rfl
theorem bw_210 : Cond.code ⟨"LeasedPages", "isFile", "(I)Z"⟩ prog_1_method_24_code 1 (Option.some FieldType.boolean) ∈ lp_BW := lp_t1 210 rfl rfl
theorem bw_211 : Cond.methodLink "LeasedPages" 55 ⟨"LeasedPages$Client", "askForLease", "(II)I"⟩ ∈ lp_BW := lp_t1 211 rfl rfl
theorem bw_212 : Cond.instanceMethod ⟨"LeasedPages$Client", "askForLease", "(II)I"⟩ ∈ lp_BW := lp_t1 212 rfl rfl
theorem bw_213 : Cond.selects "LeasedPages$Client" ⟨"LeasedPages$Client", "askForLease", "(II)I"⟩ ⟨"LeasedPages$Client", "askForLease", "(II)I"⟩ ∈ lp_BW := lp_t1 213 rfl rfl
theorem bw_214 : Cond.code ⟨"LeasedPages$Client", "askForLease", "(II)I"⟩ prog_2_method_3_code 5 (Option.some FieldType.int) ∈ lp_BW := lp_t1 214 rfl rfl
theorem bw_215 : Cond.methodLink "LeasedPages$Client" 62 ⟨"LeasedPages$Copy", "takeLostMark", "()Z"⟩ ∈ lp_BW := lp_t1 215 rfl rfl
theorem bw_216 : Cond.instanceMethod ⟨"LeasedPages$Copy", "takeLostMark", "()Z"⟩ ∈ lp_BW := lp_t1 216 rfl rfl
theorem bw_217 : Cond.selects "LeasedPages$Copy" ⟨"LeasedPages$Copy", "takeLostMark", "()Z"⟩ ⟨"LeasedPages$Copy", "takeLostMark", "()Z"⟩ ∈ lp_BW := lp_t1 217 rfl rfl
theorem bw_218 : Cond.code ⟨"LeasedPages$Copy", "takeLostMark", "()Z"⟩ prog_3_method_3_code 2 (Option.some FieldType.boolean) ∈ lp_BW := lp_t1 218 rfl rfl
theorem bw_219 : Cond.methodLink "LeasedPages$Client" 66 ⟨"LeasedPages$Copy", "allows", "(II)Z"⟩ ∈ lp_BW := lp_t1 219 rfl rfl
theorem bw_220 : Cond.instanceMethod ⟨"LeasedPages$Copy", "allows", "(II)Z"⟩ ∈ lp_BW := lp_t1 220 rfl rfl
theorem bw_221 : Cond.selects "LeasedPages$Copy" ⟨"LeasedPages$Copy", "allows", "(II)Z"⟩ ⟨"LeasedPages$Copy", "allows", "(II)Z"⟩ ∈ lp_BW := lp_t1 221 rfl rfl
theorem bw_222 : Cond.code ⟨"LeasedPages$Copy", "allows", "(II)Z"⟩ prog_3_method_2_code 3 (Option.some FieldType.boolean) ∈ lp_BW := lp_t1 222 rfl rfl
theorem bw_223 : Cond.methodLink "LeasedPages$Client" 70 ⟨"LeasedPages$Client", "hasWritesTo", "(I)Z"⟩ ∈ lp_BW := lp_t1 223 rfl rfl
theorem bw_224 : Cond.instanceMethod ⟨"LeasedPages$Client", "hasWritesTo", "(I)Z"⟩ ∈ lp_BW := lp_t1 224 rfl rfl
theorem bw_225 : Cond.selects "LeasedPages$Client" ⟨"LeasedPages$Client", "hasWritesTo", "(I)Z"⟩ ⟨"LeasedPages$Client", "hasWritesTo", "(I)Z"⟩ ∈ lp_BW := lp_t1 225 rfl rfl
theorem bw_226 : Cond.code ⟨"LeasedPages$Client", "hasWritesTo", "(I)Z"⟩ prog_2_method_11_code 3 (Option.some FieldType.boolean) ∈ lp_BW := lp_t1 226 rfl rfl
theorem bw_227 : Cond.methodLink "LeasedPages$Client" 74 ⟨"LeasedPages$Request", "forLease", "(IIIIZ)LLeasedPages$Request;"⟩ ∈ lp_BW := lp_t1 227 rfl rfl
theorem bw_228 : Cond.static ⟨"LeasedPages$Request", "forLease", "(IIIIZ)LLeasedPages$Request;"⟩ ∈ lp_BW := lp_t1 228 rfl rfl
theorem bw_229 : Cond.code ⟨"LeasedPages$Request", "forLease", "(IIIIZ)LLeasedPages$Request;"⟩ prog_8_method_2_code 6 (Option.some (FieldType.object "LeasedPages$Request")) ∈ lp_BW := lp_t1 229 rfl rfl
theorem bw_230 : Cond.classLink "LeasedPages$Request" 9 "LeasedPages$Request" ∈ lp_BW := lp_t1 230 rfl rfl
theorem bw_231 : Cond.instantiable "LeasedPages$Request" 8 ∈ lp_BW := lp_t1 231 rfl rfl
theorem bw_232 : Cond.methodLink "LeasedPages$Request" 11 ⟨"LeasedPages$Request", "<init>", "(IIII)V"⟩ ∈ lp_BW := lp_t1 232 rfl rfl
theorem bw_233 : Cond.instanceMethod ⟨"LeasedPages$Request", "<init>", "(IIII)V"⟩ ∈ lp_BW := lp_t1 233 rfl rfl
theorem bw_234 : Cond.code ⟨"LeasedPages$Request", "<init>", "(IIII)V"⟩ prog_8_method_1_code 5 (Option.none : Option FieldType) ∈ lp_BW := lp_t1 234 rfl rfl
theorem bw_235 : Cond.methodLink "LeasedPages$Request" 3 ⟨"LeasedPages$Message", "<init>", "(IIII)V"⟩ ∈ lp_BW := lp_t1 235 rfl rfl
theorem bw_236 : Cond.instanceMethod ⟨"LeasedPages$Message", "<init>", "(IIII)V"⟩ ∈ lp_BW := lp_t1 236 rfl rfl
theorem bw_237 : Cond.code ⟨"LeasedPages$Message", "<init>", "(IIII)V"⟩ prog_5_method_1_code 5 (Option.none : Option FieldType) ∈ lp_BW := lp_t1 237 rfl rfl
theorem bw_238 : Cond.methodLink "LeasedPages$Message" 1 ⟨"java/lang/Object", "<init>", "()V"⟩ ∈ lp_BW := lp_t1 238 rfl rfl
theorem bw_240 : Cond.fieldLink "LeasedPages$Request" 12 "LeasedPages$Request" "mode" "I" ∈ lp_BW := lp_t2 0 rfl rfl
theorem bw_242 : Cond.fieldLink "LeasedPages$Request" 16 "LeasedPages$Request" "claim" "Z" ∈ lp_BW := lp_t2 2 rfl rfl
theorem bw_244 : Cond.fieldLink "LeasedPages$Request" 28 "LeasedPages$Request" "page" "I" ∈ lp_BW := lp_t2 4 rfl rfl
theorem bw_246 : Cond.fieldLink "LeasedPages$Request" 32 "LeasedPages$Request" "value" "I" ∈ lp_BW := lp_t2 6 rfl rfl
theorem bw_248 : Cond.fieldLink "LeasedPages$Message" 7 "LeasedPages$Message" "kind" "I" ∈ lp_BW := lp_t2 8 rfl rfl
theorem bw_249 : Cond.fieldLink "LeasedPages$Server" 98 "LeasedPages$Request" "kind" "I" ∈ lp_BW := lp_t2 9 rfl rfl
theorem bw_250 : Cond.sameField "LeasedPages$Request" "LeasedPages$Message" "kind" "I" ∈ lp_BW := lp_t2 10 rfl rfl
theorem bw_251 : Cond.fieldLink "LeasedPages$Client" 123 "LeasedPages$Request" "kind" "I" ∈ lp_BW := lp_t2 11 rfl rfl
theorem bw_252 : Cond.fieldLink "LeasedPages$Client" 126 "LeasedPages$Reply" "kind" "I" ∈ lp_BW := lp_t2 12 rfl rfl
theorem bw_253 : Cond.sameField "LeasedPages$Reply" "LeasedPages$Message" "kind" "I" ∈ lp_BW := lp_t2 13 rfl rfl
theorem bw_254 : Cond.fieldLink "LeasedPages$Reply" 1 "LeasedPages$Request" "client" "I" ∈ lp_BW := lp_t2 14 rfl rfl
theorem bw_255 : Cond.sameField "LeasedPages$Request" "LeasedPages$Message" "client" "I" ∈ lp_BW := lp_t2 15 rfl rfl
theorem bw_256 : Cond.fieldLink "LeasedPages$Message" 13 "LeasedPages$Message" "client" "I" ∈ lp_BW := lp_t2 16 rfl rfl
theorem bw_257 : Cond.fieldLink "LeasedPages$Server" 75 "LeasedPages$Request" "client" "I" ∈ lp_BW := lp_t2 17 rfl rfl
theorem bw_258 : Cond.fieldLink "LeasedPages$Line" 25 "LeasedPages$Request" "client" "I" ∈ lp_BW := lp_t2 18 rfl rfl
theorem bw_259 : Cond.fieldLink "LeasedPages" 109 "LeasedPages$Reply" "client" "I" ∈ lp_BW := lp_t2 19 rfl rfl
theorem bw_260 : Cond.sameField "LeasedPages$Reply" "LeasedPages$Message" "client" "I" ∈ lp_BW := lp_t2 20 rfl rfl
theorem bw_261 : Cond.fieldLink "LeasedPages" 116 "LeasedPages$Message" "client" "I" ∈ lp_BW := lp_t2 21 rfl rfl
theorem bw_262 : Cond.fieldLink "LeasedPages$Server" 154 "LeasedPages$Reply" "client" "I" ∈ lp_BW := lp_t2 22 rfl rfl
theorem bw_263 : Cond.fieldLink "LeasedPages$Reply" 7 "LeasedPages$Request" "file" "I" ∈ lp_BW := lp_t2 23 rfl rfl
theorem bw_264 : Cond.sameField "LeasedPages$Request" "LeasedPages$Message" "file" "I" ∈ lp_BW := lp_t2 24 rfl rfl
theorem bw_265 : Cond.fieldLink "LeasedPages$Message" 16 "LeasedPages$Message" "file" "I" ∈ lp_BW := lp_t2 25 rfl rfl
theorem bw_266 : Cond.fieldLink "LeasedPages$Server" 111 "LeasedPages$Request" "file" "I" ∈ lp_BW := lp_t2 26 rfl rfl
theorem bw_267 : Cond.fieldLink "LeasedPages" 117 "LeasedPages$Message" "file" "I" ∈ lp_BW := lp_t2 27 rfl rfl
theorem bw_268 : Cond.fieldLink "LeasedPages$Client" 131 "LeasedPages$Reply" "file" "I" ∈ lp_BW := lp_t2 28 rfl rfl
theorem bw_269 : Cond.sameField "LeasedPages$Reply" "LeasedPages$Message" "file" "I" ∈ lp_BW := lp_t2 29 rfl rfl
theorem bw_270 : Cond.fieldLink "LeasedPages$Reply" 10 "LeasedPages$Request" "number" "I" ∈ lp_BW := lp_t2 30 rfl rfl
theorem bw_271 : Cond.sameField "LeasedPages$Request" "LeasedPages$Message" "number" "I" ∈ lp_BW := lp_t2 31 rfl rfl
theorem bw_272 : Cond.fieldLink "LeasedPages$Message" 19 "LeasedPages$Message" "number" "I" ∈ lp_BW := lp_t2 32 rfl rfl
theorem bw_273 : Cond.fieldLink "LeasedPages$Server" 80 "LeasedPages$Request" "number" "I" ∈ lp_BW := lp_t2 33 rfl rfl
theorem bw_274 : Cond.fieldLink "LeasedPages$Server" 83 "LeasedPages$Reply" "number" "I" ∈ lp_BW := lp_t2 34 rfl rfl
theorem bw_275 : Cond.sameField "LeasedPages$Reply" "LeasedPages$Message" "number" "I" ∈ lp_BW := lp_t2 35 rfl rfl
theorem bw_276 : Cond.fieldLink "LeasedPages$Client" 117 "LeasedPages$Request" "number" "I" ∈ lp_BW := lp_t2 36 rfl rfl
theorem bw_277 : Cond.fieldLink "LeasedPages$Client" 120 "LeasedPages$Reply" "number" "I" ∈ lp_BW := lp_t2 37 rfl rfl
theorem bw_278 : Cond.lays "LeasedPages$Request" "LeasedPages$Request" "mode" "I" ∈ lp_BW := lp_t2 38 rfl rfl
theorem bw_280 : Cond.lays "LeasedPages$Request" "LeasedPages$Request" "claim" "Z" ∈ lp_BW := lp_t2 40 rfl rfl
theorem bw_282 : Cond.lays "LeasedPages$Request" "LeasedPages$Request" "page" "I" ∈ lp_BW := lp_t2 42 rfl rfl
theorem bw_284 : Cond.lays "LeasedPages$Request" "LeasedPages$Request" "value" "I" ∈ lp_BW := lp_t2 44 rfl rfl
theorem bw_286 : Cond.laysFinal "LeasedPages$Request" "LeasedPages$Message" "kind" "I" ∈ lp_BW := lp_t2 46 rfl rfl
theorem bw_288 : Cond.laysFinal "LeasedPages$Request" "LeasedPages$Message" "client" "I" ∈ lp_BW := lp_t2 48 rfl rfl
theorem bw_290 : Cond.laysFinal "LeasedPages$Request" "LeasedPages$Message" "file" "I" ∈ lp_BW := lp_t2 50 rfl rfl
theorem bw_292 : Cond.laysFinal "LeasedPages$Request" "LeasedPages$Message" "number" "I" ∈ lp_BW := lp_t2 52 rfl rfl
theorem bw_295 : Cond.methodLink "LeasedPages$Client" 80 ⟨"LeasedPages$Client", "sendNew", "(LLeasedPages$Request;)I"⟩ ∈ lp_BW := lp_t2 55 rfl rfl
theorem bw_297 : Cond.instanceMethod ⟨"LeasedPages$Client", "sendNew", "(LLeasedPages$Request;)I"⟩ ∈ lp_BW := lp_t2 57 rfl rfl
theorem bw_298 : Cond.code ⟨"LeasedPages$Client", "sendNew", "(LLeasedPages$Request;)I"⟩ prog_2_method_14_code 2 (Option.some FieldType.int) ∈ lp_BW := lp_t2 58 rfl rfl
theorem bw_299 : Cond.methodLink "LeasedPages$Client" 111 ⟨"LeasedPages$Network", "send", "(LLeasedPages$Message;)Z"⟩ ∈ lp_BW := lp_t2 59 rfl rfl
theorem bw_300 : Cond.instanceMethod ⟨"LeasedPages$Network", "send", "(LLeasedPages$Message;)Z"⟩ ∈ lp_BW := lp_t2 60 rfl rfl
theorem bw_301 : Cond.selects "LeasedPages$Network" ⟨"LeasedPages$Network", "send", "(LLeasedPages$Message;)Z"⟩ ⟨"LeasedPages$Network", "send", "(LLeasedPages$Message;)Z"⟩ ∈ lp_BW := lp_t2 61 rfl rfl
theorem bw_302 : Cond.code ⟨"LeasedPages$Network", "send", "(LLeasedPages$Message;)Z"⟩ prog_6_method_2_code 2 (Option.some FieldType.boolean) ∈ lp_BW := lp_t2 62 rfl rfl
theorem bw_303 : Cond.methodLink "LeasedPagesLaw" 26 ⟨"LeasedPages", "read", "(IIII)I"⟩ ∈ lp_BW := lp_t2 63 rfl rfl
theorem bw_304 : Cond.instanceMethod ⟨"LeasedPages", "read", "(IIII)I"⟩ ∈ lp_BW := lp_t2 64 rfl rfl
theorem bw_305 : Cond.selects "LeasedPages" ⟨"LeasedPages", "read", "(IIII)I"⟩ ⟨"LeasedPages", "read", "(IIII)I"⟩ ∈ lp_BW := lp_t2 65 rfl rfl
theorem bw_306 : Cond.code ⟨"LeasedPages", "read", "(IIII)I"⟩ prog_1_method_3_code 6 (Option.some FieldType.int) ∈ lp_BW := lp_t2 66 rfl rfl
theorem bw_307 : Cond.methodLink "LeasedPages" 58 ⟨"LeasedPages", "isPage", "(I)Z"⟩ ∈ lp_BW := lp_t2 67 rfl rfl
theorem bw_308 : Cond.static ⟨"LeasedPages", "isPage", "(I)Z"⟩ ∈ lp_BW := lp_t2 68 rfl rfl
theorem bw_309 : Cond.code ⟨"LeasedPages", "isPage", "(I)Z"⟩ prog_1_method_25_code 1 (Option.some FieldType.boolean) ∈ lp_BW := lp_t2 69 rfl rfl
theorem bw_310 : Cond.methodLink "LeasedPages" 61 ⟨"LeasedPages$Client", "readPage", "(II)I"⟩ ∈ lp_BW := lp_t2 70 rfl rfl
theorem bw_311 : Cond.instanceMethod ⟨"LeasedPages$Client", "readPage", "(II)I"⟩ ∈ lp_BW := lp_t2 71 rfl rfl
theorem bw_312 : Cond.selects "LeasedPages$Client" ⟨"LeasedPages$Client", "readPage", "(II)I"⟩ ⟨"LeasedPages$Client", "readPage", "(II)I"⟩ ∈ lp_BW := lp_t2 72 rfl rfl
theorem bw_313 : Cond.code ⟨"LeasedPages$Client", "readPage", "(II)I"⟩ prog_2_method_4_code 4 (Option.some FieldType.int) ∈ lp_BW := lp_t2 73 rfl rfl
theorem bw_314 : Cond.methodLink "LeasedPages" 64 ⟨"LeasedPages$Client", "canRead", "(I)I"⟩ ∈ lp_BW := lp_t2 74 rfl rfl
theorem bw_315 : Cond.instanceMethod ⟨"LeasedPages$Client", "canRead", "(I)I"⟩ ∈ lp_BW := lp_t2 75 rfl rfl
theorem bw_316 : Cond.selects "LeasedPages$Client" ⟨"LeasedPages$Client", "canRead", "(I)I"⟩ ⟨"LeasedPages$Client", "canRead", "(I)I"⟩ ∈ lp_BW := lp_t2 76 rfl rfl
theorem bw_317 : Cond.code ⟨"LeasedPages$Client", "canRead", "(I)I"⟩ prog_2_method_5_code 2 (Option.some FieldType.int) ∈ lp_BW := lp_t2 77 rfl rfl
theorem bw_318 : Cond.methodLink "LeasedPagesLaw" 31 ⟨"LeasedPages", "write", "(IIII)I"⟩ ∈ lp_BW := lp_t2 78 rfl rfl
theorem bw_319 : Cond.instanceMethod ⟨"LeasedPages", "write", "(IIII)I"⟩ ∈ lp_BW := lp_t2 79 rfl rfl
theorem bw_320 : Cond.selects "LeasedPages" ⟨"LeasedPages", "write", "(IIII)I"⟩ ⟨"LeasedPages", "write", "(IIII)I"⟩ ∈ lp_BW := lp_t2 80 rfl rfl
theorem bw_321 : Cond.code ⟨"LeasedPages", "write", "(IIII)I"⟩ prog_1_method_4_code 6 (Option.some FieldType.int) ∈ lp_BW := lp_t2 81 rfl rfl
theorem bw_322 : Cond.methodLink "LeasedPages" 68 ⟨"LeasedPages$Client", "writePage", "(III)I"⟩ ∈ lp_BW := lp_t2 82 rfl rfl
theorem bw_323 : Cond.instanceMethod ⟨"LeasedPages$Client", "writePage", "(III)I"⟩ ∈ lp_BW := lp_t2 83 rfl rfl
theorem bw_324 : Cond.selects "LeasedPages$Client" ⟨"LeasedPages$Client", "writePage", "(III)I"⟩ ⟨"LeasedPages$Client", "writePage", "(III)I"⟩ ∈ lp_BW := lp_t2 84 rfl rfl
theorem bw_325 : Cond.code ⟨"LeasedPages$Client", "writePage", "(III)I"⟩ prog_2_method_6_code 5 (Option.some FieldType.int) ∈ lp_BW := lp_t2 85 rfl rfl
theorem bw_326 : Cond.instantiable "LeasedPages$Write" 3 ∈ lp_BW := lp_t2 86 rfl rfl
theorem bw_327 : Cond.methodLink "LeasedPages$Client" 91 ⟨"LeasedPages$Write", "<init>", "(III)V"⟩ ∈ lp_BW := lp_t2 87 rfl rfl
theorem bw_328 : Cond.instanceMethod ⟨"LeasedPages$Write", "<init>", "(III)V"⟩ ∈ lp_BW := lp_t2 88 rfl rfl
theorem bw_329 : Cond.code ⟨"LeasedPages$Write", "<init>", "(III)V"⟩ prog_10_method_1_code 4 (Option.none : Option FieldType) ∈ lp_BW := lp_t2 89 rfl rfl
theorem bw_330 : Cond.methodLink "LeasedPages$Write" 1 ⟨"java/lang/Object", "<init>", "()V"⟩ ∈ lp_BW := lp_t2 90 rfl rfl
theorem bw_331 : Cond.fieldLink "LeasedPages$Write" 7 "LeasedPages$Write" "file" "I" ∈ lp_BW := lp_t2 91 rfl rfl
theorem bw_332 : Cond.fieldLink "LeasedPages$Request" 20 "LeasedPages$Write" "file" "I" ∈ lp_BW := lp_t2 92 rfl rfl
theorem bw_333 : Cond.fieldLink "LeasedPages$Client" 94 "LeasedPages$Write" "file" "I" ∈ lp_BW := lp_t2 93 rfl rfl
theorem bw_334 : Cond.fieldLink "LeasedPages$Write" 13 "LeasedPages$Write" "page" "I" ∈ lp_BW := lp_t2 94 rfl rfl
theorem bw_335 : Cond.fieldLink "LeasedPages$Request" 25 "LeasedPages$Write" "page" "I" ∈ lp_BW := lp_t2 95 rfl rfl
theorem bw_336 : Cond.fieldLink "LeasedPages$Client" 158 "LeasedPages$Write" "page" "I" ∈ lp_BW := lp_t2 96 rfl rfl
theorem bw_337 : Cond.fieldLink "LeasedPages$Write" 16 "LeasedPages$Write" "value" "I" ∈ lp_BW := lp_t2 97 rfl rfl
theorem bw_338 : Cond.fieldLink "LeasedPages$Request" 29 "LeasedPages$Write" "value" "I" ∈ lp_BW := lp_t2 98 rfl rfl
theorem bw_339 : Cond.fieldLink "LeasedPages$Client" 161 "LeasedPages$Write" "value" "I" ∈ lp_BW := lp_t2 99 rfl rfl
theorem bw_340 : Cond.laysFinal "LeasedPages$Write" "LeasedPages$Write" "file" "I" ∈ lp_BW := lp_t2 100 rfl rfl
theorem bw_342 : Cond.laysFinal "LeasedPages$Write" "LeasedPages$Write" "page" "I" ∈ lp_BW := lp_t2 102 rfl rfl
theorem bw_344 : Cond.laysFinal "LeasedPages$Write" "LeasedPages$Write" "value" "I" ∈ lp_BW := lp_t2 104 rfl rfl
theorem bw_347 : Cond.methodLink "LeasedPagesLaw" 35 ⟨"LeasedPages", "flush", "(I)I"⟩ ∈ lp_BW := lp_t2 107 rfl rfl
theorem bw_348 : Cond.instanceMethod ⟨"LeasedPages", "flush", "(I)I"⟩ ∈ lp_BW := lp_t2 108 rfl rfl
theorem bw_349 : Cond.selects "LeasedPages" ⟨"LeasedPages", "flush", "(I)I"⟩ ⟨"LeasedPages", "flush", "(I)I"⟩ ∈ lp_BW := lp_t2 109 rfl rfl
theorem bw_350 : Cond.code ⟨"LeasedPages", "flush", "(I)I"⟩ prog_1_method_5_code 3 (Option.some FieldType.int) ∈ lp_BW := lp_t2 110 rfl rfl
theorem bw_351 : Cond.methodLink "LeasedPages" 72 ⟨"LeasedPages$Client", "storeFirstWrite", "()I"⟩ ∈ lp_BW := lp_t2 111 rfl rfl
theorem bw_352 : Cond.instanceMethod ⟨"LeasedPages$Client", "storeFirstWrite", "()I"⟩ ∈ lp_BW := lp_t2 112 rfl rfl
theorem bw_353 : Cond.selects "LeasedPages$Client" ⟨"LeasedPages$Client", "storeFirstWrite", "()I"⟩ ⟨"LeasedPages$Client", "storeFirstWrite", "()I"⟩ ∈ lp_BW := lp_t2 113 rfl rfl
theorem bw_354 : Cond.code ⟨"LeasedPages$Client", "storeFirstWrite", "()I"⟩ prog_2_method_7_code 2 (Option.some FieldType.int) ∈ lp_BW := lp_t2 114 rfl rfl
theorem bw_355 : Cond.methodLink "LeasedPages$Client" 97 ⟨"LeasedPages$Request", "forStore", "(IILLeasedPages$Write;)LLeasedPages$Request;"⟩ ∈ lp_BW := lp_t2 115 rfl rfl
theorem bw_356 : Cond.static ⟨"LeasedPages$Request", "forStore", "(IILLeasedPages$Write;)LLeasedPages$Request;"⟩ ∈ lp_BW := lp_t2 116 rfl rfl
theorem bw_357 : Cond.code ⟨"LeasedPages$Request", "forStore", "(IILLeasedPages$Write;)LLeasedPages$Request;"⟩ prog_8_method_3_code 4 (Option.some (FieldType.object "LeasedPages$Request")) ∈ lp_BW := lp_t2 117 rfl rfl
theorem bw_358 : Cond.methodLink "LeasedPagesLaw" 40 ⟨"LeasedPages", "close", "(II)I"⟩ ∈ lp_BW := lp_t2 118 rfl rfl
theorem bw_359 : Cond.instanceMethod ⟨"LeasedPages", "close", "(II)I"⟩ ∈ lp_BW := lp_t2 119 rfl rfl
theorem bw_360 : Cond.selects "LeasedPages" ⟨"LeasedPages", "close", "(II)I"⟩ ⟨"LeasedPages", "close", "(II)I"⟩ ∈ lp_BW := lp_t2 120 rfl rfl
theorem bw_361 : Cond.code ⟨"LeasedPages", "close", "(II)I"⟩ prog_1_method_6_code 4 (Option.some FieldType.int) ∈ lp_BW := lp_t2 121 rfl rfl
theorem bw_362 : Cond.methodLink "LeasedPages" 76 ⟨"LeasedPages$Client", "hasWritesTo", "(I)Z"⟩ ∈ lp_BW := lp_t2 122 rfl rfl
theorem bw_363 : Cond.methodLink "LeasedPages" 79 ⟨"LeasedPages$Client", "giveBack", "(I)I"⟩ ∈ lp_BW := lp_t2 123 rfl rfl
theorem bw_364 : Cond.instanceMethod ⟨"LeasedPages$Client", "giveBack", "(I)I"⟩ ∈ lp_BW := lp_t2 124 rfl rfl
theorem bw_365 : Cond.selects "LeasedPages$Client" ⟨"LeasedPages$Client", "giveBack", "(I)I"⟩ ⟨"LeasedPages$Client", "giveBack", "(I)I"⟩ ∈ lp_BW := lp_t2 125 rfl rfl
theorem bw_366 : Cond.code ⟨"LeasedPages$Client", "giveBack", "(I)I"⟩ prog_2_method_8_code 3 (Option.some FieldType.int) ∈ lp_BW := lp_t2 126 rfl rfl
theorem bw_367 : Cond.methodLink "LeasedPages$Client" 107 ⟨"LeasedPages$Request", "forRelease", "(III)LLeasedPages$Request;"⟩ ∈ lp_BW := lp_t2 127 rfl rfl
theorem bw_368 : Cond.static ⟨"LeasedPages$Request", "forRelease", "(III)LLeasedPages$Request;"⟩ ∈ lp_BW := lp_t2 128 rfl rfl
theorem bw_369 : Cond.code ⟨"LeasedPages$Request", "forRelease", "(III)LLeasedPages$Request;"⟩ prog_8_method_4_code 3 (Option.some (FieldType.object "LeasedPages$Request")) ∈ lp_BW := lp_t2 129 rfl rfl
theorem bw_370 : Cond.methodLink "LeasedPagesLaw" 45 ⟨"LeasedPages", "retry", "(I)I"⟩ ∈ lp_BW := lp_t2 130 rfl rfl
theorem bw_371 : Cond.instanceMethod ⟨"LeasedPages", "retry", "(I)I"⟩ ∈ lp_BW := lp_t2 131 rfl rfl
theorem bw_372 : Cond.selects "LeasedPages" ⟨"LeasedPages", "retry", "(I)I"⟩ ⟨"LeasedPages", "retry", "(I)I"⟩ ∈ lp_BW := lp_t2 132 rfl rfl
theorem bw_373 : Cond.code ⟨"LeasedPages", "retry", "(I)I"⟩ prog_1_method_7_code 3 (Option.some FieldType.int) ∈ lp_BW := lp_t2 133 rfl rfl
theorem bw_374 : Cond.methodLink "LeasedPages" 82 ⟨"LeasedPages$Client", "sendAgain", "()I"⟩ ∈ lp_BW := lp_t2 134 rfl rfl
theorem bw_375 : Cond.instanceMethod ⟨"LeasedPages$Client", "sendAgain", "()I"⟩ ∈ lp_BW := lp_t2 135 rfl rfl
theorem bw_376 : Cond.selects "LeasedPages$Client" ⟨"LeasedPages$Client", "sendAgain", "()I"⟩ ⟨"LeasedPages$Client", "sendAgain", "()I"⟩ ∈ lp_BW := lp_t2 136 rfl rfl
theorem bw_377 : Cond.code ⟨"LeasedPages$Client", "sendAgain", "()I"⟩ prog_2_method_9_code 1 (Option.some FieldType.int) ∈ lp_BW := lp_t2 137 rfl rfl
theorem bw_378 : Cond.methodLink "LeasedPagesLaw" 49 ⟨"LeasedPages", "messages", "()I"⟩ ∈ lp_BW := lp_t2 138 rfl rfl
theorem bw_379 : Cond.instanceMethod ⟨"LeasedPages", "messages", "()I"⟩ ∈ lp_BW := lp_t2 139 rfl rfl
theorem bw_380 : Cond.selects "LeasedPages" ⟨"LeasedPages", "messages", "()I"⟩ ⟨"LeasedPages", "messages", "()I"⟩ ∈ lp_BW := lp_t2 140 rfl rfl
theorem bw_381 : Cond.code ⟨"LeasedPages", "messages", "()I"⟩ prog_1_method_8_code 1 (Option.some FieldType.int) ∈ lp_BW := lp_t2 141 rfl rfl
theorem bw_382 : Cond.methodLink "LeasedPagesLaw" 54 ⟨"LeasedPages", "message", "(I)I"⟩ ∈ lp_BW := lp_t2 142 rfl rfl
theorem bw_383 : Cond.instanceMethod ⟨"LeasedPages", "message", "(I)I"⟩ ∈ lp_BW := lp_t2 143 rfl rfl
theorem bw_384 : Cond.selects "LeasedPages" ⟨"LeasedPages", "message", "(I)I"⟩ ⟨"LeasedPages", "message", "(I)I"⟩ ∈ lp_BW := lp_t2 144 rfl rfl
theorem bw_385 : Cond.code ⟨"LeasedPages", "message", "(I)I"⟩ prog_1_method_9_code 3 (Option.some FieldType.int) ∈ lp_BW := lp_t2 145 rfl rfl
theorem bw_386 : Cond.methodLink "LeasedPages" 89 ⟨"LeasedPages$Network", "at", "(I)LLeasedPages$Message;"⟩ ∈ lp_BW := lp_t2 146 rfl rfl
theorem bw_387 : Cond.instanceMethod ⟨"LeasedPages$Network", "at", "(I)LLeasedPages$Message;"⟩ ∈ lp_BW := lp_t2 147 rfl rfl
theorem bw_388 : Cond.selects "LeasedPages$Network" ⟨"LeasedPages$Network", "at", "(I)LLeasedPages$Message;"⟩ ⟨"LeasedPages$Network", "at", "(I)LLeasedPages$Message;"⟩ ∈ lp_BW := lp_t2 148 rfl rfl
theorem bw_389 : Cond.code ⟨"LeasedPages$Network", "at", "(I)LLeasedPages$Message;"⟩ prog_6_method_3_code 2 (Option.some (FieldType.object "LeasedPages$Message")) ∈ lp_BW := lp_t2 149 rfl rfl
theorem bw_390 : Cond.methodLink "LeasedPages" 93 ⟨"LeasedPages$Message", "code", "()I"⟩ ∈ lp_BW := lp_t2 150 rfl rfl
theorem bw_391 : Cond.instanceMethod ⟨"LeasedPages$Message", "code", "()I"⟩ ∈ lp_BW := lp_t2 151 rfl rfl
theorem bw_392 : Cond.selects "LeasedPages$Message" ⟨"LeasedPages$Message", "code", "()I"⟩ ⟨"LeasedPages$Message", "code", "()I"⟩ ∈ lp_BW := lp_t2 152 rfl rfl
theorem bw_393 : Cond.sameMethod "LeasedPages$Message" "LeasedPages$Message" "code" "()I" ∈ lp_BW := lp_t2 153 rfl rfl
theorem bw_394 : Cond.selects "LeasedPages$Reply" ⟨"LeasedPages$Message", "code", "()I"⟩ ⟨"LeasedPages$Message", "code", "()I"⟩ ∈ lp_BW := lp_t2 154 rfl rfl
theorem bw_395 : Cond.selects "LeasedPages$Request" ⟨"LeasedPages$Message", "code", "()I"⟩ ⟨"LeasedPages$Message", "code", "()I"⟩ ∈ lp_BW := lp_t2 155 rfl rfl
theorem bw_396 : Cond.code ⟨"LeasedPages$Message", "code", "()I"⟩ prog_5_method_2_code 1 (Option.some FieldType.int) ∈ lp_BW := lp_t2 156 rfl rfl
theorem bw_397 : Cond.constant "LeasedPages$Message" 22 (1000000) ∈ lp_BW := lp_t2 157 rfl rfl
theorem bw_398 : Cond.constant "LeasedPages$Message" 23 (100000) ∈ lp_BW := lp_t2 158 rfl rfl
theorem bw_399 : Cond.methodLink "LeasedPagesLaw" 58 ⟨"LeasedPages", "deliver", "(I)Z"⟩ ∈ lp_BW := lp_t2 159 rfl rfl
theorem bw_400 : Cond.instanceMethod ⟨"LeasedPages", "deliver", "(I)Z"⟩ ∈ lp_BW := lp_t2 160 rfl rfl
theorem bw_401 : Cond.selects "LeasedPages" ⟨"LeasedPages", "deliver", "(I)Z"⟩ ⟨"LeasedPages", "deliver", "(I)Z"⟩ ∈ lp_BW := lp_t2 161 rfl rfl
theorem bw_402 : Cond.code ⟨"LeasedPages", "deliver", "(I)Z"⟩ prog_1_method_10_code 5 (Option.some FieldType.boolean) ∈ lp_BW := lp_t2 162 rfl rfl
theorem bw_403 : Cond.methodLink "LeasedPages" 98 ⟨"LeasedPages$Network", "takeOut", "(I)LLeasedPages$Message;"⟩ ∈ lp_BW := lp_t2 163 rfl rfl
theorem bw_404 : Cond.instanceMethod ⟨"LeasedPages$Network", "takeOut", "(I)LLeasedPages$Message;"⟩ ∈ lp_BW := lp_t2 164 rfl rfl
theorem bw_405 : Cond.selects "LeasedPages$Network" ⟨"LeasedPages$Network", "takeOut", "(I)LLeasedPages$Message;"⟩ ⟨"LeasedPages$Network", "takeOut", "(I)LLeasedPages$Message;"⟩ ∈ lp_BW := lp_t2 165 rfl rfl
theorem bw_406 : Cond.code ⟨"LeasedPages$Network", "takeOut", "(I)LLeasedPages$Message;"⟩ prog_6_method_4_code 4 (Option.some (FieldType.object "LeasedPages$Message")) ∈ lp_BW := lp_t2 166 rfl rfl
theorem bw_407 : Cond.methodLink "LeasedPages$Network" 21 ⟨"LeasedPages$Network", "at", "(I)LLeasedPages$Message;"⟩ ∈ lp_BW := lp_t2 167 rfl rfl
theorem bw_408 : Cond.classLink "LeasedPages" 101 "LeasedPages$Request" ∈ lp_BW := lp_t2 168 rfl rfl
theorem bw_409 : Cond.methodLink "LeasedPages" 103 ⟨"LeasedPages$Server", "requestArrives", "(LLeasedPages$Request;)V"⟩ ∈ lp_BW := lp_t2 169 rfl rfl
theorem bw_410 : Cond.instanceMethod ⟨"LeasedPages$Server", "requestArrives", "(LLeasedPages$Request;)V"⟩ ∈ lp_BW := lp_t2 170 rfl rfl
theorem bw_411 : Cond.selects "LeasedPages$Server" ⟨"LeasedPages$Server", "requestArrives", "(LLeasedPages$Request;)V"⟩ ⟨"LeasedPages$Server", "requestArrives", "(LLeasedPages$Request;)V"⟩ ∈ lp_BW := lp_t2 171 rfl rfl
theorem bw_412 : Cond.code ⟨"LeasedPages$Server", "requestArrives", "(LLeasedPages$Request;)V"⟩ prog_9_method_6_code 3 (Option.none : Option FieldType) ∈ lp_BW := lp_t2 172 rfl rfl
theorem bw_413 : Cond.methodLink "LeasedPages$Server" 84 ⟨"LeasedPages$Network", "send", "(LLeasedPages$Message;)Z"⟩ ∈ lp_BW := lp_t2 173 rfl rfl
theorem bw_414 : Cond.methodLink "LeasedPages$Server" 90 ⟨"LeasedPages$Server", "waitsAlready", "(LLeasedPages$Request;)Z"⟩ ∈ lp_BW := lp_t2 174 rfl rfl
theorem bw_416 : Cond.instanceMethod ⟨"LeasedPages$Server", "waitsAlready", "(LLeasedPages$Request;)Z"⟩ ∈ lp_BW := lp_t2 176 rfl rfl
theorem bw_417 : Cond.code ⟨"LeasedPages$Server", "waitsAlready", "(LLeasedPages$Request;)Z"⟩ prog_9_method_18_code 3 (Option.some FieldType.boolean) ∈ lp_BW := lp_t2 177 rfl rfl
theorem bw_418 : Cond.methodLink "LeasedPages$Server" 171 ⟨"LeasedPages$Line", "ofClient", "(I)LLeasedPages$Request;"⟩ ∈ lp_BW := lp_t2 178 rfl rfl
theorem bw_419 : Cond.instanceMethod ⟨"LeasedPages$Line", "ofClient", "(I)LLeasedPages$Request;"⟩ ∈ lp_BW := lp_t2 179 rfl rfl
theorem bw_420 : Cond.selects "LeasedPages$Line" ⟨"LeasedPages$Line", "ofClient", "(I)LLeasedPages$Request;"⟩ ⟨"LeasedPages$Line", "ofClient", "(I)LLeasedPages$Request;"⟩ ∈ lp_BW := lp_t2 180 rfl rfl
theorem bw_421 : Cond.code ⟨"LeasedPages$Line", "ofClient", "(I)LLeasedPages$Request;"⟩ prog_4_method_3_code 3 (Option.some (FieldType.object "LeasedPages$Request")) ∈ lp_BW := lp_t2 181 rfl rfl
theorem bw_422 : Cond.methodLink "LeasedPages$Line" 21 ⟨"LeasedPages$Line", "placeOf", "(I)I"⟩ ∈ lp_BW := lp_t2 182 rfl rfl
theorem bw_424 : Cond.instanceMethod ⟨"LeasedPages$Line", "placeOf", "(I)I"⟩ ∈ lp_BW := lp_t2 184 rfl rfl
theorem bw_425 : Cond.code ⟨"LeasedPages$Line", "placeOf", "(I)I"⟩ prog_4_method_7_code 3 (Option.some FieldType.int) ∈ lp_BW := lp_t2 185 rfl rfl
theorem bw_426 : Cond.methodLink "LeasedPages$Server" 94 ⟨"LeasedPages$Server", "takeOutOfLines", "(I)V"⟩ ∈ lp_BW := lp_t2 186 rfl rfl
theorem bw_428 : Cond.instanceMethod ⟨"LeasedPages$Server", "takeOutOfLines", "(I)V"⟩ ∈ lp_BW := lp_t2 188 rfl rfl
theorem bw_429 : Cond.code ⟨"LeasedPages$Server", "takeOutOfLines", "(I)V"⟩ prog_9_method_19_code 3 (Option.none : Option FieldType) ∈ lp_BW := lp_t2 189 rfl rfl
theorem bw_430 : Cond.methodLink "LeasedPages$Server" 168 ⟨"LeasedPages$Line", "takeOut", "(I)V"⟩ ∈ lp_BW := lp_t2 190 rfl rfl
theorem bw_431 : Cond.instanceMethod ⟨"LeasedPages$Line", "takeOut", "(I)V"⟩ ∈ lp_BW := lp_t2 191 rfl rfl
theorem bw_432 : Cond.selects "LeasedPages$Line" ⟨"LeasedPages$Line", "takeOut", "(I)V"⟩ ⟨"LeasedPages$Line", "takeOut", "(I)V"⟩ ∈ lp_BW := lp_t2 192 rfl rfl
theorem bw_433 : Cond.code ⟨"LeasedPages$Line", "takeOut", "(I)V"⟩ prog_4_method_5_code 4 (Option.none : Option FieldType) ∈ lp_BW := lp_t2 193 rfl rfl
theorem bw_434 : Cond.methodLink "LeasedPages$Server" 101 ⟨"LeasedPages$Server", "serveLease", "(LLeasedPages$Request;)V"⟩ ∈ lp_BW := lp_t2 194 rfl rfl
theorem bw_436 : Cond.instanceMethod ⟨"LeasedPages$Server", "serveLease", "(LLeasedPages$Request;)V"⟩ ∈ lp_BW := lp_t2 196 rfl rfl
theorem bw_437 : Cond.code ⟨"LeasedPages$Server", "serveLease", "(LLeasedPages$Request;)V"⟩ prog_9_method_7_code 6 (Option.none : Option FieldType) ∈ lp_BW := lp_t2 197 rfl rfl
theorem bw_438 : Cond.methodLink "LeasedPages$Server" 71 ⟨"LeasedPages$Server", "hasLease", "(II)Z"⟩ ∈ lp_BW := lp_t2 198 rfl rfl
theorem bw_440 : Cond.instanceMethod ⟨"LeasedPages$Server", "hasLease", "(II)Z"⟩ ∈ lp_BW := lp_t2 200 rfl rfl
theorem bw_441 : Cond.code ⟨"LeasedPages$Server", "hasLease", "(II)Z"⟩ prog_9_method_15_code 3 (Option.some FieldType.boolean) ∈ lp_BW := lp_t2 201 rfl rfl
theorem bw_442 : Cond.instantiable "LeasedPages$Reply" 7 ∈ lp_BW := lp_t2 202 rfl rfl
theorem bw_443 : Cond.methodLink "LeasedPages$Server" 117 ⟨"LeasedPages$Reply", "<init>", "(ILLeasedPages$Request;Z[I)V"⟩ ∈ lp_BW := lp_t2 203 rfl rfl
theorem bw_444 : Cond.instanceMethod ⟨"LeasedPages$Reply", "<init>", "(ILLeasedPages$Request;Z[I)V"⟩ ∈ lp_BW := lp_t2 204 rfl rfl
theorem bw_445 : Cond.code ⟨"LeasedPages$Reply", "<init>", "(ILLeasedPages$Request;Z[I)V"⟩ prog_7_method_1_code 5 (Option.none : Option FieldType) ∈ lp_BW := lp_t2 205 rfl rfl
theorem bw_446 : Cond.methodLink "LeasedPages$Reply" 13 ⟨"LeasedPages$Message", "<init>", "(IIII)V"⟩ ∈ lp_BW := lp_t2 206 rfl rfl
theorem bw_447 : Cond.fieldLink "LeasedPages$Reply" 22 "LeasedPages$Reply" "mode" "I" ∈ lp_BW := lp_t2 207 rfl rfl
theorem bw_448 : Cond.fieldLink "LeasedPages$Client" 138 "LeasedPages$Reply" "mode" "I" ∈ lp_BW := lp_t2 208 rfl rfl
theorem bw_449 : Cond.fieldLink "LeasedPages$Reply" 25 "LeasedPages$Reply" "continued" "Z" ∈ lp_BW := lp_t2 209 rfl rfl
theorem bw_450 : Cond.fieldLink "LeasedPages$Client" 142 "LeasedPages$Reply" "continued" "Z" ∈ lp_BW := lp_t2 210 rfl rfl
theorem bw_451 : Cond.fieldLink "LeasedPages$Reply" 29 "LeasedPages$Reply" "pages" "[I" ∈ lp_BW := lp_t2 211 rfl rfl
theorem bw_452 : Cond.fieldLink "LeasedPages$Client" 148 "LeasedPages$Reply" "pages" "[I" ∈ lp_BW := lp_t2 212 rfl rfl
theorem bw_453 : Cond.laysFinal "LeasedPages$Reply" "LeasedPages$Reply" "mode" "I" ∈ lp_BW := lp_t2 213 rfl rfl
theorem bw_455 : Cond.laysFinal "LeasedPages$Reply" "LeasedPages$Reply" "continued" "Z" ∈ lp_BW := lp_t2 215 rfl rfl
theorem bw_457 : Cond.laysFinal "LeasedPages$Reply" "LeasedPages$Reply" "pages" "[I" ∈ lp_BW := lp_t2 217 rfl rfl
theorem bw_459 : Cond.laysFinal "LeasedPages$Reply" "LeasedPages$Message" "kind" "I" ∈ lp_BW := lp_t2 219 rfl rfl
theorem bw_460 : Cond.laysFinal "LeasedPages$Reply" "LeasedPages$Message" "client" "I" ∈ lp_BW := lp_t2 220 rfl rfl
theorem bw_461 : Cond.laysFinal "LeasedPages$Reply" "LeasedPages$Message" "file" "I" ∈ lp_BW := lp_t2 221 rfl rfl
theorem bw_462 : Cond.laysFinal "LeasedPages$Reply" "LeasedPages$Message" "number" "I" ∈ lp_BW := lp_t2 222 rfl rfl
theorem bw_464 : Cond.methodLink "LeasedPages$Server" 120 ⟨"LeasedPages$Server", "finish", "(LLeasedPages$Reply;)V"⟩ ∈ lp_BW := lp_t2 224 rfl rfl
theorem bw_466 : Cond.instanceMethod ⟨"LeasedPages$Server", "finish", "(LLeasedPages$Reply;)V"⟩ ∈ lp_BW := lp_t2 226 rfl rfl
theorem bw_467 : Cond.code ⟨"LeasedPages$Server", "finish", "(LLeasedPages$Reply;)V"⟩ prog_9_method_11_code 2 (Option.none : Option FieldType) ∈ lp_BW := lp_t2 227 rfl rfl
theorem bw_468 : Cond.methodLink "LeasedPages$Server" 127 ⟨"LeasedPages$Server", "conflictsWithAny", "(LLeasedPages$Request;)Z"⟩ ∈ lp_BW := lp_t2 228 rfl rfl
theorem bw_470 : Cond.instanceMethod ⟨"LeasedPages$Server", "conflictsWithAny", "(LLeasedPages$Request;)Z"⟩ ∈ lp_BW := lp_t2 230 rfl rfl
theorem bw_471 : Cond.code ⟨"LeasedPages$Server", "conflictsWithAny", "(LLeasedPages$Request;)Z"⟩ prog_9_method_17_code 3 (Option.some FieldType.boolean) ∈ lp_BW := lp_t2 231 rfl rfl
theorem bw_472 : Cond.methodLink "LeasedPages$Server" 155 ⟨"LeasedPages$Server", "conflicts", "(LLeasedPages$Request;I)Z"⟩ ∈ lp_BW := lp_t2 232 rfl rfl
theorem bw_474 : Cond.instanceMethod ⟨"LeasedPages$Server", "conflicts", "(LLeasedPages$Request;I)Z"⟩ ∈ lp_BW := lp_t2 234 rfl rfl
theorem bw_475 : Cond.code ⟨"LeasedPages$Server", "conflicts", "(LLeasedPages$Request;I)Z"⟩ prog_9_method_16_code 3 (Option.some FieldType.boolean) ∈ lp_BW := lp_t2 235 rfl rfl
theorem bw_476 : Cond.methodLink "LeasedPages$Server" 130 ⟨"LeasedPages$Server", "grant", "(LLeasedPages$Request;)V"⟩ ∈ lp_BW := lp_t2 236 rfl rfl
theorem bw_478 : Cond.instanceMethod ⟨"LeasedPages$Server", "grant", "(LLeasedPages$Request;)V"⟩ ∈ lp_BW := lp_t2 238 rfl rfl
theorem bw_479 : Cond.code ⟨"LeasedPages$Server", "grant", "(LLeasedPages$Request;)V"⟩ prog_9_method_10_code 5 (Option.none : Option FieldType) ∈ lp_BW := lp_t2 239 rfl rfl
theorem bw_480 : Cond.methodLink "LeasedPages$Server" 148 ⟨"[I", "clone", "()Ljava/lang/Object;"⟩ ∈ lp_BW := lp_t3 0 rfl rfl
theorem bw_481 : Cond.sameMethod "[I" "java/lang/Object" "clone" "()Ljava/lang/Object;" ∈ lp_BW := lp_t3 1 rfl rfl
theorem bw_482 : Cond.native ⟨"java/lang/Object", "clone", "()Ljava/lang/Object;"⟩ ∈ lp_BW := lp_t3 2 rfl rfl
theorem bw_483 : Cond.instanceMethod ⟨"java/lang/Object", "clone", "()Ljava/lang/Object;"⟩ ∈ lp_BW := lp_t3 3 rfl rfl
theorem bw_484 : Cond.selects "[I" ⟨"[I", "clone", "()Ljava/lang/Object;"⟩ ⟨"java/lang/Object", "clone", "()Ljava/lang/Object;"⟩ ∈ lp_BW := lp_t3 4 rfl rfl
theorem bw_486 : Cond.classLink "LeasedPages$Server" 149 "[I" ∈ lp_BW := lp_t3 6 rfl rfl
theorem bw_487 : Cond.methodLink "LeasedPages$Server" 133 ⟨"LeasedPages$Line", "add", "(LLeasedPages$Request;)V"⟩ ∈ lp_BW := lp_t3 7 rfl rfl
theorem bw_488 : Cond.instanceMethod ⟨"LeasedPages$Line", "add", "(LLeasedPages$Request;)V"⟩ ∈ lp_BW := lp_t3 8 rfl rfl
theorem bw_489 : Cond.selects "LeasedPages$Line" ⟨"LeasedPages$Line", "add", "(LLeasedPages$Request;)V"⟩ ⟨"LeasedPages$Line", "add", "(LLeasedPages$Request;)V"⟩ ∈ lp_BW := lp_t3 9 rfl rfl
theorem bw_490 : Cond.code ⟨"LeasedPages$Line", "add", "(LLeasedPages$Request;)V"⟩ prog_4_method_4_code 2 (Option.none : Option FieldType) ∈ lp_BW := lp_t3 10 rfl rfl
theorem bw_491 : Cond.methodLink "LeasedPages$Server" 136 ⟨"LeasedPages$Server", "recallConflicting", "(LLeasedPages$Request;)V"⟩ ∈ lp_BW := lp_t3 11 rfl rfl
theorem bw_493 : Cond.instanceMethod ⟨"LeasedPages$Server", "recallConflicting", "(LLeasedPages$Request;)V"⟩ ∈ lp_BW := lp_t3 13 rfl rfl
theorem bw_494 : Cond.code ⟨"LeasedPages$Server", "recallConflicting", "(LLeasedPages$Request;)V"⟩ prog_9_method_12_code 3 (Option.none : Option FieldType) ∈ lp_BW := lp_t3 14 rfl rfl
theorem bw_495 : Cond.classLink "LeasedPages$Server" 159 "LeasedPages$Message" ∈ lp_BW := lp_t3 15 rfl rfl
theorem bw_496 : Cond.instantiable "LeasedPages$Message" 4 ∈ lp_BW := lp_t3 16 rfl rfl
theorem bw_497 : Cond.methodLink "LeasedPages$Server" 161 ⟨"LeasedPages$Message", "<init>", "(IIII)V"⟩ ∈ lp_BW := lp_t3 17 rfl rfl
theorem bw_498 : Cond.laysFinal "LeasedPages$Message" "LeasedPages$Message" "kind" "I" ∈ lp_BW := lp_t3 18 rfl rfl
theorem bw_499 : Cond.laysFinal "LeasedPages$Message" "LeasedPages$Message" "client" "I" ∈ lp_BW := lp_t3 19 rfl rfl
theorem bw_500 : Cond.laysFinal "LeasedPages$Message" "LeasedPages$Message" "file" "I" ∈ lp_BW := lp_t3 20 rfl rfl
theorem bw_501 : Cond.laysFinal "LeasedPages$Message" "LeasedPages$Message" "number" "I" ∈ lp_BW := lp_t3 21 rfl rfl
theorem bw_503 : Cond.methodLink "LeasedPages$Server" 105 ⟨"LeasedPages$Server", "serveStore", "(LLeasedPages$Request;)V"⟩ ∈ lp_BW := lp_t3 23 rfl rfl
theorem bw_505 : Cond.instanceMethod ⟨"LeasedPages$Server", "serveStore", "(LLeasedPages$Request;)V"⟩ ∈ lp_BW := lp_t3 25 rfl rfl
theorem bw_506 : Cond.code ⟨"LeasedPages$Server", "serveStore", "(LLeasedPages$Request;)V"⟩ prog_9_method_8_code 3 (Option.none : Option FieldType) ∈ lp_BW := lp_t3 26 rfl rfl
theorem bw_507 : Cond.methodLink "LeasedPages$Server" 108 ⟨"LeasedPages$Server", "serveRelease", "(LLeasedPages$Request;)V"⟩ ∈ lp_BW := lp_t3 27 rfl rfl
theorem bw_509 : Cond.instanceMethod ⟨"LeasedPages$Server", "serveRelease", "(LLeasedPages$Request;)V"⟩ ∈ lp_BW := lp_t3 29 rfl rfl
theorem bw_510 : Cond.code ⟨"LeasedPages$Server", "serveRelease", "(LLeasedPages$Request;)V"⟩ prog_9_method_9_code 2 (Option.none : Option FieldType) ∈ lp_BW := lp_t3 30 rfl rfl
theorem bw_511 : Cond.methodLink "LeasedPages$Server" 68 ⟨"LeasedPages$Server", "goThroughLines", "()V"⟩ ∈ lp_BW := lp_t3 31 rfl rfl
theorem bw_513 : Cond.instanceMethod ⟨"LeasedPages$Server", "goThroughLines", "()V"⟩ ∈ lp_BW := lp_t3 33 rfl rfl
theorem bw_514 : Cond.code ⟨"LeasedPages$Server", "goThroughLines", "()V"⟩ prog_9_method_13_code 4 (Option.none : Option FieldType) ∈ lp_BW := lp_t3 34 rfl rfl
theorem bw_515 : Cond.methodLink "LeasedPages$Server" 164 ⟨"LeasedPages$Line", "first", "()LLeasedPages$Request;"⟩ ∈ lp_BW := lp_t3 35 rfl rfl
theorem bw_516 : Cond.instanceMethod ⟨"LeasedPages$Line", "first", "()LLeasedPages$Request;"⟩ ∈ lp_BW := lp_t3 36 rfl rfl
theorem bw_517 : Cond.selects "LeasedPages$Line" ⟨"LeasedPages$Line", "first", "()LLeasedPages$Request;"⟩ ⟨"LeasedPages$Line", "first", "()LLeasedPages$Request;"⟩ ∈ lp_BW := lp_t3 37 rfl rfl
theorem bw_518 : Cond.code ⟨"LeasedPages$Line", "first", "()LLeasedPages$Request;"⟩ prog_4_method_2_code 1 (Option.some (FieldType.object "LeasedPages$Request")) ∈ lp_BW := lp_t3 38 rfl rfl
theorem bw_519 : Cond.classLink "LeasedPages" 107 "LeasedPages$Reply" ∈ lp_BW := lp_t3 39 rfl rfl
theorem bw_520 : Cond.methodLink "LeasedPages" 112 ⟨"LeasedPages$Client", "replyArrives", "(LLeasedPages$Reply;)V"⟩ ∈ lp_BW := lp_t3 40 rfl rfl
theorem bw_521 : Cond.instanceMethod ⟨"LeasedPages$Client", "replyArrives", "(LLeasedPages$Reply;)V"⟩ ∈ lp_BW := lp_t3 41 rfl rfl
theorem bw_522 : Cond.selects "LeasedPages$Client" ⟨"LeasedPages$Client", "replyArrives", "(LLeasedPages$Reply;)V"⟩ ⟨"LeasedPages$Client", "replyArrives", "(LLeasedPages$Reply;)V"⟩ ∈ lp_BW := lp_t3 42 rfl rfl
theorem bw_523 : Cond.code ⟨"LeasedPages$Client", "replyArrives", "(LLeasedPages$Reply;)V"⟩ prog_2_method_13_code 3 (Option.none : Option FieldType) ∈ lp_BW := lp_t3 43 rfl rfl
theorem bw_524 : Cond.methodLink "LeasedPages$Client" 127 ⟨"LeasedPages$Client", "takeLease", "(LLeasedPages$Reply;)V"⟩ ∈ lp_BW := lp_t3 44 rfl rfl
theorem bw_526 : Cond.instanceMethod ⟨"LeasedPages$Client", "takeLease", "(LLeasedPages$Reply;)V"⟩ ∈ lp_BW := lp_t3 46 rfl rfl
theorem bw_527 : Cond.code ⟨"LeasedPages$Client", "takeLease", "(LLeasedPages$Reply;)V"⟩ prog_2_method_15_code 3 (Option.none : Option FieldType) ∈ lp_BW := lp_t3 47 rfl rfl
theorem bw_528 : Cond.methodLink "LeasedPages$Client" 145 ⟨"LeasedPages$Client", "removeAllWritesTo", "(I)V"⟩ ∈ lp_BW := lp_t3 48 rfl rfl
theorem bw_530 : Cond.instanceMethod ⟨"LeasedPages$Client", "removeAllWritesTo", "(I)V"⟩ ∈ lp_BW := lp_t3 50 rfl rfl
theorem bw_531 : Cond.code ⟨"LeasedPages$Client", "removeAllWritesTo", "(I)V"⟩ prog_2_method_19_code 4 (Option.none : Option FieldType) ∈ lp_BW := lp_t3 51 rfl rfl
theorem bw_532 : Cond.methodLink "LeasedPages$Client" 55 ⟨"LeasedPages$Client", "keepWrites", "(I)V"⟩ ∈ lp_BW := lp_t3 52 rfl rfl
theorem bw_534 : Cond.instanceMethod ⟨"LeasedPages$Client", "keepWrites", "(I)V"⟩ ∈ lp_BW := lp_t3 54 rfl rfl
theorem bw_535 : Cond.code ⟨"LeasedPages$Client", "keepWrites", "(I)V"⟩ prog_2_method_20_code 3 (Option.none : Option FieldType) ∈ lp_BW := lp_t3 55 rfl rfl
theorem bw_536 : Cond.methodLink "LeasedPages$Client" 149 ⟨"java/lang/System", "arraycopy", "(Ljava/lang/Object;ILjava/lang/Object;II)V"⟩ ∈ lp_BW := lp_t3 56 rfl rfl
theorem bw_537 : Cond.static ⟨"java/lang/System", "arraycopy", "(Ljava/lang/Object;ILjava/lang/Object;II)V"⟩ ∈ lp_BW := lp_t3 57 rfl rfl
theorem bw_538 : Cond.native ⟨"java/lang/System", "arraycopy", "(Ljava/lang/Object;ILjava/lang/Object;II)V"⟩ ∈ lp_BW := lp_t3 58 rfl rfl
theorem bw_539 : Cond.methodLink "LeasedPages$Client" 155 ⟨"LeasedPages$Client", "redoWritesOn", "(I)V"⟩ ∈ lp_BW := lp_t3 59 rfl rfl
theorem bw_541 : Cond.instanceMethod ⟨"LeasedPages$Client", "redoWritesOn", "(I)V"⟩ ∈ lp_BW := lp_t3 61 rfl rfl
theorem bw_542 : Cond.code ⟨"LeasedPages$Client", "redoWritesOn", "(I)V"⟩ prog_2_method_16_code 3 (Option.none : Option FieldType) ∈ lp_BW := lp_t3 62 rfl rfl
theorem bw_543 : Cond.methodLink "LeasedPages$Client" 132 ⟨"LeasedPages$Client", "loseLease", "(I)V"⟩ ∈ lp_BW := lp_t3 63 rfl rfl
theorem bw_545 : Cond.instanceMethod ⟨"LeasedPages$Client", "loseLease", "(I)V"⟩ ∈ lp_BW := lp_t3 65 rfl rfl
theorem bw_546 : Cond.code ⟨"LeasedPages$Client", "loseLease", "(I)V"⟩ prog_2_method_17_code 2 (Option.none : Option FieldType) ∈ lp_BW := lp_t3 66 rfl rfl
theorem bw_547 : Cond.methodLink "LeasedPages$Client" 135 ⟨"LeasedPages$Client", "removeFirstWriteTo", "(I)V"⟩ ∈ lp_BW := lp_t3 67 rfl rfl
theorem bw_549 : Cond.instanceMethod ⟨"LeasedPages$Client", "removeFirstWriteTo", "(I)V"⟩ ∈ lp_BW := lp_t3 69 rfl rfl
theorem bw_550 : Cond.code ⟨"LeasedPages$Client", "removeFirstWriteTo", "(I)V"⟩ prog_2_method_18_code 5 (Option.none : Option FieldType) ∈ lp_BW := lp_t3 70 rfl rfl
theorem bw_551 : Cond.methodLink "LeasedPages" 120 ⟨"LeasedPages$Client", "recallArrives", "(I)V"⟩ ∈ lp_BW := lp_t3 71 rfl rfl
theorem bw_552 : Cond.instanceMethod ⟨"LeasedPages$Client", "recallArrives", "(I)V"⟩ ∈ lp_BW := lp_t3 72 rfl rfl
theorem bw_553 : Cond.selects "LeasedPages$Client" ⟨"LeasedPages$Client", "recallArrives", "(I)V"⟩ ⟨"LeasedPages$Client", "recallArrives", "(I)V"⟩ ∈ lp_BW := lp_t3 73 rfl rfl
theorem bw_554 : Cond.code ⟨"LeasedPages$Client", "recallArrives", "(I)V"⟩ prog_2_method_12_code 2 (Option.none : Option FieldType) ∈ lp_BW := lp_t3 74 rfl rfl
theorem bw_555 : Cond.methodLink "LeasedPagesLaw" 63 ⟨"LeasedPages", "drop", "(I)Z"⟩ ∈ lp_BW := lp_t3 75 rfl rfl
theorem bw_556 : Cond.instanceMethod ⟨"LeasedPages", "drop", "(I)Z"⟩ ∈ lp_BW := lp_t3 76 rfl rfl
theorem bw_557 : Cond.selects "LeasedPages" ⟨"LeasedPages", "drop", "(I)Z"⟩ ⟨"LeasedPages", "drop", "(I)Z"⟩ ∈ lp_BW := lp_t3 77 rfl rfl
theorem bw_558 : Cond.code ⟨"LeasedPages", "drop", "(I)Z"⟩ prog_1_method_11_code 2 (Option.some FieldType.boolean) ∈ lp_BW := lp_t3 78 rfl rfl
theorem bw_559 : Cond.methodLink "LeasedPagesLaw" 67 ⟨"LeasedPages", "duplicate", "(I)Z"⟩ ∈ lp_BW := lp_t3 79 rfl rfl
theorem bw_560 : Cond.instanceMethod ⟨"LeasedPages", "duplicate", "(I)Z"⟩ ∈ lp_BW := lp_t3 80 rfl rfl
theorem bw_561 : Cond.selects "LeasedPages" ⟨"LeasedPages", "duplicate", "(I)Z"⟩ ⟨"LeasedPages", "duplicate", "(I)Z"⟩ ∈ lp_BW := lp_t3 81 rfl rfl
theorem bw_562 : Cond.code ⟨"LeasedPages", "duplicate", "(I)Z"⟩ prog_1_method_12_code 3 (Option.some FieldType.boolean) ∈ lp_BW := lp_t3 82 rfl rfl
theorem bw_563 : Cond.methodLink "LeasedPages" 124 ⟨"LeasedPages$Network", "send", "(LLeasedPages$Message;)Z"⟩ ∈ lp_BW := lp_t3 83 rfl rfl
theorem bw_564 : Cond.methodLink "LeasedPagesLaw" 71 ⟨"LeasedPages", "tick", "(II)Z"⟩ ∈ lp_BW := lp_t3 84 rfl rfl
theorem bw_565 : Cond.instanceMethod ⟨"LeasedPages", "tick", "(II)Z"⟩ ∈ lp_BW := lp_t3 85 rfl rfl
theorem bw_566 : Cond.selects "LeasedPages" ⟨"LeasedPages", "tick", "(II)Z"⟩ ⟨"LeasedPages", "tick", "(II)Z"⟩ ∈ lp_BW := lp_t3 86 rfl rfl
theorem bw_567 : Cond.code ⟨"LeasedPages", "tick", "(II)Z"⟩ prog_1_method_13_code 3 (Option.some FieldType.boolean) ∈ lp_BW := lp_t3 87 rfl rfl
theorem bw_568 : Cond.methodLink "LeasedPages" 128 ⟨"LeasedPages", "isNode", "(I)Z"⟩ ∈ lp_BW := lp_t3 88 rfl rfl
theorem bw_569 : Cond.static ⟨"LeasedPages", "isNode", "(I)Z"⟩ ∈ lp_BW := lp_t3 89 rfl rfl
theorem bw_570 : Cond.code ⟨"LeasedPages", "isNode", "(I)Z"⟩ prog_1_method_23_code 1 (Option.some FieldType.boolean) ∈ lp_BW := lp_t3 90 rfl rfl
theorem bw_571 : Cond.methodLink "LeasedPages" 131 ⟨"LeasedPages", "isUp", "(I)Z"⟩ ∈ lp_BW := lp_t3 91 rfl rfl
theorem bw_573 : Cond.instanceMethod ⟨"LeasedPages", "isUp", "(I)Z"⟩ ∈ lp_BW := lp_t3 93 rfl rfl
theorem bw_574 : Cond.code ⟨"LeasedPages", "isUp", "(I)Z"⟩ prog_1_method_26_code 2 (Option.some FieldType.boolean) ∈ lp_BW := lp_t3 94 rfl rfl
theorem bw_575 : Cond.methodLink "LeasedPages" 134 ⟨"LeasedPages$Server", "advance", "(I)V"⟩ ∈ lp_BW := lp_t3 95 rfl rfl
theorem bw_576 : Cond.instanceMethod ⟨"LeasedPages$Server", "advance", "(I)V"⟩ ∈ lp_BW := lp_t3 96 rfl rfl
theorem bw_577 : Cond.selects "LeasedPages$Server" ⟨"LeasedPages$Server", "advance", "(I)V"⟩ ⟨"LeasedPages$Server", "advance", "(I)V"⟩ ∈ lp_BW := lp_t3 97 rfl rfl
theorem bw_578 : Cond.code ⟨"LeasedPages$Server", "advance", "(I)V"⟩ prog_9_method_4_code 3 (Option.none : Option FieldType) ∈ lp_BW := lp_t3 98 rfl rfl
theorem bw_579 : Cond.methodLink "LeasedPages$Server" 65 ⟨"LeasedPages$Server", "endLeases", "()V"⟩ ∈ lp_BW := lp_t3 99 rfl rfl
theorem bw_581 : Cond.instanceMethod ⟨"LeasedPages$Server", "endLeases", "()V"⟩ ∈ lp_BW := lp_t3 101 rfl rfl
theorem bw_582 : Cond.code ⟨"LeasedPages$Server", "endLeases", "()V"⟩ prog_9_method_14_code 3 (Option.none : Option FieldType) ∈ lp_BW := lp_t3 102 rfl rfl
theorem bw_583 : Cond.methodLink "LeasedPagesLaw" 76 ⟨"LeasedPages", "crash", "(I)Z"⟩ ∈ lp_BW := lp_t3 103 rfl rfl
theorem bw_584 : Cond.instanceMethod ⟨"LeasedPages", "crash", "(I)Z"⟩ ∈ lp_BW := lp_t3 104 rfl rfl
theorem bw_585 : Cond.selects "LeasedPages" ⟨"LeasedPages", "crash", "(I)Z"⟩ ⟨"LeasedPages", "crash", "(I)Z"⟩ ∈ lp_BW := lp_t3 105 rfl rfl
theorem bw_586 : Cond.code ⟨"LeasedPages", "crash", "(I)Z"⟩ prog_1_method_14_code 2 (Option.some FieldType.boolean) ∈ lp_BW := lp_t3 106 rfl rfl
theorem bw_587 : Cond.methodLink "LeasedPages" 140 ⟨"LeasedPages$Server", "goDown", "()V"⟩ ∈ lp_BW := lp_t3 107 rfl rfl
theorem bw_588 : Cond.instanceMethod ⟨"LeasedPages$Server", "goDown", "()V"⟩ ∈ lp_BW := lp_t3 108 rfl rfl
theorem bw_589 : Cond.selects "LeasedPages$Server" ⟨"LeasedPages$Server", "goDown", "()V"⟩ ⟨"LeasedPages$Server", "goDown", "()V"⟩ ∈ lp_BW := lp_t3 109 rfl rfl
theorem bw_590 : Cond.code ⟨"LeasedPages$Server", "goDown", "()V"⟩ prog_9_method_2_code 2 (Option.none : Option FieldType) ∈ lp_BW := lp_t3 110 rfl rfl
theorem bw_591 : Cond.methodLink "LeasedPages$Server" 56 ⟨"java/util/Arrays", "fill", "([II)V"⟩ ∈ lp_BW := lp_t3 111 rfl rfl
theorem bw_592 : Cond.static ⟨"java/util/Arrays", "fill", "([II)V"⟩ ∈ lp_BW := lp_t3 112 rfl rfl
theorem bw_593 : Cond.code ⟨"java/util/Arrays", "fill", "([II)V"⟩ prog_16_method_103_code 4 (Option.none : Option FieldType) ∈ lp_BW := lp_t3 113 rfl rfl
theorem bw_594 : Cond.methodLink "LeasedPages$Server" 62 ⟨"LeasedPages$Line", "clear", "()V"⟩ ∈ lp_BW := lp_t3 114 rfl rfl
theorem bw_595 : Cond.instanceMethod ⟨"LeasedPages$Line", "clear", "()V"⟩ ∈ lp_BW := lp_t3 115 rfl rfl
theorem bw_596 : Cond.selects "LeasedPages$Line" ⟨"LeasedPages$Line", "clear", "()V"⟩ ⟨"LeasedPages$Line", "clear", "()V"⟩ ∈ lp_BW := lp_t3 116 rfl rfl
theorem bw_597 : Cond.code ⟨"LeasedPages$Line", "clear", "()V"⟩ prog_4_method_6_code 2 (Option.none : Option FieldType) ∈ lp_BW := lp_t3 117 rfl rfl
theorem bw_598 : Cond.methodLink "LeasedPages" 143 ⟨"LeasedPages$Client", "goDown", "()V"⟩ ∈ lp_BW := lp_t3 118 rfl rfl
theorem bw_599 : Cond.instanceMethod ⟨"LeasedPages$Client", "goDown", "()V"⟩ ∈ lp_BW := lp_t3 119 rfl rfl
theorem bw_600 : Cond.selects "LeasedPages$Client" ⟨"LeasedPages$Client", "goDown", "()V"⟩ ⟨"LeasedPages$Client", "goDown", "()V"⟩ ∈ lp_BW := lp_t3 120 rfl rfl
theorem bw_601 : Cond.code ⟨"LeasedPages$Client", "goDown", "()V"⟩ prog_2_method_2_code 2 (Option.none : Option FieldType) ∈ lp_BW := lp_t3 121 rfl rfl
theorem bw_602 : Cond.methodLink "LeasedPages$Client" 59 ⟨"LeasedPages$Copy", "forget", "()V"⟩ ∈ lp_BW := lp_t3 122 rfl rfl
theorem bw_603 : Cond.instanceMethod ⟨"LeasedPages$Copy", "forget", "()V"⟩ ∈ lp_BW := lp_t3 123 rfl rfl
theorem bw_604 : Cond.selects "LeasedPages$Copy" ⟨"LeasedPages$Copy", "forget", "()V"⟩ ⟨"LeasedPages$Copy", "forget", "()V"⟩ ∈ lp_BW := lp_t3 124 rfl rfl
theorem bw_605 : Cond.code ⟨"LeasedPages$Copy", "forget", "()V"⟩ prog_3_method_4_code 1 (Option.none : Option FieldType) ∈ lp_BW := lp_t3 125 rfl rfl
theorem bw_606 : Cond.methodLink "LeasedPages$Copy" 29 ⟨"java/util/Arrays", "fill", "([II)V"⟩ ∈ lp_BW := lp_t3 126 rfl rfl
theorem bw_607 : Cond.methodLink "LeasedPagesLaw" 80 ⟨"LeasedPages", "restart", "(I)Z"⟩ ∈ lp_BW := lp_t3 127 rfl rfl
theorem bw_608 : Cond.instanceMethod ⟨"LeasedPages", "restart", "(I)Z"⟩ ∈ lp_BW := lp_t3 128 rfl rfl
theorem bw_609 : Cond.selects "LeasedPages" ⟨"LeasedPages", "restart", "(I)Z"⟩ ⟨"LeasedPages", "restart", "(I)Z"⟩ ∈ lp_BW := lp_t3 129 rfl rfl
theorem bw_610 : Cond.code ⟨"LeasedPages", "restart", "(I)Z"⟩ prog_1_method_15_code 2 (Option.some FieldType.boolean) ∈ lp_BW := lp_t3 130 rfl rfl
theorem bw_611 : Cond.methodLink "LeasedPages" 144 ⟨"LeasedPages$Server", "comeUp", "()V"⟩ ∈ lp_BW := lp_t3 131 rfl rfl
theorem bw_612 : Cond.instanceMethod ⟨"LeasedPages$Server", "comeUp", "()V"⟩ ∈ lp_BW := lp_t3 132 rfl rfl
theorem bw_613 : Cond.selects "LeasedPages$Server" ⟨"LeasedPages$Server", "comeUp", "()V"⟩ ⟨"LeasedPages$Server", "comeUp", "()V"⟩ ∈ lp_BW := lp_t3 133 rfl rfl
theorem bw_614 : Cond.code ⟨"LeasedPages$Server", "comeUp", "()V"⟩ prog_9_method_3_code 1 (Option.none : Option FieldType) ∈ lp_BW := lp_t3 134 rfl rfl
theorem bw_615 : Cond.methodLink "LeasedPagesLaw" 84 ⟨"LeasedPages", "clock", "(I)I"⟩ ∈ lp_BW := lp_t3 135 rfl rfl
theorem bw_616 : Cond.instanceMethod ⟨"LeasedPages", "clock", "(I)I"⟩ ∈ lp_BW := lp_t3 136 rfl rfl
theorem bw_617 : Cond.selects "LeasedPages" ⟨"LeasedPages", "clock", "(I)I"⟩ ⟨"LeasedPages", "clock", "(I)I"⟩ ∈ lp_BW := lp_t3 137 rfl rfl
theorem bw_618 : Cond.code ⟨"LeasedPages", "clock", "(I)I"⟩ prog_1_method_16_code 2 (Option.some FieldType.int) ∈ lp_BW := lp_t3 138 rfl rfl
theorem bw_619 : Cond.methodLink "LeasedPagesLaw" 88 ⟨"LeasedPages", "lease", "(II)I"⟩ ∈ lp_BW := lp_t3 139 rfl rfl
theorem bw_620 : Cond.instanceMethod ⟨"LeasedPages", "lease", "(II)I"⟩ ∈ lp_BW := lp_t3 140 rfl rfl
theorem bw_621 : Cond.selects "LeasedPages" ⟨"LeasedPages", "lease", "(II)I"⟩ ⟨"LeasedPages", "lease", "(II)I"⟩ ∈ lp_BW := lp_t3 141 rfl rfl
theorem bw_622 : Cond.code ⟨"LeasedPages", "lease", "(II)I"⟩ prog_1_method_17_code 4 (Option.some FieldType.int) ∈ lp_BW := lp_t3 142 rfl rfl
theorem bw_623 : Cond.methodLink "LeasedPages" 152 ⟨"LeasedPages$Client", "leaseAndMarks", "(I)I"⟩ ∈ lp_BW := lp_t3 143 rfl rfl
theorem bw_624 : Cond.instanceMethod ⟨"LeasedPages$Client", "leaseAndMarks", "(I)I"⟩ ∈ lp_BW := lp_t3 144 rfl rfl
theorem bw_625 : Cond.selects "LeasedPages$Client" ⟨"LeasedPages$Client", "leaseAndMarks", "(I)I"⟩ ⟨"LeasedPages$Client", "leaseAndMarks", "(I)I"⟩ ∈ lp_BW := lp_t3 145 rfl rfl
theorem bw_626 : Cond.code ⟨"LeasedPages$Client", "leaseAndMarks", "(I)I"⟩ prog_2_method_10_code 4 (Option.some FieldType.int) ∈ lp_BW := lp_t3 146 rfl rfl
theorem bw_627 : Cond.methodLink "LeasedPagesLaw" 92 ⟨"LeasedPages", "dirty", "(I)I"⟩ ∈ lp_BW := lp_t3 147 rfl rfl
theorem bw_628 : Cond.instanceMethod ⟨"LeasedPages", "dirty", "(I)I"⟩ ∈ lp_BW := lp_t3 148 rfl rfl
theorem bw_629 : Cond.selects "LeasedPages" ⟨"LeasedPages", "dirty", "(I)I"⟩ ⟨"LeasedPages", "dirty", "(I)I"⟩ ∈ lp_BW := lp_t3 149 rfl rfl
theorem bw_630 : Cond.code ⟨"LeasedPages", "dirty", "(I)I"⟩ prog_1_method_18_code 3 (Option.some FieldType.int) ∈ lp_BW := lp_t3 150 rfl rfl
theorem bw_631 : Cond.methodLink "LeasedPagesLaw" 96 ⟨"LeasedPages", "held", "(II)I"⟩ ∈ lp_BW := lp_t3 151 rfl rfl
theorem bw_632 : Cond.instanceMethod ⟨"LeasedPages", "held", "(II)I"⟩ ∈ lp_BW := lp_t3 152 rfl rfl
theorem bw_633 : Cond.selects "LeasedPages" ⟨"LeasedPages", "held", "(II)I"⟩ ⟨"LeasedPages", "held", "(II)I"⟩ ∈ lp_BW := lp_t3 153 rfl rfl
theorem bw_634 : Cond.code ⟨"LeasedPages", "held", "(II)I"⟩ prog_1_method_19_code 3 (Option.some FieldType.int) ∈ lp_BW := lp_t3 154 rfl rfl
theorem bw_635 : Cond.methodLink "LeasedPages" 161 ⟨"LeasedPages$Server", "leaseAndRest", "(II)I"⟩ ∈ lp_BW := lp_t3 155 rfl rfl
theorem bw_636 : Cond.instanceMethod ⟨"LeasedPages$Server", "leaseAndRest", "(II)I"⟩ ∈ lp_BW := lp_t3 156 rfl rfl
theorem bw_637 : Cond.selects "LeasedPages$Server" ⟨"LeasedPages$Server", "leaseAndRest", "(II)I"⟩ ⟨"LeasedPages$Server", "leaseAndRest", "(II)I"⟩ ∈ lp_BW := lp_t3 157 rfl rfl
theorem bw_638 : Cond.code ⟨"LeasedPages$Server", "leaseAndRest", "(II)I"⟩ prog_9_method_5_code 3 (Option.some FieldType.int) ∈ lp_BW := lp_t3 158 rfl rfl
theorem bw_639 : Cond.methodLink "LeasedPagesLaw" 100 ⟨"LeasedPages", "waiting", "(I)I"⟩ ∈ lp_BW := lp_t3 159 rfl rfl
theorem bw_640 : Cond.instanceMethod ⟨"LeasedPages", "waiting", "(I)I"⟩ ∈ lp_BW := lp_t3 160 rfl rfl
theorem bw_641 : Cond.selects "LeasedPages" ⟨"LeasedPages", "waiting", "(I)I"⟩ ⟨"LeasedPages", "waiting", "(I)I"⟩ ∈ lp_BW := lp_t3 161 rfl rfl
theorem bw_642 : Cond.code ⟨"LeasedPages", "waiting", "(I)I"⟩ prog_1_method_20_code 2 (Option.some FieldType.int) ∈ lp_BW := lp_t3 162 rfl rfl
theorem bw_643 : Cond.methodLink "LeasedPagesLaw" 104 ⟨"LeasedPages", "stored", "(II)I"⟩ ∈ lp_BW := lp_t3 163 rfl rfl
theorem bw_644 : Cond.instanceMethod ⟨"LeasedPages", "stored", "(II)I"⟩ ∈ lp_BW := lp_t3 164 rfl rfl
theorem bw_645 : Cond.selects "LeasedPages" ⟨"LeasedPages", "stored", "(II)I"⟩ ⟨"LeasedPages", "stored", "(II)I"⟩ ∈ lp_BW := lp_t3 165 rfl rfl
theorem bw_646 : Cond.code ⟨"LeasedPages", "stored", "(II)I"⟩ prog_1_method_21_code 3 (Option.some FieldType.int) ∈ lp_BW := lp_t3 166 rfl rfl
theorem bw_647 : Cond.methodLink "LeasedPagesLaw" 9 ⟨"LeasedPagesLaw", "cell", "([II)I"⟩ ∈ lp_BW := lp_t3 167 rfl rfl
theorem bw_648 : Cond.static ⟨"LeasedPagesLaw", "cell", "([II)I"⟩ ∈ lp_BW := lp_t3 168 rfl rfl
theorem bw_649 : Cond.code ⟨"LeasedPagesLaw", "cell", "([II)I"⟩ method_2_code 2 (Option.some FieldType.int) ∈ lp_BW := lp_t3 169 rfl rfl
theorem bw_650 : Cond.classLink "LeasedPagesLaw" 18 "LeasedPagesModel" ∈ lp_BW := lp_t3 170 rfl rfl
theorem bw_651 : Cond.instantiable "LeasedPagesModel" 44 ∈ lp_BW := lp_t3 171 rfl rfl
theorem bw_652 : Cond.methodLink "LeasedPagesLaw" 20 ⟨"LeasedPagesModel", "<init>", "(I)V"⟩ ∈ lp_BW := lp_t3 172 rfl rfl
theorem bw_653 : Cond.instanceMethod ⟨"LeasedPagesModel", "<init>", "(I)V"⟩ ∈ lp_BW := lp_t3 173 rfl rfl
theorem bw_654 : Cond.code ⟨"LeasedPagesModel", "<init>", "(I)V"⟩ prog_12_method_1_code 3 (Option.none : Option FieldType) ∈ lp_BW := lp_t3 174 rfl rfl
theorem bw_655 : Cond.methodLink "LeasedPagesModel" 1 ⟨"java/lang/Object", "<init>", "()V"⟩ ∈ lp_BW := lp_t3 175 rfl rfl
theorem bw_656 : Cond.fieldLink "LeasedPagesModel" 131 "LeasedPagesModel" "duration" "I" ∈ lp_BW := lp_t3 176 rfl rfl
theorem bw_657 : Cond.fieldLink "LeasedPagesModel" 7 "LeasedPagesModel" "down" "[Z" ∈ lp_BW := lp_t3 177 rfl rfl
theorem bw_658 : Cond.fieldLink "LeasedPagesModel" 13 "LeasedPagesModel" "clocks" "[I" ∈ lp_BW := lp_t3 178 rfl rfl
theorem bw_659 : Cond.fieldLink "LeasedPagesModel" 17 "LeasedPagesModel" "pages" "[I" ∈ lp_BW := lp_t3 179 rfl rfl
theorem bw_660 : Cond.fieldLink "LeasedPagesModel" 20 "LeasedPagesModel" "modes" "[I" ∈ lp_BW := lp_t3 180 rfl rfl
theorem bw_661 : Cond.fieldLink "LeasedPagesModel" 23 "LeasedPagesModel" "ends" "[I" ∈ lp_BW := lp_t3 181 rfl rfl
theorem bw_662 : Cond.fieldLink "LeasedPagesModel" 190 "LeasedPagesModel" "grace" "I" ∈ lp_BW := lp_t3 182 rfl rfl
theorem bw_663 : Cond.fieldLink "LeasedPagesModel" 26 "LeasedPagesModel" "done" "[I" ∈ lp_BW := lp_t3 183 rfl rfl
theorem bw_664 : Cond.fieldLink "LeasedPagesModel" 29 "LeasedPagesModel" "saidKind" "[I" ∈ lp_BW := lp_t3 184 rfl rfl
theorem bw_665 : Cond.fieldLink "LeasedPagesModel" 32 "LeasedPagesModel" "saidFile" "[I" ∈ lp_BW := lp_t3 185 rfl rfl
theorem bw_666 : Cond.fieldLink "LeasedPagesModel" 35 "LeasedPagesModel" "saidMode" "[I" ∈ lp_BW := lp_t3 186 rfl rfl
theorem bw_667 : Cond.fieldLink "LeasedPagesModel" 38 "LeasedPagesModel" "saidMore" "[Z" ∈ lp_BW := lp_t3 187 rfl rfl
theorem bw_668 : Cond.fieldLink "LeasedPagesModel" 41 "LeasedPagesModel" "saidPages" "[I" ∈ lp_BW := lp_t3 188 rfl rfl
theorem bw_669 : Cond.fieldLink "LeasedPagesModel" 44 "LeasedPagesModel" "waitFile" "[I" ∈ lp_BW := lp_t3 189 rfl rfl
theorem bw_670 : Cond.fieldLink "LeasedPagesModel" 47 "LeasedPagesModel" "waitNumber" "[I" ∈ lp_BW := lp_t3 190 rfl rfl
theorem bw_671 : Cond.fieldLink "LeasedPagesModel" 50 "LeasedPagesModel" "waitMode" "[I" ∈ lp_BW := lp_t3 191 rfl rfl
theorem bw_672 : Cond.fieldLink "LeasedPagesModel" 53 "LeasedPagesModel" "waitSince" "[I" ∈ lp_BW := lp_t3 192 rfl rfl
theorem bw_673 : Cond.fieldLink "LeasedPagesModel" 199 "LeasedPagesModel" "arrivals" "I" ∈ lp_BW := lp_t3 193 rfl rfl
theorem bw_674 : Cond.fieldLink "LeasedPagesModel" 56 "LeasedPagesModel" "number" "[I" ∈ lp_BW := lp_t3 194 rfl rfl
theorem bw_675 : Cond.fieldLink "LeasedPagesModel" 59 "LeasedPagesModel" "knownMode" "[I" ∈ lp_BW := lp_t3 195 rfl rfl
theorem bw_676 : Cond.fieldLink "LeasedPagesModel" 62 "LeasedPagesModel" "knownEnd" "[I" ∈ lp_BW := lp_t3 196 rfl rfl
theorem bw_677 : Cond.fieldLink "LeasedPagesModel" 65 "LeasedPagesModel" "recalled" "[Z" ∈ lp_BW := lp_t3 197 rfl rfl
theorem bw_678 : Cond.fieldLink "LeasedPagesModel" 68 "LeasedPagesModel" "missed" "[Z" ∈ lp_BW := lp_t3 198 rfl rfl
theorem bw_679 : Cond.fieldLink "LeasedPagesModel" 71 "LeasedPagesModel" "copies" "[I" ∈ lp_BW := lp_t3 199 rfl rfl
theorem bw_680 : Cond.fieldLink "LeasedPagesModel" 74 "LeasedPagesModel" "dirties" "[I" ∈ lp_BW := lp_t3 200 rfl rfl
theorem bw_681 : Cond.fieldLink "LeasedPagesModel" 77 "LeasedPagesModel" "dirtyPlace" "[I" ∈ lp_BW := lp_t3 201 rfl rfl
theorem bw_682 : Cond.fieldLink "LeasedPagesModel" 80 "LeasedPagesModel" "dirtyValue" "[I" ∈ lp_BW := lp_t3 202 rfl rfl
theorem bw_683 : Cond.fieldLink "LeasedPagesModel" 83 "LeasedPagesModel" "openKind" "[I" ∈ lp_BW := lp_t3 203 rfl rfl
theorem bw_684 : Cond.fieldLink "LeasedPagesModel" 86 "LeasedPagesModel" "openFile" "[I" ∈ lp_BW := lp_t3 204 rfl rfl
theorem bw_685 : Cond.fieldLink "LeasedPagesModel" 89 "LeasedPagesModel" "openMode" "[I" ∈ lp_BW := lp_t3 205 rfl rfl
theorem bw_686 : Cond.fieldLink "LeasedPagesModel" 92 "LeasedPagesModel" "openClaim" "[Z" ∈ lp_BW := lp_t3 206 rfl rfl
theorem bw_687 : Cond.fieldLink "LeasedPagesModel" 95 "LeasedPagesModel" "openPage" "[I" ∈ lp_BW := lp_t3 207 rfl rfl
theorem bw_688 : Cond.fieldLink "LeasedPagesModel" 98 "LeasedPagesModel" "openValue" "[I" ∈ lp_BW := lp_t3 208 rfl rfl
theorem bw_689 : Cond.fieldLink "LeasedPagesModel" 101 "LeasedPagesModel" "openSince" "[I" ∈ lp_BW := lp_t3 209 rfl rfl
theorem bw_690 : Cond.fieldLink "LeasedPagesModel" 135 "LeasedPagesModel" "under" "I" ∈ lp_BW := lp_t3 210 rfl rfl
theorem bw_691 : Cond.fieldLink "LeasedPagesModel" 104 "LeasedPagesModel" "kind" "[I" ∈ lp_BW := lp_t3 211 rfl rfl
theorem bw_692 : Cond.fieldLink "LeasedPagesModel" 107 "LeasedPagesModel" "client" "[I" ∈ lp_BW := lp_t3 212 rfl rfl
theorem bw_693 : Cond.fieldLink "LeasedPagesModel" 110 "LeasedPagesModel" "file" "[I" ∈ lp_BW := lp_t3 213 rfl rfl
theorem bw_694 : Cond.fieldLink "LeasedPagesModel" 113 "LeasedPagesModel" "which" "[I" ∈ lp_BW := lp_t3 214 rfl rfl
theorem bw_695 : Cond.fieldLink "LeasedPagesModel" 116 "LeasedPagesModel" "mode" "[I" ∈ lp_BW := lp_t3 215 rfl rfl
theorem bw_696 : Cond.fieldLink "LeasedPagesModel" 119 "LeasedPagesModel" "yes" "[Z" ∈ lp_BW := lp_t3 216 rfl rfl
theorem bw_697 : Cond.fieldLink "LeasedPagesModel" 122 "LeasedPagesModel" "page" "[I" ∈ lp_BW := lp_t3 217 rfl rfl
theorem bw_698 : Cond.fieldLink "LeasedPagesModel" 125 "LeasedPagesModel" "content" "[I" ∈ lp_BW := lp_t3 218 rfl rfl
theorem bw_699 : Cond.fieldLink "LeasedPagesModel" 128 "LeasedPagesModel" "four" "[I" ∈ lp_BW := lp_t3 219 rfl rfl
theorem bw_700 : Cond.laysFinal "LeasedPagesModel" "LeasedPagesModel" "duration" "I" ∈ lp_BW := lp_t3 220 rfl rfl
theorem bw_702 : Cond.laysFinal "LeasedPagesModel" "LeasedPagesModel" "down" "[Z" ∈ lp_BW := lp_t3 222 rfl rfl
theorem bw_704 : Cond.laysFinal "LeasedPagesModel" "LeasedPagesModel" "clocks" "[I" ∈ lp_BW := lp_t3 224 rfl rfl
theorem bw_706 : Cond.laysFinal "LeasedPagesModel" "LeasedPagesModel" "pages" "[I" ∈ lp_BW := lp_t3 226 rfl rfl
theorem bw_708 : Cond.laysFinal "LeasedPagesModel" "LeasedPagesModel" "modes" "[I" ∈ lp_BW := lp_t3 228 rfl rfl
theorem bw_710 : Cond.laysFinal "LeasedPagesModel" "LeasedPagesModel" "ends" "[I" ∈ lp_BW := lp_t3 230 rfl rfl
theorem bw_712 : Cond.lays "LeasedPagesModel" "LeasedPagesModel" "grace" "I" ∈ lp_BW := lp_t3 232 rfl rfl
theorem bw_714 : Cond.laysFinal "LeasedPagesModel" "LeasedPagesModel" "done" "[I" ∈ lp_BW := lp_t3 234 rfl rfl
theorem bw_716 : Cond.laysFinal "LeasedPagesModel" "LeasedPagesModel" "saidKind" "[I" ∈ lp_BW := lp_t3 236 rfl rfl
theorem bw_718 : Cond.laysFinal "LeasedPagesModel" "LeasedPagesModel" "saidFile" "[I" ∈ lp_BW := lp_t3 238 rfl rfl
theorem bw_720 : Cond.laysFinal "LeasedPagesModel" "LeasedPagesModel" "saidMode" "[I" ∈ lp_BW := lp_t4 0 rfl rfl
theorem bw_722 : Cond.laysFinal "LeasedPagesModel" "LeasedPagesModel" "saidMore" "[Z" ∈ lp_BW := lp_t4 2 rfl rfl
theorem bw_724 : Cond.laysFinal "LeasedPagesModel" "LeasedPagesModel" "saidPages" "[I" ∈ lp_BW := lp_t4 4 rfl rfl
theorem bw_726 : Cond.laysFinal "LeasedPagesModel" "LeasedPagesModel" "waitFile" "[I" ∈ lp_BW := lp_t4 6 rfl rfl
theorem bw_728 : Cond.laysFinal "LeasedPagesModel" "LeasedPagesModel" "waitNumber" "[I" ∈ lp_BW := lp_t4 8 rfl rfl
theorem bw_730 : Cond.laysFinal "LeasedPagesModel" "LeasedPagesModel" "waitMode" "[I" ∈ lp_BW := lp_t4 10 rfl rfl
theorem bw_732 : Cond.laysFinal "LeasedPagesModel" "LeasedPagesModel" "waitSince" "[I" ∈ lp_BW := lp_t4 12 rfl rfl
theorem bw_734 : Cond.lays "LeasedPagesModel" "LeasedPagesModel" "arrivals" "I" ∈ lp_BW := lp_t4 14 rfl rfl
theorem bw_736 : Cond.laysFinal "LeasedPagesModel" "LeasedPagesModel" "number" "[I" ∈ lp_BW := lp_t4 16 rfl rfl
theorem bw_738 : Cond.laysFinal "LeasedPagesModel" "LeasedPagesModel" "knownMode" "[I" ∈ lp_BW := lp_t4 18 rfl rfl
theorem bw_740 : Cond.laysFinal "LeasedPagesModel" "LeasedPagesModel" "knownEnd" "[I" ∈ lp_BW := lp_t4 20 rfl rfl
theorem bw_742 : Cond.laysFinal "LeasedPagesModel" "LeasedPagesModel" "recalled" "[Z" ∈ lp_BW := lp_t4 22 rfl rfl
theorem bw_744 : Cond.laysFinal "LeasedPagesModel" "LeasedPagesModel" "missed" "[Z" ∈ lp_BW := lp_t4 24 rfl rfl
theorem bw_746 : Cond.laysFinal "LeasedPagesModel" "LeasedPagesModel" "copies" "[I" ∈ lp_BW := lp_t4 26 rfl rfl
theorem bw_748 : Cond.laysFinal "LeasedPagesModel" "LeasedPagesModel" "dirties" "[I" ∈ lp_BW := lp_t4 28 rfl rfl
theorem bw_750 : Cond.laysFinal "LeasedPagesModel" "LeasedPagesModel" "dirtyPlace" "[I" ∈ lp_BW := lp_t4 30 rfl rfl
theorem bw_752 : Cond.laysFinal "LeasedPagesModel" "LeasedPagesModel" "dirtyValue" "[I" ∈ lp_BW := lp_t4 32 rfl rfl
theorem bw_754 : Cond.laysFinal "LeasedPagesModel" "LeasedPagesModel" "openKind" "[I" ∈ lp_BW := lp_t4 34 rfl rfl
theorem bw_756 : Cond.laysFinal "LeasedPagesModel" "LeasedPagesModel" "openFile" "[I" ∈ lp_BW := lp_t4 36 rfl rfl
theorem bw_758 : Cond.laysFinal "LeasedPagesModel" "LeasedPagesModel" "openMode" "[I" ∈ lp_BW := lp_t4 38 rfl rfl
theorem bw_760 : Cond.laysFinal "LeasedPagesModel" "LeasedPagesModel" "openClaim" "[Z" ∈ lp_BW := lp_t4 40 rfl rfl
theorem bw_762 : Cond.laysFinal "LeasedPagesModel" "LeasedPagesModel" "openPage" "[I" ∈ lp_BW := lp_t4 42 rfl rfl
theorem bw_764 : Cond.laysFinal "LeasedPagesModel" "LeasedPagesModel" "openValue" "[I" ∈ lp_BW := lp_t4 44 rfl rfl
theorem bw_766 : Cond.laysFinal "LeasedPagesModel" "LeasedPagesModel" "openSince" "[I" ∈ lp_BW := lp_t4 46 rfl rfl
theorem bw_768 : Cond.lays "LeasedPagesModel" "LeasedPagesModel" "under" "I" ∈ lp_BW := lp_t4 48 rfl rfl
theorem bw_770 : Cond.laysFinal "LeasedPagesModel" "LeasedPagesModel" "kind" "[I" ∈ lp_BW := lp_t4 50 rfl rfl
theorem bw_772 : Cond.laysFinal "LeasedPagesModel" "LeasedPagesModel" "client" "[I" ∈ lp_BW := lp_t4 52 rfl rfl
theorem bw_774 : Cond.laysFinal "LeasedPagesModel" "LeasedPagesModel" "file" "[I" ∈ lp_BW := lp_t4 54 rfl rfl
theorem bw_776 : Cond.laysFinal "LeasedPagesModel" "LeasedPagesModel" "which" "[I" ∈ lp_BW := lp_t4 56 rfl rfl
theorem bw_778 : Cond.laysFinal "LeasedPagesModel" "LeasedPagesModel" "mode" "[I" ∈ lp_BW := lp_t4 58 rfl rfl
theorem bw_780 : Cond.laysFinal "LeasedPagesModel" "LeasedPagesModel" "yes" "[Z" ∈ lp_BW := lp_t4 60 rfl rfl
theorem bw_782 : Cond.laysFinal "LeasedPagesModel" "LeasedPagesModel" "page" "[I" ∈ lp_BW := lp_t4 62 rfl rfl
theorem bw_784 : Cond.laysFinal "LeasedPagesModel" "LeasedPagesModel" "content" "[I" ∈ lp_BW := lp_t4 64 rfl rfl
theorem bw_786 : Cond.laysFinal "LeasedPagesModel" "LeasedPagesModel" "four" "[I" ∈ lp_BW := lp_t4 66 rfl rfl
theorem bw_789 : Cond.arrayClass FieldType.boolean ∈ lp_BW := lp_t4 69 rfl rfl
theorem bw_790 : Cond.methodLink "LeasedPagesLaw" 53 ⟨"LeasedPagesModel", "messages", "()I"⟩ ∈ lp_BW := lp_t4 70 rfl rfl
theorem bw_791 : Cond.instanceMethod ⟨"LeasedPagesModel", "messages", "()I"⟩ ∈ lp_BW := lp_t4 71 rfl rfl
theorem bw_792 : Cond.selects "LeasedPagesModel" ⟨"LeasedPagesModel", "messages", "()I"⟩ ⟨"LeasedPagesModel", "messages", "()I"⟩ ∈ lp_BW := lp_t4 72 rfl rfl
theorem bw_793 : Cond.code ⟨"LeasedPagesModel", "messages", "()I"⟩ prog_12_method_5_code 1 (Option.some FieldType.int) ∈ lp_BW := lp_t4 73 rfl rfl
theorem bw_794 : Cond.methodLink "LeasedPagesLaw" 57 ⟨"LeasedPagesModel", "message", "(I)I"⟩ ∈ lp_BW := lp_t4 74 rfl rfl
theorem bw_795 : Cond.instanceMethod ⟨"LeasedPagesModel", "message", "(I)I"⟩ ∈ lp_BW := lp_t4 75 rfl rfl
theorem bw_796 : Cond.selects "LeasedPagesModel" ⟨"LeasedPagesModel", "message", "(I)I"⟩ ⟨"LeasedPagesModel", "message", "(I)I"⟩ ∈ lp_BW := lp_t4 76 rfl rfl
theorem bw_797 : Cond.code ⟨"LeasedPagesModel", "message", "(I)I"⟩ prog_12_method_6_code 2 (Option.some FieldType.int) ∈ lp_BW := lp_t4 77 rfl rfl
theorem bw_798 : Cond.methodLink "LeasedPagesModel" 138 ⟨"LeasedPagesModel", "in", "(III)Z"⟩ ∈ lp_BW := lp_t4 78 rfl rfl
theorem bw_799 : Cond.static ⟨"LeasedPagesModel", "in", "(III)Z"⟩ ∈ lp_BW := lp_t4 79 rfl rfl
theorem bw_800 : Cond.code ⟨"LeasedPagesModel", "in", "(III)Z"⟩ prog_12_method_2_code 3 (Option.some FieldType.boolean) ∈ lp_BW := lp_t4 80 rfl rfl
theorem bw_801 : Cond.constant "LeasedPagesModel" 142 (1000000) ∈ lp_BW := lp_t4 81 rfl rfl
theorem bw_802 : Cond.constant "LeasedPagesModel" 143 (100000) ∈ lp_BW := lp_t4 82 rfl rfl
theorem bw_803 : Cond.methodLink "LeasedPagesLaw" 66 ⟨"LeasedPagesModel", "drop", "(I)Z"⟩ ∈ lp_BW := lp_t4 83 rfl rfl
theorem bw_804 : Cond.instanceMethod ⟨"LeasedPagesModel", "drop", "(I)Z"⟩ ∈ lp_BW := lp_t4 84 rfl rfl
theorem bw_805 : Cond.selects "LeasedPagesModel" ⟨"LeasedPagesModel", "drop", "(I)Z"⟩ ⟨"LeasedPagesModel", "drop", "(I)Z"⟩ ∈ lp_BW := lp_t4 85 rfl rfl
theorem bw_806 : Cond.code ⟨"LeasedPagesModel", "drop", "(I)Z"⟩ prog_12_method_7_code 3 (Option.some FieldType.boolean) ∈ lp_BW := lp_t4 86 rfl rfl
theorem bw_807 : Cond.methodLink "LeasedPagesModel" 144 ⟨"LeasedPagesModel", "move", "(II)V"⟩ ∈ lp_BW := lp_t4 87 rfl rfl
theorem bw_809 : Cond.instanceMethod ⟨"LeasedPagesModel", "move", "(II)V"⟩ ∈ lp_BW := lp_t4 89 rfl rfl
theorem bw_810 : Cond.code ⟨"LeasedPagesModel", "move", "(II)V"⟩ prog_12_method_4_code 4 (Option.none : Option FieldType) ∈ lp_BW := lp_t4 90 rfl rfl
theorem bw_811 : Cond.methodLink "LeasedPagesLaw" 70 ⟨"LeasedPagesModel", "duplicate", "(I)Z"⟩ ∈ lp_BW := lp_t4 91 rfl rfl
theorem bw_812 : Cond.instanceMethod ⟨"LeasedPagesModel", "duplicate", "(I)Z"⟩ ∈ lp_BW := lp_t4 92 rfl rfl
theorem bw_813 : Cond.selects "LeasedPagesModel" ⟨"LeasedPagesModel", "duplicate", "(I)Z"⟩ ⟨"LeasedPagesModel", "duplicate", "(I)Z"⟩ ∈ lp_BW := lp_t4 93 rfl rfl
theorem bw_814 : Cond.code ⟨"LeasedPagesModel", "duplicate", "(I)Z"⟩ prog_12_method_8_code 2 (Option.some FieldType.boolean) ∈ lp_BW := lp_t4 94 rfl rfl
theorem bw_815 : Cond.methodLink "LeasedPagesLaw" 62 ⟨"LeasedPagesModel", "deliver", "(I)Z"⟩ ∈ lp_BW := lp_t4 95 rfl rfl
theorem bw_816 : Cond.instanceMethod ⟨"LeasedPagesModel", "deliver", "(I)Z"⟩ ∈ lp_BW := lp_t4 96 rfl rfl
theorem bw_817 : Cond.selects "LeasedPagesModel" ⟨"LeasedPagesModel", "deliver", "(I)Z"⟩ ⟨"LeasedPagesModel", "deliver", "(I)Z"⟩ ∈ lp_BW := lp_t4 97 rfl rfl
theorem bw_818 : Cond.code ⟨"LeasedPagesModel", "deliver", "(I)Z"⟩ prog_12_method_11_code 10 (Option.some FieldType.boolean) ∈ lp_BW := lp_t4 98 rfl rfl
theorem bw_819 : Cond.methodLink "LeasedPagesModel" 152 ⟨"LeasedPagesModel", "granted", "(IIIZI)V"⟩ ∈ lp_BW := lp_t4 99 rfl rfl
theorem bw_821 : Cond.instanceMethod ⟨"LeasedPagesModel", "granted", "(IIIZI)V"⟩ ∈ lp_BW := lp_t4 101 rfl rfl
theorem bw_822 : Cond.code ⟨"LeasedPagesModel", "granted", "(IIIZI)V"⟩ prog_12_method_24_code 7 (Option.none : Option FieldType) ∈ lp_BW := lp_t4 102 rfl rfl
theorem bw_823 : Cond.methodLink "LeasedPagesModel" 206 ⟨"LeasedPagesModel", "hasDirty", "(II)Z"⟩ ∈ lp_BW := lp_t4 103 rfl rfl
theorem bw_825 : Cond.instanceMethod ⟨"LeasedPagesModel", "hasDirty", "(II)Z"⟩ ∈ lp_BW := lp_t4 105 rfl rfl
theorem bw_826 : Cond.code ⟨"LeasedPagesModel", "hasDirty", "(II)Z"⟩ prog_12_method_22_code 5 (Option.some FieldType.boolean) ∈ lp_BW := lp_t4 106 rfl rfl
theorem bw_827 : Cond.methodLink "LeasedPagesModel" 209 ⟨"LeasedPagesModel", "forget", "(III)V"⟩ ∈ lp_BW := lp_t4 107 rfl rfl
theorem bw_829 : Cond.instanceMethod ⟨"LeasedPagesModel", "forget", "(III)V"⟩ ∈ lp_BW := lp_t4 109 rfl rfl
theorem bw_830 : Cond.code ⟨"LeasedPagesModel", "forget", "(III)V"⟩ prog_12_method_23_code 8 (Option.none : Option FieldType) ∈ lp_BW := lp_t4 110 rfl rfl
theorem bw_831 : Cond.methodLink "LeasedPagesModel" 156 ⟨"LeasedPagesModel", "drop", "(I)Z"⟩ ∈ lp_BW := lp_t4 111 rfl rfl
theorem bw_832 : Cond.methodLink "LeasedPagesModel" 160 ⟨"LeasedPagesModel", "request", "(IIIIIZII)V"⟩ ∈ lp_BW := lp_t4 112 rfl rfl
theorem bw_834 : Cond.instanceMethod ⟨"LeasedPagesModel", "request", "(IIIIIZII)V"⟩ ∈ lp_BW := lp_t4 114 rfl rfl
theorem bw_835 : Cond.code ⟨"LeasedPagesModel", "request", "(IIIIIZII)V"⟩ prog_12_method_17_code 10 (Option.none : Option FieldType) ∈ lp_BW := lp_t4 115 rfl rfl
theorem bw_836 : Cond.methodLink "LeasedPagesModel" 175 ⟨"LeasedPagesModel", "answer", "(I)V"⟩ ∈ lp_BW := lp_t4 116 rfl rfl
theorem bw_838 : Cond.instanceMethod ⟨"LeasedPagesModel", "answer", "(I)V"⟩ ∈ lp_BW := lp_t4 118 rfl rfl
theorem bw_839 : Cond.code ⟨"LeasedPagesModel", "answer", "(I)V"⟩ prog_12_method_10_code 4 (Option.none : Option FieldType) ∈ lp_BW := lp_t4 119 rfl rfl
theorem bw_840 : Cond.methodLink "LeasedPagesModel" 148 ⟨"LeasedPagesModel", "room", "(IIII)I"⟩ ∈ lp_BW := lp_t4 120 rfl rfl
theorem bw_842 : Cond.instanceMethod ⟨"LeasedPagesModel", "room", "(IIII)I"⟩ ∈ lp_BW := lp_t4 122 rfl rfl
theorem bw_843 : Cond.code ⟨"LeasedPagesModel", "room", "(IIII)I"⟩ prog_12_method_3_code 5 (Option.some FieldType.int) ∈ lp_BW := lp_t4 123 rfl rfl
theorem bw_844 : Cond.methodLink "LeasedPagesModel" 183 ⟨"LeasedPagesModel", "askedLease", "(IIIIZ)V"⟩ ∈ lp_BW := lp_t4 124 rfl rfl
theorem bw_846 : Cond.instanceMethod ⟨"LeasedPagesModel", "askedLease", "(IIIIZ)V"⟩ ∈ lp_BW := lp_t4 126 rfl rfl
theorem bw_847 : Cond.code ⟨"LeasedPagesModel", "askedLease", "(IIIIZ)V"⟩ prog_12_method_18_code 8 (Option.none : Option FieldType) ∈ lp_BW := lp_t4 127 rfl rfl
theorem bw_848 : Cond.methodLink "LeasedPagesModel" 171 ⟨"LeasedPagesModel", "has", "(II)Z"⟩ ∈ lp_BW := lp_t4 128 rfl rfl
theorem bw_850 : Cond.instanceMethod ⟨"LeasedPagesModel", "has", "(II)Z"⟩ ∈ lp_BW := lp_t4 130 rfl rfl
theorem bw_851 : Cond.code ⟨"LeasedPagesModel", "has", "(II)Z"⟩ prog_12_method_12_code 3 (Option.some FieldType.boolean) ∈ lp_BW := lp_t4 131 rfl rfl
theorem bw_852 : Cond.methodLink "LeasedPagesModel" 187 ⟨"LeasedPagesModel", "others", "(II)Z"⟩ ∈ lp_BW := lp_t4 132 rfl rfl
theorem bw_854 : Cond.instanceMethod ⟨"LeasedPagesModel", "others", "(II)Z"⟩ ∈ lp_BW := lp_t4 134 rfl rfl
theorem bw_855 : Cond.code ⟨"LeasedPagesModel", "others", "(II)Z"⟩ prog_12_method_14_code 5 (Option.some FieldType.boolean) ∈ lp_BW := lp_t4 135 rfl rfl
theorem bw_856 : Cond.methodLink "LeasedPagesModel" 179 ⟨"LeasedPagesModel", "finish", "(IIII)V"⟩ ∈ lp_BW := lp_t4 136 rfl rfl
theorem bw_858 : Cond.instanceMethod ⟨"LeasedPagesModel", "finish", "(IIII)V"⟩ ∈ lp_BW := lp_t4 138 rfl rfl
theorem bw_859 : Cond.code ⟨"LeasedPagesModel", "finish", "(IIII)V"⟩ prog_12_method_15_code 5 (Option.none : Option FieldType) ∈ lp_BW := lp_t4 139 rfl rfl
theorem bw_860 : Cond.methodLink "LeasedPagesModel" 193 ⟨"LeasedPagesModel", "conflicts", "(III)Z"⟩ ∈ lp_BW := lp_t4 140 rfl rfl
theorem bw_862 : Cond.instanceMethod ⟨"LeasedPagesModel", "conflicts", "(III)Z"⟩ ∈ lp_BW := lp_t4 142 rfl rfl
theorem bw_863 : Cond.code ⟨"LeasedPagesModel", "conflicts", "(III)Z"⟩ prog_12_method_13_code 6 (Option.some FieldType.boolean) ∈ lp_BW := lp_t4 143 rfl rfl
theorem bw_864 : Cond.methodLink "LeasedPagesModel" 196 ⟨"LeasedPagesModel", "grant", "(IIIIZ)V"⟩ ∈ lp_BW := lp_t4 144 rfl rfl
theorem bw_866 : Cond.instanceMethod ⟨"LeasedPagesModel", "grant", "(IIIIZ)V"⟩ ∈ lp_BW := lp_t4 146 rfl rfl
theorem bw_867 : Cond.code ⟨"LeasedPagesModel", "grant", "(IIIIZ)V"⟩ prog_12_method_16_code 7 (Option.none : Option FieldType) ∈ lp_BW := lp_t4 147 rfl rfl
theorem bw_868 : Cond.methodLink "LeasedPagesModel" 164 ⟨"LeasedPagesModel", "serveLines", "()V"⟩ ∈ lp_BW := lp_t4 148 rfl rfl
theorem bw_870 : Cond.instanceMethod ⟨"LeasedPagesModel", "serveLines", "()V"⟩ ∈ lp_BW := lp_t4 150 rfl rfl
theorem bw_871 : Cond.code ⟨"LeasedPagesModel", "serveLines", "()V"⟩ prog_12_method_20_code 3 (Option.none : Option FieldType) ∈ lp_BW := lp_t4 151 rfl rfl
theorem bw_872 : Cond.methodLink "LeasedPagesModel" 202 ⟨"LeasedPagesModel", "first", "(I)I"⟩ ∈ lp_BW := lp_t4 152 rfl rfl
theorem bw_874 : Cond.instanceMethod ⟨"LeasedPagesModel", "first", "(I)I"⟩ ∈ lp_BW := lp_t4 154 rfl rfl
theorem bw_875 : Cond.code ⟨"LeasedPagesModel", "first", "(I)I"⟩ prog_12_method_19_code 4 (Option.some FieldType.int) ∈ lp_BW := lp_t4 155 rfl rfl
theorem bw_876 : Cond.methodLink "LeasedPagesModel" 167 ⟨"LeasedPagesModel", "replied", "(III)V"⟩ ∈ lp_BW := lp_t4 156 rfl rfl
theorem bw_878 : Cond.instanceMethod ⟨"LeasedPagesModel", "replied", "(III)V"⟩ ∈ lp_BW := lp_t4 158 rfl rfl
theorem bw_879 : Cond.code ⟨"LeasedPagesModel", "replied", "(III)V"⟩ prog_12_method_25_code 5 (Option.none : Option FieldType) ∈ lp_BW := lp_t4 159 rfl rfl
theorem bw_880 : Cond.methodLink "LeasedPagesLaw" 25 ⟨"LeasedPagesModel", "acquire", "(III)I"⟩ ∈ lp_BW := lp_t4 160 rfl rfl
theorem bw_881 : Cond.instanceMethod ⟨"LeasedPagesModel", "acquire", "(III)I"⟩ ∈ lp_BW := lp_t4 161 rfl rfl
theorem bw_882 : Cond.selects "LeasedPagesModel" ⟨"LeasedPagesModel", "acquire", "(III)I"⟩ ⟨"LeasedPagesModel", "acquire", "(III)I"⟩ ∈ lp_BW := lp_t4 162 rfl rfl
theorem bw_883 : Cond.code ⟨"LeasedPagesModel", "acquire", "(III)I"⟩ prog_12_method_29_code 6 (Option.some FieldType.int) ∈ lp_BW := lp_t4 163 rfl rfl
theorem bw_884 : Cond.methodLink "LeasedPagesModel" 215 ⟨"LeasedPagesModel", "works", "(I)Z"⟩ ∈ lp_BW := lp_t4 164 rfl rfl
theorem bw_886 : Cond.instanceMethod ⟨"LeasedPagesModel", "works", "(I)Z"⟩ ∈ lp_BW := lp_t4 166 rfl rfl
theorem bw_887 : Cond.code ⟨"LeasedPagesModel", "works", "(I)Z"⟩ prog_12_method_26_code 2 (Option.some FieldType.boolean) ∈ lp_BW := lp_t4 167 rfl rfl
theorem bw_888 : Cond.methodLink "LeasedPagesModel" 218 ⟨"LeasedPagesModel", "lost", "(II)Z"⟩ ∈ lp_BW := lp_t4 168 rfl rfl
theorem bw_890 : Cond.instanceMethod ⟨"LeasedPagesModel", "lost", "(II)Z"⟩ ∈ lp_BW := lp_t4 170 rfl rfl
theorem bw_891 : Cond.code ⟨"LeasedPagesModel", "lost", "(II)Z"⟩ prog_12_method_27_code 4 (Option.some FieldType.boolean) ∈ lp_BW := lp_t4 171 rfl rfl
theorem bw_892 : Cond.methodLink "LeasedPagesModel" 221 ⟨"LeasedPagesModel", "valid", "(II)Z"⟩ ∈ lp_BW := lp_t4 172 rfl rfl
theorem bw_894 : Cond.instanceMethod ⟨"LeasedPagesModel", "valid", "(II)Z"⟩ ∈ lp_BW := lp_t4 174 rfl rfl
theorem bw_895 : Cond.code ⟨"LeasedPagesModel", "valid", "(II)Z"⟩ prog_12_method_21_code 3 (Option.some FieldType.boolean) ∈ lp_BW := lp_t4 175 rfl rfl
theorem bw_896 : Cond.methodLink "LeasedPagesModel" 224 ⟨"LeasedPagesModel", "open", "(IIIIZ)I"⟩ ∈ lp_BW := lp_t4 176 rfl rfl
theorem bw_898 : Cond.instanceMethod ⟨"LeasedPagesModel", "open", "(IIIIZ)I"⟩ ∈ lp_BW := lp_t4 178 rfl rfl
theorem bw_899 : Cond.code ⟨"LeasedPagesModel", "open", "(IIIIZ)I"⟩ prog_12_method_28_code 6 (Option.some FieldType.int) ∈ lp_BW := lp_t4 179 rfl rfl
theorem bw_900 : Cond.methodLink "LeasedPagesModel" 212 ⟨"LeasedPagesModel", "ask", "(I)V"⟩ ∈ lp_BW := lp_t4 180 rfl rfl
theorem bw_902 : Cond.instanceMethod ⟨"LeasedPagesModel", "ask", "(I)V"⟩ ∈ lp_BW := lp_t4 182 rfl rfl
theorem bw_903 : Cond.code ⟨"LeasedPagesModel", "ask", "(I)V"⟩ prog_12_method_9_code 3 (Option.none : Option FieldType) ∈ lp_BW := lp_t4 183 rfl rfl
theorem bw_904 : Cond.methodLink "LeasedPagesLaw" 30 ⟨"LeasedPagesModel", "read", "(IIII)I"⟩ ∈ lp_BW := lp_t4 184 rfl rfl
theorem bw_905 : Cond.instanceMethod ⟨"LeasedPagesModel", "read", "(IIII)I"⟩ ∈ lp_BW := lp_t4 185 rfl rfl
theorem bw_906 : Cond.selects "LeasedPagesModel" ⟨"LeasedPagesModel", "read", "(IIII)I"⟩ ⟨"LeasedPagesModel", "read", "(IIII)I"⟩ ∈ lp_BW := lp_t4 186 rfl rfl
theorem bw_907 : Cond.code ⟨"LeasedPagesModel", "read", "(IIII)I"⟩ prog_12_method_30_code 5 (Option.some FieldType.int) ∈ lp_BW := lp_t4 187 rfl rfl
theorem bw_908 : Cond.methodLink "LeasedPagesLaw" 34 ⟨"LeasedPagesModel", "write", "(IIII)I"⟩ ∈ lp_BW := lp_t4 188 rfl rfl
theorem bw_909 : Cond.instanceMethod ⟨"LeasedPagesModel", "write", "(IIII)I"⟩ ∈ lp_BW := lp_t4 189 rfl rfl
theorem bw_910 : Cond.selects "LeasedPagesModel" ⟨"LeasedPagesModel", "write", "(IIII)I"⟩ ⟨"LeasedPagesModel", "write", "(IIII)I"⟩ ∈ lp_BW := lp_t4 190 rfl rfl
theorem bw_911 : Cond.code ⟨"LeasedPagesModel", "write", "(IIII)I"⟩ prog_12_method_31_code 5 (Option.some FieldType.int) ∈ lp_BW := lp_t4 191 rfl rfl
theorem bw_912 : Cond.methodLink "LeasedPagesLaw" 39 ⟨"LeasedPagesModel", "flush", "(I)I"⟩ ∈ lp_BW := lp_t4 192 rfl rfl
theorem bw_913 : Cond.instanceMethod ⟨"LeasedPagesModel", "flush", "(I)I"⟩ ∈ lp_BW := lp_t4 193 rfl rfl
theorem bw_914 : Cond.selects "LeasedPagesModel" ⟨"LeasedPagesModel", "flush", "(I)I"⟩ ⟨"LeasedPagesModel", "flush", "(I)I"⟩ ∈ lp_BW := lp_t4 194 rfl rfl
theorem bw_915 : Cond.code ⟨"LeasedPagesModel", "flush", "(I)I"⟩ prog_12_method_32_code 3 (Option.some FieldType.int) ∈ lp_BW := lp_t4 195 rfl rfl
theorem bw_916 : Cond.methodLink "LeasedPagesLaw" 44 ⟨"LeasedPagesModel", "close", "(II)I"⟩ ∈ lp_BW := lp_t4 196 rfl rfl
theorem bw_917 : Cond.instanceMethod ⟨"LeasedPagesModel", "close", "(II)I"⟩ ∈ lp_BW := lp_t4 197 rfl rfl
theorem bw_918 : Cond.selects "LeasedPagesModel" ⟨"LeasedPagesModel", "close", "(II)I"⟩ ⟨"LeasedPagesModel", "close", "(II)I"⟩ ∈ lp_BW := lp_t4 198 rfl rfl
theorem bw_919 : Cond.code ⟨"LeasedPagesModel", "close", "(II)I"⟩ prog_12_method_33_code 3 (Option.some FieldType.int) ∈ lp_BW := lp_t4 199 rfl rfl
theorem bw_920 : Cond.methodLink "LeasedPagesLaw" 48 ⟨"LeasedPagesModel", "retry", "(I)I"⟩ ∈ lp_BW := lp_t4 200 rfl rfl
theorem bw_921 : Cond.instanceMethod ⟨"LeasedPagesModel", "retry", "(I)I"⟩ ∈ lp_BW := lp_t4 201 rfl rfl
theorem bw_922 : Cond.selects "LeasedPagesModel" ⟨"LeasedPagesModel", "retry", "(I)I"⟩ ⟨"LeasedPagesModel", "retry", "(I)I"⟩ ∈ lp_BW := lp_t4 202 rfl rfl
theorem bw_923 : Cond.code ⟨"LeasedPagesModel", "retry", "(I)I"⟩ prog_12_method_34_code 2 (Option.some FieldType.int) ∈ lp_BW := lp_t4 203 rfl rfl
theorem bw_924 : Cond.methodLink "LeasedPagesLaw" 75 ⟨"LeasedPagesModel", "tick", "(II)Z"⟩ ∈ lp_BW := lp_t4 204 rfl rfl
theorem bw_925 : Cond.instanceMethod ⟨"LeasedPagesModel", "tick", "(II)Z"⟩ ∈ lp_BW := lp_t4 205 rfl rfl
theorem bw_926 : Cond.selects "LeasedPagesModel" ⟨"LeasedPagesModel", "tick", "(II)Z"⟩ ⟨"LeasedPagesModel", "tick", "(II)Z"⟩ ∈ lp_BW := lp_t4 206 rfl rfl
theorem bw_927 : Cond.code ⟨"LeasedPagesModel", "tick", "(II)Z"⟩ prog_12_method_35_code 5 (Option.some FieldType.boolean) ∈ lp_BW := lp_t4 207 rfl rfl
theorem bw_928 : Cond.methodLink "LeasedPagesLaw" 79 ⟨"LeasedPagesModel", "crash", "(I)Z"⟩ ∈ lp_BW := lp_t4 208 rfl rfl
theorem bw_929 : Cond.instanceMethod ⟨"LeasedPagesModel", "crash", "(I)Z"⟩ ∈ lp_BW := lp_t4 209 rfl rfl
theorem bw_930 : Cond.selects "LeasedPagesModel" ⟨"LeasedPagesModel", "crash", "(I)Z"⟩ ⟨"LeasedPagesModel", "crash", "(I)Z"⟩ ∈ lp_BW := lp_t4 210 rfl rfl
theorem bw_931 : Cond.code ⟨"LeasedPagesModel", "crash", "(I)Z"⟩ prog_12_method_36_code 3 (Option.some FieldType.boolean) ∈ lp_BW := lp_t4 211 rfl rfl
theorem bw_932 : Cond.methodLink "LeasedPagesLaw" 83 ⟨"LeasedPagesModel", "restart", "(I)Z"⟩ ∈ lp_BW := lp_t4 212 rfl rfl
theorem bw_933 : Cond.instanceMethod ⟨"LeasedPagesModel", "restart", "(I)Z"⟩ ∈ lp_BW := lp_t4 213 rfl rfl
theorem bw_934 : Cond.selects "LeasedPagesModel" ⟨"LeasedPagesModel", "restart", "(I)Z"⟩ ⟨"LeasedPagesModel", "restart", "(I)Z"⟩ ∈ lp_BW := lp_t4 214 rfl rfl
theorem bw_935 : Cond.code ⟨"LeasedPagesModel", "restart", "(I)Z"⟩ prog_12_method_37_code 2 (Option.some FieldType.boolean) ∈ lp_BW := lp_t4 215 rfl rfl
theorem bw_936 : Cond.methodLink "LeasedPagesLaw" 87 ⟨"LeasedPagesModel", "clock", "(I)I"⟩ ∈ lp_BW := lp_t4 216 rfl rfl
theorem bw_937 : Cond.instanceMethod ⟨"LeasedPagesModel", "clock", "(I)I"⟩ ∈ lp_BW := lp_t4 217 rfl rfl
theorem bw_938 : Cond.selects "LeasedPagesModel" ⟨"LeasedPagesModel", "clock", "(I)I"⟩ ⟨"LeasedPagesModel", "clock", "(I)I"⟩ ∈ lp_BW := lp_t4 218 rfl rfl
theorem bw_939 : Cond.code ⟨"LeasedPagesModel", "clock", "(I)I"⟩ prog_12_method_38_code 2 (Option.some FieldType.int) ∈ lp_BW := lp_t4 219 rfl rfl
theorem bw_940 : Cond.methodLink "LeasedPagesLaw" 91 ⟨"LeasedPagesModel", "lease", "(II)I"⟩ ∈ lp_BW := lp_t4 220 rfl rfl
theorem bw_941 : Cond.instanceMethod ⟨"LeasedPagesModel", "lease", "(II)I"⟩ ∈ lp_BW := lp_t4 221 rfl rfl
theorem bw_942 : Cond.selects "LeasedPagesModel" ⟨"LeasedPagesModel", "lease", "(II)I"⟩ ⟨"LeasedPagesModel", "lease", "(II)I"⟩ ∈ lp_BW := lp_t4 222 rfl rfl
theorem bw_943 : Cond.code ⟨"LeasedPagesModel", "lease", "(II)I"⟩ prog_12_method_39_code 3 (Option.some FieldType.int) ∈ lp_BW := lp_t4 223 rfl rfl
theorem bw_944 : Cond.methodLink "LeasedPagesLaw" 95 ⟨"LeasedPagesModel", "dirty", "(I)I"⟩ ∈ lp_BW := lp_t4 224 rfl rfl
theorem bw_945 : Cond.instanceMethod ⟨"LeasedPagesModel", "dirty", "(I)I"⟩ ∈ lp_BW := lp_t4 225 rfl rfl
theorem bw_946 : Cond.selects "LeasedPagesModel" ⟨"LeasedPagesModel", "dirty", "(I)I"⟩ ⟨"LeasedPagesModel", "dirty", "(I)I"⟩ ∈ lp_BW := lp_t4 226 rfl rfl
theorem bw_947 : Cond.code ⟨"LeasedPagesModel", "dirty", "(I)I"⟩ prog_12_method_40_code 2 (Option.some FieldType.int) ∈ lp_BW := lp_t4 227 rfl rfl
theorem bw_948 : Cond.methodLink "LeasedPagesLaw" 99 ⟨"LeasedPagesModel", "held", "(II)I"⟩ ∈ lp_BW := lp_t4 228 rfl rfl
theorem bw_949 : Cond.instanceMethod ⟨"LeasedPagesModel", "held", "(II)I"⟩ ∈ lp_BW := lp_t4 229 rfl rfl
theorem bw_950 : Cond.selects "LeasedPagesModel" ⟨"LeasedPagesModel", "held", "(II)I"⟩ ⟨"LeasedPagesModel", "held", "(II)I"⟩ ∈ lp_BW := lp_t4 230 rfl rfl
theorem bw_951 : Cond.code ⟨"LeasedPagesModel", "held", "(II)I"⟩ prog_12_method_41_code 3 (Option.some FieldType.int) ∈ lp_BW := lp_t4 231 rfl rfl
theorem bw_952 : Cond.methodLink "LeasedPagesLaw" 103 ⟨"LeasedPagesModel", "waiting", "(I)I"⟩ ∈ lp_BW := lp_t4 232 rfl rfl
theorem bw_953 : Cond.instanceMethod ⟨"LeasedPagesModel", "waiting", "(I)I"⟩ ∈ lp_BW := lp_t4 233 rfl rfl
theorem bw_954 : Cond.selects "LeasedPagesModel" ⟨"LeasedPagesModel", "waiting", "(I)I"⟩ ⟨"LeasedPagesModel", "waiting", "(I)I"⟩ ∈ lp_BW := lp_t4 234 rfl rfl
theorem bw_955 : Cond.code ⟨"LeasedPagesModel", "waiting", "(I)I"⟩ prog_12_method_42_code 4 (Option.some FieldType.int) ∈ lp_BW := lp_t4 235 rfl rfl
theorem bw_956 : Cond.methodLink "LeasedPagesLaw" 107 ⟨"LeasedPagesModel", "stored", "(II)I"⟩ ∈ lp_BW := lp_t4 236 rfl rfl
theorem bw_957 : Cond.instanceMethod ⟨"LeasedPagesModel", "stored", "(II)I"⟩ ∈ lp_BW := lp_t4 237 rfl rfl
theorem bw_958 : Cond.selects "LeasedPagesModel" ⟨"LeasedPagesModel", "stored", "(II)I"⟩ ⟨"LeasedPagesModel", "stored", "(II)I"⟩ ∈ lp_BW := lp_t4 238 rfl rfl
theorem bw_959 : Cond.code ⟨"LeasedPagesModel", "stored", "(II)I"⟩ prog_12_method_43_code 3 (Option.some FieldType.int) ∈ lp_BW := lp_t4 239 rfl rfl
theorem bs_0 : Cond.selects "LeasedPages" ⟨"LeasedPages", "clientThatIsUp", "(I)LLeasedPages$Client;"⟩ ⟨"LeasedPages", "clientThatIsUp", "(I)LLeasedPages$Client;"⟩ ∈ lp_BW := lp_sl 0 rfl rfl
theorem bs_1 : Cond.selects "LeasedPages$Client" ⟨"LeasedPages$Client", "sendNew", "(LLeasedPages$Request;)I"⟩ ⟨"LeasedPages$Client", "sendNew", "(LLeasedPages$Request;)I"⟩ ∈ lp_BW := lp_sl 1 rfl rfl
theorem bs_2 : Cond.selects "LeasedPages$Server" ⟨"LeasedPages$Server", "waitsAlready", "(LLeasedPages$Request;)Z"⟩ ⟨"LeasedPages$Server", "waitsAlready", "(LLeasedPages$Request;)Z"⟩ ∈ lp_BW := lp_sl 2 rfl rfl
theorem bs_3 : Cond.selects "LeasedPages$Line" ⟨"LeasedPages$Line", "placeOf", "(I)I"⟩ ⟨"LeasedPages$Line", "placeOf", "(I)I"⟩ ∈ lp_BW := lp_sl 3 rfl rfl
theorem bs_4 : Cond.selects "LeasedPages$Server" ⟨"LeasedPages$Server", "takeOutOfLines", "(I)V"⟩ ⟨"LeasedPages$Server", "takeOutOfLines", "(I)V"⟩ ∈ lp_BW := lp_sl 4 rfl rfl
theorem bs_5 : Cond.selects "LeasedPages$Server" ⟨"LeasedPages$Server", "serveLease", "(LLeasedPages$Request;)V"⟩ ⟨"LeasedPages$Server", "serveLease", "(LLeasedPages$Request;)V"⟩ ∈ lp_BW := lp_sl 5 rfl rfl
theorem bs_6 : Cond.selects "LeasedPages$Server" ⟨"LeasedPages$Server", "hasLease", "(II)Z"⟩ ⟨"LeasedPages$Server", "hasLease", "(II)Z"⟩ ∈ lp_BW := lp_sl 6 rfl rfl
theorem bs_7 : Cond.selects "LeasedPages$Server" ⟨"LeasedPages$Server", "finish", "(LLeasedPages$Reply;)V"⟩ ⟨"LeasedPages$Server", "finish", "(LLeasedPages$Reply;)V"⟩ ∈ lp_BW := lp_sl 7 rfl rfl
theorem bs_8 : Cond.selects "LeasedPages$Server" ⟨"LeasedPages$Server", "conflictsWithAny", "(LLeasedPages$Request;)Z"⟩ ⟨"LeasedPages$Server", "conflictsWithAny", "(LLeasedPages$Request;)Z"⟩ ∈ lp_BW := lp_sl 8 rfl rfl
theorem bs_9 : Cond.selects "LeasedPages$Server" ⟨"LeasedPages$Server", "conflicts", "(LLeasedPages$Request;I)Z"⟩ ⟨"LeasedPages$Server", "conflicts", "(LLeasedPages$Request;I)Z"⟩ ∈ lp_BW := lp_sl 9 rfl rfl
theorem bs_10 : Cond.selects "LeasedPages$Server" ⟨"LeasedPages$Server", "grant", "(LLeasedPages$Request;)V"⟩ ⟨"LeasedPages$Server", "grant", "(LLeasedPages$Request;)V"⟩ ∈ lp_BW := lp_sl 10 rfl rfl
theorem bs_11 : Cond.selects "LeasedPages$Server" ⟨"LeasedPages$Server", "recallConflicting", "(LLeasedPages$Request;)V"⟩ ⟨"LeasedPages$Server", "recallConflicting", "(LLeasedPages$Request;)V"⟩ ∈ lp_BW := lp_sl 11 rfl rfl
theorem bs_12 : Cond.selects "LeasedPages$Server" ⟨"LeasedPages$Server", "serveStore", "(LLeasedPages$Request;)V"⟩ ⟨"LeasedPages$Server", "serveStore", "(LLeasedPages$Request;)V"⟩ ∈ lp_BW := lp_sl 12 rfl rfl
theorem bs_13 : Cond.selects "LeasedPages$Server" ⟨"LeasedPages$Server", "serveRelease", "(LLeasedPages$Request;)V"⟩ ⟨"LeasedPages$Server", "serveRelease", "(LLeasedPages$Request;)V"⟩ ∈ lp_BW := lp_sl 13 rfl rfl
theorem bs_14 : Cond.selects "LeasedPages$Server" ⟨"LeasedPages$Server", "goThroughLines", "()V"⟩ ⟨"LeasedPages$Server", "goThroughLines", "()V"⟩ ∈ lp_BW := lp_sl 14 rfl rfl
theorem bs_15 : Cond.selects "LeasedPages$Client" ⟨"LeasedPages$Client", "takeLease", "(LLeasedPages$Reply;)V"⟩ ⟨"LeasedPages$Client", "takeLease", "(LLeasedPages$Reply;)V"⟩ ∈ lp_BW := lp_sl 15 rfl rfl
theorem bs_16 : Cond.selects "LeasedPages$Client" ⟨"LeasedPages$Client", "removeAllWritesTo", "(I)V"⟩ ⟨"LeasedPages$Client", "removeAllWritesTo", "(I)V"⟩ ∈ lp_BW := lp_sl 16 rfl rfl
theorem bs_17 : Cond.selects "LeasedPages$Client" ⟨"LeasedPages$Client", "keepWrites", "(I)V"⟩ ⟨"LeasedPages$Client", "keepWrites", "(I)V"⟩ ∈ lp_BW := lp_sl 17 rfl rfl
theorem bs_18 : Cond.selects "LeasedPages$Client" ⟨"LeasedPages$Client", "redoWritesOn", "(I)V"⟩ ⟨"LeasedPages$Client", "redoWritesOn", "(I)V"⟩ ∈ lp_BW := lp_sl 18 rfl rfl
theorem bs_19 : Cond.selects "LeasedPages$Client" ⟨"LeasedPages$Client", "loseLease", "(I)V"⟩ ⟨"LeasedPages$Client", "loseLease", "(I)V"⟩ ∈ lp_BW := lp_sl 19 rfl rfl
theorem bs_20 : Cond.selects "LeasedPages$Client" ⟨"LeasedPages$Client", "removeFirstWriteTo", "(I)V"⟩ ⟨"LeasedPages$Client", "removeFirstWriteTo", "(I)V"⟩ ∈ lp_BW := lp_sl 20 rfl rfl
theorem bs_21 : Cond.selects "LeasedPages" ⟨"LeasedPages", "isUp", "(I)Z"⟩ ⟨"LeasedPages", "isUp", "(I)Z"⟩ ∈ lp_BW := lp_sl 21 rfl rfl
theorem bs_22 : Cond.selects "LeasedPages$Server" ⟨"LeasedPages$Server", "endLeases", "()V"⟩ ⟨"LeasedPages$Server", "endLeases", "()V"⟩ ∈ lp_BW := lp_sl 22 rfl rfl
theorem bs_23 : Cond.selects "LeasedPagesModel" ⟨"LeasedPagesModel", "move", "(II)V"⟩ ⟨"LeasedPagesModel", "move", "(II)V"⟩ ∈ lp_BW := lp_sl 23 rfl rfl
theorem bs_24 : Cond.selects "LeasedPagesModel" ⟨"LeasedPagesModel", "granted", "(IIIZI)V"⟩ ⟨"LeasedPagesModel", "granted", "(IIIZI)V"⟩ ∈ lp_BW := lp_sl 24 rfl rfl
theorem bs_25 : Cond.selects "LeasedPagesModel" ⟨"LeasedPagesModel", "hasDirty", "(II)Z"⟩ ⟨"LeasedPagesModel", "hasDirty", "(II)Z"⟩ ∈ lp_BW := lp_sl 25 rfl rfl
theorem bs_26 : Cond.selects "LeasedPagesModel" ⟨"LeasedPagesModel", "forget", "(III)V"⟩ ⟨"LeasedPagesModel", "forget", "(III)V"⟩ ∈ lp_BW := lp_sl 26 rfl rfl
theorem bs_27 : Cond.selects "LeasedPagesModel" ⟨"LeasedPagesModel", "request", "(IIIIIZII)V"⟩ ⟨"LeasedPagesModel", "request", "(IIIIIZII)V"⟩ ∈ lp_BW := lp_sl 27 rfl rfl
theorem bs_28 : Cond.selects "LeasedPagesModel" ⟨"LeasedPagesModel", "answer", "(I)V"⟩ ⟨"LeasedPagesModel", "answer", "(I)V"⟩ ∈ lp_BW := lp_sl 28 rfl rfl
theorem bs_29 : Cond.selects "LeasedPagesModel" ⟨"LeasedPagesModel", "room", "(IIII)I"⟩ ⟨"LeasedPagesModel", "room", "(IIII)I"⟩ ∈ lp_BW := lp_sl 29 rfl rfl
theorem bs_30 : Cond.selects "LeasedPagesModel" ⟨"LeasedPagesModel", "askedLease", "(IIIIZ)V"⟩ ⟨"LeasedPagesModel", "askedLease", "(IIIIZ)V"⟩ ∈ lp_BW := lp_sl 30 rfl rfl
theorem bs_31 : Cond.selects "LeasedPagesModel" ⟨"LeasedPagesModel", "has", "(II)Z"⟩ ⟨"LeasedPagesModel", "has", "(II)Z"⟩ ∈ lp_BW := lp_sl 31 rfl rfl
theorem bs_32 : Cond.selects "LeasedPagesModel" ⟨"LeasedPagesModel", "others", "(II)Z"⟩ ⟨"LeasedPagesModel", "others", "(II)Z"⟩ ∈ lp_BW := lp_sl 32 rfl rfl
theorem bs_33 : Cond.selects "LeasedPagesModel" ⟨"LeasedPagesModel", "finish", "(IIII)V"⟩ ⟨"LeasedPagesModel", "finish", "(IIII)V"⟩ ∈ lp_BW := lp_sl 33 rfl rfl
theorem bs_34 : Cond.selects "LeasedPagesModel" ⟨"LeasedPagesModel", "conflicts", "(III)Z"⟩ ⟨"LeasedPagesModel", "conflicts", "(III)Z"⟩ ∈ lp_BW := lp_sl 34 rfl rfl
theorem bs_35 : Cond.selects "LeasedPagesModel" ⟨"LeasedPagesModel", "grant", "(IIIIZ)V"⟩ ⟨"LeasedPagesModel", "grant", "(IIIIZ)V"⟩ ∈ lp_BW := lp_sl 35 rfl rfl
theorem bs_36 : Cond.selects "LeasedPagesModel" ⟨"LeasedPagesModel", "serveLines", "()V"⟩ ⟨"LeasedPagesModel", "serveLines", "()V"⟩ ∈ lp_BW := lp_sl 36 rfl rfl
theorem bs_37 : Cond.selects "LeasedPagesModel" ⟨"LeasedPagesModel", "first", "(I)I"⟩ ⟨"LeasedPagesModel", "first", "(I)I"⟩ ∈ lp_BW := lp_sl 37 rfl rfl
theorem bs_38 : Cond.selects "LeasedPagesModel" ⟨"LeasedPagesModel", "replied", "(III)V"⟩ ⟨"LeasedPagesModel", "replied", "(III)V"⟩ ∈ lp_BW := lp_sl 38 rfl rfl
theorem bs_39 : Cond.selects "LeasedPagesModel" ⟨"LeasedPagesModel", "works", "(I)Z"⟩ ⟨"LeasedPagesModel", "works", "(I)Z"⟩ ∈ lp_BW := lp_sl 39 rfl rfl
theorem bs_40 : Cond.selects "LeasedPagesModel" ⟨"LeasedPagesModel", "lost", "(II)Z"⟩ ⟨"LeasedPagesModel", "lost", "(II)Z"⟩ ∈ lp_BW := lp_sl 40 rfl rfl
theorem bs_41 : Cond.selects "LeasedPagesModel" ⟨"LeasedPagesModel", "valid", "(II)Z"⟩ ⟨"LeasedPagesModel", "valid", "(II)Z"⟩ ∈ lp_BW := lp_sl 41 rfl rfl
theorem bs_42 : Cond.selects "LeasedPagesModel" ⟨"LeasedPagesModel", "open", "(IIIIZ)I"⟩ ⟨"LeasedPagesModel", "open", "(IIIIZ)I"⟩ ∈ lp_BW := lp_sl 42 rfl rfl
theorem bs_43 : Cond.selects "LeasedPagesModel" ⟨"LeasedPagesModel", "ask", "(I)V"⟩ ⟨"LeasedPagesModel", "ask", "(I)V"⟩ ∈ lp_BW := lp_sl 43 rfl rfl
theorem nw_0 : Cond.methodLinkNest "LeasedPages" 20 ⟨"LeasedPages$Network", "<init>", "()V"⟩ "LeasedPages" ∈ lp_NW := List.mem_of_getElem? (i := 0) rfl
theorem nw_1 : Cond.fieldLinkNest "LeasedPages" 85 "LeasedPages$Network" "count" "I" "LeasedPages" ∈ lp_NW := List.mem_of_getElem? (i := 1) rfl
theorem nw_2 : Cond.methodLinkNest "LeasedPages$Server" 55 ⟨"LeasedPages$Line", "<init>", "()V"⟩ "LeasedPages" ∈ lp_NW := List.mem_of_getElem? (i := 2) rfl
theorem nw_3 : Cond.fieldLinkNest "LeasedPages$Server" 114 "LeasedPages$Line" "size" "I" "LeasedPages" ∈ lp_NW := List.mem_of_getElem? (i := 3) rfl
theorem nw_4 : Cond.fieldLinkNest "LeasedPages" 168 "LeasedPages$Line" "size" "I" "LeasedPages" ∈ lp_NW := List.mem_of_getElem? (i := 4) rfl
theorem nw_5 : Cond.fieldLinkNest "LeasedPages" 173 "LeasedPages$Server" "pages" "[[I" "LeasedPages" ∈ lp_NW := List.mem_of_getElem? (i := 5) rfl
theorem nw_6 : Cond.fieldLinkNest "LeasedPages" 164 "LeasedPages$Server" "lines" "[LLeasedPages$Line;" "LeasedPages" ∈ lp_NW := List.mem_of_getElem? (i := 6) rfl
theorem nw_7 : Cond.fieldLinkNest "LeasedPages" 177 "LeasedPages$Server" "up" "Z" "LeasedPages" ∈ lp_NW := List.mem_of_getElem? (i := 7) rfl
theorem nw_8 : Cond.fieldLinkNest "LeasedPages" 151 "LeasedPages$Server" "now" "I" "LeasedPages" ∈ lp_NW := List.mem_of_getElem? (i := 8) rfl
theorem nw_9 : Cond.methodLinkNest "LeasedPages$Client" 54 ⟨"LeasedPages$Copy", "<init>", "()V"⟩ "LeasedPages" ∈ lp_NW := List.mem_of_getElem? (i := 9) rfl
theorem nw_10 : Cond.fieldLinkNest "LeasedPages$Client" 84 "LeasedPages$Copy" "pages" "[I" "LeasedPages" ∈ lp_NW := List.mem_of_getElem? (i := 10) rfl
theorem nw_11 : Cond.fieldLinkNest "LeasedPages$Client" 101 "LeasedPages$Copy" "mode" "I" "LeasedPages" ∈ lp_NW := List.mem_of_getElem? (i := 11) rfl
theorem nw_12 : Cond.fieldLinkNest "LeasedPages$Client" 139 "LeasedPages$Copy" "validUntil" "I" "LeasedPages" ∈ lp_NW := List.mem_of_getElem? (i := 12) rfl
theorem nw_13 : Cond.fieldLinkNest "LeasedPages$Client" 104 "LeasedPages$Copy" "recalled" "Z" "LeasedPages" ∈ lp_NW := List.mem_of_getElem? (i := 13) rfl
theorem nw_14 : Cond.fieldLinkNest "LeasedPages$Client" 88 "LeasedPages$Copy" "lost" "Z" "LeasedPages" ∈ lp_NW := List.mem_of_getElem? (i := 14) rfl
theorem nw_15 : Cond.fieldLinkNest "LeasedPages" 155 "LeasedPages$Client" "writeCount" "I" "LeasedPages" ∈ lp_NW := List.mem_of_getElem? (i := 15) rfl
theorem nw_16 : Cond.fieldLinkNest "LeasedPages" 147 "LeasedPages$Client" "up" "Z" "LeasedPages" ∈ lp_NW := List.mem_of_getElem? (i := 16) rfl
theorem nw_17 : Cond.fieldLinkNest "LeasedPages" 137 "LeasedPages$Client" "now" "I" "LeasedPages" ∈ lp_NW := List.mem_of_getElem? (i := 17) rfl
theorem nw_18 : Cond.fieldLinkNest "LeasedPages" 51 "LeasedPages$Client" "open" "LLeasedPages$Request;" "LeasedPages" ∈ lp_NW := List.mem_of_getElem? (i := 18) rfl
theorem nw_19 : Cond.fieldLinkNest "LeasedPages$Reply" 19 "LeasedPages$Request" "mode" "I" "LeasedPages" ∈ lp_NW := List.mem_of_getElem? (i := 19) rfl
theorem nw_20 : Cond.fieldLinkNest "LeasedPages$Server" 145 "LeasedPages$Request" "mode" "I" "LeasedPages" ∈ lp_NW := List.mem_of_getElem? (i := 20) rfl
theorem nw_21 : Cond.fieldLinkNest "LeasedPages$Server" 124 "LeasedPages$Request" "claim" "Z" "LeasedPages" ∈ lp_NW := List.mem_of_getElem? (i := 21) rfl
theorem nw_22 : Cond.fieldLinkNest "LeasedPages$Server" 139 "LeasedPages$Request" "page" "I" "LeasedPages" ∈ lp_NW := List.mem_of_getElem? (i := 22) rfl
theorem nw_23 : Cond.fieldLinkNest "LeasedPages$Server" 142 "LeasedPages$Request" "value" "I" "LeasedPages" ∈ lp_NW := List.mem_of_getElem? (i := 23) rfl
theorem nw_24 : Cond.castable "[I" "java/lang/Cloneable" ∈ lp_NW := List.mem_of_getElem? (i := 24) rfl
theorem nw_25 : Cond.castable "LeasedPages$Request" "LeasedPages$Request" ∈ lp_NW := List.mem_of_getElem? (i := 25) rfl
theorem nw_26 : Cond.castable "LeasedPages$Reply" "LeasedPages$Reply" ∈ lp_NW := List.mem_of_getElem? (i := 26) rfl
theorem nw_27 : Cond.castable "LeasedPages$Reply" "LeasedPages$Message" ∈ lp_NW := List.mem_of_getElem? (i := 27) rfl
theorem nw_28 : Cond.castable "LeasedPages$Request" "LeasedPages$Message" ∈ lp_NW := List.mem_of_getElem? (i := 28) rfl
theorem ao_0 : FieldType.object "LeasedPages$Message" ∈ lp_AO := List.mem_of_getElem? (i := 0) rfl
theorem ao_1 : FieldType.array FieldType.int ∈ lp_AO := List.mem_of_getElem? (i := 1) rfl
theorem ao_2 : FieldType.object "LeasedPages$Reply" ∈ lp_AO := List.mem_of_getElem? (i := 2) rfl
theorem ao_3 : FieldType.object "LeasedPages$Line" ∈ lp_AO := List.mem_of_getElem? (i := 3) rfl
theorem ao_4 : FieldType.object "LeasedPages$Request" ∈ lp_AO := List.mem_of_getElem? (i := 4) rfl
theorem ao_5 : FieldType.object "LeasedPages$Client" ∈ lp_AO := List.mem_of_getElem? (i := 5) rfl
theorem ao_6 : FieldType.object "LeasedPages$Copy" ∈ lp_AO := List.mem_of_getElem? (i := 6) rfl
theorem ao_7 : FieldType.object "LeasedPages$Write" ∈ lp_AO := List.mem_of_getElem? (i := 7) rfl
theorem lp_in0 : ∀ w ∈ u_ws "LeasedPages" lp_T0 3, w ∈ lp_BW := List.forall_mem_cons.mpr ⟨bw_190, List.forall_mem_cons.mpr ⟨bw_192, List.forall_mem_cons.mpr ⟨bw_194, fun _ h => absurd h List.not_mem_nil⟩⟩⟩
theorem lp_in1 : ∀ w ∈ u_ws "LeasedPages$Network" lp_T1 2, w ∈ lp_BW := List.forall_mem_cons.mpr ⟨bw_40, List.forall_mem_cons.mpr ⟨bw_42, fun _ h => absurd h List.not_mem_nil⟩⟩
theorem lp_in2 : ∀ w ∈ u_ws "LeasedPages$Server" lp_T2 11, w ∈ lp_BW := List.forall_mem_cons.mpr ⟨bw_89, List.forall_mem_cons.mpr ⟨bw_91, List.forall_mem_cons.mpr ⟨bw_93, List.forall_mem_cons.mpr ⟨bw_95, List.forall_mem_cons.mpr ⟨bw_97, List.forall_mem_cons.mpr ⟨bw_99, List.forall_mem_cons.mpr ⟨bw_101, List.forall_mem_cons.mpr ⟨bw_103, List.forall_mem_cons.mpr ⟨bw_105, List.forall_mem_cons.mpr ⟨bw_107, List.forall_mem_cons.mpr ⟨bw_109, fun _ h => absurd h List.not_mem_nil⟩⟩⟩⟩⟩⟩⟩⟩⟩⟩⟩
theorem lp_in3 : ∀ w ∈ u_ws "LeasedPages$Line" lp_T3 2, w ∈ lp_BW := List.forall_mem_cons.mpr ⟨bw_68, List.forall_mem_cons.mpr ⟨bw_70, fun _ h => absurd h List.not_mem_nil⟩⟩
theorem lp_in4 : ∀ w ∈ u_ws "LeasedPages$Client" lp_T4 11, w ∈ lp_BW := List.forall_mem_cons.mpr ⟨bw_164, List.forall_mem_cons.mpr ⟨bw_166, List.forall_mem_cons.mpr ⟨bw_168, List.forall_mem_cons.mpr ⟨bw_170, List.forall_mem_cons.mpr ⟨bw_172, List.forall_mem_cons.mpr ⟨bw_174, List.forall_mem_cons.mpr ⟨bw_176, List.forall_mem_cons.mpr ⟨bw_178, List.forall_mem_cons.mpr ⟨bw_180, List.forall_mem_cons.mpr ⟨bw_182, List.forall_mem_cons.mpr ⟨bw_184, fun _ h => absurd h List.not_mem_nil⟩⟩⟩⟩⟩⟩⟩⟩⟩⟩⟩
theorem lp_in5 : ∀ w ∈ u_ws "LeasedPages$Copy" lp_T5 5, w ∈ lp_BW := List.forall_mem_cons.mpr ⟨bw_138, List.forall_mem_cons.mpr ⟨bw_140, List.forall_mem_cons.mpr ⟨bw_142, List.forall_mem_cons.mpr ⟨bw_144, List.forall_mem_cons.mpr ⟨bw_146, fun _ h => absurd h List.not_mem_nil⟩⟩⟩⟩⟩
theorem lp_in6 : ∀ w ∈ u_ws "LeasedPages$Message" lp_T6 4, w ∈ lp_BW := List.forall_mem_cons.mpr ⟨bw_498, List.forall_mem_cons.mpr ⟨bw_499, List.forall_mem_cons.mpr ⟨bw_500, List.forall_mem_cons.mpr ⟨bw_501, fun _ h => absurd h List.not_mem_nil⟩⟩⟩⟩
theorem lp_in7 : ∀ w ∈ u_ws "LeasedPages$Request" lp_T7 8, w ∈ lp_BW := List.forall_mem_cons.mpr ⟨bw_286, List.forall_mem_cons.mpr ⟨bw_288, List.forall_mem_cons.mpr ⟨bw_290, List.forall_mem_cons.mpr ⟨bw_292, List.forall_mem_cons.mpr ⟨bw_278, List.forall_mem_cons.mpr ⟨bw_280, List.forall_mem_cons.mpr ⟨bw_282, List.forall_mem_cons.mpr ⟨bw_284, fun _ h => absurd h List.not_mem_nil⟩⟩⟩⟩⟩⟩⟩⟩
theorem lp_in8 : ∀ w ∈ u_ws "LeasedPages$Reply" lp_T8 7, w ∈ lp_BW := List.forall_mem_cons.mpr ⟨bw_459, List.forall_mem_cons.mpr ⟨bw_460, List.forall_mem_cons.mpr ⟨bw_461, List.forall_mem_cons.mpr ⟨bw_462, List.forall_mem_cons.mpr ⟨bw_453, List.forall_mem_cons.mpr ⟨bw_455, List.forall_mem_cons.mpr ⟨bw_457, fun _ h => absurd h List.not_mem_nil⟩⟩⟩⟩⟩⟩⟩
theorem lp_in9 : ∀ w ∈ u_ws "LeasedPages$Write" lp_T9 3, w ∈ lp_BW := List.forall_mem_cons.mpr ⟨bw_340, List.forall_mem_cons.mpr ⟨bw_342, List.forall_mem_cons.mpr ⟨bw_344, fun _ h => absurd h List.not_mem_nil⟩⟩⟩
theorem lp_in10 : ∀ w ∈ u_ws "LeasedPagesModel" lp_T10 44, w ∈ lp_BW := List.forall_mem_cons.mpr ⟨bw_700, List.forall_mem_cons.mpr ⟨bw_702, List.forall_mem_cons.mpr ⟨bw_704, List.forall_mem_cons.mpr ⟨bw_706, List.forall_mem_cons.mpr ⟨bw_708, List.forall_mem_cons.mpr ⟨bw_710, List.forall_mem_cons.mpr ⟨bw_712, List.forall_mem_cons.mpr ⟨bw_714, List.forall_mem_cons.mpr ⟨bw_716, List.forall_mem_cons.mpr ⟨bw_718, List.forall_mem_cons.mpr ⟨bw_720, List.forall_mem_cons.mpr ⟨bw_722, List.forall_mem_cons.mpr ⟨bw_724, List.forall_mem_cons.mpr ⟨bw_726, List.forall_mem_cons.mpr ⟨bw_728, List.forall_mem_cons.mpr ⟨bw_730, List.forall_mem_cons.mpr ⟨bw_732, List.forall_mem_cons.mpr ⟨bw_734, List.forall_mem_cons.mpr ⟨bw_736, List.forall_mem_cons.mpr ⟨bw_738, List.forall_mem_cons.mpr ⟨bw_740, List.forall_mem_cons.mpr ⟨bw_742, List.forall_mem_cons.mpr ⟨bw_744, List.forall_mem_cons.mpr ⟨bw_746, List.forall_mem_cons.mpr ⟨bw_748, List.forall_mem_cons.mpr ⟨bw_750, List.forall_mem_cons.mpr ⟨bw_752, List.forall_mem_cons.mpr ⟨bw_754, List.forall_mem_cons.mpr ⟨bw_756, List.forall_mem_cons.mpr ⟨bw_758, List.forall_mem_cons.mpr ⟨bw_760, List.forall_mem_cons.mpr ⟨bw_762, List.forall_mem_cons.mpr ⟨bw_764, List.forall_mem_cons.mpr ⟨bw_766, List.forall_mem_cons.mpr ⟨bw_768, List.forall_mem_cons.mpr ⟨bw_770, List.forall_mem_cons.mpr ⟨bw_772, List.forall_mem_cons.mpr ⟨bw_774, List.forall_mem_cons.mpr ⟨bw_776, List.forall_mem_cons.mpr ⟨bw_778, List.forall_mem_cons.mpr ⟨bw_780, List.forall_mem_cons.mpr ⟨bw_782, List.forall_mem_cons.mpr ⟨bw_784, List.forall_mem_cons.mpr ⟨bw_786, fun _ h => absurd h List.not_mem_nil⟩⟩⟩⟩⟩⟩⟩⟩⟩⟩⟩⟩⟩⟩⟩⟩⟩⟩⟩⟩⟩⟩⟩⟩⟩⟩⟩⟩⟩⟩⟩⟩⟩⟩⟩⟩⟩⟩⟩⟩⟩⟩⟩⟩
theorem lp_cls {P : Nat → vw_C → Prop} (h0 : P 0 ("LeasedPages", lp_T0, 3)) (h1 : P 1 ("LeasedPages$Network", lp_T1, 2)) (h2 : P 2 ("LeasedPages$Server", lp_T2, 11)) (h3 : P 3 ("LeasedPages$Line", lp_T3, 2)) (h4 : P 4 ("LeasedPages$Client", lp_T4, 11)) (h5 : P 5 ("LeasedPages$Copy", lp_T5, 5)) (h6 : P 6 ("LeasedPages$Message", lp_T6, 4)) (h7 : P 7 ("LeasedPages$Request", lp_T7, 8)) (h8 : P 8 ("LeasedPages$Reply", lp_T8, 7)) (h9 : P 9 ("LeasedPages$Write", lp_T9, 3)) (h10 : P 10 ("LeasedPagesModel", lp_T10, 44)) : ∀ (ci : Nat) (r : vw_C), lp_CL[ci]? = some r → P ci r
  | 0, r, h => by cases h; exact h0
  | 1, r, h => by cases h; exact h1
  | 2, r, h => by cases h; exact h2
  | 3, r, h => by cases h; exact h3
  | 4, r, h => by cases h; exact h4
  | 5, r, h => by cases h; exact h5
  | 6, r, h => by cases h; exact h6
  | 7, r, h => by cases h; exact h7
  | 8, r, h => by cases h; exact h8
  | 9, r, h => by cases h; exact h9
  | 10, r, h => by cases h; exact h10
  | n + 11, r, h => by cases h
theorem lp_in : ∀ (ci : Nat) (r : vw_C), lp_CL[ci]? = some r → ∀ w ∈ u_ws r.1 r.2.1 r.2.2, w ∈ lp_BW := lp_cls (P := fun _ r => ∀ w ∈ u_ws r.1 r.2.1 r.2.2, w ∈ lp_BW) lp_in0 lp_in1 lp_in2 lp_in3 lp_in4 lp_in5 lp_in6 lp_in7 lp_in8 lp_in9 lp_in10
theorem lp_nm : ∀ (ci : Nat) (r : vw_C), lp_CL[ci]? = some r → ∀ a, a < r.2.2 → ∀ b, b < r.2.2 → a ≠ b → (r.2.1 a).2.1 ≠ (r.2.1 b).2.1 := lp_cls (P := fun _ r => ∀ a, a < r.2.2 → ∀ b, b < r.2.2 → a ≠ b → (r.2.1 a).2.1 ≠ (r.2.1 b).2.1) lp_nm0 lp_nm1 lp_nm2 lp_nm3 lp_nm4 lp_nm5 lp_nm6 lp_nm7 lp_nm8 lp_nm9 lp_nm10
end
section
/-! The picture of the heap: every cell made since the law began stands at base + its number. Ints and booleans in one
table, references in another, shapes (array of a kind and its length, or object of a class) in a third. -/
abbrev ha_V : Type := Int32 ⊕ Option Nat
/-- where the cell of number k stands: 0 is the law's script (an old cell), the others were made since, one behind another -/
def ha_a (b : Nat × Nat) (k : Nat) : Nat := if k = 0 then b.2 else b.1 + k
theorem ha_p (b : Nat × Nat) {k : Nat} (h : 0 < k) : ha_a b k = b.1 + k := if_neg (by omega)
theorem ha_0 (b : Nat × Nat) : ha_a b 0 = b.2 := rfl
def ha_v (b : Nat × Nat) : ha_V → Value
  | .inl x => .int x
  | .inr r => va_rf (r.map (ha_a b))
theorem ha_cat (b : Nat × Nat) (v : ha_V) : (ha_v b v).category = 1 := by
  rcases v with x | r
  · rfl
  · cases r <;> rfl
theorem ha_catS (b : Nat × Nat) (st : List ha_V) : ((st.map (ha_v b)).map fun v => v.category).sum = st.length := by
  induction st with
  | nil => rfl
  | cons v st ih => simp only [List.map_cons, List.sum_cons, ih, ha_cat, List.length_cons]; omega
abbrev ha_H : Type := (Nat → Nat → Int32) × (Nat → Nat → Option Nat) × (Nat → (Nat × Nat) ⊕ Nat) × Nat
def hp_I (h : ha_H) (a k : Nat) : Int32 := h.1 a k
def hp_R (h : ha_H) (a k : Nat) : Option Nat := h.2.1 a k
def hp_S (h : ha_H) (a : Nat) : (Nat × Nat) ⊕ Nat := h.2.2.1 a
def hp_n (h : ha_H) : Nat := h.2.2.2
def hp_u {α : Type} (f : Nat → Nat → α) (a k : Nat) (v : α) : Nat → Nat → α := fun x y => if x = a ∧ y = k then v else f x y
def hp_sI (h : ha_H) (a k : Nat) (v : Int32) : ha_H := (hp_u h.1 a k v, h.2.1, h.2.2.1, h.2.2.2)
def hp_sR (h : ha_H) (a k : Nat) (v : Option Nat) : ha_H := (h.1, hp_u h.2.1 a k v, h.2.2.1, h.2.2.2)
def hp_new (h : ha_H) (sh : (Nat × Nat) ⊕ Nat) : ha_H := (fun x y => if x = h.2.2.2 then 0 else h.1 x y, fun x y => if x = h.2.2.2 then none else h.2.1 x y, fun x => if x = h.2.2.2 then sh else h.2.2.1 x, h.2.2.2 + 1)
theorem hp_I_sI (h : ha_H) (a k x y : Nat) (v : Int32) : hp_I (hp_sI h a k v) x y = if x = a ∧ y = k then v else hp_I h x y := rfl
theorem hp_R_sI (h : ha_H) (a k x y : Nat) (v : Int32) : hp_R (hp_sI h a k v) x y = hp_R h x y := rfl
theorem hp_S_sI (h : ha_H) (a k x : Nat) (v : Int32) : hp_S (hp_sI h a k v) x = hp_S h x := rfl
theorem hp_n_sI (h : ha_H) (a k : Nat) (v : Int32) : hp_n (hp_sI h a k v) = hp_n h := rfl
theorem hp_R_sR (h : ha_H) (a k x y : Nat) (v : Option Nat) : hp_R (hp_sR h a k v) x y = if x = a ∧ y = k then v else hp_R h x y := rfl
theorem hp_I_sR (h : ha_H) (a k x y : Nat) (v : Option Nat) : hp_I (hp_sR h a k v) x y = hp_I h x y := rfl
theorem hp_S_sR (h : ha_H) (a k x : Nat) (v : Option Nat) : hp_S (hp_sR h a k v) x = hp_S h x := rfl
theorem hp_n_sR (h : ha_H) (a k : Nat) (v : Option Nat) : hp_n (hp_sR h a k v) = hp_n h := rfl
theorem hp_I_new (h : ha_H) (sh : (Nat × Nat) ⊕ Nat) (x y : Nat) : hp_I (hp_new h sh) x y = if x = hp_n h then 0 else hp_I h x y := rfl
theorem hp_R_new (h : ha_H) (sh : (Nat × Nat) ⊕ Nat) (x y : Nat) : hp_R (hp_new h sh) x y = if x = hp_n h then none else hp_R h x y := rfl
theorem hp_S_new (h : ha_H) (sh : (Nat × Nat) ⊕ Nat) (x : Nat) : hp_S (hp_new h sh) x = if x = hp_n h then sh else hp_S h x := rfl
theorem hp_n_new (h : ha_H) (sh : (Nat × Nat) ⊕ Nat) : hp_n (hp_new h sh) = hp_n h + 1 := rfl
/-- a field holds a reference -/
def hp_isR (T : u_T) (j : Nat) : Bool := !((T j).2.2.1 == "I" || (T j).2.2.1 == "Z")
def hp_V (b : Nat × Nat) (T : u_T) (h : ha_H) (a : Nat) : Nat → Value := fun j => if hp_isR T j = true then ha_v b (.inr (hp_R h a j)) else .int (hp_I h a j)
/-- what an array of kind t holds (kinds 0, 1: ints, booleans; from 2 on: references) -/
def hp_F (b : Nat × Nat) (t : Nat) (h : ha_H) (a : Nat) : Nat → Value := fun j => if t < 2 then .int (hp_I h a j) else ha_v b (.inr (hp_R h a j))
def hp_at (b : Nat × Nat) (D : va_G) (cA : Nat → ClassId) (h : ha_H) (k : Nat) (H : Heap) : Prop := match hp_S h k with
  | .inl q => H[ha_a b k]? = some (arrV (cA q.1) q.2 (hp_F b q.1 h k))
  | .inr ci => ∃ r : vw_C, lp_CL[ci]? = some r ∧ t_OB (ha_a b k) (D.1 ci) r.2.2 (D.2 ci) H (hp_V b r.2.1 h k)
def hp_ok (h : ha_H) (a : Nat) : Prop := 0 < a ∧ a < hp_n h
def hp_P (b : Nat × Nat) (D : va_G) (cA : Nat → ClassId) (h : ha_H) (H : Heap) : Prop := H.size = b.1 + hp_n h ∧ 0 < hp_n h ∧ ∀ k, hp_ok h k → hp_at b D cA h k H
theorem hp_at.kept {b : Nat × Nat} {D : va_G} {cA : Nat → ClassId} {h h' : ha_H} {k : Nat} {H H' : Heap} (hk : hp_at b D cA h k H) (hq : H'[ha_a b k]? = H[ha_a b k]?) (hI : ∀ j, hp_I h' k j = hp_I h k j) (hR : ∀ j, hp_R h' k j = hp_R h k j) (hS : hp_S h' k = hp_S h k) : hp_at b D cA h' k H' := by
  unfold hp_at at hk ⊢
  rw [hS]
  have e1 : ∀ T, hp_V b T h' k = hp_V b T h k := fun T => funext fun j => by unfold hp_V; rw [hI, hR]
  have e2 : ∀ t, hp_F b t h' k = hp_F b t h k := fun t => funext fun j => by unfold hp_F; rw [hI, hR]
  cases hs : hp_S h k with
  | inl q =>
    rw [hs] at hk
    dsimp only at hk ⊢
    rw [e2, hq]
    exact hk
  | inr ci =>
    rw [hs] at hk
    obtain ⟨r, h1, h2⟩ := hk
    refine ⟨r, h1, ?_⟩
    rw [e1]
    exact h2.kept hq
theorem hp_P.set {b : Nat × Nat} {D : va_G} {cA : Nat → ClassId} {h h' : ha_H} {a : Nat} {H H' : Heap} (hP : hp_P b D cA h H) (h0 : hp_ok h a) (z : H'.size = H.size) (oq : ∀ q : Nat, q ≠ ha_a b a → H'[q]? = H[q]?) (ha : hp_at b D cA h' a H') (hn : hp_n h' = hp_n h) (hI : ∀ k, k ≠ a → ∀ j, hp_I h' k j = hp_I h k j) (hR : ∀ k, k ≠ a → ∀ j, hp_R h' k j = hp_R h k j) (hS : ∀ k, hp_S h' k = hp_S h k) : hp_P b D cA h' H' := by
  refine ⟨by rw [z, hn]; exact hP.1, by rw [hn]; exact hP.2.1, fun k hk => ?_⟩
  unfold hp_ok at hk
  rw [hn] at hk
  by_cases e : k = a
  · subst e
    exact ha
  · exact (hP.2.2 k hk).kept (oq _ (by rw [ha_p b hk.1, ha_p b h0.1]; omega)) (hI k e) (hR k e) (hS k)
theorem hp_P.grow {b : Nat × Nat} {D : va_G} {cA : Nat → ClassId} {h h' : ha_H} {H H' : Heap} (hP : hp_P b D cA h H) (z : H'.size = H.size + 1) (oq : ∀ q : Nat, q < H.size → H'[q]? = H[q]?) (hn : hp_n h' = hp_n h + 1) (ha : hp_at b D cA h' (hp_n h) H') (hI : ∀ k, k < hp_n h → ∀ j, hp_I h' k j = hp_I h k j) (hR : ∀ k, k < hp_n h → ∀ j, hp_R h' k j = hp_R h k j) (hS : ∀ k, k < hp_n h → hp_S h' k = hp_S h k) : hp_P b D cA h' H' := by
  refine ⟨by rw [z, hn, hP.1]; omega, by omega, fun k hk => ?_⟩
  unfold hp_ok at hk
  rw [hn] at hk
  by_cases e : k = hp_n h
  · subst e
    exact ha
  · have hk' : k < hp_n h := by omega
    exact (hP.2.2 k ⟨hk.1, hk'⟩).kept (oq _ (by rw [hP.1, ha_p b hk.1]; omega)) (hI k hk') (hR k hk') (hS k hk')
theorem hp_P.push {b : Nat × Nat} {D : va_G} {cA : Nat → ClassId} {h : ha_H} {H H' : Heap} {sh : (Nat × Nat) ⊕ Nat} (hP : hp_P b D cA h H) (z : H'.size = H.size + 1) (oq : ∀ q : Nat, q < H.size → H'[q]? = H[q]?) (ha : hp_at b D cA (hp_new h sh) (hp_n h) H') : hp_P b D cA (hp_new h sh) H' :=
  hP.grow z oq rfl ha (fun k hk j => by rw [hp_I_new, if_neg (by omega)]) (fun k hk j => by rw [hp_R_new, if_neg (by omega)]) (fun k hk => by rw [hp_S_new, if_neg (by omega)])
/-- what the tables say: classes, array kinds, nest words -/
def hp_ty (cA : Nat → ClassId) : List (ClassId × FieldType) := lp_AT.mapIdx (fun t ty => (cA t, ty))
def hp_K (D : va_G) (cA : Nat → ClassId) (U : State) : Prop := va_K D lp_CL (hp_ty cA) U ∧ (∀ w ∈ lp_NW, va_Nw w U) ∧ (∀ t ∈ lp_AO, (Cond.arrayOver t).before #[] U = true) ∧ ∀ q ∈ lp_NC, va_Nc q.1 q.2 U
theorem hp_tyAt {cA : Nat → ClassId} {t : Nat} {ty : FieldType} (h : lp_AT[t]? = some ty) : (hp_ty cA)[t]? = some (cA t, ty) := by
  unfold hp_ty
  rw [List.getElem?_mapIdx, h]
  rfl
theorem hp_K.arr {D : va_G} {cA : Nat → ClassId} {U : State} (hK : hp_K D cA U) {t : Nat} {ty : FieldType} (h : lp_AT[t]? = some ty) : ArrOfT U (cA t) ty := (hK.1.2 t _ (hp_tyAt h)).1
theorem hp_K.ra {D : va_G} {cA : Nat → ClassId} {U : State} (hK : hp_K D cA U) {t : Nat} {ty : FieldType} (h : lp_AT[t]? = some ty) : va_RA U (cA t) ty := (hK.1.2 t _ (hp_tyAt h)).2
/-- the locals -/
def lo_L (b : Nat × Nat) (L : List (Option ha_V)) (ls : Array Slot) (nL : Nat) : Prop := ls.size = nL ∧ lv_wf ls ∧ ∀ (i : Nat) (v : ha_V), L[i]? = some (some v) → ls[i]? = some (.val (ha_v b v))
def lo_ps (b : Nat × Nat) (L : List (Option ha_V)) : List (Nat × Value) := (List.range L.length).filterMap (fun i => (L[i]?.join).map (fun v => (i, ha_v b v)))
theorem lo_in {b : Nat × Nat} {L : List (Option ha_V)} {i : Nat} {v : ha_V} (h : L[i]? = some (some v)) : (i, ha_v b v) ∈ lo_ps b L := by
  have hi : i < L.length := (List.getElem?_eq_some_iff.mp h).1
  refine List.mem_filterMap.mpr ⟨i, List.mem_range.mpr hi, ?_⟩
  rw [h]
  rfl
theorem lo_has {b : Nat × Nat} {L : List (Option ha_V)} {ls : Array Slot} {nL : Nat} (h : lo_L b L ls nL) : lv_has ls nL (lo_ps b L) := by
  refine ⟨h.1, h.2.1, fun q hq => ?_⟩
  obtain ⟨i, -, hi⟩ := List.mem_filterMap.mp hq
  cases hx : L[i]? with
  | none => rw [hx] at hi; cases hi
  | some o =>
    cases o with
    | none => rw [hx] at hi; cases hi
    | some v =>
      rw [hx] at hi
      cases hi
      exact h.2.2 i v hx
/-- a value is stored in a local -/
theorem lo_set {b : Nat × Nat} {L : List (Option ha_V)} {ls' : Array Slot} {nL i : Nat} {v : ha_V} (h : lv_has ls' nL ((i, ha_v b v) :: (lo_ps b L).filter (fun q => !(q.1 == i) && !(q.1 + 1 == i && q.2.category == 2)))) : lo_L b (L.set i (some v)) ls' nL := by
  refine ⟨h.1, h.2.1, fun j w hj => ?_⟩
  by_cases e : j = i
  · subst e
    have hl : j < L.length := by
      have := (List.getElem?_eq_some_iff.mp hj).1
      simpa using this
    rw [List.getElem?_set_self hl] at hj
    cases hj
    exact h.2.2 (j, ha_v b v) List.mem_cons_self
  · rw [List.getElem?_set_ne (Ne.symm e)] at hj
    refine h.2.2 (j, ha_v b w) (List.mem_cons_of_mem _ (List.mem_filter.mpr ⟨lo_in hj, ?_⟩))
    simp [e, ha_cat]
theorem lo_args (b : Nat × Nat) : ∀ (av : List ha_V) (n i : Nat) (v : ha_V), av[i]? = some v → (n + i, ha_v b v) ∈ lv_args n (av.map (ha_v b))
  | [], n, i, v, h => by simp at h
  | w :: av, n, i, v, h => by
    rw [List.map_cons, lv_args]
    rw [if_neg (by rw [ha_cat]; omega)]
    cases i with
    | zero =>
      rw [List.getElem?_cons_zero] at h
      cases h
      exact List.mem_cons_self
    | succ i =>
      rw [List.getElem?_cons_succ] at h
      have := lo_args b av (n + 1) i v h
      rw [show n + 1 + i = n + (i + 1) by omega] at this
      exact List.mem_cons_of_mem _ this
def lo_0 (av : List ha_V) (n : Nat) : List (Option ha_V) := av.map some ++ List.replicate (n - av.length) none
theorem lo_slen (b : Nat × Nat) (av : List ha_V) : (lg_sl (av.map (ha_v b))).length = av.length := by
  induction av with
  | nil => rfl
  | cons w av ih =>
    unfold lg_sl at ih ⊢
    rw [List.map_cons, List.flatMap_cons, if_neg (by rw [ha_cat]; omega), List.length_append, ih]
    simp only [List.length_cons, List.length_nil]
    omega
theorem lo_entry (b : Nat × Nat) (av : List ha_V) {n : Nat} (h : av.length ≤ n) : lo_L b (lo_0 av n) ((lg_sl (av.map (ha_v b)) ++ List.replicate (n - (lg_sl (av.map (ha_v b))).length) Slot.unset).toArray) n := by
  obtain ⟨h1, h2, h3⟩ := lv_entry (av.map (ha_v b)) (n := n) (by rw [lo_slen]; exact h)
  refine ⟨h1, h2, fun i v hi => ?_⟩
  unfold lo_0 at hi
  by_cases hl : i < av.length
  · rw [List.getElem?_append_left (by rw [List.length_map]; exact hl), List.getElem?_map] at hi
    cases hx : av[i]? with
    | none => rw [hx] at hi; cases hi
    | some w =>
      rw [hx] at hi
      cases hi
      have := h3 _ (lo_args b av 0 i v hx)
      rw [Nat.zero_add] at this
      exact this
  · rw [List.getElem?_append_right (by rw [List.length_map]; omega)] at hi
    have := List.eq_of_mem_replicate (List.mem_of_getElem? hi)
    cases this
/-- a class's field types, and what a new object's fields hold -/
theorem lp_ty : ∀ (ci : Nat) (r : vw_C), lp_CL[ci]? = some r → ∃ ty : Nat → FieldType, (∀ k, k < r.2.2 → parseFieldDescriptor (r.2.1 k).2.2.1 = some (ty k)) ∧ ∀ k, k < r.2.2 → defaultValue (ty k) = if hp_isR r.2.1 k = true then .null else .int 0 :=
  lp_cls (P := fun _ r => ∃ ty : Nat → FieldType, (∀ k, k < r.2.2 → parseFieldDescriptor (r.2.1 k).2.2.1 = some (ty k)) ∧ ∀ k, k < r.2.2 → defaultValue (ty k) = if hp_isR r.2.1 k = true then .null else .int 0) ⟨lp_y0, lp_ty0, by decide +kernel⟩ ⟨lp_y1, lp_ty1, by decide +kernel⟩ ⟨lp_y2, lp_ty2, by decide +kernel⟩ ⟨lp_y3, lp_ty3, by decide +kernel⟩ ⟨lp_y4, lp_ty4, by decide +kernel⟩ ⟨lp_y5, lp_ty5, by decide +kernel⟩ ⟨lp_y6, lp_ty6, by decide +kernel⟩ ⟨lp_y7, lp_ty7, by decide +kernel⟩ ⟨lp_y8, lp_ty8, by decide +kernel⟩ ⟨lp_y9, lp_ty9, by decide +kernel⟩ ⟨lp_y10, lp_ty10, by decide +kernel⟩
end
section
/-! A method's walk over the picture: rn_W says that from this place the method comes to its end with 'post'; rn_M is its contract. -/
abbrev mt_X : Type := MethodName × ByteArray × Nat × Option FieldType
def rn_ws (X : mt_X) : List Cond := Cond.code X.1 X.2.1 X.2.2.1 X.2.2.2 :: lp_BW
abbrev mt_G : Type := Launch × Nat × (Nat → Int32)
def rn_R (z : Nat × Nat × Nat) : Room := { frames := z.1, cells := z.2.1, slots := z.2.2, locals := 40 * z.1 + 6 }
def rn_Q (b : Nat × Nat) (D : va_G) (cA : Nat → ClassId) (post : Option ha_V → ha_H → Prop) : Array Value → State → Outcome → State → Prop := fun _ st oc t => (∃ (r : Option ha_V) (h' : ha_H), oc = .returned (r.map (ha_v b)) ∧ post r h' ∧ hp_P b D cA h' t.heap) ∧ va_F (fun q => b.1 < q) st t
def rn_P (G : mt_G) (b : Nat × Nat) (D : va_G) (cA : Nat → ClassId) (h : ha_H) (U : State) : Prop := hp_P b D cA h U.heap ∧ hp_K D cA U ∧ va_X b.2 G.2.1 G.2.2 U U.heap ∧ b.2 ≤ b.1
def rn_M (G : mt_G) (X : mt_X) (z : Nat × Nat × Nat) (av : List ha_V) (h : ha_H) (post : Option ha_V → ha_H → Prop) : Prop := ∀ (b : Nat × Nat) (D : va_G) (cA : Nat → ClassId), Met G.1 X.1 (rn_ws X) (rn_R z) (va_Pc (av.map (ha_v b)) (rn_P G b D cA h)) (rn_Q b D cA post) z.2.1 z.2.2 (fun q => b.1 < q)
def cx_F (G : mt_G) (X : mt_X) (b : Nat × Nat) (D : va_G) (cA : Nat → ClassId) (p : Program) (s : State) (m : MethodId) (args : Array Value) (meth : Method) (c : Code) : Prop :=
  p.tables.exec = Jvm.exec ∧ c.code = X.2.1 ∧ c.maxLocals = X.2.2.1 ∧ meth.sig.returnType = X.2.2.2 ∧ meth.locks = false ∧ (∀ w ∈ rn_ws X, w.before args s = true) ∧ s.vm.findClass X.1.cls = some m.cls ∧ meth.name = X.1.name ∧ hp_K D cA s ∧ b.1 < s.heap.size ∧ va_X b.2 G.2.1 G.2.2 s s.heap ∧ b.2 ≤ b.1
def rn_W (G : mt_G) (X : mt_X) (z : Nat × Nat × Nat) (rc rs pc : Nat) (L : List (Option ha_V)) (st : List ha_V) (h : ha_H) (post : Option ha_V → ha_H → Prop) : Prop :=
  ∀ (b : Nat × Nat) (D : va_G) (cA : Nat → ClassId) (p : Program) (e : Env) (s : State) (m : MethodId) (args : Array Value) (below : List Frame) (meth : Method) (c : Code), cx_F G X b D cA p s m args meth c → ∀ (H : Heap) (locs : List Loc) (ls : Array Slot) (cells slots : Nat), hp_P b D cA h H → va_S (fun q => b.1 < q) s.heap H locs → lo_L b L ls X.2.2.1 → cells + rc = z.2.1 → slots + rs = z.2.2 →
    W p G.1 e (rn_R z) s m args below meth c H locs cells slots (MQ below (rn_Q b D cA post) args s z.2.1 z.2.2 (fun q => b.1 < q)) (F0 m pc ls (st.map (ha_v b)))
theorem rn_of {G : mt_G} {X : mt_X} {z : Nat × Nat × Nat} {av : List ha_V} {h : ha_H} {post : Option ha_V → ha_H → Prop} (hy : plainName X.1.cls = true) (hn : av.length ≤ X.2.2.1) (k : rn_W G X z z.2.1 z.2.2 0 (lo_0 av X.2.2.1) [] h post) : rn_M G X z av h post := by
  intro b D cA
  refine Met.ofW (cc := X.2.1) (maxL := X.2.2.1) (ret := X.2.2.2) hy rfl ?_
  intro p e s m args below meth c s₁ B hml hv
  obtain ⟨rfl, hP, hK, hX, h2⟩ := hv
  rw [lg_entry_eq]
  exact k b D cA p e s m _ below meth c ⟨B.exec, B.bytes, hml, B.returns, B.notSynchronized, atoms_spec (ws := rn_ws X) B.pre, findClass_of_methodNamed B.named, (name_of_methodNamed B.named B.method).1, hK, by rw [hP.1]; have := hP.2.1; omega, hX, h2⟩ s.heap [] _ 0 0 hP va_S.rf (lo_entry b av hn) (by omega) (by omega)
section RW
variable {G : mt_G} {X : mt_X} {z : Nat × Nat × Nat} {rc rs pc : Nat} {L L' : List (Option ha_V)} {st : List ha_V} {h : ha_H} {post : Option ha_V → ha_H → Prop}
theorem rw_iconst {n : Int} {x : Int32} (hd : decode X.2.1 pc = .ok (.iconst n, 1)) (hx : Int32.ofInt n = x) (k : rn_W G X z rc rs (pc + 1) L (.inl x :: st) h post) : rn_W G X z rc rs pc L st h post := by
  intro b D cA p e s m args below meth c F H locs ls cells slots hP hS hL hc hs
  exact lv_iconst F.1 F.2.1 hd hx (k _ _ _ _ _ _ _ _ _ _ _ F _ _ _ _ _ hP hS hL hc hs)
theorem rw_bipush {n : Int} {x : Int32} (hd : decode X.2.1 pc = .ok (.bipush n, 2)) (hx : (Int8.ofInt n).toInt32 = x) (k : rn_W G X z rc rs (pc + 2) L (.inl x :: st) h post) : rn_W G X z rc rs pc L st h post := by
  intro b D cA p e s m args below meth c F H locs ls cells slots hP hS hL hc hs
  exact lv_bipush F.1 F.2.1 hd hx (k _ _ _ _ _ _ _ _ _ _ _ F _ _ _ _ _ hP hS hL hc hs)
theorem rw_sipush {n : Int} {x : Int32} (hd : decode X.2.1 pc = .ok (.sipush n, 3)) (hx : (Int16.ofInt n).toInt32 = x) (k : rn_W G X z rc rs (pc + 3) L (.inl x :: st) h post) : rn_W G X z rc rs pc L st h post := by
  intro b D cA p e s m args below meth c F H locs ls cells slots hP hS hL hc hs
  exact lv_sipush F.1 F.2.1 hd hx (k _ _ _ _ _ _ _ _ _ _ _ F _ _ _ _ _ hP hS hL hc hs)
theorem rw_ldc {idx : Nat} {x : Int32} (hd : decode X.2.1 pc = .ok (.ldc idx, 2)) (hw : Cond.constant X.1.cls idx x ∈ lp_BW) (k : rn_W G X z rc rs (pc + 2) L (.inl x :: st) h post) : rn_W G X z rc rs pc L st h post := by
  intro b D cA p e s m args below meth c F H locs ls cells slots hP hS hL hc hs
  exact lv_ldc F.1 F.2.1 F.2.2.2.2.2.2.1 (F.2.2.2.2.2.1 _ (List.mem_cons_of_mem _ hw)) hd (k _ _ _ _ _ _ _ _ _ _ _ F _ _ _ _ _ hP hS hL hc hs)
theorem rw_null  (hd : decode X.2.1 pc = .ok (.aconst_null, 1)) (k : rn_W G X z rc rs (pc + 1) L (.inr none :: st) h post) : rn_W G X z rc rs pc L st h post := by
  intro b D cA p e s m args below meth c F H locs ls cells slots hP hS hL hc hs
  exact lv_null F.1 F.2.1 hd (k _ _ _ _ _ _ _ _ _ _ _ F _ _ _ _ _ hP hS hL hc hs)
theorem rw_iload_n {i : Fin 4} {x : Int32} (hd : decode X.2.1 pc = .ok (.iload_n i, 1)) (hv : L[(i : Nat)]? = some (some (.inl x))) (k : rn_W G X z rc rs (pc + 1) L (.inl x :: st) h post) : rn_W G X z rc rs pc L st h post := by
  intro b D cA p e s m args below meth c F H locs ls cells slots hP hS hL hc hs
  exact lv_iload_n F.1 F.2.1 hd rfl (hL.2.2 _ _ hv) (k _ _ _ _ _ _ _ _ _ _ _ F _ _ _ _ _ hP hS hL hc hs)
theorem rw_iload {i : Nat} {x : Int32} (hd : decode X.2.1 pc = .ok (.iload i, 2)) (hv : L[i]? = some (some (.inl x))) (k : rn_W G X z rc rs (pc + 2) L (.inl x :: st) h post) : rn_W G X z rc rs pc L st h post := by
  intro b D cA p e s m args below meth c F H locs ls cells slots hP hS hL hc hs
  exact lv_iload F.1 F.2.1 hd (hL.2.2 _ _ hv) (k _ _ _ _ _ _ _ _ _ _ _ F _ _ _ _ _ hP hS hL hc hs)
theorem rw_aload_n {i : Fin 4} {r : Option Nat} (hd : decode X.2.1 pc = .ok (.aload_n i, 1)) (hv : L[(i : Nat)]? = some (some (.inr r))) (k : rn_W G X z rc rs (pc + 1) L (.inr r :: st) h post) : rn_W G X z rc rs pc L st h post := by
  intro b D cA p e s m args below meth c F H locs ls cells slots hP hS hL hc hs
  cases r with
  | none => exact lv_aload_nN F.1 F.2.1 hd rfl (hL.2.2 _ _ hv) (k _ _ _ _ _ _ _ _ _ _ _ F _ _ _ _ _ hP hS hL hc hs)
  | some a => exact lv_aload_n F.1 F.2.1 hd rfl (hL.2.2 _ _ hv) (k _ _ _ _ _ _ _ _ _ _ _ F _ _ _ _ _ hP hS hL hc hs)
theorem rw_aload {i : Nat} {r : Option Nat} (hd : decode X.2.1 pc = .ok (.aload i, 2)) (hv : L[i]? = some (some (.inr r))) (k : rn_W G X z rc rs (pc + 2) L (.inr r :: st) h post) : rn_W G X z rc rs pc L st h post := by
  intro b D cA p e s m args below meth c F H locs ls cells slots hP hS hL hc hs
  cases r with
  | none => exact lv_aloadN F.1 F.2.1 hd (hL.2.2 _ _ hv) (k _ _ _ _ _ _ _ _ _ _ _ F _ _ _ _ _ hP hS hL hc hs)
  | some a => exact lv_aload F.1 F.2.1 hd (hL.2.2 _ _ hv) (k _ _ _ _ _ _ _ _ _ _ _ F _ _ _ _ _ hP hS hL hc hs)
theorem rw_istore_n {i : Fin 4} {x : Int32} (hd : decode X.2.1 pc = .ok (.istore_n i, 1)) (hi : (i : Nat) < X.2.2.1) (he : L.set i (some (.inl x)) = L') (k : rn_W G X z rc rs (pc + 1) L' st h post) : rn_W G X z rc rs pc L (.inl x :: st) h post := by
  intro b D cA p e s m args below meth c F H locs ls cells slots hP hS hL hc hs
  subst he
  exact lv_istore_n F.1 F.2.1 hd rfl (lo_has hL) hi rfl (fun ls' h' => k _ _ _ _ _ _ _ _ _ _ _ F _ _ _ _ _ hP hS (lo_set h') hc hs)
theorem rw_istore {i : Nat} {x : Int32} (hd : decode X.2.1 pc = .ok (.istore i, 2)) (hi : i < X.2.2.1) (he : L.set i (some (.inl x)) = L') (k : rn_W G X z rc rs (pc + 2) L' st h post) : rn_W G X z rc rs pc L (.inl x :: st) h post := by
  intro b D cA p e s m args below meth c F H locs ls cells slots hP hS hL hc hs
  subst he
  exact lv_istore F.1 F.2.1 hd (lo_has hL) hi rfl (fun ls' h' => k _ _ _ _ _ _ _ _ _ _ _ F _ _ _ _ _ hP hS (lo_set h') hc hs)
theorem rw_astore_n {i : Fin 4} {r : Option Nat} (hd : decode X.2.1 pc = .ok (.astore_n i, 1)) (hi : (i : Nat) < X.2.2.1) (he : L.set i (some (.inr r)) = L') (k : rn_W G X z rc rs (pc + 1) L' st h post) : rn_W G X z rc rs pc L (.inr r :: st) h post := by
  intro b D cA p e s m args below meth c F H locs ls cells slots hP hS hL hc hs
  subst he
  cases r with
  | none => exact lv_astore_nN F.1 F.2.1 hd rfl (lo_has hL) hi rfl (fun ls' h' => k _ _ _ _ _ _ _ _ _ _ _ F _ _ _ _ _ hP hS (lo_set (v := .inr none) h') hc hs)
  | some a => exact lv_astore_n F.1 F.2.1 hd rfl (lo_has hL) hi rfl (fun ls' h' => k _ _ _ _ _ _ _ _ _ _ _ F _ _ _ _ _ hP hS (lo_set (v := .inr (some a)) h') hc hs)
theorem rw_astore {i : Nat} {r : Option Nat} (hd : decode X.2.1 pc = .ok (.astore i, 2)) (hi : i < X.2.2.1) (he : L.set i (some (.inr r)) = L') (k : rn_W G X z rc rs (pc + 2) L' st h post) : rn_W G X z rc rs pc L (.inr r :: st) h post := by
  intro b D cA p e s m args below meth c F H locs ls cells slots hP hS hL hc hs
  subst he
  cases r with
  | none => exact lv_astoreN F.1 F.2.1 hd (lo_has hL) hi rfl (fun ls' h' => k _ _ _ _ _ _ _ _ _ _ _ F _ _ _ _ _ hP hS (lo_set (v := .inr none) h') hc hs)
  | some a => exact lv_astore F.1 F.2.1 hd (lo_has hL) hi rfl (fun ls' h' => k _ _ _ _ _ _ _ _ _ _ _ F _ _ _ _ _ hP hS (lo_set (v := .inr (some a)) h') hc hs)
theorem rw_iinc {i : Nat} {n : Int} {x y : Int32} (hd : decode X.2.1 pc = .ok (.iinc i n, 3)) (hi : i < X.2.2.1) (hv : L[i]? = some (some (.inl x))) (hy : x + Int32.ofInt n = y) (he : L.set i (some (.inl y)) = L') (k : rn_W G X z rc rs (pc + 3) L' st h post) : rn_W G X z rc rs pc L st h post := by
  intro b D cA p e s m args below meth c F H locs ls cells slots hP hS hL hc hs
  subst he
  obtain ⟨j, hj⟩ := List.getElem?_of_mem (lo_in (b := b) hv)
  exact lv_iinc (k := j) F.1 F.2.1 hd (lo_has hL) hj hy hi rfl (fun ls' h' => k _ _ _ _ _ _ _ _ _ _ _ F _ _ _ _ _ hP hS (lo_set (v := .inl y) h') hc hs)
theorem rw_iadd {x y v : Int32} (hd : decode X.2.1 pc = .ok (.iadd, 1)) (hv : x + y = v) (k : rn_W G X z rc rs (pc + 1) L (.inl v :: st) h post) : rn_W G X z rc rs pc L (.inl y :: .inl x :: st) h post := by
  intro b D cA p e s m args below meth c F H locs ls cells slots hP hS hL hc hs
  subst hv
  exact lv_iadd F.1 F.2.1 hd (k _ _ _ _ _ _ _ _ _ _ _ F _ _ _ _ _ hP hS hL hc hs)
theorem rw_isub {x y v : Int32} (hd : decode X.2.1 pc = .ok (.isub, 1)) (hv : x - y = v) (k : rn_W G X z rc rs (pc + 1) L (.inl v :: st) h post) : rn_W G X z rc rs pc L (.inl y :: .inl x :: st) h post := by
  intro b D cA p e s m args below meth c F H locs ls cells slots hP hS hL hc hs
  subst hv
  exact lv_isub F.1 F.2.1 hd (k _ _ _ _ _ _ _ _ _ _ _ F _ _ _ _ _ hP hS hL hc hs)
theorem rw_imul {x y v : Int32} (hd : decode X.2.1 pc = .ok (.imul, 1)) (hv : x * y = v) (k : rn_W G X z rc rs (pc + 1) L (.inl v :: st) h post) : rn_W G X z rc rs pc L (.inl y :: .inl x :: st) h post := by
  intro b D cA p e s m args below meth c F H locs ls cells slots hP hS hL hc hs
  subst hv
  exact lv_imul F.1 F.2.1 hd (k _ _ _ _ _ _ _ _ _ _ _ F _ _ _ _ _ hP hS hL hc hs)
theorem rw_iand {x y v : Int32} (hd : decode X.2.1 pc = .ok (.iand, 1)) (hv : x &&& y = v) (k : rn_W G X z rc rs (pc + 1) L (.inl v :: st) h post) : rn_W G X z rc rs pc L (.inl y :: .inl x :: st) h post := by
  intro b D cA p e s m args below meth c F H locs ls cells slots hP hS hL hc hs
  subst hv
  exact lv_iand F.1 F.2.1 hd (k _ _ _ _ _ _ _ _ _ _ _ F _ _ _ _ _ hP hS hL hc hs)
theorem rw_idiv {x y v : Int32} (hd : decode X.2.1 pc = .ok (.idiv, 1)) (hne : ¬ y = 0) (hv : x / y = v) (k : rn_W G X z rc rs (pc + 1) L (.inl v :: st) h post) : rn_W G X z rc rs pc L (.inl y :: .inl x :: st) h post := by
  intro b D cA p e s m args below meth c F H locs ls cells slots hP hS hL hc hs
  subst hv
  exact lv_idiv F.1 F.2.1 hd hne (k _ _ _ _ _ _ _ _ _ _ _ F _ _ _ _ _ hP hS hL hc hs)
theorem rw_irem {x y v : Int32} (hd : decode X.2.1 pc = .ok (.irem, 1)) (hne : ¬ y = 0) (hv : x - x / y * y = v) (k : rn_W G X z rc rs (pc + 1) L (.inl v :: st) h post) : rn_W G X z rc rs pc L (.inl y :: .inl x :: st) h post := by
  intro b D cA p e s m args below meth c F H locs ls cells slots hP hS hL hc hs
  subst hv
  exact lv_irem F.1 F.2.1 hd hne (k _ _ _ _ _ _ _ _ _ _ _ F _ _ _ _ _ hP hS hL hc hs)
theorem rw_dup {v : ha_V} (hd : decode X.2.1 pc = .ok (.dup, 1)) (k : rn_W G X z rc rs (pc + 1) L (v :: v :: st) h post) : rn_W G X z rc rs pc L (v :: st) h post := by
  intro b D cA p e s m args below meth c F H locs ls cells slots hP hS hL hc hs
  exact lv_dup F.1 F.2.1 hd (ha_cat b v) (k _ _ _ _ _ _ _ _ _ _ _ F _ _ _ _ _ hP hS hL hc hs)
theorem rw_pop {v : ha_V} (hd : decode X.2.1 pc = .ok (.pop, 1)) (k : rn_W G X z rc rs (pc + 1) L st h post) : rn_W G X z rc rs pc L (v :: st) h post := by
  intro b D cA p e s m args below meth c F H locs ls cells slots hP hS hL hc hs
  exact lv_pop F.1 F.2.1 hd (ha_cat b v) (k _ _ _ _ _ _ _ _ _ _ _ F _ _ _ _ _ hP hS hL hc hs)
theorem rw_dup2 {v w : ha_V} (hd : decode X.2.1 pc = .ok (.dup2, 1)) (k : rn_W G X z rc rs (pc + 1) L (v :: w :: v :: w :: st) h post) : rn_W G X z rc rs pc L (v :: w :: st) h post := by
  intro b D cA p e s m args below meth c F H locs ls cells slots hP hS hL hc hs
  exact lv_dup2_11 F.1 F.2.1 hd (ha_cat b v) (ha_cat b w) (k _ _ _ _ _ _ _ _ _ _ _ F _ _ _ _ _ hP hS hL hc hs)
theorem rw_ifeq {x : Int32} {off : Int} {tgt : Nat} (hd : decode X.2.1 pc = .ok (.ifCond .eq off, 3)) (ht : (pc : Int) + off = (tgt : Int)) (kt : x = 0 → rn_W G X z rc rs tgt L st h post) (kf : ¬ x = 0 → rn_W G X z rc rs (pc + 3) L st h post) : rn_W G X z rc rs pc L (.inl x :: st) h post := by
  intro b D cA p e s m args below meth c F H locs ls cells slots hP hS hL hc hs
  exact lv_if_eq F.1 F.2.1 hd ht (fun hx => kt hx _ _ _ _ _ _ _ _ _ _ _ F _ _ _ _ _ hP hS hL hc hs) (fun hx => kf hx _ _ _ _ _ _ _ _ _ _ _ F _ _ _ _ _ hP hS hL hc hs)
theorem rw_iflt {x : Int32} {off : Int} {tgt : Nat} (hd : decode X.2.1 pc = .ok (.ifCond .lt off, 3)) (ht : (pc : Int) + off = (tgt : Int)) (kt : x < 0 → rn_W G X z rc rs tgt L st h post) (kf : ¬ x < 0 → rn_W G X z rc rs (pc + 3) L st h post) : rn_W G X z rc rs pc L (.inl x :: st) h post := by
  intro b D cA p e s m args below meth c F H locs ls cells slots hP hS hL hc hs
  exact lv_if_lt F.1 F.2.1 hd ht (fun hx => kt hx _ _ _ _ _ _ _ _ _ _ _ F _ _ _ _ _ hP hS hL hc hs) (fun hx => kf hx _ _ _ _ _ _ _ _ _ _ _ F _ _ _ _ _ hP hS hL hc hs)
theorem rw_ifgt {x : Int32} {off : Int} {tgt : Nat} (hd : decode X.2.1 pc = .ok (.ifCond .gt off, 3)) (ht : (pc : Int) + off = (tgt : Int)) (kt : 0 < x → rn_W G X z rc rs tgt L st h post) (kf : ¬ 0 < x → rn_W G X z rc rs (pc + 3) L st h post) : rn_W G X z rc rs pc L (.inl x :: st) h post := by
  intro b D cA p e s m args below meth c F H locs ls cells slots hP hS hL hc hs
  exact lv_if_gt F.1 F.2.1 hd ht (fun hx => kt hx _ _ _ _ _ _ _ _ _ _ _ F _ _ _ _ _ hP hS hL hc hs) (fun hx => kf hx _ _ _ _ _ _ _ _ _ _ _ F _ _ _ _ _ hP hS hL hc hs)
theorem rw_ifle {x : Int32} {off : Int} {tgt : Nat} (hd : decode X.2.1 pc = .ok (.ifCond .le off, 3)) (ht : (pc : Int) + off = (tgt : Int)) (kt : x ≤ 0 → rn_W G X z rc rs tgt L st h post) (kf : ¬ x ≤ 0 → rn_W G X z rc rs (pc + 3) L st h post) : rn_W G X z rc rs pc L (.inl x :: st) h post := by
  intro b D cA p e s m args below meth c F H locs ls cells slots hP hS hL hc hs
  exact lv_if_le F.1 F.2.1 hd ht (fun hx => kt hx _ _ _ _ _ _ _ _ _ _ _ F _ _ _ _ _ hP hS hL hc hs) (fun hx => kf hx _ _ _ _ _ _ _ _ _ _ _ F _ _ _ _ _ hP hS hL hc hs)
theorem rw_icmpeq {x y : Int32} {off : Int} {tgt : Nat} (hd : decode X.2.1 pc = .ok (.if_icmp .eq off, 3)) (ht : (pc : Int) + off = (tgt : Int)) (kt : x = y → rn_W G X z rc rs tgt L st h post) (kf : ¬ x = y → rn_W G X z rc rs (pc + 3) L st h post) : rn_W G X z rc rs pc L (.inl y :: .inl x :: st) h post := by
  intro b D cA p e s m args below meth c F H locs ls cells slots hP hS hL hc hs
  exact lv_icmp_eq F.1 F.2.1 hd ht (fun hx => kt hx _ _ _ _ _ _ _ _ _ _ _ F _ _ _ _ _ hP hS hL hc hs) (fun hx => kf hx _ _ _ _ _ _ _ _ _ _ _ F _ _ _ _ _ hP hS hL hc hs)
theorem rw_icmplt {x y : Int32} {off : Int} {tgt : Nat} (hd : decode X.2.1 pc = .ok (.if_icmp .lt off, 3)) (ht : (pc : Int) + off = (tgt : Int)) (kt : x < y → rn_W G X z rc rs tgt L st h post) (kf : ¬ x < y → rn_W G X z rc rs (pc + 3) L st h post) : rn_W G X z rc rs pc L (.inl y :: .inl x :: st) h post := by
  intro b D cA p e s m args below meth c F H locs ls cells slots hP hS hL hc hs
  exact lv_icmp_lt F.1 F.2.1 hd ht (fun hx => kt hx _ _ _ _ _ _ _ _ _ _ _ F _ _ _ _ _ hP hS hL hc hs) (fun hx => kf hx _ _ _ _ _ _ _ _ _ _ _ F _ _ _ _ _ hP hS hL hc hs)
theorem rw_icmpgt {x y : Int32} {off : Int} {tgt : Nat} (hd : decode X.2.1 pc = .ok (.if_icmp .gt off, 3)) (ht : (pc : Int) + off = (tgt : Int)) (kt : y < x → rn_W G X z rc rs tgt L st h post) (kf : ¬ y < x → rn_W G X z rc rs (pc + 3) L st h post) : rn_W G X z rc rs pc L (.inl y :: .inl x :: st) h post := by
  intro b D cA p e s m args below meth c F H locs ls cells slots hP hS hL hc hs
  exact lv_icmp_gt F.1 F.2.1 hd ht (fun hx => kt hx _ _ _ _ _ _ _ _ _ _ _ F _ _ _ _ _ hP hS hL hc hs) (fun hx => kf hx _ _ _ _ _ _ _ _ _ _ _ F _ _ _ _ _ hP hS hL hc hs)
theorem rw_icmple {x y : Int32} {off : Int} {tgt : Nat} (hd : decode X.2.1 pc = .ok (.if_icmp .le off, 3)) (ht : (pc : Int) + off = (tgt : Int)) (kt : x ≤ y → rn_W G X z rc rs tgt L st h post) (kf : ¬ x ≤ y → rn_W G X z rc rs (pc + 3) L st h post) : rn_W G X z rc rs pc L (.inl y :: .inl x :: st) h post := by
  intro b D cA p e s m args below meth c F H locs ls cells slots hP hS hL hc hs
  exact lv_icmp_le F.1 F.2.1 hd ht (fun hx => kt hx _ _ _ _ _ _ _ _ _ _ _ F _ _ _ _ _ hP hS hL hc hs) (fun hx => kf hx _ _ _ _ _ _ _ _ _ _ _ F _ _ _ _ _ hP hS hL hc hs)
theorem rw_ifne {x : Int32} {off : Int} {tgt : Nat} (hd : decode X.2.1 pc = .ok (.ifCond .ne off, 3)) (ht : (pc : Int) + off = (tgt : Int)) (kt : ¬ x = 0 → rn_W G X z rc rs tgt L st h post) (kf : x = 0 → rn_W G X z rc rs (pc + 3) L st h post) : rn_W G X z rc rs pc L (.inl x :: st) h post := by
  intro b D cA p e s m args below meth c F H locs ls cells slots hP hS hL hc hs
  exact lv_if_ne F.1 F.2.1 hd ht (fun hx => kt hx _ _ _ _ _ _ _ _ _ _ _ F _ _ _ _ _ hP hS hL hc hs) (fun hx => kf hx _ _ _ _ _ _ _ _ _ _ _ F _ _ _ _ _ hP hS hL hc hs)
theorem rw_icmpne {x y : Int32} {off : Int} {tgt : Nat} (hd : decode X.2.1 pc = .ok (.if_icmp .ne off, 3)) (ht : (pc : Int) + off = (tgt : Int)) (kt : ¬ x = y → rn_W G X z rc rs tgt L st h post) (kf : x = y → rn_W G X z rc rs (pc + 3) L st h post) : rn_W G X z rc rs pc L (.inl y :: .inl x :: st) h post := by
  intro b D cA p e s m args below meth c F H locs ls cells slots hP hS hL hc hs
  exact lv_icmp_ne F.1 F.2.1 hd ht (fun hx => kt hx _ _ _ _ _ _ _ _ _ _ _ F _ _ _ _ _ hP hS hL hc hs) (fun hx => kf hx _ _ _ _ _ _ _ _ _ _ _ F _ _ _ _ _ hP hS hL hc hs)
theorem rw_ifge {x : Int32} {off : Int} {tgt : Nat} (hd : decode X.2.1 pc = .ok (.ifCond .ge off, 3)) (ht : (pc : Int) + off = (tgt : Int)) (kt : 0 ≤ x → rn_W G X z rc rs tgt L st h post) (kf : ¬ 0 ≤ x → rn_W G X z rc rs (pc + 3) L st h post) : rn_W G X z rc rs pc L (.inl x :: st) h post := by
  intro b D cA p e s m args below meth c F H locs ls cells slots hP hS hL hc hs
  exact lv_if_ge F.1 F.2.1 hd ht (fun hx => kt hx _ _ _ _ _ _ _ _ _ _ _ F _ _ _ _ _ hP hS hL hc hs) (fun hx => kf hx _ _ _ _ _ _ _ _ _ _ _ F _ _ _ _ _ hP hS hL hc hs)
theorem rw_icmpge {x y : Int32} {off : Int} {tgt : Nat} (hd : decode X.2.1 pc = .ok (.if_icmp .ge off, 3)) (ht : (pc : Int) + off = (tgt : Int)) (kt : y ≤ x → rn_W G X z rc rs tgt L st h post) (kf : ¬ y ≤ x → rn_W G X z rc rs (pc + 3) L st h post) : rn_W G X z rc rs pc L (.inl y :: .inl x :: st) h post := by
  intro b D cA p e s m args below meth c F H locs ls cells slots hP hS hL hc hs
  exact lv_icmp_ge F.1 F.2.1 hd ht (fun hx => kt hx _ _ _ _ _ _ _ _ _ _ _ F _ _ _ _ _ hP hS hL hc hs) (fun hx => kf hx _ _ _ _ _ _ _ _ _ _ _ F _ _ _ _ _ hP hS hL hc hs)
theorem rw_ifnull {r : Option Nat} {off : Int} {tgt : Nat} (hd : decode X.2.1 pc = .ok (.ifnull off, 3)) (ht : (pc : Int) + off = (tgt : Int)) (kt : r = none → rn_W G X z rc rs tgt L st h post) (kf : ∀ a, r = some a → rn_W G X z rc rs (pc + 3) L st h post) : rn_W G X z rc rs pc L (.inr r :: st) h post := by
  intro b D cA p e s m args below meth c F H locs ls cells slots hP hS hL hc hs
  cases r with
  | none => exact lv_ifnullN F.1 F.2.1 hd ht (kt rfl _ _ _ _ _ _ _ _ _ _ _ F _ _ _ _ _ hP hS hL hc hs)
  | some a => exact lv_ifnull F.1 F.2.1 hd (kf a rfl _ _ _ _ _ _ _ _ _ _ _ F _ _ _ _ _ hP hS hL hc hs)
theorem rw_ifnonnull {r : Option Nat} {off : Int} {tgt : Nat} (hd : decode X.2.1 pc = .ok (.ifnonnull off, 3)) (ht : (pc : Int) + off = (tgt : Int)) (kt : ∀ a, r = some a → rn_W G X z rc rs tgt L st h post) (kf : r = none → rn_W G X z rc rs (pc + 3) L st h post) : rn_W G X z rc rs pc L (.inr r :: st) h post := by
  intro b D cA p e s m args below meth c F H locs ls cells slots hP hS hL hc hs
  cases r with
  | none => exact lv_ifnonnullN F.1 F.2.1 hd (kf rfl _ _ _ _ _ _ _ _ _ _ _ F _ _ _ _ _ hP hS hL hc hs)
  | some a => exact lv_ifnonnull F.1 F.2.1 hd ht (kt a rfl _ _ _ _ _ _ _ _ _ _ _ F _ _ _ _ _ hP hS hL hc hs)
theorem rw_goto {off : Int} {tgt : Nat} (hd : decode X.2.1 pc = .ok (.goto off, 3)) (ht : (pc : Int) + off = (tgt : Int)) (k : rn_W G X z rc rs tgt L st h post) : rn_W G X z rc rs pc L st h post := by
  intro b D cA p e s m args below meth c F H locs ls cells slots hP hS hL hc hs
  exact lv_goto F.1 F.2.1 hd ht (k _ _ _ _ _ _ _ _ _ _ _ F _ _ _ _ _ hP hS hL hc hs)
theorem rw_tabOut {dflt lo hi : Int} {offs : Array Int} {len tgt : Nat} {x : Int32} (hd : decode X.2.1 pc = .ok (.tableswitch dflt lo hi offs, len)) (hx : x.toInt < lo ∨ hi < x.toInt) (ht : (pc : Int) + dflt = (tgt : Int)) (k : rn_W G X z rc rs tgt L st h post) : rn_W G X z rc rs pc L (.inl x :: st) h post := by
  intro b D cA p e s m args below meth c F H locs ls cells slots hP hS hL hc hs
  exact lv_tableOut F.1 F.2.1 hd hx ht (k _ _ _ _ _ _ _ _ _ _ _ F _ _ _ _ _ hP hS hL hc hs)
theorem rw_tabIn {dflt lo hi off : Int} {offs : Array Int} {len tgt : Nat} {x : Int32} (hd : decode X.2.1 pc = .ok (.tableswitch dflt lo hi offs, len)) (h1 : ¬ x.toInt < lo) (h2 : ¬ hi < x.toInt) (ho : offs[(x.toInt - lo).toNat]? = some off) (ht : (pc : Int) + off = (tgt : Int)) (k : rn_W G X z rc rs tgt L st h post) : rn_W G X z rc rs pc L (.inl x :: st) h post := by
  intro b D cA p e s m args below meth c F H locs ls cells slots hP hS hL hc hs
  exact lv_tableIn F.1 F.2.1 hd h1 h2 ho ht (k _ _ _ _ _ _ _ _ _ _ _ F _ _ _ _ _ hP hS hL hc hs)
theorem rw_vret (hd : decode X.2.1 pc = .ok (.return_, 1)) (hr : X.2.2.2 = none) (hq : post none h) : rn_W G X z rc rs pc L [] h post := by
  intro b D cA p e s m args below meth c F H locs ls cells slots hP hS hL hc hs
  exact W.widen (by omega) (by omega) (W.vret F.1 F.2.1 (F.2.2.2.1.trans hr) (fun t ht hW => ⟨⟨none, h, rfl, hq, by rw [ht]; exact hP⟩, hS.F ht⟩) hS.2.2 hd F.2.2.2.2.1)
theorem rw_iret {x : Int32} (hd : decode X.2.1 pc = .ok (.ireturn, 1)) (hr : X.2.2.2 = some .int) (hq : post (some (.inl x)) h) : rn_W G X z rc rs pc L [.inl x] h post := by
  intro b D cA p e s m args below meth c F H locs ls cells slots hP hS hL hc hs
  exact W.widen (by omega) (by omega) (W.iret (v := x) F.1 F.2.1 (F.2.2.2.1.trans hr) (fun t ht hW => ⟨⟨some (.inl x), h, rfl, hq, by rw [ht]; exact hP⟩, hS.F ht⟩) hS.2.2 hd F.2.2.2.2.1)
theorem rw_zret {x : Int32} (hd : decode X.2.1 pc = .ok (.ireturn, 1)) (hr : X.2.2.2 = some .boolean) (hx : x = 0 ∨ x = 1) (hq : post (some (.inl x)) h) : rn_W G X z rc rs pc L [.inl x] h post := by
  intro b D cA p e s m args below meth c F H locs ls cells slots hP hS hL hc hs
  exact W.widen (by omega) (by omega) (W.zret (v := x) F.1 F.2.1 (F.2.2.2.1.trans hr) (by rcases hx with rfl | rfl <;> rfl) (fun t ht hW => ⟨⟨some (.inl x), h, rfl, hq, by rw [ht]; exact hP⟩, hS.F ht⟩) hS.2.2 hd F.2.2.2.2.1)
theorem rw_aret {r : Option Nat} {rt : FieldType} (hd : decode X.2.1 pc = .ok (.areturn, 1)) (hr : X.2.2.2 = some rt) (hrt : (∃ n, rt = .object n) ∨ ∃ t, rt = .array t) (hq : post (some (.inr r)) h) : rn_W G X z rc rs pc L [.inr r] h post := by
  intro b D cA p e s m args below meth c F H locs ls cells slots hP hS hL hc hs
  exact W.widen (by omega) (by omega) (W.aret (v := ha_v b (.inr r)) F.1 F.2.1 (F.2.2.2.1.trans hr) hrt (va_rf_or _) (fun t ht hW => ⟨⟨some (.inr r), h, rfl, hq, by rw [ht]; exact hP⟩, hS.F ht⟩) hS.2.2 hd F.2.2.2.2.1)
end RW
end
section
/-! Fields: links by their places in the words; reads and writes. -/
def fl_lk (own : String) (idx : Nat) (ref n d : String) : Prop := Cond.fieldLink own idx ref n d ∈ lp_BW ∨ ∃ host, Cond.fieldLinkNest own idx ref n d host ∈ lp_NW
def fl_sm (r : vw_C) (ref : String) (k : Nat) : Prop := ref = (r.2.1 k).1 ∨ Cond.sameField ref (r.2.1 k).1 (r.2.1 k).2.1 (r.2.1 k).2.2.1 ∈ lp_BW
def fl_ok (own : String) (idx ci k : Nat) (rf : Bool) : Prop := ∃ (r : vw_C) (ref : String), lp_CL[ci]? = some r ∧ k < r.2.2 ∧ fl_lk own idx ref (r.2.1 k).2.1 (r.2.1 k).2.2.1 ∧ fl_sm r ref k ∧ hp_isR r.2.1 k = rf
def pf_ok (y : MethodName) (idx ci k : Nat) (rf : Bool) (ty : FieldType) : Prop := ∃ (r : vw_C) (ref : String), lp_CL[ci]? = some r ∧ k < r.2.2 ∧ fl_sm r ref k ∧ hp_isR r.2.1 k = rf ∧ parseFieldDescriptor (r.2.1 k).2.2.1 = some ty ∧ (((r.2.1 k).2.2.2 = false ∧ fl_lk y.cls idx ref (r.2.1 k).2.1 (r.2.1 k).2.2.1) ∨ ((r.2.1 k).2.2.2 = true ∧ (r.2.1 k).1 = y.cls ∧ y.name = "<init>" ∧ Cond.fieldLink y.cls idx ref (r.2.1 k).2.1 (r.2.1 k).2.2.1 ∈ lp_BW))
theorem cx_F.bw {G : mt_G} {X : mt_X} {b : Nat × Nat} {D : va_G} {cA : Nat → ClassId} {p : Program} {s : State} {m : MethodId} {args : Array Value} {meth : Method} {c : Code} (F : cx_F G X b D cA p s m args meth c) : ∀ w ∈ lp_BW, w.before args s = true := fun w h => F.2.2.2.2.2.1 w (List.mem_cons_of_mem _ h)
theorem cx_F.own {G : mt_G} {X : mt_X} {b : Nat × Nat} {D : va_G} {cA : Nat → ClassId} {p : Program} {s : State} {m : MethodId} {args : Array Value} {meth : Method} {c : Code} (F : cx_F G X b D cA p s m args meth c) : s.vm.findClass X.1.cls = some m.cls := F.2.2.2.2.2.2.1
theorem cx_F.nm {G : mt_G} {X : mt_X} {b : Nat × Nat} {D : va_G} {cA : Nat → ClassId} {p : Program} {s : State} {m : MethodId} {args : Array Value} {meth : Method} {c : Code} (F : cx_F G X b D cA p s m args meth c) : meth.name = X.1.name := F.2.2.2.2.2.2.2.1
theorem cx_F.K {G : mt_G} {X : mt_X} {b : Nat × Nat} {D : va_G} {cA : Nat → ClassId} {p : Program} {s : State} {m : MethodId} {args : Array Value} {meth : Method} {c : Code} (F : cx_F G X b D cA p s m args meth c) : hp_K D cA s := F.2.2.2.2.2.2.2.2.1
theorem cx_F.nw {G : mt_G} {X : mt_X} {b : Nat × Nat} {D : va_G} {cA : Nat → ClassId} {p : Program} {s : State} {m : MethodId} {args : Array Value} {meth : Method} {c : Code} (F : cx_F G X b D cA p s m args meth c) {w : Cond} (hw : w.onTables = true) (h : w ∈ lp_NW) : w.before args s = true := va_Nw.use hw (F.K.2.1 w h)
theorem hp_obj {b : Nat × Nat} {D : va_G} {cA : Nat → ClassId} {h : ha_H} {H : Heap} {a ci : Nat} {r : vw_C} (hP : hp_P b D cA h H) (ha : hp_ok h a) (hs : hp_S h a = .inr ci) (hc : lp_CL[ci]? = some r) : t_OB (ha_a b a) (D.1 ci) r.2.2 (D.2 ci) H (hp_V b r.2.1 h a) := by
  have hat := hP.2.2 a ha
  unfold hp_at at hat
  rw [hs] at hat
  obtain ⟨r', h1, h2⟩ := hat
  cases h1.symm.trans hc
  exact h2
theorem hp_arr {b : Nat × Nat} {D : va_G} {cA : Nat → ClassId} {h : ha_H} {H : Heap} {a t n : Nat} (hP : hp_P b D cA h H) (ha : hp_ok h a) (hs : hp_S h a = .inl (t, n)) : H[ha_a b a]? = some (arrV (cA t) n (hp_F b t h a)) := by
  have hat := hP.2.2 a ha
  unfold hp_at at hat
  rw [hs] at hat
  exact hat
theorem fl_use {D : va_G} {cA : Nat → ClassId} {s : State} {args : Array Value} (hK : hp_K D cA s) (hts : ∀ w ∈ lp_BW, w.before args s = true) {ci k : Nat} {r : vw_C} {ref : String} (hc : lp_CL[ci]? = some r) (hk : k < r.2.2) (hsame : fl_sm r ref k) :
    ∃ (cf : Nat) (kf : Class) (fi : Nat) (f : Field) (kC : Class), s.fieldFound? (r.2.1 k).1 (r.2.1 k).2.1 (r.2.1 k).2.2.1 = some (cf, kf, fi, f) ∧ s.fieldFound? ref (r.2.1 k).2.1 (r.2.1 k).2.2.1 = some (cf, kf, fi, f) ∧ f.slot = D.2 ci k ∧ f.isStatic = false ∧ s.vm.findClass r.1 = some (D.1 ci) ∧ s.vm.classes[D.1 ci]? = some kC ∧ kC.kind = .ordinary := by
  obtain ⟨hSl, hfc, kC, hkC, hkind⟩ := hK.1.1 ci r hc
  obtain ⟨cf, kf, fi, f, hi, hsl⟩ := hSl k hk
  refine ⟨cf, kf, fi, f, kC, hi, ?_, hsl, (u_facts hfc hkC (u_lays hts (lp_in ci r hc) hk) hi).1, hfc, hkC, hkind⟩
  rcases hsame with rfl | hm
  · exact hi
  · exact u_same (hts _ hm) _ hi
section RF
variable {G : mt_G} {X : mt_X} {z : Nat × Nat × Nat} {rc rs pc : Nat} {L L' : List (Option ha_V)} {st : List ha_V} {h : ha_H} {post : Option ha_V → ha_H → Prop}
theorem rw_getI {a idx ci kk : Nat} {x : Int32} (hl : fl_ok X.1.cls idx ci kk false) (hd : decode X.2.1 pc = .ok (.getfield idx, 3)) (ha : hp_ok h a) (hs : hp_S h a = .inr ci) (hx : hp_I h a kk = x) (k : rn_W G X z rc rs (pc + 3) L (.inl x :: st) h post) : rn_W G X z rc rs pc L (.inr (some a) :: st) h post := by
  intro b D cA p e s m args below meth c F H locs ls cells slots hP hS hL hc hs'
  obtain ⟨r, ref, hcl, hk, hlk, hsm, hrf⟩ := hl
  obtain ⟨cell, q1, q2, q3, q4⟩ := hp_obj hP ha hs hcl
  obtain ⟨cf, kf, fi, f, kC, hi, hi', hsl, hst, -⟩ := fl_use F.K F.bw hcl hk hsm
  have hslot : cell.slots[f.slot]? = some (.int x) := by
    rw [hsl, q4 kk hk]
    unfold hp_V
    rw [hrf, if_neg (by decide), hx]
  rcases hlk with hlk | ⟨host, hlk⟩
  · exact W.getf F.1 F.2.1 F.own (F.bw _ hlk) hi' hst q1 (by rw [q3]; exact fun h => by cases h) hslot rfl rfl hd (k _ _ _ _ _ _ _ _ _ _ _ F _ _ _ _ _ hP hS hL hc hs')
  · exact va_Wgetf F.1 F.2.1 F.own (F.nw rfl hlk) hi' hst q1 (by rw [q3]; exact fun h => by cases h) hslot rfl rfl hd (k _ _ _ _ _ _ _ _ _ _ _ F _ _ _ _ _ hP hS hL hc hs')
theorem rw_getR {a idx ci kk : Nat} {x : Option Nat} (hl : fl_ok X.1.cls idx ci kk true) (hd : decode X.2.1 pc = .ok (.getfield idx, 3)) (ha : hp_ok h a) (hs : hp_S h a = .inr ci) (hx : hp_R h a kk = x) (k : rn_W G X z rc rs (pc + 3) L (.inr x :: st) h post) : rn_W G X z rc rs pc L (.inr (some a) :: st) h post := by
  intro b D cA p e s m args below meth c F H locs ls cells slots hP hS hL hc hs'
  obtain ⟨r, ref, hcl, hk, hlk, hsm, hrf⟩ := hl
  obtain ⟨cell, q1, q2, q3, q4⟩ := hp_obj hP ha hs hcl
  obtain ⟨cf, kf, fi, f, kC, hi, hi', hsl, hst, -⟩ := fl_use F.K F.bw hcl hk hsm
  have hslot : cell.slots[f.slot]? = some (ha_v b (.inr x)) := by
    rw [hsl, q4 kk hk]
    unfold hp_V
    rw [hrf, if_pos rfl, hx]
  rcases hlk with hlk | ⟨host, hlk⟩
  · exact W.getf F.1 F.2.1 F.own (F.bw _ hlk) hi' hst q1 (by rw [q3]; exact fun h => by cases h) hslot rfl rfl hd (k _ _ _ _ _ _ _ _ _ _ _ F _ _ _ _ _ hP hS hL hc hs')
  · exact va_Wgetf F.1 F.2.1 F.own (F.nw rfl hlk) hi' hst q1 (by rw [q3]; exact fun h => by cases h) hslot rfl rfl hd (k _ _ _ _ _ _ _ _ _ _ _ F _ _ _ _ _ hP hS hL hc hs')
theorem pf_core {p : Program} {e : Env} {R : Room} {s : State} {m : MethodId} {args : Array Value} {below : List Frame} {meth : Method} {c : Code} {H : Heap} {locs : List Loc} {cells slots : Nat} {Q : State → Prop} {b : Nat × Nat} {D : va_G} {cA : Nat → ClassId} {ls : Array Slot} {rest : List Value} {h' : ha_H} {a idx ci kk : Nat} {rf : Bool} {ty : FieldType} {v : Value}
    (hl : pf_ok X.1 idx ci kk rf ty) (F : cx_F G X b D cA p s m args meth c) (hd : decode X.2.1 pc = .ok (.putfield idx, 3)) (hP : hp_P b D cA h H) (hS : va_S (fun q => b.1 < q) s.heap H locs) (ha : hp_ok h a) (hs : hp_S h a = .inr ci) (hnar : narrow ty v = v) (hfit : fits ty v = true)
    (hn' : hp_n h' = hp_n h) (hI : ∀ k, k ≠ a → ∀ j, hp_I h' k j = hp_I h k j) (hR : ∀ k, k ≠ a → ∀ j, hp_R h' k j = hp_R h k j) (hSh : ∀ k, hp_S h' k = hp_S h k) (hV : ∀ r : vw_C, hp_isR r.2.1 kk = rf → ∀ j, updV (hp_V b r.2.1 h a) kk v j = hp_V b r.2.1 h' a j)
    (kx : ∀ (H' : Heap) (locs' : List Loc), hp_P b D cA h' H' → va_S (fun q => b.1 < q) s.heap H' locs' → W p G.1 e R s m args below meth c H' locs' cells slots Q (F0 m (pc + 3) ls rest)) : W p G.1 e R s m args below meth c H locs cells slots Q (F0 m pc ls (v :: .ref (ha_a b a) :: rest)) := by
  obtain ⟨r, ref, hcl, hk, hsm, hrf, hpd, hfin⟩ := hl
  obtain ⟨cell, q1, q2, q3, q4⟩ := hp_obj hP ha hs hcl
  obtain ⟨cf, kf, fi, f, kC, hi, hi', hsl, hst, hfc, hkC, hkind⟩ := fl_use F.K F.bw hcl hk hsm
  obtain ⟨ty0, hty, -⟩ := lp_ty ci r hcl
  have hap := va_apart (own := r.1) F.bw (lp_in ci r hcl) ty0 hty (lp_nm ci r hcl) F.K.1 hcl
  have hlt : f.slot < cell.slots.size := by rw [hsl]; exact k2_hasslot (q4 kk hk)
  have fin : ∀ H' : Heap, H'[ha_a b a]? = some (cell.setSlot f.slot v) → H'.size = H.size → (∀ q, q ≠ ha_a b a → H'[q]? = H[q]?) → W p G.1 e R s m args below meth c H' (locs ++ [⟨ha_a b a, f.slot⟩]) cells slots Q (F0 m (pc + 3) ls rest) := by
    intro H' e1 e2 e3
    refine kx H' _ (hP.set ha e2 e3 ?_ hn' hI hR hSh) (hS.put e2 e3 (by rw [ha_p b ha.1]; have := ha.1; show b.1 < b.1 + a; omega))
    unfold hp_at
    rw [hSh, hs]
    refine ⟨r, hcl, t_OB.to (V := updV (hp_V b r.2.1 h a) kk v) ⟨_, e1, q2, q3, ?_⟩ (fun j _ => hV r hrf j)⟩
    rw [hsl]
    exact t_set q4 hap hk v
  have hlay := F.bw _ (lp_in ci r hcl _ (u_in_lay hk))
  unfold u_lay at hlay
  rcases hfin with ⟨hff, hlk⟩ | ⟨hff, hown, hin, hlk⟩
  · rw [if_neg (by rw [hff]; decide)] at hlay
    have h6 := u_store hfc hkC hkind hlay hi hpd hnar hfit
    rcases hlk with hlk | ⟨host, hlk⟩
    · exact W.putK F.1 F.2.1 (f := f) ⟨F.own, F.bw _ hlk, ⟨_, _, _, hi'⟩, hst⟩ (by rw [q2]; exact h6) q1 q3 hlt rfl rfl hd fin
    · exact va_WputK F.1 F.2.1 (f := f) F.own (F.nw rfl hlk) hi' hst (by rw [q2]; exact h6) q1 q3 hlt rfl rfl hd fin
  · rw [if_pos hff] at hlay
    have hcf : m.cls = cf := by
      obtain ⟨_, _, c', _, _, _, -, -, hf', -, -, -, hown2, -⟩ := Cond.laysFinal_spec hlay
      have e1 : c' = cf := by have := hi.symm.trans hf'; simp at this; exact this.1.symm
      rw [hown] at hown2
      rw [← e1]
      exact Option.some.inj (F.own.symm.trans hown2)
    have h6 := u_fits hfc hkC hkind (Or.inr hlay) hi hpd hnar hfit
    exact W.putFinK F.1 F.2.1 F.own (F.bw _ hlk) hi' hst hcf (F.nm.trans hin) (by rw [q2]; exact h6) q1 q3 hlt rfl rfl hd fin
theorem hp_V_sI {b : Nat × Nat} {T : u_T} {h : ha_H} {a k : Nat} {x : Int32} (hT : hp_isR T k = false) (j : Nat) : updV (hp_V b T h a) k (.int x) j = hp_V b T (hp_sI h a k x) a j := by
  unfold updV hp_V
  rw [hp_I_sI, hp_R_sI]
  by_cases e : j = k
  · subst e
    simp [hT]
  · simp [e]
theorem hp_V_sR {b : Nat × Nat} {T : u_T} {h : ha_H} {a k : Nat} {x : Option Nat} (hT : hp_isR T k = true) (j : Nat) : updV (hp_V b T h a) k (ha_v b (.inr x)) j = hp_V b T (hp_sR h a k x) a j := by
  unfold updV hp_V
  rw [hp_I_sR, hp_R_sR]
  by_cases e : j = k
  · subst e
    simp [hT]
  · simp [e]
theorem hp_I_ne {h : ha_H} {a k : Nat} {x : Int32} : ∀ y, y ≠ a → ∀ j, hp_I (hp_sI h a k x) y j = hp_I h y j := fun y hy j => by rw [hp_I_sI, if_neg (fun q => hy q.1)]
theorem hp_R_ne {h : ha_H} {a k : Nat} {x : Option Nat} : ∀ y, y ≠ a → ∀ j, hp_R (hp_sR h a k x) y j = hp_R h y j := fun y hy j => by rw [hp_R_sR, if_neg (fun q => hy q.1)]
theorem rw_putI {a idx ci kk : Nat} {x : Int32} (hl : pf_ok X.1 idx ci kk false .int) (hd : decode X.2.1 pc = .ok (.putfield idx, 3)) (ha : hp_ok h a) (hs : hp_S h a = .inr ci) (k : rn_W G X z rc rs (pc + 3) L st (hp_sI h a kk x) post) : rn_W G X z rc rs pc L (.inl x :: .inr (some a) :: st) h post := by
  intro b D cA p e s m args below meth c F H locs ls cells slots hP hS hL hc hs'
  exact pf_core (v := .int x) (h' := hp_sI h a kk x) hl F hd hP hS ha hs rfl rfl rfl hp_I_ne (fun _ _ _ => rfl) (fun _ => rfl) (fun r hr j => hp_V_sI hr j) (fun H' locs' hP hS => k _ _ _ _ _ _ _ _ _ _ _ F _ _ _ _ _ hP hS hL hc hs')
theorem rw_putZ {a idx ci kk : Nat} {x : Int32} (hl : pf_ok X.1 idx ci kk false .boolean) (hd : decode X.2.1 pc = .ok (.putfield idx, 3)) (ha : hp_ok h a) (hs : hp_S h a = .inr ci) (hx : x = 0 ∨ x = 1) (k : rn_W G X z rc rs (pc + 3) L st (hp_sI h a kk x) post) : rn_W G X z rc rs pc L (.inl x :: .inr (some a) :: st) h post := by
  intro b D cA p e s m args below meth c F H locs ls cells slots hP hS hL hc hs'
  exact pf_core (v := .int x) (h' := hp_sI h a kk x) hl F hd hP hS ha hs (by rcases hx with rfl | rfl <;> rfl) (by rcases hx with rfl | rfl <;> rfl) rfl hp_I_ne (fun _ _ _ => rfl) (fun _ => rfl) (fun r hr j => hp_V_sI hr j) (fun H' locs' hP hS => k _ _ _ _ _ _ _ _ _ _ _ F _ _ _ _ _ hP hS hL hc hs')
theorem rw_putR {a idx ci kk : Nat} {ty : FieldType} {x : Option Nat} (hl : pf_ok X.1 idx ci kk true ty) (hty : (∃ n, ty = .object n) ∨ ∃ t, ty = .array t) (hd : decode X.2.1 pc = .ok (.putfield idx, 3)) (ha : hp_ok h a) (hs : hp_S h a = .inr ci) (k : rn_W G X z rc rs (pc + 3) L st (hp_sR h a kk x) post) : rn_W G X z rc rs pc L (.inr x :: .inr (some a) :: st) h post := by
  intro b D cA p e s m args below meth c F H locs ls cells slots hP hS hL hc hs'
  refine pf_core (v := ha_v b (.inr x)) (h' := hp_sR h a kk x) hl F hd hP hS ha hs ?_ ?_ rfl (fun _ _ _ => rfl) hp_R_ne (fun _ => rfl) (fun r hr j => hp_V_sR hr j) (fun H' locs' hP hS => k _ _ _ _ _ _ _ _ _ _ _ F _ _ _ _ _ hP hS hL hc hs')
  · rcases hty with ⟨n, rfl⟩ | ⟨t, rfl⟩ <;> cases x <;> rfl
  · rcases hty with ⟨n, rfl⟩ | ⟨t, rfl⟩ <;> cases x <;> rfl
end RF
end
section
/-! Arrays and new cells. -/
def ix_ok (x : Int32) (n i : Nat) : Prop := vp_in x n ∧ x.toNatClampNeg = i
theorem ix_nI {i n : Nat} (h : i < n) (hn : n < 2 ^ 31) : ix_ok (nI i) n i := ⟨vp_in_nI h hn, nI_clamp (by omega)⟩
theorem ix_lt {x : Int32} {n i : Nat} (h : ix_ok x n i) : i < n := h.2 ▸ Nat.not_le.mp fun q => h.1 (Or.inr q)
def st_ok (t ci : Nat) : Prop := ∃ (E : String) (r : vw_C), lp_AT[t]? = some (.object E) ∧ lp_CL[ci]? = some r ∧ (r.1 = E ∨ Cond.castable r.1 E ∈ lp_NW)
def nw_ok (own : String) (idx ci N : Nat) : Prop := ∃ r : vw_C, lp_CL[ci]? = some r ∧ r.2.2 = N ∧ Cond.classLink own idx r.1 ∈ lp_BW ∧ Cond.instantiable r.1 r.2.2 ∈ lp_BW ∧ Cond.initialized r.1 ∈ lp_BW
theorem ha_lt (b : Nat × Nat) {k : Nat} (h : 0 < k) : b.1 < ha_a b k := by rw [ha_p b h]; omega
theorem hp_P.sz {b : Nat × Nat} {D : va_G} {cA : Nat → ClassId} {h : ha_H} {H : Heap} (hP : hp_P b D cA h H) : H.size = ha_a b (hp_n h) := by rw [ha_p b hP.2.1]; exact hP.1
section RA
variable {G : mt_G} {X : mt_X} {z : Nat × Nat × Nat} {rc rs rc' rs' pc : Nat} {L L' : List (Option ha_V)} {st : List ha_V} {h : ha_H} {post : Option ha_V → ha_H → Prop}
theorem rw_iald {a n i : Nat} {x v : Int32} (hd : decode X.2.1 pc = .ok (.iaload, 1)) (ha : hp_ok h a) (hs : hp_S h a = .inl (0, n)) (hx : ix_ok x n i) (hv : hp_I h a i = v) (k : rn_W G X z rc rs (pc + 1) L (.inl v :: st) h post) : rn_W G X z rc rs pc L (.inl x :: .inr (some a) :: st) h post := by
  intro b D cA p e s m args below meth c F H locs ls cells slots hP hS hL hc hs'
  refine W.iald (v := .int v) F.1 F.2.1 (hp_arr hP ha hs) (F.K.arr (t := 0) lp_AT0 n _) (fun q => by cases q) (by rw [arrV_size]; exact hx.1) ?_ rfl rfl hd (k _ _ _ _ _ _ _ _ _ _ _ F _ _ _ _ _ hP hS hL hc hs')
  rw [hx.2, arrV_read _ _ (ix_lt hx)]
  unfold hp_F
  rw [if_pos (by decide), hv]
theorem rw_zald {a n i : Nat} {x v : Int32} (hd : decode X.2.1 pc = .ok (.baload, 1)) (ha : hp_ok h a) (hs : hp_S h a = .inl (1, n)) (hx : ix_ok x n i) (hv : hp_I h a i = v) (k : rn_W G X z rc rs (pc + 1) L (.inl v :: st) h post) : rn_W G X z rc rs pc L (.inl x :: .inr (some a) :: st) h post := by
  intro b D cA p e s m args below meth c F H locs ls cells slots hP hS hL hc hs'
  refine W.zald (v := .int v) F.1 F.2.1 (hp_arr hP ha hs) (F.K.arr (t := 1) lp_AT1 n _) (fun q => by cases q) (by rw [arrV_size]; exact hx.1) ?_ rfl rfl hd (k _ _ _ _ _ _ _ _ _ _ _ F _ _ _ _ _ hP hS hL hc hs')
  rw [hx.2, arrV_read _ _ (ix_lt hx)]
  unfold hp_F
  rw [if_pos (by decide), hv]
theorem rw_aald {a t n i : Nat} {x : Int32} {v : Option Nat} {ty : FieldType} (ht : lp_AT[t]? = some ty) (hr : ty.isReference = true ∧ ¬ t < 2) (hd : decode X.2.1 pc = .ok (.aaload, 1)) (ha : hp_ok h a) (hs : hp_S h a = .inl (t, n)) (hx : ix_ok x n i) (hv : hp_R h a i = v) (k : rn_W G X z rc rs (pc + 1) L (.inr v :: st) h post) : rn_W G X z rc rs pc L (.inl x :: .inr (some a) :: st) h post := by
  intro b D cA p e s m args below meth c F H locs ls cells slots hP hS hL hc hs'
  refine W.aald (v := ha_v b (.inr v)) F.1 F.2.1 (hp_arr hP ha hs) (F.K.arr ht n _) hr.1 (fun q => by cases q) (by rw [arrV_size]; exact hx.1) ?_ rfl rfl hd (k _ _ _ _ _ _ _ _ _ _ _ F _ _ _ _ _ hP hS hL hc hs')
  rw [hx.2, arrV_read _ _ (ix_lt hx)]
  unfold hp_F
  rw [if_neg hr.2, hv]
theorem rw_alen {a t n : Nat} {x : Int32} {ty : FieldType} (ht : lp_AT[t]? = some ty) (hd : decode X.2.1 pc = .ok (.arraylength, 1)) (ha : hp_ok h a) (hs : hp_S h a = .inl (t, n)) (hx : nI n = x) (k : rn_W G X z rc rs (pc + 1) L (.inl x :: st) h post) : rn_W G X z rc rs pc L (.inr (some a) :: st) h post := by
  intro b D cA p e s m args below meth c F H locs ls cells slots hP hS hL hc hs'
  exact W.alen (n := x) F.1 F.2.1 (hp_arr hP ha hs) (F.K.arr ht n _) (by rw [arrV_size]; exact hx) rfl rfl hd (k _ _ _ _ _ _ _ _ _ _ _ F _ _ _ _ _ hP hS hL hc hs')
theorem hp_F_sI {b : Nat × Nat} {t : Nat} {h : ha_H} {a k : Nat} {x : Int32} (ht : t < 2) : updV (hp_F b t h a) k (.int x) = hp_F b t (hp_sI h a k x) a := by
  funext j
  unfold updV hp_F
  rw [hp_I_sI, if_pos ht, if_pos ht]
  by_cases e : j = k
  · simp [e]
  · simp [e]
theorem hp_F_sR {b : Nat × Nat} {t : Nat} {h : ha_H} {a k : Nat} {x : Option Nat} (ht : ¬ t < 2) : updV (hp_F b t h a) k (ha_v b (.inr x)) = hp_F b t (hp_sR h a k x) a := by
  funext j
  unfold updV hp_F
  rw [hp_R_sR, if_neg ht, if_neg ht]
  by_cases e : j = k
  · simp [e]
  · simp [e]
theorem rw_iast {a n i : Nat} {x v : Int32} (hd : decode X.2.1 pc = .ok (.iastore, 1)) (ha : hp_ok h a) (hs : hp_S h a = .inl (0, n)) (hx : ix_ok x n i) (k : rn_W G X z rc rs (pc + 1) L st (hp_sI h a i v) post) : rn_W G X z rc rs pc L (.inl v :: .inl x :: .inr (some a) :: st) h post := by
  intro b D cA p e s m args below meth c F H locs ls cells slots hP hS hL hc hs'
  refine W.iast (x := v) F.1 F.2.1 (hp_arr hP ha hs) (F.K.arr (t := 0) lp_AT0 n _) (fun q => by cases q) (by rw [arrV_size]; exact hx.1) rfl rfl hd (fun H' e1 e2 e3 => k _ _ _ _ _ _ _ _ _ _ _ F _ _ _ _ _ (hP.set ha e2 e3 ?_ rfl hp_I_ne (fun _ _ _ => rfl) (fun _ => rfl)) (hS.put e2 e3 (ha_lt b ha.1)) hL hc hs')
  unfold hp_at
  rw [hp_S_sI, hs]
  show H'[ha_a b a]? = some (arrV (cA 0) n (hp_F b 0 (hp_sI h a i v) a))
  rw [e1, hx.2, arrV_store, hp_F_sI (by decide)]
theorem rw_zast {a n i : Nat} {x v : Int32} (hv : v = 0 ∨ v = 1) (hd : decode X.2.1 pc = .ok (.bastore, 1)) (ha : hp_ok h a) (hs : hp_S h a = .inl (1, n)) (hx : ix_ok x n i) (k : rn_W G X z rc rs (pc + 1) L st (hp_sI h a i v) post) : rn_W G X z rc rs pc L (.inl v :: .inl x :: .inr (some a) :: st) h post := by
  intro b D cA p e s m args below meth c F H locs ls cells slots hP hS hL hc hs'
  have hnar : narrow .boolean (.int v) = .int v := by rcases hv with rfl | rfl <;> rfl
  refine W.zast (x := v) F.1 F.2.1 (hp_arr hP ha hs) (F.K.arr (t := 1) lp_AT1 n _) (fun q => by cases q) (by rw [arrV_size]; exact hx.1) rfl rfl hd (fun H' e1 e2 e3 => k _ _ _ _ _ _ _ _ _ _ _ F _ _ _ _ _ (hP.set ha e2 e3 ?_ rfl hp_I_ne (fun _ _ _ => rfl) (fun _ => rfl)) (hS.put e2 e3 (ha_lt b ha.1)) hL hc hs')
  unfold hp_at
  rw [hp_S_sI, hs]
  show H'[ha_a b a]? = some (arrV (cA 1) n (hp_F b 1 (hp_sI h a i v) a))
  rw [e1, hx.2, hnar, arrV_store, hp_F_sI (by decide)]
theorem rw_aastN {a t n i : Nat} {x : Int32} {C : String} (ht : lp_AT[t]? = some (.object C)) (h2 : ¬ t < 2) (hd : decode X.2.1 pc = .ok (.aastore, 1)) (ha : hp_ok h a) (hs : hp_S h a = .inl (t, n)) (hx : ix_ok x n i) (k : rn_W G X z rc rs (pc + 1) L st (hp_sR h a i none) post) : rn_W G X z rc rs pc L (.inr none :: .inl x :: .inr (some a) :: st) h post := by
  intro b D cA p e s m args below meth c F H locs ls cells slots hP hS hL hc hs'
  refine va_WaastN (C := C) F.1 F.2.1 (hp_arr hP ha hs) (F.K.arr ht n _) (fun q => by cases q) (by rw [arrV_size]; exact hx.1) rfl rfl hd (fun H' e1 e2 e3 => k _ _ _ _ _ _ _ _ _ _ _ F _ _ _ _ _ (hP.set ha e2 e3 ?_ rfl (fun _ _ _ => rfl) hp_R_ne (fun _ => rfl)) (hS.put e2 e3 (ha_lt b ha.1)) hL hc hs')
  unfold hp_at
  rw [hp_S_sR, hs]
  show H'[ha_a b a]? = some (arrV (cA t) n (hp_F b t (hp_sR h a i none) a))
  rw [e1, hx.2, arrV_store, ← hp_F_sR h2]
  rfl
theorem rw_aast {a t n i w ci : Nat} {x : Int32} (hst : st_ok t ci) (h2 : ¬ t < 2) (hd : decode X.2.1 pc = .ok (.aastore, 1)) (ha : hp_ok h a) (hs : hp_S h a = .inl (t, n)) (hx : ix_ok x n i) (hw : hp_ok h w) (hws : hp_S h w = .inr ci) (k : rn_W G X z rc rs (pc + 1) L st (hp_sR h a i (some w)) post) : rn_W G X z rc rs pc L (.inr (some w) :: .inl x :: .inr (some a) :: st) h post := by
  intro b D cA p e s m args below meth c F H locs ls cells slots hP hS hL hc hs'
  obtain ⟨E, r, ht, hcl, hcast⟩ := hst
  obtain ⟨cell, q1, q2, q3, q4⟩ := hp_obj hP hw hws hcl
  obtain ⟨hfc, kC, hkC, -⟩ := (F.K.1.1 ci r hcl).2
  obtain ⟨kA, comp, k1, k2, k3, -⟩ := F.K.ra ht
  obtain ⟨kE, hkE, -⟩ := Vm.findClass_spec k3
  have hasg : s.vm.assignable (D.1 ci) comp = true := by
    rcases hcast with rfl | hcast
    · cases hfc.symm.trans k3
      exact va_asg _ _
    · obtain ⟨c0, t0, f1, f2, f3⟩ := Cond.castable_spec (F.nw rfl hcast)
      cases hfc.symm.trans f1
      cases k3.symm.trans f2
      exact f3
  refine W.aast (v := ha_a b w) F.1 F.2.1 (hp_arr hP ha hs) (fun q h => by cases h) (fun h => by cases h) k1 k2 rfl hkE ⟨fun q => hx.1 (Or.inl q), by rw [arrV_size, hx.2]; exact ix_lt hx⟩ q1 (fun q h => by rw [q3] at h; cases h) (by rw [q2]; exact hkC) (by rw [q2]; exact hasg) rfl rfl hd (fun H' e1 e2 e3 => k _ _ _ _ _ _ _ _ _ _ _ F _ _ _ _ _ (hP.set ha e2 e3 ?_ rfl (fun _ _ _ => rfl) hp_R_ne (fun _ => rfl)) (hS.put e2 e3 (ha_lt b ha.1)) hL hc hs')
  unfold hp_at
  rw [hp_S_sR, hs]
  show H'[ha_a b a]? = some (arrV (cA t) n (hp_F b t (hp_sR h a i (some w)) a))
  rw [e1, hx.2, arrV_store, ← hp_F_sR h2]
  rfl
theorem va_S.up {A : Nat → Prop} {H0 H H1 : Heap} {locs : List Loc} (hS : va_S A H0 H locs) (z : H1.size = H.size + 1) (o : ∀ q, q < H.size → H1[q]? = H[q]?) : va_S A H0 H1 locs := ⟨by have := hS.1; omega, fun q h1 h2 => (o q (Nat.lt_of_lt_of_le h1 hS.1)).trans (hS.2.1 q h1 h2), hS.2.2⟩
theorem rw_new {idx ci N : Nat} (hl : nw_ok X.1.cls idx ci N) (hd : decode X.2.1 pc = .ok (.new idx, 3)) (hrc : rc' + 1 = rc) (hrs : rs' + N = rs) (k : rn_W G X z rc' rs' (pc + 3) L (.inr (some (hp_n h)) :: st) (hp_new h (.inr ci)) post) : rn_W G X z rc rs pc L st h post := by
  intro b D cA p e s m args below meth c F H locs ls cells slots hP hS hL hc hs'
  obtain ⟨r, hcl, rfl, hlk, hinst, hini⟩ := hl
  have hKn := F.K.1.1 ci r hcl
  obtain ⟨ty, hty, hdf⟩ := lp_ty ci r hcl
  refine W.newcK F.1 F.2.1 F.own (F.bw _ hlk) (F.bw _ hinst) (F.bw _ hini) rfl hd (show cells + 1 ≤ z.2.1 by omega) (show slots + r.2.2 ≤ z.2.2 by omega) hKn.2.1 hP.sz fun H1 kC hkC e1 z1 o1 => ?_
  rw [← hP.sz] at z1 o1
  refine k _ _ _ _ _ _ _ _ _ _ _ F _ _ _ _ _ (hP.push z1 o1 ?_) (hS.up z1 o1) hL (by omega) (by omega)
  unfold hp_at
  rw [hp_S_new, if_pos rfl]
  refine ⟨r, hcl, (u_born ty F.bw (lp_in ci r hcl) hKn hkC e1 hty).to (fun j hj => ?_)⟩
  rw [hdf j hj]
  unfold hp_V
  rw [hp_I_new, hp_R_new, if_pos rfl, if_pos rfl]
  rfl
theorem rw_newa {at' : ArrayType} {t N : Nat} {x : Int32} (ht : lp_AT[t]? = some (newarray.typeOf at')) (h2 : t < 2) (hw : Cond.arrayClass (newarray.typeOf at') ∈ lp_BW) (hdv : defaultValue (newarray.typeOf at') = .int 0) (hra : ∀ U cA, va_RA U cA (newarray.typeOf at') → U.vm.findClass ("[" ++ (newarray.typeOf at').toString) = some cA) (hd : decode X.2.1 pc = .ok (.newarray at', 2)) (hx : ¬ x < 0) (hN : x.toNatClampNeg = N) (hB : N * componentBytes (newarray.typeOf at') ≤ 536870912) (hrc : rc' + 1 = rc) (hrs : rs' + N = rs)
    (k : rn_W G X z rc' rs' (pc + 2) L (.inr (some (hp_n h)) :: st) (hp_new h (.inl (t, N))) post) : rn_W G X z rc rs pc L (.inl x :: st) h post := by
  intro b D cA p e s m args below meth c F H locs ls cells slots hP hS hL hc hs'
  refine va_newaK F.1 F.2.1 (F.bw _ hw) rfl hd rfl hx hN hB (show cells + 1 ≤ z.2.1 by omega) (show slots + N ≤ z.2.2 by omega) hP.sz fun H1 cA' e1 z1 o1 hAr hNm => ?_
  rw [← hP.sz] at z1 o1
  cases (hra s (cA t) (F.K.ra ht)).symm.trans hNm
  refine k _ _ _ _ _ _ _ _ _ _ _ F _ _ _ _ _ (hP.push z1 o1 ?_) (hS.up z1 o1) hL (by omega) (by omega)
  unfold hp_at
  rw [hp_S_new, if_pos rfl]
  show H1[ha_a b (hp_n h)]? = some (arrV (cA t) N (hp_F b t _ (hp_n h)))
  rw [e1]
  congr 2
  funext j
  unfold hp_F
  rw [hdv, if_pos h2, hp_I_new, if_pos rfl]
theorem rw_newq {idx t N : Nat} {C : String} {x : Int32} (ht : lp_AT[t]? = some (.object C)) (h2 : ¬ t < 2) (hlk : Cond.classLink X.1.cls idx C ∈ lp_BW) (hov : FieldType.object C ∈ lp_AO) (hd : decode X.2.1 pc = .ok (.anewarray idx, 3)) (hx : ¬ x < 0) (hN : x.toNatClampNeg = N) (hB : N * 4 ≤ 536870912) (hrc : rc' + 1 = rc) (hrs : rs' + N = rs)
    (k : rn_W G X z rc' rs' (pc + 3) L (.inr (some (hp_n h)) :: st) (hp_new h (.inl (t, N))) post) : rn_W G X z rc rs pc L (.inl x :: st) h post := by
  intro b D cA p e s m args below meth c F H locs ls cells slots hP hS hL hc hs'
  subst hN
  refine W.anew F.1 F.2.1 F.own (F.bw _ hlk) (F.K.2.2.1 _ hov) rfl hd rfl hx hB (show cells + 1 ≤ z.2.1 by omega) (show slots + _ ≤ z.2.2 by omega) fun cA' kA comp f1 f2 f3 f4 => ?_
  obtain ⟨kA2, comp2, k1, k2, k3, k4⟩ := F.K.ra ht
  cases k4.symm.trans f1
  have e0 : H.size = ha_a b (hp_n h) := hP.sz
  generalize hH1 : H.push ({ cls := cA t, slots := Array.replicate x.toNatClampNeg .null, vm := .none } : Cell) = H1
  have z1 : H1.size = H.size + 1 := by rw [← hH1, Array.size_push]
  have e1 : H1[ha_a b (hp_n h)]? = some (arrV (cA t) x.toNatClampNeg (fun _ => .null)) := by rw [← hH1, ← e0, Array.getElem?_push_size, ← arrV_new]
  have o1 : ∀ q : Nat, q < H.size → H1[q]? = H[q]? := fun q hq => by rw [← hH1, Array.getElem?_push, if_neg (Nat.ne_of_lt hq)]
  have hfin := k b D cA p e s m args below meth c F H1 locs ls (cells + 1) (slots + x.toNatClampNeg) (hP.push z1 o1 (by
    unfold hp_at
    rw [hp_S_new, if_pos rfl]
    show H1[ha_a b (hp_n h)]? = some (arrV (cA t) x.toNatClampNeg (hp_F b t _ (hp_n h)))
    rw [e1]
    congr 2
    funext j
    unfold hp_F
    rw [if_neg h2, hp_R_new, if_pos rfl]
    rfl)) (hS.up z1 o1) hL (by omega) (by omega)
  rw [show (List.map (ha_v b) (.inr (some (hp_n h)) :: st)) = Value.ref H.size :: List.map (ha_v b) st by rw [e0]; rfl] at hfin
  exact hfin
end RA
end
section
/-! Calls: the callee's contract, whatever it makes. -/
def rn_i (post : Int32 → ha_H → Prop) : Option ha_V → ha_H → Prop := fun r h' => ∃ x, r = some (.inl x) ∧ post x h'
def rn_v (post : ha_H → Prop) : Option ha_V → ha_H → Prop := fun r h' => r = none ∧ post h'
def rn_r (post : Option Nat → ha_H → Prop) : Option ha_V → ha_H → Prop := fun r h' => ∃ x, r = some (.inr x) ∧ post x h'
def ml_ok (own : String) (idx : Nat) (X' : mt_X) (n : Nat) : Prop := Cond.code X'.1 X'.2.1 X'.2.2.1 X'.2.2.2 ∈ lp_BW ∧ Cond.initialized X'.1.cls ∈ lp_BW ∧ (X'.1.cls ≠ "java/lang/invoke/MethodHandle" ∧ X'.1.cls ≠ "java/lang/invoke/VarHandle" ∧ (parseMethodDescriptor X'.1.desc).map (fun d => d.parameters.length) = some n) ∧ X'.2.2.1 ≤ 21 ∧ (Cond.methodLink own idx X'.1 ∈ lp_BW ∨ ∃ host, Cond.methodLinkNest own idx X'.1 host ∈ lp_NW)
def lp_nk : Cond → Bool
  | .fieldLinkNest .. => true
  | .methodLinkNest .. => true
  | .castable .. => true
  | _ => false
theorem lp_nks : ∀ w ∈ lp_NW, lp_nk w = true := by decide +kernel
theorem lp_tab : ∀ w ∈ lp_NW, w.onTables = true := by decide +kernel
theorem lp_warm (w : Cond) (h : lp_nk w = true) {s U : State} (hW : s.WarmedH U.vm) (hZ : va_Nw w s) : va_Nw w U := by
  cases w <;> first | exact va_Nw.warmF hW hZ | exact va_Nw.warmM hW hZ | exact va_Nw.warmC hW hZ | (simp [lp_nk] at h)
theorem ao_movedA {t : FieldType} {u U : State} (hvm : u.vm.Alike U.vm) (h : (Cond.arrayOver (.array t)).before #[] u = true) : (Cond.arrayOver (.array t)).before #[] U = true := by
  obtain ⟨comp, c, k, h1, h2, h3, h4, h5⟩ := arrayOverA_spec h
  obtain ⟨k', hk', he⟩ := hvm.2.2 _ _ h3
  have hi : (U.vm.classes.findIdx? fun (x : Class) => match x.kind with | .array component _ => component == comp | _ => false) = some c := by
    rw [hvm.findIdx?_eq _ (fun _ => rfl)]
    exact h2
  have hkind : k'.kind = .array comp (.array t) := by rw [he]; exact h4
  have f1 : U.vm.findClass (FieldType.array t).toString = some comp := by rw [hvm.findClass]; exact h1
  have f2 : U.vm.findClass ("[" ++ (FieldType.array t).toString) = some c := by rw [hvm.findClass]; exact h5
  unfold Cond.before Cond.holds
  simp only [Cond.value]
  rw [f1, Option.bind_some]
  refine (congrArg (fun o : Option Nat => (o.bind (fun c => (U.vm.classes[c]?).map fun (k : Class) => match k.kind with | .array _ ty => decide (ty = FieldType.array t) && decide (U.vm.findClass ("[" ++ (FieldType.array t).toString) = some c) | _ => false) == some true)) hi).trans ?_
  simp [hk', hkind, f2]
def lp_ak : FieldType → Bool
  | .object _ => true
  | .array _ => true
  | _ => false
theorem lp_aks : ∀ t ∈ lp_AO, lp_ak t = true := by decide +kernel
theorem ao_moved (t : FieldType) (ht : lp_ak t = true) {u U : State} (hvm : u.vm.Alike U.vm) (h : (Cond.arrayOver t).before #[] u = true) : (Cond.arrayOver t).before #[] U = true := by
  cases t <;> first | exact va_AO.moved hvm h | exact ao_movedA hvm h | (simp [lp_ak] at ht)
theorem hp_K.moved {D : va_G} {cA : Nat → ClassId} {s U : State} (hW : s.WarmedH U.vm) (hK : hp_K D cA s) : hp_K D cA U := ⟨va_K.moved hW.alike hK.1, fun w hw => lp_warm w (lp_nks w hw) hW (hK.2.1 w hw), fun t ht => ao_moved t (lp_aks t ht) hW.alike (hK.2.2.1 t ht), fun q hq => (hK.2.2.2 q hq).moved hW.alike⟩
theorem hp_K.same {D : va_G} {cA : Nat → ClassId} {u U : State} (e : u.vm = U.vm) (hK : hp_K D cA u) : hp_K D cA U := by
  have ha : u.vm.Alike U.vm := by rw [e]; exact Vm.Alike.refl U.vm
  exact ⟨va_K.moved ha hK.1, fun w hw => va_Nw.same (lp_tab w hw) e (hK.2.1 w hw), fun t ht => ao_moved t (lp_aks t ht) ha (hK.2.2.1 t ht), fun q hq => (hK.2.2.2 q hq).moved ha⟩
theorem ws_good {X X' : mt_X} (hm : Cond.code X'.1 X'.2.1 X'.2.2.1 X'.2.2.2 ∈ lp_BW) : GoodIn (rn_ws X) (rn_ws X') := by
  intro w hw
  rcases List.mem_cons.mp hw with rfl | hw
  · exact ⟨List.mem_cons_of_mem _ hm, Or.inl rfl⟩
  · exact ⟨List.mem_cons_of_mem _ hw, lp_good w hw⟩
theorem rn_blind {G : mt_G} {b : Nat × Nat} {D : va_G} {cA : Nat → ClassId} {h : ha_H} {av : List ha_V} : FrameBlind (va_Pc (av.map (ha_v b)) (rn_P G b D cA h)) := by
  intro a U g mk q
  exact ⟨q.1, q.2.1, hp_K.same (u := U) (U := U.calling g mk a) rfl q.2.2.1, va_X.moved (u := U) (U := U.calling g mk a) (Vm.Alike.refl U.vm) q.2.2.2.1, q.2.2.2.2⟩
theorem rn_pre {G : mt_G} {X : mt_X} {b : Nat × Nat} {D : va_G} {cA : Nat → ClassId} {p : Program} {s : State} {m : MethodId} {args : Array Value} {meth : Method} {c : Code} {h : ha_H} {H : Heap} {locs : List Loc} (F : cx_F G X b D cA p s m args meth c) (hP : hp_P b D cA h H) (hS : va_S (fun q => b.1 < q) s.heap H locs) (U : State) (hU : U.heap = H) (hW : s.WarmedH U.vm) : rn_P G b D cA h U := by
  obtain ⟨-, -, -, -, -, -, -, -, hK, hb, hX, h2⟩ := F
  refine ⟨by rw [hU]; exact hP, hK.moved hW, va_X.moved hW.alike (hX.kept ?_), h2⟩
  rw [hU]
  exact hS.2.1 b.2 (by omega) (by omega)
section RC0
variable {p : Program} {l : Launch} {e : Env} {R : Room} {s : State} {m : MethodId} {args : Array Value} {below : List Frame} {meth : Method} {c : Code} {H : Heap} {locs : List Loc} {cells slots : Nat} {Q : State → Prop}
theorem rn_cont {pc : Nat} {ls : Array Slot} {rest st0 : List Value} {a : Array Value} {H0 : Heap} {mc ms : Nat} {b : Nat × Nat} {D : va_G} {cA : Nat → ClassId} {post : Option ha_V → ha_H → Prop} (hr : va_Run p l e R s m args below meth c H locs cells slots mc ms (F0 m pc ls st0) rest (rn_Q b D cA post a) (fun q => b.1 < q)) (hS : va_S (fun q => b.1 < q) H0 H locs)
    (kk : ∀ (r : Option ha_V) (h' : ha_H) (H1 : Heap) (locs1 : List Loc), post r h' → hp_P b D cA h' H1 → va_S (fun q => b.1 < q) H0 H1 locs1 → W p l e R s m args below meth c H1 locs1 (cells + mc) (slots + ms) Q (F0 m (pc + 3) ls ((r.map (ha_v b)).toList ++ rest))) : W p l e R s m args below meth c H locs cells slots Q (F0 m pc ls st0) := by
  intro T hT X
  obtain ⟨v, st₀, t, T', L, h0, X', hL, e1, e2, ⟨⟨r, h', hv, hp, hb⟩, hz, hk⟩, st⟩ := hr T hT X
  cases hv
  rw [h0] at hz hk
  obtain ⟨t2, a1, b1⟩ := kk r h' T'.heap (locs ++ L) hp (by rw [e1]; exact hb)
    ⟨Nat.le_trans hS.1 (by rw [e1]; exact hz), fun q h1 h2 => by rw [e1, hk q (Nat.lt_of_lt_of_le h1 hS.1) h2]; exact hS.2.1 q h1 h2, fun q hq => by
      rcases List.mem_append.mp hq with h | h
      · exact hS.2.2 q h
      · exact hL q h⟩ T' rfl X'
  exact ⟨t2, st t2 a1, b1⟩
end RC0
section RC
variable {G : mt_G} {X X' : mt_X} {z z' : Nat × Nat × Nat} {rc rs rc' rs' pc : Nat} {L : List (Option ha_V)} {st stk av : List ha_V} {h : ha_H} {post post' : Option ha_V → ha_H → Prop}
theorem ml_B {idx n : Nat} {s : State} {args : Array Value} (hl : ml_ok X.1.cls idx X' n) (hts : ∀ w ∈ rn_ws X, w.before args s = true) (hz : z'.1 + 1 ≤ z.1) (hlk : Cond.methodLink X.1.cls idx X'.1 ∈ lp_BW) : CallB (rn_R z) s args X.1.cls idx X'.1 X'.2.1 X'.2.2.1 X'.2.2.2 (rn_ws X') (rn_R z') z'.2.1 z'.2.2 n :=
  callB_of n hts (ws_good hl.1) rfl rfl rfl (hts _ (List.mem_cons_of_mem _ hl.2.1)) (hts _ (List.mem_cons_of_mem _ hlk)) hl.2.2.1 ⟨hz, by show 8 + (X'.2.2.1 + 11) + (40 * z'.1 + 6) ≤ 40 * z.1 + 6; have := hl.2.2.2.1; omega⟩
theorem ml_N {idx n : Nat} {s : State} {args : Array Value} {host : String} (hl : ml_ok X.1.cls idx X' n) (hts : ∀ w ∈ rn_ws X, w.before args s = true) (hz : z'.1 + 1 ≤ z.1) (hlk : va_Nw (.methodLinkNest X.1.cls idx X'.1 host) s) : va_CN (rn_R z) s args X.1.cls idx X'.1 host X'.2.1 X'.2.2.1 X'.2.2.2 (rn_ws X') (rn_R z') z'.2.1 z'.2.2 n :=
  va_cnB n hts (ws_good hl.1) rfl rfl rfl hlk (hts _ (List.mem_cons_of_mem _ hl.2.1)) hl.2.2.1 ⟨hz, by show 8 + (X'.2.2.1 + 11) + (40 * z'.1 + 6) ≤ 40 * z.1 + 6; have := hl.2.2.2.1; omega⟩
theorem st_room {m : MethodId} {ls : Array Slot} {b : Nat × Nat} {sk : List Value} (h8 : st.length ≤ 8) : 2 * (F0 m pc ls sk).monitorRoom + ((st.map (ha_v b)).map fun v => v.category).sum ≤ 8 := lv_room (by rw [ha_catS]; exact h8)
theorem rw_callS {idx n : Nat} (hl : ml_ok X.1.cls idx X' n) (hst : Cond.static X'.1 ∈ lp_BW) (hd : decode X.2.1 pc = .ok (.invokestatic idx, 3)) (hM : rn_M G X' z' av h post') (hn : av.length = n) (hk : av.reverse ++ st = stk) (h8 : st.length ≤ 8) (hz : z'.1 + 1 ≤ z.1) (hrc : rc' + z'.2.1 = rc) (hrs : rs' + z'.2.2 = rs)
    (kk : ∀ r h', post' r h' → rn_W G X z rc' rs' (pc + 3) L (r.toList ++ st) h' post) : rn_W G X z rc rs pc L stk h post := by
  intro b D cA p e s m args below meth c F H locs ls cells slots hP hS hL hc hs
  subst hk
  have hpre : PreS s H (va_Pc (av.map (ha_v b)) (rn_P G b D cA h)) (av.map (ha_v b)) := ⟨rn_blind, fun U hU hW => ⟨rfl, rn_pre F hP hS U hU hW⟩⟩
  have hstk : (F0 m pc ls ((av.reverse ++ st).map (ha_v b))).stack = (av.map (ha_v b)).reverse ++ st.map (ha_v b) := by show (av.reverse ++ st).map (ha_v b) = _; rw [List.map_append, List.map_reverse]
  have key : va_Run p G.1 e (rn_R z) s m args below meth c H locs cells slots z'.2.1 z'.2.2 (F0 m pc ls ((av.reverse ++ st).map (ha_v b))) (st.map (ha_v b)) (rn_Q b D cA post' (av.map (ha_v b)).toArray) (fun q => b.1 < q) := by
    rcases hl.2.2.2.2 with hlk | ⟨host, hlk⟩
    · exact va_runS (nL := X.2.2.1) ⟨F.1, F.2.1, F.2.2.1, F.own, F.2.2.2.2.2.1⟩ (hM b D cA) ⟨ml_B hl F.2.2.2.2.2.1 hz hlk, F.bw _ hst⟩ hpre rfl (by rw [List.length_map]; exact hn) hL.1 hstk (st_room h8) hd ⟨by show cells + z'.2.1 ≤ z.2.1; omega, by show slots + z'.2.2 ≤ z.2.2; omega⟩
    · exact va_runSN (nL := X.2.2.1) ⟨F.1, F.2.1, F.2.2.1, F.own, F.2.2.2.2.2.1⟩ (hM b D cA) ⟨ml_N hl F.2.2.2.2.2.1 hz (F.K.2.1 _ hlk), F.bw _ hst, trivial⟩ hpre rfl (by rw [List.length_map]; exact hn) hL.1 hstk (st_room h8) hd ⟨by show cells + z'.2.1 ≤ z.2.1; omega, by show slots + z'.2.2 ≤ z.2.2; omega⟩
  refine rn_cont key hS (fun r h' H1 locs1 hq hP1 hS1 => ?_)
  have := kk r h' hq b D cA p e s m args below meth c F H1 locs1 ls (cells + z'.2.1) (slots + z'.2.2) hP1 hS1 hL (by omega) (by omega)
  rw [List.map_append] at this
  cases r <;> exact this
theorem rw_callI {idx n a : Nat} (hl : ml_ok X.1.cls idx X' n) (hin : Cond.instanceMethod X'.1 ∈ lp_BW) (hnm : X'.1.name = "<init>") (hrt : X'.2.2.2 = none) (hd : decode X.2.1 pc = .ok (.invokespecial idx, 3)) (hM : rn_M G X' z' (.inr (some a) :: av) h post') (hn : av.length = n) (hk : av.reverse ++ .inr (some a) :: st = stk) (h8 : st.length ≤ 8) (hz : z'.1 + 1 ≤ z.1) (hrc : rc' + z'.2.1 = rc) (hrs : rs' + z'.2.2 = rs)
    (kk : ∀ r h', post' r h' → rn_W G X z rc' rs' (pc + 3) L (r.toList ++ st) h' post) : rn_W G X z rc rs pc L stk h post := by
  intro b D cA p e s m args below meth c F H locs ls cells slots hP hS hL hc hs
  subst hk
  have hpre : PreS s H (va_Pc ((.inr (some a) :: av : List ha_V).map (ha_v b)) (rn_P G b D cA h)) (.ref (ha_a b a) :: av.map (ha_v b)) := ⟨rn_blind, fun U hU hW => ⟨rfl, rn_pre F hP hS U hU hW⟩⟩
  have hstk : (F0 m pc ls ((av.reverse ++ .inr (some a) :: st).map (ha_v b))).stack = (av.map (ha_v b)).reverse ++ .ref (ha_a b a) :: st.map (ha_v b) := by show (av.reverse ++ .inr (some a) :: st).map (ha_v b) = _; rw [List.map_append, List.map_reverse]; rfl
  have key : va_Run p G.1 e (rn_R z) s m args below meth c H locs cells slots z'.2.1 z'.2.2 (F0 m pc ls ((av.reverse ++ .inr (some a) :: st).map (ha_v b))) (st.map (ha_v b)) (rn_Q b D cA post' (.ref (ha_a b a) :: av.map (ha_v b)).toArray) (fun q => b.1 < q) := by
    rcases hl.2.2.2.2 with hlk | ⟨host, hlk⟩
    · have cb := ml_B (z := z) (z' := z') hl F.2.2.2.2.2.1 hz hlk
      rw [hrt] at cb
      exact va_runI (nL := X.2.2.1) ⟨F.1, F.2.1, F.2.2.1, F.own, F.2.2.2.2.2.1⟩ (hM b D cA) ⟨cb, hnm, F.bw _ hin⟩ hpre rfl (by rw [List.length_map]; exact hn) hL.1 hstk (st_room h8) hd ⟨by show cells + z'.2.1 ≤ z.2.1; omega, by show slots + z'.2.2 ≤ z.2.2; omega⟩
    · have cb := ml_N (z := z) (z' := z') hl F.2.2.2.2.2.1 hz (F.K.2.1 _ hlk)
      rw [hrt] at cb
      exact va_runIN (nL := X.2.2.1) ⟨F.1, F.2.1, F.2.2.1, F.own, F.2.2.2.2.2.1⟩ (hM b D cA) ⟨cb, hnm, F.bw _ hin⟩ hpre rfl (by rw [List.length_map]; exact hn) hL.1 hstk (st_room h8) hd ⟨by show cells + z'.2.1 ≤ z.2.1; omega, by show slots + z'.2.2 ≤ z.2.2; omega⟩
  refine rn_cont key hS (fun r h' H1 locs1 hq hP1 hS1 => ?_)
  have := kk r h' hq b D cA p e s m args below meth c F H1 locs1 ls (cells + z'.2.1) (slots + z'.2.2) hP1 hS1 hL (by omega) (by omega)
  rw [List.map_append] at this
  cases r <;> exact this
theorem rw_callV {idx n a ci : Nat} {C : vw_C} (hl : ml_ok X.1.cls idx X' n) (hin : Cond.instanceMethod X'.1 ∈ lp_BW) (hcl : lp_CL[ci]? = some C) (hse : Cond.selects C.1 X'.1 X'.1 ∈ lp_BW) (hd : decode X.2.1 pc = .ok (.invokevirtual idx, 3)) (ha : hp_ok h a) (hsh : hp_S h a = .inr ci) (hM : rn_M G X' z' (.inr (some a) :: av) h post') (hn : av.length = n) (hk : av.reverse ++ .inr (some a) :: st = stk) (h8 : st.length ≤ 8) (hz : z'.1 + 1 ≤ z.1) (hrc : rc' + z'.2.1 = rc) (hrs : rs' + z'.2.2 = rs)
    (kk : ∀ r h', post' r h' → rn_W G X z rc' rs' (pc + 3) L (r.toList ++ st) h' post) : rn_W G X z rc rs pc L stk h post := by
  intro b D cA p e s m args below meth c F H locs ls cells slots hP hS hL hc hs
  subst hk
  obtain ⟨cell, q1, q2, q3, -⟩ := hp_obj hP ha hsh hcl
  have hfc := (F.K.1.1 ci C hcl).2.1
  have hpre : PreV s H C.1 (ha_a b a) (va_Pc ((.inr (some a) :: av : List ha_V).map (ha_v b)) (rn_P G b D cA h)) (av.map (ha_v b)) := ⟨rn_blind, ⟨cell, q1, by rw [q3]; rfl, by rw [q2]; exact hfc⟩, fun U hU hW => ⟨rfl, rn_pre F hP hS U hU hW⟩⟩
  have hstk : (F0 m pc ls ((av.reverse ++ .inr (some a) :: st).map (ha_v b))).stack = (av.map (ha_v b)).reverse ++ .ref (ha_a b a) :: st.map (ha_v b) := by show (av.reverse ++ .inr (some a) :: st).map (ha_v b) = _; rw [List.map_append, List.map_reverse]; rfl
  have key : va_Run p G.1 e (rn_R z) s m args below meth c H locs cells slots z'.2.1 z'.2.2 (F0 m pc ls ((av.reverse ++ .inr (some a) :: st).map (ha_v b))) (st.map (ha_v b)) (rn_Q b D cA post' (.ref (ha_a b a) :: av.map (ha_v b)).toArray) (fun q => b.1 < q) := by
    rcases hl.2.2.2.2 with hlk | ⟨host, hlk⟩
    · exact va_runV (nL := X.2.2.1) ⟨F.1, F.2.1, F.2.2.1, F.own, F.2.2.2.2.2.1⟩ (hM b D cA) ⟨ml_B hl F.2.2.2.2.2.1 hz hlk, F.bw _ hin, F.bw _ hse⟩ hpre rfl (by rw [List.length_map]; exact hn) hL.1 hstk (st_room h8) hd ⟨by show cells + z'.2.1 ≤ z.2.1; omega, by show slots + z'.2.2 ≤ z.2.2; omega⟩
    · exact va_runVN (nL := X.2.2.1) ⟨F.1, F.2.1, F.2.2.1, F.own, F.2.2.2.2.2.1⟩ (hM b D cA) ⟨ml_N hl F.2.2.2.2.2.1 hz (F.K.2.1 _ hlk), F.bw _ hin, F.bw _ hse⟩ hpre rfl (by rw [List.length_map]; exact hn) hL.1 hstk (st_room h8) hd ⟨by show cells + z'.2.1 ≤ z.2.1; omega, by show slots + z'.2.2 ≤ z.2.2; omega⟩
  refine rn_cont key hS (fun r h' H1 locs1 hq hP1 hS1 => ?_)
  have := kk r h' hq b D cA p e s m args below meth c F H1 locs1 ls (cells + z'.2.1) (slots + z'.2.2) hP1 hS1 hL (by omega) (by omega)
  rw [List.map_append] at this
  cases r <;> exact this
end RC
end
section
/-! Object.<init>, Math.max and Math.min, instanceof and casts, clone of an int array, System.arraycopy of ints. -/
/-- the heap with a copy of the int array a -/
def hp_cl (h : ha_H) (a : Nat) : ha_H := (fun x y => if x = h.2.2.2 then h.1 a y else h.1 x y, h.2.1, fun x => if x = h.2.2.2 then h.2.2.1 a else h.2.2.1 x, h.2.2.2 + 1)
theorem hp_I_cl (h : ha_H) (a x y : Nat) : hp_I (hp_cl h a) x y = if x = hp_n h then hp_I h a y else hp_I h x y := rfl
theorem hp_R_cl (h : ha_H) (a x y : Nat) : hp_R (hp_cl h a) x y = hp_R h x y := rfl
theorem hp_S_cl (h : ha_H) (a x : Nat) : hp_S (hp_cl h a) x = if x = hp_n h then hp_S h a else hp_S h x := rfl
theorem hp_n_cl (h : ha_H) (a : Nat) : hp_n (hp_cl h a) = hp_n h + 1 := rfl
/-- n ints of the array a0 from place sp on, laid into the array a from place dp on -/
def hp_cp (h : ha_H) (a0 sp a dp n : Nat) : ha_H := (fun x y => if x = a then va_cpy (h.1 a0) (h.1 a) sp dp n y else h.1 x y, h.2.1, h.2.2.1, h.2.2.2)
theorem hp_I_cp (h : ha_H) (a0 sp a dp n x y : Nat) : hp_I (hp_cp h a0 sp a dp n) x y = if x = a then va_cpy (hp_I h a0) (hp_I h a) sp dp n y else hp_I h x y := rfl
theorem hp_F0 (b : Nat × Nat) (h : ha_H) (a : Nat) : hp_F b 0 h a = fun j => .int (hp_I h a j) := by
  funext j
  unfold hp_F
  rw [if_pos (by decide)]
theorem hp_w5 : nativeFrameWords "java/lang/System" "arraycopy" 5 ≤ 60 := by decide +kernel
section RS
variable {G : mt_G} {X : mt_X} {z : Nat × Nat × Nat} {rc rs rc' rs' pc : Nat} {L : List (Option ha_V)} {st : List ha_V} {h : ha_H} {post : Option ha_V → ha_H → Prop}
theorem rw_objInit {idx a : Nat} (hlk : Cond.methodLink X.1.cls idx Lib.objectInit ∈ lp_BW) (hin : Cond.instanceMethod Lib.objectInit ∈ lp_BW) (hcd : Cond.code Lib.objectInit ⟨#[0xb1]⟩ 1 none ∈ lp_BW) (hd : decode X.2.1 pc = .ok (.invokespecial idx, 3)) (hz : 1 ≤ z.1) (h8 : st.length ≤ 8) (k : rn_W G X z rc rs (pc + 3) L st h post) : rn_W G X z rc rs pc L (.inr (some a) :: st) h post := by
  intro b D cA p e s m args below meth c F H locs ls cells slots hP hS hL hc hs
  exact W.objInit F.1 F.2.1 F.own (F.bw _ hlk) (F.bw _ hin) (F.bw _ hcd) rfl (hL.1.trans F.2.2.1.symm) rfl hd hz (by show 2 * 0 + _ + 12 ≤ 40 * z.1 + 6; have h0 : ((st.map (ha_v b)).map fun v => v.category).sum = st.length := ha_catS b st; omega) (k _ _ _ _ _ _ _ _ _ _ _ F _ _ _ _ _ hP hS hL hc hs)
theorem rw_mmax {idx : Nat} {x y v : Int32} (hlk : Cond.methodLink X.1.cls idx Lib.Math.max.name ∈ lp_BW) (hst : Cond.static Lib.Math.max.name ∈ lp_BW) (hin : Cond.initialized "java/lang/Math" ∈ lp_BW) (hcd : Cond.code Lib.Math.max.name Lib.Math.max.code 2 (some .int) ∈ lp_BW) (hd : decode X.2.1 pc = .ok (.invokestatic idx, 3)) (hz : 1 ≤ z.1) (h8 : st.length ≤ 8) (hv : (if x < y then y else x) = v) (k : rn_W G X z rc rs (pc + 3) L (.inl v :: st) h post) : rn_W G X z rc rs pc L (.inl y :: .inl x :: st) h post := by
  intro b D cA p e s m args below meth c F H locs ls cells slots hP hS hL hc hs
  subst hv
  have h0 : ((st.map (ha_v b)).map fun v => v.category).sum = st.length := ha_catS b st
  exact va_mmax F.1 F.2.1 (F.2.2.1.trans hL.1.symm) F.own (F.bw _ hlk) (F.bw _ hst) (F.bw _ hin) (F.bw _ hcd) hz (by show _ + 13 ≤ 40 * z.1 + 6; omega) (by show cells ≤ z.2.1; omega) (by show slots ≤ z.2.2; omega) hd (k _ _ _ _ _ _ _ _ _ _ _ F _ _ _ _ _ hP hS hL hc hs)
theorem rw_mmin {idx : Nat} {x y v : Int32} (hlk : Cond.methodLink X.1.cls idx Lib.Math.min.name ∈ lp_BW) (hst : Cond.static Lib.Math.min.name ∈ lp_BW) (hin : Cond.initialized "java/lang/Math" ∈ lp_BW) (hcd : Cond.code Lib.Math.min.name Lib.Math.min.code 2 (some .int) ∈ lp_BW) (hd : decode X.2.1 pc = .ok (.invokestatic idx, 3)) (hz : 1 ≤ z.1) (h8 : st.length ≤ 8) (hv : (if y < x then y else x) = v) (k : rn_W G X z rc rs (pc + 3) L (.inl v :: st) h post) : rn_W G X z rc rs pc L (.inl y :: .inl x :: st) h post := by
  intro b D cA p e s m args below meth c F H locs ls cells slots hP hS hL hc hs
  subst hv
  have h0 : ((st.map (ha_v b)).map fun v => v.category).sum = st.length := ha_catS b st
  exact va_mmin F.1 F.2.1 (F.2.2.1.trans hL.1.symm) F.own (F.bw _ hlk) (F.bw _ hst) (F.bw _ hin) (F.bw _ hcd) hz (by show _ + 13 ≤ 40 * z.1 + 6; omega) (by show cells ≤ z.2.1; omega) (by show slots ≤ z.2.2; omega) hd (k _ _ _ _ _ _ _ _ _ _ _ F _ _ _ _ _ hP hS hL hc hs)
theorem rw_castNull {idx : Nat} (hd : decode X.2.1 pc = .ok (.checkcast idx, 3)) (k : rn_W G X z rc rs (pc + 3) L (.inr none :: st) h post) : rn_W G X z rc rs pc L (.inr none :: st) h post := by
  intro b D cA p e s m args below meth c F H locs ls cells slots hP hS hL hc hs
  exact lv_castN F.1 F.2.1 hd (k _ _ _ _ _ _ _ _ _ _ _ F _ _ _ _ _ hP hS hL hc hs)
/-- an object of exactly the class asked for -/
theorem rw_castS {idx a ci : Nat} {r : vw_C} (hcl : lp_CL[ci]? = some r) (hlk : Cond.classLink X.1.cls idx r.1 ∈ lp_BW) (hd : decode X.2.1 pc = .ok (.checkcast idx, 3)) (ha : hp_ok h a) (hs : hp_S h a = .inr ci) (k : rn_W G X z rc rs (pc + 3) L (.inr (some a) :: st) h post) : rn_W G X z rc rs pc L (.inr (some a) :: st) h post := by
  intro b D cA p e s m args below meth c F H locs ls cells slots hP hS hL hc hs'
  obtain ⟨cell, q1, q2, q3, q4⟩ := hp_obj hP ha hs hcl
  have hC := (F.K.1.1 ci r hcl).2
  exact va_castS F.1 F.2.1 F.own (F.bw _ hlk) hC ⟨cell, q1, by rw [q3]; rfl, by rw [q2]; exact hC.1⟩ hd (k _ _ _ _ _ _ _ _ _ _ _ F _ _ _ _ _ hP hS hL hc hs')
theorem rw_instS {idx a ci : Nat} {r : vw_C} (hcl : lp_CL[ci]? = some r) (hlk : Cond.classLink X.1.cls idx r.1 ∈ lp_BW) (hd : decode X.2.1 pc = .ok (.instanceof idx, 3)) (ha : hp_ok h a) (hs : hp_S h a = .inr ci) (k : rn_W G X z rc rs (pc + 3) L (.inl 1 :: st) h post) : rn_W G X z rc rs pc L (.inr (some a) :: st) h post := by
  intro b D cA p e s m args below meth c F H locs ls cells slots hP hS hL hc hs'
  obtain ⟨cell, q1, q2, q3, q4⟩ := hp_obj hP ha hs hcl
  have hC := (F.K.1.1 ci r hcl).2
  exact va_instS F.1 F.2.1 F.own (F.bw _ hlk) hC ⟨cell, q1, by rw [q3]; rfl, by rw [q2]; exact hC.1⟩ hd (k _ _ _ _ _ _ _ _ _ _ _ F _ _ _ _ _ hP hS hL hc hs')
theorem rw_instNo {idx a ci : Nat} {r : vw_C} {nm : String} (hcl : lp_CL[ci]? = some r) (hlk : Cond.classLink X.1.cls idx nm ∈ lp_BW) (hnc : (r.1, nm) ∈ lp_NC) (hd : decode X.2.1 pc = .ok (.instanceof idx, 3)) (ha : hp_ok h a) (hs : hp_S h a = .inr ci) (k : rn_W G X z rc rs (pc + 3) L (.inl 0 :: st) h post) : rn_W G X z rc rs pc L (.inr (some a) :: st) h post := by
  intro b D cA p e s m args below meth c F H locs ls cells slots hP hS hL hc hs'
  obtain ⟨cell, q1, q2, q3, q4⟩ := hp_obj hP ha hs hcl
  have hC := (F.K.1.1 ci r hcl).2
  exact va_instNo F.1 F.2.1 F.own (F.bw _ hlk) (F.K.2.2.2 _ hnc) ⟨cell, q1, by rw [q3]; rfl, by rw [q2]; exact hC.1⟩ hd (k _ _ _ _ _ _ _ _ _ _ _ F _ _ _ _ _ hP hS hL hc hs')
theorem rw_castA {idx a n : Nat} (hlk : Cond.classLink X.1.cls idx "[I" ∈ lp_BW) (hd : decode X.2.1 pc = .ok (.checkcast idx, 3)) (ha : hp_ok h a) (hs : hp_S h a = .inl (0, n)) (k : rn_W G X z rc rs (pc + 3) L (.inr (some a) :: st) h post) : rn_W G X z rc rs pc L (.inr (some a) :: st) h post := by
  intro b D cA p e s m args below meth c F H locs ls cells slots hP hS hL hc hs'
  have hcell := hp_arr hP ha hs
  have hnm : s.vm.findClass "[I" = some (cA 0) := va_nm_int (F.K.ra (t := 0) lp_AT0)
  intro T hT X0
  obtain ⟨vm', X', stp⟩ := X0.checkcastYes F.1 F.own (F.bw _ hlk) (by rw [hT]; exact hcell) rfl hnm (va_asg _ _) (g := F0 m pc ls ((.inr (some a) :: st : List ha_V).map (ha_v b))) rfl rfl (by rw [F.2.1]; exact hd)
  obtain ⟨t, a1, b1⟩ := k _ _ _ _ _ _ _ _ _ _ _ F _ _ _ _ _ hP hS hL hc hs' (T.setVm vm') hT X'
  exact ⟨t, stp t a1, b1⟩
theorem rw_clone {idx a n : Nat} (hlk : Cond.methodLink X.1.cls idx ⟨"[I", "clone", "()Ljava/lang/Object;"⟩ ∈ lp_BW) (hsm : Cond.sameMethod "[I" "java/lang/Object" "clone" "()Ljava/lang/Object;" ∈ lp_BW) (hnat : Cond.native ⟨"java/lang/Object", "clone", "()Ljava/lang/Object;"⟩ ∈ lp_BW) (hins : Cond.instanceMethod ⟨"java/lang/Object", "clone", "()Ljava/lang/Object;"⟩ ∈ lp_BW)
    (hse : Cond.selects "[I" ⟨"[I", "clone", "()Ljava/lang/Object;"⟩ ⟨"java/lang/Object", "clone", "()Ljava/lang/Object;"⟩ ∈ lp_BW) (hcl : Cond.castable "[I" "java/lang/Cloneable" ∈ lp_NW) (hd : decode X.2.1 pc = .ok (.invokevirtual idx, 3)) (ha : hp_ok h a) (hs : hp_S h a = .inl (0, n)) (hz : 1 ≤ z.1) (h8 : st.length ≤ 8) (hrc : rc' + 1 = rc) (hrs : rs' + n = rs)
    (k : rn_W G X z rc' rs' (pc + 3) L (.inr (some (hp_n h)) :: st) (hp_cl h a) post) : rn_W G X z rc rs pc L (.inr (some a) :: st) h post := by
  intro b D cA p e s m args below meth c F H locs ls cells slots hP hS hL hc hs'
  have hcell := hp_arr hP ha hs
  have hnm : s.vm.findClass "[I" = some (cA 0) := va_nm_int (F.K.ra (t := 0) lp_AT0)
  have hAr := F.K.arr (t := 0) lp_AT0
  obtain ⟨c0, t0', f1, f2, f3⟩ := Cond.castable_spec (F.nw rfl hcl)
  cases hnm.symm.trans f1
  intro T hT X0
  obtain ⟨-, kA, hkA, comp, hkind⟩ := State.isArrayOf_alike X0.warmed.alike (hAr 0 (fun _ => .null))
  obtain ⟨-, kS, hkS, compS, hkindS⟩ := hAr 0 (fun _ => .null)
  have hsz : (arrV (cA 0) n (hp_F b 0 h a)).slots.size = n := arrV_size _ _ _
  have h0 : ((st.map (ha_v b)).map fun v => v.category).sum = st.length := ha_catS b st
  obtain ⟨vm', X', stp⟩ := X0.cloneArray F.1 F.own (F.bw _ hlk) (F.bw _ hsm) (F.bw _ hnat) (F.bw _ hins) (F.bw _ hse) (a := ha_a b a) (cell := arrV (cA 0) n (hp_F b 0 h a)) (by rw [hT]; exact hcell) (fun k h => by cases h) (fun h => by cases h) hnm f2 f3
    (fun i v hv => by
      have hk' : T.vm.classes[cA 0]? = some kA := hkA
      have hfv : fits .int v = true := by
        refine va_fit (F := hp_F b 0 h a) (fun j _ => ?_) i v hv
        rw [hp_F0]
        rfl
      show T.fitsSlot (cA 0) .none i v = true
      simpa [State.fitsSlot, State.slotType?, hk', hkind] using hfv)
    (g := F0 m pc ls ((.inr (some a) :: st : List ha_V).map (ha_v b))) rfl (hL.1.trans F.2.2.1.symm) rfl (by rw [F.2.1]; exact hd) hz (by show 2 * 0 + ((st.map (ha_v b)).map fun v => v.category).sum + 14 ≤ 40 * z.1 + 6; omega) (show cells + 1 ≤ z.2.1 by omega) (by rw [hsz]; show slots + n ≤ z.2.2; omega) (hloader := Vm.clonesLoader_of_array hkS hkindS)
  rw [hsz] at X'
  have e0 : H.size = ha_a b (hp_n h) := hP.sz
  generalize hH1 : H.push (arrV (cA 0) n (hp_F b 0 h a)) = H1
  have z1 : H1.size = H.size + 1 := by rw [← hH1, Array.size_push]
  have e1 : H1[ha_a b (hp_n h)]? = some (arrV (cA 0) n (hp_F b 0 h a)) := by rw [← hH1, ← e0, Array.getElem?_push_size]
  have o1 : ∀ q : Nat, q < H.size → H1[q]? = H[q]? := fun q hq => by rw [← hH1, Array.getElem?_push, if_neg (Nat.ne_of_lt hq)]
  have hP1 : hp_P b D cA (hp_cl h a) H1 := by
    refine hP.grow z1 o1 rfl ?_ (fun k hk j => by rw [hp_I_cl, if_neg (by omega)]) (fun _ _ _ => rfl) (fun k hk => by rw [hp_S_cl, if_neg (by omega)])
    unfold hp_at
    rw [hp_S_cl, if_pos rfl, hs]
    show H1[ha_a b (hp_n h)]? = some (arrV (cA 0) n (hp_F b 0 (hp_cl h a) (hp_n h)))
    rw [e1, hp_F0, hp_F0]
    congr 2
    funext j
    rw [hp_I_cl, if_pos rfl]
  obtain ⟨t, b1, b2⟩ := k _ _ _ _ _ _ _ _ _ _ _ F H1 locs ls (cells + 1) (slots + n) hP1 (hS.up z1 o1) hL (by omega) (by omega) ((T.setVm vm').pushCell (arrV (cA 0) n (hp_F b 0 h a))) (by rw [← hH1, ← hT]; rfl) X'
  refine ⟨t, stp t ?_, b2⟩
  rw [hT, e0]
  exact b1
theorem rw_copy {idx a0 a n0 n1 n : Nat} {sp dp nn : Int32} (hlk : Cond.methodLink X.1.cls idx arraycopyName ∈ lp_BW) (hnat : Cond.native arraycopyName ∈ lp_BW) (hst : Cond.static arraycopyName ∈ lp_BW) (hini : Cond.initialized "java/lang/System" ∈ lp_BW) (hd : decode X.2.1 pc = .ok (.invokestatic idx, 3)) (ha0 : hp_ok h a0) (hs0 : hp_S h a0 = .inl (0, n0)) (ha : hp_ok h a) (hs1 : hp_S h a = .inl (0, n1))
    (h1 : ¬ sp < 0) (h2 : ¬ dp < 0) (h3 : ¬ nn < 0) (hnn : nn.toNatClampNeg = n) (h4 : sp.toNatClampNeg + n ≤ n0) (h5 : dp.toNatClampNeg + n ≤ n1) (hz : 2 ≤ z.1) (h8 : st.length ≤ 8)
    (k : rn_W G X z rc rs (pc + 3) L st (hp_cp h a0 sp.toNatClampNeg a dp.toNatClampNeg n) post) : rn_W G X z rc rs pc L (.inl nn :: .inl dp :: .inr (some a) :: .inl sp :: .inr (some a0) :: st) h post := by
  intro b D cA p e s m args below meth c F H locs ls cells slots hP hS hL hc hs'
  subst hnn
  have hc0 := hp_arr hP ha0 hs0
  have hc1 := hp_arr hP ha hs1
  rw [hp_F0] at hc0 hc1
  have tn : ∀ z : Int32, ¬ z < 0 → z.toInt = (z.toNatClampNeg : Int) := by
    intro z hz
    have hz0 : (0 : Int) ≤ z.toInt := by
      have := Int32.not_lt.mp hz
      simpa using Int32.le_iff_toInt_le.mp this
    show z.toInt = ((z.toInt.toNat : Nat) : Int)
    omega
  have hAr := F.K.arr (t := 0) lp_AT0
  obtain ⟨-, k0, hk0, cm0, hkk0⟩ := hAr n0 (fun j => .int (hp_I h a0 j))
  have h0 : ((st.map (ha_v b)).map fun v => v.category).sum = st.length := ha_catS b st
  intro T hT X0
  obtain ⟨vm', X', stp⟩ := X0.arraycopy F.1 F.own (F.bw _ hlk) (F.bw _ hnat) (F.bw _ hst) (F.bw _ hini) (src := ha_a b a0) (dst := ha_a b a) (cs := arrV (cA 0) n0 (fun j => .int (hp_I h a0 j))) (cd := arrV (cA 0) n1 (fun j => .int (hp_I h a j))) (srcPos := sp) (destPos := dp) (n := nn) (by rw [hT]; exact hc0) (by rw [hT]; exact hc1)
    (fun _ h => by cases h) (fun _ h => by cases h) (fun h => by cases h) (fun h => by cases h) hk0 hk0 hkk0 hkk0 (by simp [refKind]) h1 h2 h3
    (by rw [tn sp h1, tn nn h3, arrV_size]; omega)
    (by rw [tn dp h2, tn nn h3, arrV_size]; omega)
    (fun vm₁ _ i hi => by
      have e : (arrV (cA 0) n0 (fun j => .int (hp_I h a0 j))).slots.getD (sp.toNatClampNeg + i) .null = .int (hp_I h a0 (sp.toNatClampNeg + i)) := by
        rw [Array.getD_eq_getD_getElem?, arrV_read _ _ (by omega)]
        rfl
      rw [e]
      exact ⟨rfl, trivial⟩)
    (g := F0 m pc ls ((.inl nn :: .inl dp :: .inr (some a) :: .inl sp :: .inr (some a0) :: st : List ha_V).map (ha_v b))) rfl (hL.1.trans F.2.2.1.symm) (rest := st.map (ha_v b)) rfl (by rw [F.2.1]; exact hd) (show 1 ≤ z.1 by omega) (by show 2 * 0 + ((st.map (ha_v b)).map fun v => v.category).sum + (nativeFrameWords "java/lang/System" "arraycopy" 5 + 11) ≤ 40 * z.1 + 6; have hw5 := hp_w5; omega)
  have e1 : copied (arrV (cA 0) n0 (fun j => .int (hp_I h a0 j))) (arrV (cA 0) n1 (fun j => .int (hp_I h a j))) sp dp nn = arrV (cA 0) n1 (fun j => .int (va_cpy (hp_I h a0) (hp_I h a) sp.toNatClampNeg dp.toNatClampNeg nn.toNatClampNeg j)) := va_copied (fun z => .int z) (cA 0) (cA 0) (hp_I h a0) (hp_I h a) h4
  rw [e1] at X' stp
  generalize hC : arrV (cA 0) n1 (fun j => .int (va_cpy (hp_I h a0) (hp_I h a) sp.toNatClampNeg dp.toNatClampNeg nn.toNatClampNeg j)) = C at X' stp
  have hl : ha_a b a < H.size := (Array.getElem?_eq_some_iff.mp hc1).1
  have hheap : ((T.setVm vm').setCell (ha_a b a) C).heap = H.setIfInBounds (ha_a b a) C := by rw [← hT]; rfl
  have oq : ∀ q : Nat, q ≠ ha_a b a → (H.setIfInBounds (ha_a b a) C)[q]? = H[q]? := fun q hq => by simp [Array.getElem?_setIfInBounds, Ne.symm hq]
  have hP1 : hp_P b D cA (hp_cp h a0 sp.toNatClampNeg a dp.toNatClampNeg nn.toNatClampNeg) (H.setIfInBounds (ha_a b a) C) := by
    refine hP.set ha (by simp) oq ?_ rfl (fun k hk j => by rw [hp_I_cp, if_neg hk]) (fun _ _ _ => rfl) (fun _ => rfl)
    unfold hp_at
    rw [show hp_S (hp_cp h a0 sp.toNatClampNeg a dp.toNatClampNeg nn.toNatClampNeg) a = hp_S h a from rfl, hs1]
    show (H.setIfInBounds (ha_a b a) C)[ha_a b a]? = some (arrV (cA 0) n1 (hp_F b 0 (hp_cp h a0 sp.toNatClampNeg a dp.toNatClampNeg nn.toNatClampNeg) a))
    rw [hp_F0]
    have e2 : (fun j => Value.int (hp_I (hp_cp h a0 sp.toNatClampNeg a dp.toNatClampNeg nn.toNatClampNeg) a j)) = fun j => .int (va_cpy (hp_I h a0) (hp_I h a) sp.toNatClampNeg dp.toNatClampNeg nn.toNatClampNeg j) := by
      funext j
      rw [hp_I_cp, if_pos rfl]
    rw [e2, hC]
    simp [Array.getElem?_setIfInBounds, hl]
  obtain ⟨t, a1, b1⟩ := k _ _ _ _ _ _ _ _ _ _ _ F _ _ ls cells slots hP1 ⟨by simp; exact hS.1, fun q g1 g2 => by
      rw [oq q (fun e => g2 (by rw [e]; exact ha_lt b ha.1))]
      exact hS.2.1 q g1 g2, fun q hq => by
      rcases List.mem_append.mp hq with h | h
      · exact hS.2.2 q h
      · obtain ⟨z, -, hz⟩ := List.mem_map.mp h
        rw [← hz]
        exact ha_lt b ha.1⟩ hL hc hs' _ hheap X'
  exact ⟨t, stp t a1, b1⟩
end RS
end
section
/-! new int[N][K]; calls by the kind of their answer. -/
/-- the heap with a new grid: its outer array is the next cell, the rows stand behind it -/
def hp_mu (h : ha_H) (N K : Nat) : ha_H := (fun x y => if h.2.2.2 ≤ x then 0 else h.1 x y, fun x y => if x = h.2.2.2 then (if y < N then some (h.2.2.2 + 1 + y) else none) else if h.2.2.2 ≤ x then none else h.2.1 x y, fun x => if x = h.2.2.2 then .inl (9, N) else if h.2.2.2 ≤ x then .inl (0, K) else h.2.2.1 x, h.2.2.2 + 1 + N)
theorem hp_I_mu (h : ha_H) (N K x y : Nat) : hp_I (hp_mu h N K) x y = if hp_n h ≤ x then 0 else hp_I h x y := rfl
theorem hp_R_mu (h : ha_H) (N K x y : Nat) : hp_R (hp_mu h N K) x y = if x = hp_n h then (if y < N then some (hp_n h + 1 + y) else none) else if hp_n h ≤ x then none else hp_R h x y := rfl
theorem hp_S_mu (h : ha_H) (N K x : Nat) : hp_S (hp_mu h N K) x = if x = hp_n h then .inl (9, N) else if hp_n h ≤ x then .inl (0, K) else hp_S h x := rfl
theorem hp_n_mu (h : ha_H) (N K : Nat) : hp_n (hp_mu h N K) = hp_n h + 1 + N := rfl
theorem mu_outer (c : ClassId) (N h0 : Nat) : ∀ i : Nat, Jvm.Free.Multi.outerC c N h0 i = arrV c N (fun j => if j < i then .ref (h0 + 1 + j) else .null)
  | 0 => by
    show ({ cls := c, slots := Array.replicate N .null, vm := .none } : Cell) = _
    rw [arrV_new]
    refine congrArg (arrV c N) (funext fun j => ?_)
    simp
  | i + 1 => by
    show (Jvm.Free.Multi.outerC c N h0 i).setSlot i (.ref (h0 + 1 + i)) = _
    rw [mu_outer c N h0 i, arrV_store]
    refine congrArg (arrV c N) (funext fun j => ?_)
    unfold updV
    by_cases e : j = i
    · subst e
      simp
    · by_cases h : j < i
      · simp [e, h, Nat.lt_succ_of_lt h]
      · simp [e, h, show ¬ j < i + 1 by omega]
theorem mu_inner (c : ClassId) (K : Nat) : Jvm.Free.Multi.innerC c K (defaultValue .int) = arrV c K (fun _ => .int 0) := arrV_new c K (.int 0)
theorem mu_nm : "[" ++ (FieldType.array .int).toString = "[[I" := by decide +kernel
section RG
variable {G : mt_G} {X X' : mt_X} {z z' : Nat × Nat × Nat} {rc rs rc' rs' pc : Nat} {L : List (Option ha_V)} {st stk av : List ha_V} {h : ha_H} {post : Option ha_V → ha_H → Prop}
theorem rw_multi {idx N K : Nat} {x y : Int32} (hlk : Cond.classLink X.1.cls idx "[[I" ∈ lp_BW) (hac : Cond.arrayClass .int ∈ lp_BW) (hao : FieldType.array .int ∈ lp_AO) (hd : decode X.2.1 pc = .ok (.multianewarray idx 2, 4)) (hx : ¬ x < 0) (hy : ¬ y < 0) (hN : x.toNatClampNeg = N) (hK : y.toNatClampNeg = K) (hB : N ≤ 1000 ∧ K ≤ 1000) (hrc : rc' + (1 + N) = rc) (hrs : rs' + (N + N * K) = rs)
    (k : rn_W G X z rc' rs' (pc + 4) L (.inr (some (hp_n h)) :: st) (hp_mu h N K) post) : rn_W G X z rc rs pc L (.inl y :: .inl x :: st) h post := by
  intro b D cA p e s m args below meth c F H locs ls cells slots hP hS hL hc hs
  subst hN
  subst hK
  intro T hT X0
  have hw : (Cond.classLink X.1.cls idx ("[" ++ (FieldType.array .int).toString)).before args s = true := by rw [mu_nm]; exact F.bw _ hlk
  obtain ⟨vm₁, cO, comp, -, fA, fC, -, -, X', stp⟩ := X0.multianewarray2F F.1 F.own hw (F.K.2.2.1 _ hao) (F.bw _ hac) (g := F0 m pc ls ((.inl y :: .inl x :: st : List ha_V).map (ha_v b))) rfl (by rw [F.2.1]; exact hd) (n := x) (k := y) (rest := st.map (ha_v b)) rfl hx hy (by omega) (by show _ * 4 ≤ _; omega) (by omega) rfl rfl (show cells + (1 + x.toNatClampNeg) ≤ z.2.1 by omega) (show slots + (x.toNatClampNeg + x.toNatClampNeg * y.toNatClampNeg) ≤ z.2.2 by omega)
  have h0 : s.vm.findClass ("[" ++ FieldType.int.toString) = some (cA 0) := F.K.ra (t := 0) lp_AT0
  have h9 : s.vm.findClass ("[" ++ (FieldType.array .int).toString) = some (cA 9) := F.K.ra (t := 9) rfl
  have hc0 : (FieldType.array .int).toString = "[" ++ FieldType.int.toString := by decide +kernel
  rw [hc0] at fC
  cases h9.symm.trans fA
  cases h0.symm.trans fC
  have hn : 0 < hp_n h := hP.2.1
  have eH : H.size = b.1 + hp_n h := hP.1
  have hTh : (T.setVm vm₁).heap = H := hT
  generalize hF : Jvm.Free.Multi.fill (T.setVm vm₁) (cA 9) (cA 0) x.toNatClampNeg y.toNatClampNeg (defaultValue .int) x.toNatClampNeg = Fl at X' stp
  obtain ⟨f1, f2, -, -⟩ := Jvm.Free.Multi.fill_facts (T.setVm vm₁) (cA 9) (cA 0) x.toNatClampNeg y.toNatClampNeg (defaultValue .int) x.toNatClampNeg
  rw [hF, hTh] at f1 f2
  rw [mu_outer] at f2
  have hold : ∀ q : Nat, q < H.size → Fl.heap[q]? = H[q]? := fun q hq => by
    have := Jvm.Free.Multi.fill_old (T.setVm vm₁) (cA 9) (cA 0) x.toNatClampNeg y.toNatClampNeg (defaultValue .int) (a := q) (by rw [hTh]; exact hq) x.toNatClampNeg
    rw [hF, hTh] at this
    exact this
  have hrow : ∀ j : Nat, j < x.toNatClampNeg → Fl.heap[H.size + 1 + j]? = some (arrV (cA 0) y.toNatClampNeg (fun _ => .int 0)) := fun j hj => by
    have := Jvm.Free.Multi.fill_inner (T.setVm vm₁) (cA 9) (cA 0) x.toNatClampNeg y.toNatClampNeg (defaultValue .int) x.toNatClampNeg j hj
    rw [hF, hTh, mu_inner] at this
    exact this
  have hP1 : hp_P b D cA (hp_mu h x.toNatClampNeg y.toNatClampNeg) Fl.heap := by
    refine ⟨by rw [f1, hp_n_mu, eH]; omega, by rw [hp_n_mu]; omega, fun q hq => ?_⟩
    unfold hp_ok at hq
    rw [hp_n_mu] at hq
    by_cases e1 : q = hp_n h
    · subst e1
      unfold hp_at
      rw [hp_S_mu, if_pos rfl]
      show Fl.heap[ha_a b (hp_n h)]? = some (arrV (cA 9) x.toNatClampNeg (hp_F b 9 _ (hp_n h)))
      rw [ha_p b hn, ← eH, f2]
      refine congrArg some (congrArg (arrV (cA 9) x.toNatClampNeg) (funext fun j => ?_))
      unfold hp_F
      rw [if_neg (show ¬ (9 : Nat) < 2 by decide), hp_R_mu, if_pos rfl]
      by_cases hj : j < x.toNatClampNeg
      · rw [if_pos hj, if_pos hj]
        show Value.ref _ = Value.ref (ha_a b (hp_n h + 1 + j))
        have e8 : ha_a b (hp_n h + 1 + j) = b.1 + (hp_n h + 1 + j) := ha_p b (by omega)
        have e7 : H.size + 1 + j = ha_a b (hp_n h + 1 + j) := by rw [e8, eH]; exact (by omega : b.1 + hp_n h + 1 + j = b.1 + (hp_n h + 1 + j))
        exact congrArg Value.ref e7
      · rw [if_neg hj, if_neg hj]
        rfl
    · by_cases e2 : hp_n h ≤ q
      · unfold hp_at
        rw [hp_S_mu, if_neg e1, if_pos e2]
        show Fl.heap[ha_a b q]? = some (arrV (cA 0) y.toNatClampNeg (hp_F b 0 _ q))
        rw [hp_F0, ha_p b hq.1, show b.1 + q = H.size + 1 + (q - hp_n h - 1) by omega, hrow _ (by omega)]
        refine congrArg some (congrArg (arrV (cA 0) y.toNatClampNeg) (funext fun j => ?_))
        rw [hp_I_mu, if_pos e2]
      · refine (hP.2.2 q ⟨hq.1, by omega⟩).kept (hold _ (by rw [eH, ha_p b hq.1]; omega)) (fun j => ?_) (fun j => ?_) ?_
        · rw [hp_I_mu, if_neg e2]
        · rw [hp_R_mu, if_neg e1, if_neg e2]
        · rw [hp_S_mu, if_neg e1, if_neg e2]
  obtain ⟨t, a1, b1⟩ := k b D cA p e s m args below meth c F Fl.heap locs ls (cells + 1 + x.toNatClampNeg) (slots + x.toNatClampNeg + x.toNatClampNeg * y.toNatClampNeg) hP1 ⟨by rw [f1]; have := hS.1; omega, fun q g1 g2 => (hold q (Nat.lt_of_lt_of_le g1 hS.1)).trans (hS.2.1 q g1 g2), hS.2.2⟩ hL (by omega) (by omega) Fl rfl X'
  refine ⟨t, stp t ?_, b1⟩
  have e9 : T.heap.size = ha_a b (hp_n h) := by rw [hT]; exact hP.sz
  rw [e9]
  exact a1
theorem rw_si {idx n : Nat} {q : Int32 → ha_H → Prop} (hl : ml_ok X.1.cls idx X' n) (hst : Cond.static X'.1 ∈ lp_BW) (hd : decode X.2.1 pc = .ok (.invokestatic idx, 3)) (hM : rn_M G X' z' av h (rn_i q)) (hn : av.length = n) (hk : av.reverse ++ st = stk) (h8 : st.length ≤ 8) (hz : z'.1 + 1 ≤ z.1) (hrc : rc' + z'.2.1 = rc) (hrs : rs' + z'.2.2 = rs)
    (kk : ∀ x h', q x h' → rn_W G X z rc' rs' (pc + 3) L (.inl x :: st) h' post) : rn_W G X z rc rs pc L stk h post :=
  rw_callS hl hst hd hM hn hk h8 hz hrc hrs (fun r h' hq => by obtain ⟨x, rfl, hx⟩ := hq; exact kk x h' hx)
theorem rw_sv {idx n : Nat} {q : ha_H → Prop} (hl : ml_ok X.1.cls idx X' n) (hst : Cond.static X'.1 ∈ lp_BW) (hd : decode X.2.1 pc = .ok (.invokestatic idx, 3)) (hM : rn_M G X' z' av h (rn_v q)) (hn : av.length = n) (hk : av.reverse ++ st = stk) (h8 : st.length ≤ 8) (hz : z'.1 + 1 ≤ z.1) (hrc : rc' + z'.2.1 = rc) (hrs : rs' + z'.2.2 = rs)
    (kk : ∀ h', q h' → rn_W G X z rc' rs' (pc + 3) L st h' post) : rn_W G X z rc rs pc L stk h post :=
  rw_callS hl hst hd hM hn hk h8 hz hrc hrs (fun r h' hq => by obtain ⟨rfl, hx⟩ := hq; exact kk h' hx)
theorem rw_sr {idx n : Nat} {q : Option Nat → ha_H → Prop} (hl : ml_ok X.1.cls idx X' n) (hst : Cond.static X'.1 ∈ lp_BW) (hd : decode X.2.1 pc = .ok (.invokestatic idx, 3)) (hM : rn_M G X' z' av h (rn_r q)) (hn : av.length = n) (hk : av.reverse ++ st = stk) (h8 : st.length ≤ 8) (hz : z'.1 + 1 ≤ z.1) (hrc : rc' + z'.2.1 = rc) (hrs : rs' + z'.2.2 = rs)
    (kk : ∀ x h', q x h' → rn_W G X z rc' rs' (pc + 3) L (.inr x :: st) h' post) : rn_W G X z rc rs pc L stk h post :=
  rw_callS hl hst hd hM hn hk h8 hz hrc hrs (fun r h' hq => by obtain ⟨x, rfl, hx⟩ := hq; exact kk x h' hx)
theorem rw_iv {idx n a : Nat} {q : ha_H → Prop} (hl : ml_ok X.1.cls idx X' n) (hin : Cond.instanceMethod X'.1 ∈ lp_BW) (hnm : X'.1.name = "<init>") (hrt : X'.2.2.2 = none) (hd : decode X.2.1 pc = .ok (.invokespecial idx, 3)) (hM : rn_M G X' z' (.inr (some a) :: av) h (rn_v q)) (hn : av.length = n) (hk : av.reverse ++ .inr (some a) :: st = stk) (h8 : st.length ≤ 8) (hz : z'.1 + 1 ≤ z.1) (hrc : rc' + z'.2.1 = rc) (hrs : rs' + z'.2.2 = rs)
    (kk : ∀ h', q h' → rn_W G X z rc' rs' (pc + 3) L st h' post) : rn_W G X z rc rs pc L stk h post :=
  rw_callI hl hin hnm hrt hd hM hn hk h8 hz hrc hrs (fun r h' hq => by obtain ⟨rfl, hx⟩ := hq; exact kk h' hx)
theorem rw_vi {idx n a ci : Nat} {C : vw_C} {q : Int32 → ha_H → Prop} (hl : ml_ok X.1.cls idx X' n) (hin : Cond.instanceMethod X'.1 ∈ lp_BW) (hcl : lp_CL[ci]? = some C) (hse : Cond.selects C.1 X'.1 X'.1 ∈ lp_BW) (hd : decode X.2.1 pc = .ok (.invokevirtual idx, 3)) (ha : hp_ok h a) (hsh : hp_S h a = .inr ci) (hM : rn_M G X' z' (.inr (some a) :: av) h (rn_i q)) (hn : av.length = n) (hk : av.reverse ++ .inr (some a) :: st = stk) (h8 : st.length ≤ 8) (hz : z'.1 + 1 ≤ z.1) (hrc : rc' + z'.2.1 = rc) (hrs : rs' + z'.2.2 = rs)
    (kk : ∀ x h', q x h' → rn_W G X z rc' rs' (pc + 3) L (.inl x :: st) h' post) : rn_W G X z rc rs pc L stk h post :=
  rw_callV hl hin hcl hse hd ha hsh hM hn hk h8 hz hrc hrs (fun r h' hq => by obtain ⟨x, rfl, hx⟩ := hq; exact kk x h' hx)
theorem rw_vv {idx n a ci : Nat} {C : vw_C} {q : ha_H → Prop} (hl : ml_ok X.1.cls idx X' n) (hin : Cond.instanceMethod X'.1 ∈ lp_BW) (hcl : lp_CL[ci]? = some C) (hse : Cond.selects C.1 X'.1 X'.1 ∈ lp_BW) (hd : decode X.2.1 pc = .ok (.invokevirtual idx, 3)) (ha : hp_ok h a) (hsh : hp_S h a = .inr ci) (hM : rn_M G X' z' (.inr (some a) :: av) h (rn_v q)) (hn : av.length = n) (hk : av.reverse ++ .inr (some a) :: st = stk) (h8 : st.length ≤ 8) (hz : z'.1 + 1 ≤ z.1) (hrc : rc' + z'.2.1 = rc) (hrs : rs' + z'.2.2 = rs)
    (kk : ∀ h', q h' → rn_W G X z rc' rs' (pc + 3) L st h' post) : rn_W G X z rc rs pc L stk h post :=
  rw_callV hl hin hcl hse hd ha hsh hM hn hk h8 hz hrc hrs (fun r h' hq => by obtain ⟨rfl, hx⟩ := hq; exact kk h' hx)
theorem rw_vr {idx n a ci : Nat} {C : vw_C} {q : Option Nat → ha_H → Prop} (hl : ml_ok X.1.cls idx X' n) (hin : Cond.instanceMethod X'.1 ∈ lp_BW) (hcl : lp_CL[ci]? = some C) (hse : Cond.selects C.1 X'.1 X'.1 ∈ lp_BW) (hd : decode X.2.1 pc = .ok (.invokevirtual idx, 3)) (ha : hp_ok h a) (hsh : hp_S h a = .inr ci) (hM : rn_M G X' z' (.inr (some a) :: av) h (rn_r q)) (hn : av.length = n) (hk : av.reverse ++ .inr (some a) :: st = stk) (h8 : st.length ≤ 8) (hz : z'.1 + 1 ≤ z.1) (hrc : rc' + z'.2.1 = rc) (hrs : rs' + z'.2.2 = rs)
    (kk : ∀ x h', q x h' → rn_W G X z rc' rs' (pc + 3) L (.inr x :: st) h' post) : rn_W G X z rc rs pc L stk h post :=
  rw_callV hl hin hcl hse hd ha hsh hM hn hk h8 hz hrc hrs (fun r h' hq => by obtain ⟨x, rfl, hx⟩ := hq; exact kk x h' hx)
end RG
end
