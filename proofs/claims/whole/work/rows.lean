section
-- ===== PART A: goes FIRST, ahead of the names: the tables' words, and 'selects' of the private methods out of them =====
/-- a private method of a class that the tables say can be made, by its rows of tables_1 -/
def lw_okq (q : MethodName × Nat) : Prop := (q.1.cls ≠ "java/lang/invoke/MethodHandle" ∧ q.1.cls ≠ "java/lang/invoke/VarHandle") ∧ Cond.instantiable q.1.cls q.2 ∈ tables_1 ∧ Cond.privateMethod q.1 ∈ tables_1 ∧ Cond.instanceMethod q.1 ∈ tables_1
theorem lw_p0 : lw_okq (⟨"DagLedger", "isTransferOrNone", "(I)Z"⟩, 5) := ⟨⟨by decide +kernel, by decide +kernel⟩, List.mem_of_getElem? (i := 21) (by decide +kernel), List.mem_of_getElem? (i := 316) (by decide +kernel), List.mem_of_getElem? (i := 317) (by decide +kernel)⟩
theorem lw_p1 : lw_okq (⟨"DagLedger", "upReplica", "(I)LDagLedger$Replica;"⟩, 5) := ⟨⟨by decide +kernel, by decide +kernel⟩, List.mem_of_getElem? (i := 21) (by decide +kernel), List.mem_of_getElem? (i := 369) (by decide +kernel), List.mem_of_getElem? (i := 370) (by decide +kernel)⟩
theorem lw_p2 : lw_okq (⟨"DagLedger", "replicaOf", "(I)LDagLedger$Replica;"⟩, 5) := ⟨⟨by decide +kernel, by decide +kernel⟩, List.mem_of_getElem? (i := 21) (by decide +kernel), List.mem_of_getElem? (i := 373) (by decide +kernel), List.mem_of_getElem? (i := 374) (by decide +kernel)⟩
theorem lw_p3 : lw_okq (⟨"java/lang/Throwable", "fillInStackTrace", "(I)Ljava/lang/Throwable;"⟩, 6) := ⟨⟨by decide +kernel, by decide +kernel⟩, List.mem_of_getElem? (i := 414) (by decide +kernel), List.mem_of_getElem? (i := 412) (by decide +kernel), List.mem_of_getElem? (i := 413) (by decide +kernel)⟩
theorem lw_p4 : lw_okq (⟨"DagLedger$Replica", "takeSend", "(II)V"⟩, 13) := ⟨⟨by decide +kernel, by decide +kernel⟩, List.mem_of_getElem? (i := 115) (by decide +kernel), List.mem_of_getElem? (i := 516) (by decide +kernel), List.mem_of_getElem? (i := 517) (by decide +kernel)⟩
theorem lw_p5 : lw_okq (⟨"DagLedger$Replica", "takeEcho", "(II)V"⟩, 13) := ⟨⟨by decide +kernel, by decide +kernel⟩, List.mem_of_getElem? (i := 115) (by decide +kernel), List.mem_of_getElem? (i := 535) (by decide +kernel), List.mem_of_getElem? (i := 536) (by decide +kernel)⟩
theorem lw_p6 : lw_okq (⟨"DagLedger$Replica", "becomeReady", "(I)V"⟩, 13) := ⟨⟨by decide +kernel, by decide +kernel⟩, List.mem_of_getElem? (i := 115) (by decide +kernel), List.mem_of_getElem? (i := 544) (by decide +kernel), List.mem_of_getElem? (i := 545) (by decide +kernel)⟩
theorem lw_p7 : lw_okq (⟨"DagLedger$Replica", "takeReady", "(II)V"⟩, 13) := ⟨⟨by decide +kernel, by decide +kernel⟩, List.mem_of_getElem? (i := 115) (by decide +kernel), List.mem_of_getElem? (i := 548) (by decide +kernel), List.mem_of_getElem? (i := 549) (by decide +kernel)⟩
theorem lw_p8 : lw_okq (⟨"DagLedger$Replica", "insertNext", "()Z"⟩, 13) := ⟨⟨by decide +kernel, by decide +kernel⟩, List.mem_of_getElem? (i := 115) (by decide +kernel), List.mem_of_getElem? (i := 561) (by decide +kernel), List.mem_of_getElem? (i := 562) (by decide +kernel)⟩
theorem lw_p9 : lw_okq (⟨"DagLedger$Commits", "nextRound", "()I"⟩, 6) := ⟨⟨by decide +kernel, by decide +kernel⟩, List.mem_of_getElem? (i := 223) (by decide +kernel), List.mem_of_getElem? (i := 590) (by decide +kernel), List.mem_of_getElem? (i := 591) (by decide +kernel)⟩
theorem lw_p10 : lw_okq (⟨"DagLedger$Commits", "leadersUnder", "(I)I"⟩, 6) := ⟨⟨by decide +kernel, by decide +kernel⟩, List.mem_of_getElem? (i := 223) (by decide +kernel), List.mem_of_getElem? (i := 603) (by decide +kernel), List.mem_of_getElem? (i := 604) (by decide +kernel)⟩
theorem lw_p11 : lw_okq (⟨"DagLedger$Commits", "emit", "(II)V"⟩, 6) := ⟨⟨by decide +kernel, by decide +kernel⟩, List.mem_of_getElem? (i := 223) (by decide +kernel), List.mem_of_getElem? (i := 612) (by decide +kernel), List.mem_of_getElem? (i := 613) (by decide +kernel)⟩
theorem lw_p12 : lw_okq (⟨"DagLedger$Commits", "emitRound", "(II)V"⟩, 6) := ⟨⟨by decide +kernel, by decide +kernel⟩, List.mem_of_getElem? (i := 223) (by decide +kernel), List.mem_of_getElem? (i := 616) (by decide +kernel), List.mem_of_getElem? (i := 617) (by decide +kernel)⟩
theorem lw_p13 : lw_okq (⟨"DagLedger$Replica", "advance", "()Z"⟩, 13) := ⟨⟨by decide +kernel, by decide +kernel⟩, List.mem_of_getElem? (i := 115) (by decide +kernel), List.mem_of_getElem? (i := 628) (by decide +kernel), List.mem_of_getElem? (i := 629) (by decide +kernel)⟩
theorem lw_p14 : lw_okq (⟨"DagLedger$Replica", "mayAdvance", "()Z"⟩, 13) := ⟨⟨by decide +kernel, by decide +kernel⟩, List.mem_of_getElem? (i := 115) (by decide +kernel), List.mem_of_getElem? (i := 632) (by decide +kernel), List.mem_of_getElem? (i := 633) (by decide +kernel)⟩
theorem lw_p15 : lw_okq (⟨"DagLedgerModel", "fresh", "(I)V"⟩, 35) := ⟨⟨by decide +kernel, by decide +kernel⟩, List.mem_of_getElem? (i := 745) (by decide +kernel), List.mem_of_getElem? (i := 751) (by decide +kernel), List.mem_of_getElem? (i := 752) (by decide +kernel)⟩
def lw_privs_1 : List (MethodName × Nat) := [(⟨"DagLedger", "isTransferOrNone", "(I)Z"⟩, 5), (⟨"DagLedger", "upReplica", "(I)LDagLedger$Replica;"⟩, 5), (⟨"DagLedger", "replicaOf", "(I)LDagLedger$Replica;"⟩, 5), (⟨"java/lang/Throwable", "fillInStackTrace", "(I)Ljava/lang/Throwable;"⟩, 6), (⟨"DagLedger$Replica", "takeSend", "(II)V"⟩, 13), (⟨"DagLedger$Replica", "takeEcho", "(II)V"⟩, 13), (⟨"DagLedger$Replica", "becomeReady", "(I)V"⟩, 13), (⟨"DagLedger$Replica", "takeReady", "(II)V"⟩, 13), (⟨"DagLedger$Replica", "insertNext", "()Z"⟩, 13), (⟨"DagLedger$Commits", "nextRound", "()I"⟩, 6), (⟨"DagLedger$Commits", "leadersUnder", "(I)I"⟩, 6), (⟨"DagLedger$Commits", "emit", "(II)V"⟩, 6), (⟨"DagLedger$Commits", "emitRound", "(II)V"⟩, 6), (⟨"DagLedger$Replica", "advance", "()Z"⟩, 13), (⟨"DagLedger$Replica", "mayAdvance", "()Z"⟩, 13), (⟨"DagLedgerModel", "fresh", "(I)V"⟩, 35)]
theorem lw_r1 : ∀ q ∈ lw_privs_1, lw_okq q := List.forall_mem_cons.mpr ⟨lw_p0, List.forall_mem_cons.mpr ⟨lw_p1, List.forall_mem_cons.mpr ⟨lw_p2, List.forall_mem_cons.mpr ⟨lw_p3, List.forall_mem_cons.mpr ⟨lw_p4, List.forall_mem_cons.mpr ⟨lw_p5, List.forall_mem_cons.mpr ⟨lw_p6, List.forall_mem_cons.mpr ⟨lw_p7, List.forall_mem_cons.mpr ⟨lw_p8, List.forall_mem_cons.mpr ⟨lw_p9, List.forall_mem_cons.mpr ⟨lw_p10, List.forall_mem_cons.mpr ⟨lw_p11, List.forall_mem_cons.mpr ⟨lw_p12, List.forall_mem_cons.mpr ⟨lw_p13, List.forall_mem_cons.mpr ⟨lw_p14, List.forall_mem_cons.mpr ⟨lw_p15, fun _ h => absurd h List.not_mem_nil⟩⟩⟩⟩⟩⟩⟩⟩⟩⟩⟩⟩⟩⟩⟩⟩
theorem lw_p16 : lw_okq (⟨"DagLedgerModel", "isNode", "(I)Z"⟩, 35) := ⟨⟨by decide +kernel, by decide +kernel⟩, List.mem_of_getElem? (i := 745) (by decide +kernel), List.mem_of_getElem? (i := 870) (by decide +kernel), List.mem_of_getElem? (i := 871) (by decide +kernel)⟩
theorem lw_p17 : lw_okq (⟨"DagLedgerModel", "record", "(I)Z"⟩, 35) := ⟨⟨by decide +kernel, by decide +kernel⟩, List.mem_of_getElem? (i := 745) (by decide +kernel), List.mem_of_getElem? (i := 877) (by decide +kernel), List.mem_of_getElem? (i := 878) (by decide +kernel)⟩
theorem lw_p18 : lw_okq (⟨"DagLedgerModel", "fall", "(I)V"⟩, 35) := ⟨⟨by decide +kernel, by decide +kernel⟩, List.mem_of_getElem? (i := 745) (by decide +kernel), List.mem_of_getElem? (i := 881) (by decide +kernel), List.mem_of_getElem? (i := 882) (by decide +kernel)⟩
theorem lw_p19 : lw_okq (⟨"DagLedgerModel", "works", "(I)Z"⟩, 35) := ⟨⟨by decide +kernel, by decide +kernel⟩, List.mem_of_getElem? (i := 745) (by decide +kernel), List.mem_of_getElem? (i := 889) (by decide +kernel), List.mem_of_getElem? (i := 890) (by decide +kernel)⟩
theorem lw_p20 : lw_okq (⟨"DagLedgerModel", "full", "()Z"⟩, 35) := ⟨⟨by decide +kernel, by decide +kernel⟩, List.mem_of_getElem? (i := 745) (by decide +kernel), List.mem_of_getElem? (i := 893) (by decide +kernel), List.mem_of_getElem? (i := 894) (by decide +kernel)⟩
theorem lw_p21 : lw_okq (⟨"DagLedgerModel", "take", "(II)V"⟩, 35) := ⟨⟨by decide +kernel, by decide +kernel⟩, List.mem_of_getElem? (i := 745) (by decide +kernel), List.mem_of_getElem? (i := 897) (by decide +kernel), List.mem_of_getElem? (i := 898) (by decide +kernel)⟩
theorem lw_p22 : lw_okq (⟨"DagLedgerModel", "formed", "(I)Z"⟩, 35) := ⟨⟨by decide +kernel, by decide +kernel⟩, List.mem_of_getElem? (i := 745) (by decide +kernel), List.mem_of_getElem? (i := 901) (by decide +kernel), List.mem_of_getElem? (i := 902) (by decide +kernel)⟩
theorem lw_p23 : lw_okq (⟨"DagLedgerModel", "spot", "(II)I"⟩, 35) := ⟨⟨by decide +kernel, by decide +kernel⟩, List.mem_of_getElem? (i := 745) (by decide +kernel), List.mem_of_getElem? (i := 908) (by decide +kernel), List.mem_of_getElem? (i := 909) (by decide +kernel)⟩
theorem lw_p24 : lw_okq (⟨"DagLedgerModel", "say", "(III)I"⟩, 35) := ⟨⟨by decide +kernel, by decide +kernel⟩, List.mem_of_getElem? (i := 745) (by decide +kernel), List.mem_of_getElem? (i := 912) (by decide +kernel), List.mem_of_getElem? (i := 913) (by decide +kernel)⟩
theorem lw_p25 : lw_okq (⟨"DagLedgerModel", "act", "(I)V"⟩, 35) := ⟨⟨by decide +kernel, by decide +kernel⟩, List.mem_of_getElem? (i := 745) (by decide +kernel), List.mem_of_getElem? (i := 916) (by decide +kernel), List.mem_of_getElem? (i := 917) (by decide +kernel)⟩
theorem lw_p26 : lw_okq (⟨"DagLedgerModel", "insertable", "(I)I"⟩, 35) := ⟨⟨by decide +kernel, by decide +kernel⟩, List.mem_of_getElem? (i := 745) (by decide +kernel), List.mem_of_getElem? (i := 920) (by decide +kernel), List.mem_of_getElem? (i := 921) (by decide +kernel)⟩
theorem lw_p27 : lw_okq (⟨"DagLedgerModel", "there", "(II)I"⟩, 35) := ⟨⟨by decide +kernel, by decide +kernel⟩, List.mem_of_getElem? (i := 745) (by decide +kernel), List.mem_of_getElem? (i := 924) (by decide +kernel), List.mem_of_getElem? (i := 925) (by decide +kernel)⟩
theorem lw_p28 : lw_okq (⟨"DagLedgerModel", "committable", "(I)I"⟩, 35) := ⟨⟨by decide +kernel, by decide +kernel⟩, List.mem_of_getElem? (i := 745) (by decide +kernel), List.mem_of_getElem? (i := 928) (by decide +kernel), List.mem_of_getElem? (i := 929) (by decide +kernel)⟩
theorem lw_p29 : lw_okq (⟨"DagLedgerModel", "hasLeader", "(II)Z"⟩, 35) := ⟨⟨by decide +kernel, by decide +kernel⟩, List.mem_of_getElem? (i := 745) (by decide +kernel), List.mem_of_getElem? (i := 935) (by decide +kernel), List.mem_of_getElem? (i := 936) (by decide +kernel)⟩
theorem lw_p30 : lw_okq (⟨"DagLedgerModel", "commit", "(II)V"⟩, 35) := ⟨⟨by decide +kernel, by decide +kernel⟩, List.mem_of_getElem? (i := 745) (by decide +kernel), List.mem_of_getElem? (i := 939) (by decide +kernel), List.mem_of_getElem? (i := 940) (by decide +kernel)⟩
theorem lw_p31 : lw_okq (⟨"DagLedgerModel", "spread", "(III)V"⟩, 35) := ⟨⟨by decide +kernel, by decide +kernel⟩, List.mem_of_getElem? (i := 745) (by decide +kernel), List.mem_of_getElem? (i := 943) (by decide +kernel), List.mem_of_getElem? (i := 944) (by decide +kernel)⟩
def lw_privs_2 : List (MethodName × Nat) := [(⟨"DagLedgerModel", "isNode", "(I)Z"⟩, 35), (⟨"DagLedgerModel", "record", "(I)Z"⟩, 35), (⟨"DagLedgerModel", "fall", "(I)V"⟩, 35), (⟨"DagLedgerModel", "works", "(I)Z"⟩, 35), (⟨"DagLedgerModel", "full", "()Z"⟩, 35), (⟨"DagLedgerModel", "take", "(II)V"⟩, 35), (⟨"DagLedgerModel", "formed", "(I)Z"⟩, 35), (⟨"DagLedgerModel", "spot", "(II)I"⟩, 35), (⟨"DagLedgerModel", "say", "(III)I"⟩, 35), (⟨"DagLedgerModel", "act", "(I)V"⟩, 35), (⟨"DagLedgerModel", "insertable", "(I)I"⟩, 35), (⟨"DagLedgerModel", "there", "(II)I"⟩, 35), (⟨"DagLedgerModel", "committable", "(I)I"⟩, 35), (⟨"DagLedgerModel", "hasLeader", "(II)Z"⟩, 35), (⟨"DagLedgerModel", "commit", "(II)V"⟩, 35), (⟨"DagLedgerModel", "spread", "(III)V"⟩, 35)]
theorem lw_r2 : ∀ q ∈ lw_privs_2, lw_okq q := List.forall_mem_cons.mpr ⟨lw_p16, List.forall_mem_cons.mpr ⟨lw_p17, List.forall_mem_cons.mpr ⟨lw_p18, List.forall_mem_cons.mpr ⟨lw_p19, List.forall_mem_cons.mpr ⟨lw_p20, List.forall_mem_cons.mpr ⟨lw_p21, List.forall_mem_cons.mpr ⟨lw_p22, List.forall_mem_cons.mpr ⟨lw_p23, List.forall_mem_cons.mpr ⟨lw_p24, List.forall_mem_cons.mpr ⟨lw_p25, List.forall_mem_cons.mpr ⟨lw_p26, List.forall_mem_cons.mpr ⟨lw_p27, List.forall_mem_cons.mpr ⟨lw_p28, List.forall_mem_cons.mpr ⟨lw_p29, List.forall_mem_cons.mpr ⟨lw_p30, List.forall_mem_cons.mpr ⟨lw_p31, fun _ h => absurd h List.not_mem_nil⟩⟩⟩⟩⟩⟩⟩⟩⟩⟩⟩⟩⟩⟩⟩⟩
theorem lw_p32 : lw_okq (⟨"DagLedgerModel", "emit", "(II)V"⟩, 35) := ⟨⟨by decide +kernel, by decide +kernel⟩, List.mem_of_getElem? (i := 745) (by decide +kernel), List.mem_of_getElem? (i := 947) (by decide +kernel), List.mem_of_getElem? (i := 948) (by decide +kernel)⟩
theorem lw_p33 : lw_okq (⟨"DagLedgerModel", "place", "(II)V"⟩, 35) := ⟨⟨by decide +kernel, by decide +kernel⟩, List.mem_of_getElem? (i := 745) (by decide +kernel), List.mem_of_getElem? (i := 951) (by decide +kernel), List.mem_of_getElem? (i := 952) (by decide +kernel)⟩
theorem lw_p34 : lw_okq (⟨"DagLedgerModel", "advances", "(I)Z"⟩, 35) := ⟨⟨by decide +kernel, by decide +kernel⟩, List.mem_of_getElem? (i := 745) (by decide +kernel), List.mem_of_getElem? (i := 955) (by decide +kernel), List.mem_of_getElem? (i := 956) (by decide +kernel)⟩
theorem lw_p35 : lw_okq (⟨"DagLedgerModel", "advance", "(I)V"⟩, 35) := ⟨⟨by decide +kernel, by decide +kernel⟩, List.mem_of_getElem? (i := 745) (by decide +kernel), List.mem_of_getElem? (i := 959) (by decide +kernel), List.mem_of_getElem? (i := 960) (by decide +kernel)⟩
theorem lw_p36 : lw_okq (⟨"DagLedgerModel", "queued", "(II)I"⟩, 35) := ⟨⟨by decide +kernel, by decide +kernel⟩, List.mem_of_getElem? (i := 745) (by decide +kernel), List.mem_of_getElem? (i := 963) (by decide +kernel), List.mem_of_getElem? (i := 964) (by decide +kernel)⟩
theorem lw_p37 : lw_okq (⟨"DagLedgerModel", "make", "(IIIII)I"⟩, 35) := ⟨⟨by decide +kernel, by decide +kernel⟩, List.mem_of_getElem? (i := 745) (by decide +kernel), List.mem_of_getElem? (i := 967) (by decide +kernel), List.mem_of_getElem? (i := 968) (by decide +kernel)⟩
theorem lw_p38 : lw_okq (⟨"DagLedgerModel", "faulty", "()I"⟩, 35) := ⟨⟨by decide +kernel, by decide +kernel⟩, List.mem_of_getElem? (i := 745) (by decide +kernel), List.mem_of_getElem? (i := 995) (by decide +kernel), List.mem_of_getElem? (i := 996) (by decide +kernel)⟩
theorem lw_p39 : lw_okq (⟨"DagLedgerModel", "isTransfer", "(I)Z"⟩, 35) := ⟨⟨by decide +kernel, by decide +kernel⟩, List.mem_of_getElem? (i := 745) (by decide +kernel), List.mem_of_getElem? (i := 1003) (by decide +kernel), List.mem_of_getElem? (i := 1004) (by decide +kernel)⟩
def lw_privs_3 : List (MethodName × Nat) := [(⟨"DagLedgerModel", "emit", "(II)V"⟩, 35), (⟨"DagLedgerModel", "place", "(II)V"⟩, 35), (⟨"DagLedgerModel", "advances", "(I)Z"⟩, 35), (⟨"DagLedgerModel", "advance", "(I)V"⟩, 35), (⟨"DagLedgerModel", "queued", "(II)I"⟩, 35), (⟨"DagLedgerModel", "make", "(IIIII)I"⟩, 35), (⟨"DagLedgerModel", "faulty", "()I"⟩, 35), (⟨"DagLedgerModel", "isTransfer", "(I)Z"⟩, 35)]
theorem lw_r3 : ∀ q ∈ lw_privs_3, lw_okq q := List.forall_mem_cons.mpr ⟨lw_p32, List.forall_mem_cons.mpr ⟨lw_p33, List.forall_mem_cons.mpr ⟨lw_p34, List.forall_mem_cons.mpr ⟨lw_p35, List.forall_mem_cons.mpr ⟨lw_p36, List.forall_mem_cons.mpr ⟨lw_p37, List.forall_mem_cons.mpr ⟨lw_p38, List.forall_mem_cons.mpr ⟨lw_p39, fun _ h => absurd h List.not_mem_nil⟩⟩⟩⟩⟩⟩⟩⟩
def lw_privs : List (MethodName × Nat) := lw_privs_1 ++ (lw_privs_2 ++ (lw_privs_3))
def lw_tbl : List Cond := k2_sels lw_privs ++ tables_1
theorem lw_privs_ok : ∀ q ∈ lw_privs, lw_okq q := by
  show ∀ q ∈ lw_privs_1 ++ (lw_privs_2 ++ (lw_privs_3)), lw_okq q
  exact List.forall_mem_append.mpr ⟨lw_r1, List.forall_mem_append.mpr ⟨lw_r2, lw_r3⟩⟩
end
section
/-! names of methods and codes, the plan of the world, the words that are used (written by wip/whole/gen02.py) -/
abbrev cc_Le_init : ByteArray := prog_1_method_1_code
def yy_Le_init : MethodName := ⟨"DagLedger", "<init>", "()V"⟩
abbrev cc_Tr_init : ByteArray := prog_9_method_1_code
def yy_Tr_init : MethodName := ⟨"DagLedger$Transfers", "<init>", "()V"⟩
abbrev cc_Ve_init : ByteArray := prog_10_method_1_code
def yy_Ve_init : MethodName := ⟨"DagLedger$Vertices", "<init>", "()V"⟩
abbrev cc_Bo_init : ByteArray := prog_2_method_1_code
def yy_Bo_init : MethodName := ⟨"DagLedger$Board", "<init>", "()V"⟩
abbrev cc_Re_init : ByteArray := prog_8_method_1_code
def yy_Re_init : MethodName := ⟨"DagLedger$Replica", "<init>", "(ILDagLedger$Board;LDagLedger$Vertices;LDagLedger$Transfers;)V"⟩
abbrev cc_Di_init : ByteArray := prog_6_method_1_code
def yy_Di_init : MethodName := ⟨"DagLedger$Disk", "<init>", "()V"⟩
abbrev cc_No_init : ByteArray := prog_7_method_1_code
def yy_No_init : MethodName := ⟨"DagLedger$Notes", "<init>", "()V"⟩
abbrev cc_Dg_init : ByteArray := prog_5_method_1_code
def yy_Dg_init : MethodName := ⟨"DagLedger$Dag", "<init>", "(LDagLedger$Vertices;)V"⟩
abbrev cc_Ar_fill : ByteArray := prog_21_method_103_code
def yy_Ar_fill : MethodName := ⟨"java/util/Arrays", "fill", "([II)V"⟩
abbrev cc_Bk_init : ByteArray := prog_3_method_1_code
def yy_Bk_init : MethodName := ⟨"DagLedger$Book", "<init>", "(LDagLedger$Transfers;)V"⟩
abbrev cc_Co_init : ByteArray := prog_4_method_1_code
def yy_Co_init : MethodName := ⟨"DagLedger$Commits", "<init>", "(LDagLedger$Vertices;LDagLedger$Dag;LDagLedger$Book;)V"⟩
abbrev cc_Le_forge : ByteArray := prog_1_method_10_code
def yy_Le_forge : MethodName := ⟨"DagLedger", "forge", "(IIII)I"⟩
abbrev cc_Le_isTransferOrNone : ByteArray := prog_1_method_20_code
def yy_Le_isTransferOrNone : MethodName := ⟨"DagLedger", "isTransferOrNone", "(I)Z"⟩
abbrev cc_Tr_has : ByteArray := prog_9_method_2_code
def yy_Tr_has : MethodName := ⟨"DagLedger$Transfers", "has", "(I)Z"⟩
abbrev cc_Ve_isFull : ByteArray := prog_10_method_3_code
def yy_Ve_isFull : MethodName := ⟨"DagLedger$Vertices", "isFull", "()Z"⟩
abbrev cc_Bo_isFull : ByteArray := prog_2_method_3_code
def yy_Bo_isFull : MethodName := ⟨"DagLedger$Board", "isFull", "()Z"⟩
abbrev cc_Ve_add : ByteArray := prog_10_method_4_code
def yy_Ve_add : MethodName := ⟨"DagLedger$Vertices", "add", "(IIIII)I"⟩
abbrev cc_Bo_post : ByteArray := prog_2_method_4_code
def yy_Bo_post : MethodName := ⟨"DagLedger$Board", "post", "(III)I"⟩
abbrev cc_Le_send : ByteArray := prog_1_method_11_code
def yy_Le_send : MethodName := ⟨"DagLedger", "send", "(II)I"⟩
abbrev cc_Ve_has : ByteArray := prog_10_method_2_code
def yy_Ve_has : MethodName := ⟨"DagLedger$Vertices", "has", "(I)Z"⟩
abbrev cc_Le_message : ByteArray := prog_1_method_12_code
def yy_Le_message : MethodName := ⟨"DagLedger", "message", "(II)I"⟩
abbrev cc_Bo_has : ByteArray := prog_2_method_2_code
def yy_Bo_has : MethodName := ⟨"DagLedger$Board", "has", "(I)Z"⟩
abbrev cc_Le_vertex : ByteArray := prog_1_method_13_code
def yy_Le_vertex : MethodName := ⟨"DagLedger", "vertex", "(II)I"⟩
abbrev cc_La_submit : ByteArray := method_3_code
def yy_La_submit : MethodName := ⟨"DagLedgerLaw", "submit", "(LDagLedger;IIII[J)I"⟩
abbrev cc_Le_submit : ByteArray := prog_1_method_2_code
def yy_Le_submit : MethodName := ⟨"DagLedger", "submit", "(IIII)I"⟩
abbrev cc_Le_upReplica : ByteArray := prog_1_method_19_code
def yy_Le_upReplica : MethodName := ⟨"DagLedger", "upReplica", "(I)LDagLedger$Replica;"⟩
abbrev cc_Le_replicaOf : ByteArray := prog_1_method_18_code
def yy_Le_replicaOf : MethodName := ⟨"DagLedger", "replicaOf", "(I)LDagLedger$Replica;"⟩
abbrev cc_Re_isUp : ByteArray := prog_8_method_2_code
def yy_Re_isUp : MethodName := ⟨"DagLedger$Replica", "isUp", "()Z"⟩
abbrev cc_Tr_isFull : ByteArray := prog_9_method_3_code
def yy_Tr_isFull : MethodName := ⟨"DagLedger$Transfers", "isFull", "()Z"⟩
abbrev cc_Le_isAccount : ByteArray := prog_1_method_21_code
def yy_Le_isAccount : MethodName := ⟨"DagLedger", "isAccount", "(I)Z"⟩
abbrev cc_Re_writeRecord : ByteArray := prog_8_method_6_code
def yy_Re_writeRecord : MethodName := ⟨"DagLedger$Replica", "writeRecord", "()Z"⟩
abbrev cc_Re_goDown : ByteArray := prog_8_method_3_code
def yy_Re_goDown : MethodName := ⟨"DagLedger$Replica", "goDown", "()V"⟩
abbrev cc_No_clear : ByteArray := prog_7_method_5_code
def yy_No_clear : MethodName := ⟨"DagLedger$Notes", "clear", "()V"⟩
abbrev cc_Dg_clear : ByteArray := prog_5_method_9_code
def yy_Dg_clear : MethodName := ⟨"DagLedger$Dag", "clear", "()V"⟩
abbrev cc_Co_clear : ByteArray := prog_4_method_7_code
def yy_Co_clear : MethodName := ⟨"DagLedger$Commits", "clear", "()V"⟩
abbrev cc_Bk_clear : ByteArray := prog_3_method_4_code
def yy_Bk_clear : MethodName := ⟨"DagLedger$Book", "clear", "()V"⟩
abbrev cc_Tr_add : ByteArray := prog_9_method_4_code
def yy_Tr_add : MethodName := ⟨"DagLedger$Transfers", "add", "(III)I"⟩
abbrev cc_Di_keepTransfer : ByteArray := prog_6_method_2_code
def yy_Di_keepTransfer : MethodName := ⟨"DagLedger$Disk", "keepTransfer", "(I)V"⟩
abbrev cc_La_deliver : ByteArray := method_4_code
def yy_La_deliver : MethodName := ⟨"DagLedgerLaw", "deliver", "(LDagLedger;II[J)I"⟩
abbrev cc_Le_deliver : ByteArray := prog_1_method_3_code
def yy_Le_deliver : MethodName := ⟨"DagLedger", "deliver", "(II)Z"⟩
abbrev cc_Re_take : ByteArray := prog_8_method_8_code
def yy_Re_take : MethodName := ⟨"DagLedger$Replica", "take", "(I)V"⟩
abbrev cc_Re_takeSend : ByteArray := prog_8_method_9_code
def yy_Re_takeSend : MethodName := ⟨"DagLedger$Replica", "takeSend", "(II)V"⟩
abbrev cc_Ve_isWellFormed : ByteArray := prog_10_method_5_code
def yy_Ve_isWellFormed : MethodName := ⟨"DagLedger$Vertices", "isWellFormed", "(I)Z"⟩
abbrev cc_In_bitCount : ByteArray := prog_16_method_49_code
def yy_In_bitCount : MethodName := ⟨"java/lang/Integer", "bitCount", "(I)I"⟩
abbrev cc_Le_contains : ByteArray := prog_1_method_23_code
def yy_Le_contains : MethodName := ⟨"DagLedger", "contains", "(II)Z"⟩
abbrev cc_Re_takeEcho : ByteArray := prog_8_method_10_code
def yy_Re_takeEcho : MethodName := ⟨"DagLedger$Replica", "takeEcho", "(II)V"⟩
abbrev cc_No_noteEcho : ByteArray := prog_7_method_2_code
def yy_No_noteEcho : MethodName := ⟨"DagLedger$Notes", "noteEcho", "(II)I"⟩
abbrev cc_Re_becomeReady : ByteArray := prog_8_method_12_code
def yy_Re_becomeReady : MethodName := ⟨"DagLedger$Replica", "becomeReady", "(I)V"⟩
abbrev cc_Re_takeReady : ByteArray := prog_8_method_11_code
def yy_Re_takeReady : MethodName := ⟨"DagLedger$Replica", "takeReady", "(II)V"⟩
abbrev cc_No_noteReady : ByteArray := prog_7_method_3_code
def yy_No_noteReady : MethodName := ⟨"DagLedger$Notes", "noteReady", "(II)I"⟩
abbrev cc_Re_act : ByteArray := prog_8_method_13_code
def yy_Re_act : MethodName := ⟨"DagLedger$Replica", "act", "()V"⟩
abbrev cc_Re_insertNext : ByteArray := prog_8_method_14_code
def yy_Re_insertNext : MethodName := ⟨"DagLedger$Replica", "insertNext", "()Z"⟩
abbrev cc_Dg_canTake : ByteArray := prog_5_method_5_code
def yy_Dg_canTake : MethodName := ⟨"DagLedger$Dag", "canTake", "(I)Z"⟩
abbrev cc_Dg_holds : ByteArray := prog_5_method_3_code
def yy_Dg_holds : MethodName := ⟨"DagLedger$Dag", "holds", "(II)Z"⟩
abbrev cc_Ve_comesBefore : ByteArray := prog_10_method_6_code
def yy_Ve_comesBefore : MethodName := ⟨"DagLedger$Vertices", "comesBefore", "(II)Z"⟩
abbrev cc_Dg_insert : ByteArray := prog_5_method_6_code
def yy_Dg_insert : MethodName := ⟨"DagLedger$Dag", "insert", "(I)V"⟩
abbrev cc_No_stopWaiting : ByteArray := prog_7_method_4_code
def yy_No_stopWaiting : MethodName := ⟨"DagLedger$Notes", "stopWaiting", "(I)V"⟩
abbrev cc_Co_commitNext : ByteArray := prog_4_method_2_code
def yy_Co_commitNext : MethodName := ⟨"DagLedger$Commits", "commitNext", "()Z"⟩
abbrev cc_Co_nextRound : ByteArray := prog_4_method_3_code
def yy_Co_nextRound : MethodName := ⟨"DagLedger$Commits", "nextRound", "()I"⟩
abbrev cc_Le_leaderOf : ByteArray := prog_1_method_22_code
def yy_Le_leaderOf : MethodName := ⟨"DagLedger", "leaderOf", "(I)I"⟩
abbrev cc_Dg_countStandingOn : ByteArray := prog_5_method_8_code
def yy_Dg_countStandingOn : MethodName := ⟨"DagLedger$Dag", "countStandingOn", "(II)I"⟩
abbrev cc_Co_leadersUnder : ByteArray := prog_4_method_4_code
def yy_Co_leadersUnder : MethodName := ⟨"DagLedger$Commits", "leadersUnder", "(I)I"⟩
abbrev cc_Dg_parentsOf : ByteArray := prog_5_method_7_code
def yy_Dg_parentsOf : MethodName := ⟨"DagLedger$Dag", "parentsOf", "(II)I"⟩
abbrev cc_Co_emit : ByteArray := prog_4_method_5_code
def yy_Co_emit : MethodName := ⟨"DagLedger$Commits", "emit", "(II)V"⟩
abbrev cc_Co_emitRound : ByteArray := prog_4_method_6_code
def yy_Co_emitRound : MethodName := ⟨"DagLedger$Commits", "emitRound", "(II)V"⟩
abbrev cc_Dg_find : ByteArray := prog_5_method_2_code
def yy_Dg_find : MethodName := ⟨"DagLedger$Dag", "find", "(II)I"⟩
abbrev cc_Bk_place : ByteArray := prog_3_method_2_code
def yy_Bk_place : MethodName := ⟨"DagLedger$Book", "place", "(I)V"⟩
abbrev cc_Re_advance : ByteArray := prog_8_method_15_code
def yy_Re_advance : MethodName := ⟨"DagLedger$Replica", "advance", "()Z"⟩
abbrev cc_Re_mayAdvance : ByteArray := prog_8_method_16_code
def yy_Re_mayAdvance : MethodName := ⟨"DagLedger$Replica", "mayAdvance", "()Z"⟩
abbrev cc_Dg_authorsOf : ByteArray := prog_5_method_4_code
def yy_Dg_authorsOf : MethodName := ⟨"DagLedger$Dag", "authorsOf", "(I)I"⟩
abbrev cc_Di_nextOfQueue : ByteArray := prog_6_method_4_code
def yy_Di_nextOfQueue : MethodName := ⟨"DagLedger$Disk", "nextOfQueue", "()I"⟩
abbrev cc_La_pump : ByteArray := method_5_code
def yy_La_pump : MethodName := ⟨"DagLedgerLaw", "pump", "(LDagLedger;II[J)I"⟩
abbrev cc_Le_pump : ByteArray := prog_1_method_4_code
def yy_Le_pump : MethodName := ⟨"DagLedger", "pump", "(II)I"⟩
abbrev cc_La_tick : ByteArray := method_6_code
def yy_La_tick : MethodName := ⟨"DagLedgerLaw", "tick", "(LDagLedger;I[J)I"⟩
abbrev cc_Le_tick : ByteArray := prog_1_method_5_code
def yy_Le_tick : MethodName := ⟨"DagLedger", "tick", "(I)Z"⟩
abbrev cc_Re_passTime : ByteArray := prog_8_method_7_code
def yy_Re_passTime : MethodName := ⟨"DagLedger$Replica", "passTime", "()V"⟩
abbrev cc_Ma_min : ByteArray := prog_17_method_69_code
def yy_Ma_min : MethodName := ⟨"java/lang/Math", "min", "(II)I"⟩
abbrev cc_La_crash : ByteArray := method_7_code
def yy_La_crash : MethodName := ⟨"DagLedgerLaw", "crash", "(LDagLedger;I[J)I"⟩
abbrev cc_Le_crash : ByteArray := prog_1_method_6_code
def yy_Le_crash : MethodName := ⟨"DagLedger", "crash", "(I)Z"⟩
abbrev cc_La_restart : ByteArray := method_8_code
def yy_La_restart : MethodName := ⟨"DagLedgerLaw", "restart", "(LDagLedger;I[J)I"⟩
abbrev cc_Le_restart : ByteArray := prog_1_method_7_code
def yy_Le_restart : MethodName := ⟨"DagLedger", "restart", "(I)Z"⟩
abbrev cc_Re_comeUp : ByteArray := prog_8_method_4_code
def yy_Re_comeUp : MethodName := ⟨"DagLedger$Replica", "comeUp", "()V"⟩
abbrev cc_Bk_open : ByteArray := prog_3_method_3_code
def yy_Bk_open : MethodName := ⟨"DagLedger$Book", "open", "()V"⟩
abbrev cc_La_cut : ByteArray := method_9_code
def yy_La_cut : MethodName := ⟨"DagLedgerLaw", "cut", "(LDagLedger;II[J)I"⟩
abbrev cc_Le_cut : ByteArray := prog_1_method_8_code
def yy_Le_cut : MethodName := ⟨"DagLedger", "cut", "(II)Z"⟩
abbrev cc_Re_setCut : ByteArray := prog_8_method_5_code
def yy_Re_setCut : MethodName := ⟨"DagLedger$Replica", "setCut", "(I)V"⟩
abbrev cc_La_corrupt : ByteArray := method_10_code
def yy_La_corrupt : MethodName := ⟨"DagLedgerLaw", "corrupt", "(LDagLedger;I[J)I"⟩
abbrev cc_Le_corrupt : ByteArray := prog_1_method_9_code
def yy_Le_corrupt : MethodName := ⟨"DagLedger", "corrupt", "(I)Z"⟩
abbrev cc_La_node : ByteArray := method_11_code
def yy_La_node : MethodName := ⟨"DagLedgerLaw", "node", "(LDagLedger;II[J)I"⟩
abbrev cc_Le_node : ByteArray := prog_1_method_14_code
def yy_Le_node : MethodName := ⟨"DagLedger", "node", "(II)I"⟩
abbrev cc_Di_queueLength : ByteArray := prog_6_method_3_code
def yy_Di_queueLength : MethodName := ⟨"DagLedger$Disk", "queueLength", "()I"⟩
abbrev cc_La_dag : ByteArray := method_12_code
def yy_La_dag : MethodName := ⟨"DagLedgerLaw", "dag", "(LDagLedger;III[J)I"⟩
abbrev cc_Le_dag : ByteArray := prog_1_method_15_code
def yy_Le_dag : MethodName := ⟨"DagLedger", "dag", "(III)I"⟩
abbrev cc_La_at : ByteArray := method_13_code
def yy_La_at : MethodName := ⟨"DagLedgerLaw", "at", "(LDagLedger;II[J)I"⟩
abbrev cc_Le_at : ByteArray := prog_1_method_16_code
def yy_Le_at : MethodName := ⟨"DagLedger", "at", "(II)I"⟩
abbrev cc_La_balance : ByteArray := method_14_code
def yy_La_balance : MethodName := ⟨"DagLedgerLaw", "balance", "(LDagLedger;II[J)I"⟩
abbrev cc_Le_balance : ByteArray := prog_1_method_17_code
def yy_Le_balance : MethodName := ⟨"DagLedger", "balance", "(II)I"⟩
abbrev cc_Mo_init : ByteArray := prog_12_method_1_code
def yy_Mo_init : MethodName := ⟨"DagLedgerModel", "<init>", "()V"⟩
abbrev cc_Mo_fresh : ByteArray := prog_12_method_4_code
def yy_Mo_fresh : MethodName := ⟨"DagLedgerModel", "fresh", "(I)V"⟩
abbrev cc_Mo_thrown : ByteArray := prog_12_method_2_code
def yy_Mo_thrown : MethodName := ⟨"DagLedgerModel", "thrown", "()I"⟩
abbrev cc_Mo_submit : ByteArray := prog_12_method_29_code
def yy_Mo_submit : MethodName := ⟨"DagLedgerModel", "submit", "(IIII)I"⟩
abbrev cc_Mo_isNode : ByteArray := prog_12_method_26_code
def yy_Mo_isNode : MethodName := ⟨"DagLedgerModel", "isNode", "(I)Z"⟩
abbrev cc_Mo_in : ByteArray := prog_12_method_3_code
def yy_Mo_in : MethodName := ⟨"DagLedgerModel", "in", "(III)Z"⟩
abbrev cc_Mo_record : ByteArray := prog_12_method_6_code
def yy_Mo_record : MethodName := ⟨"DagLedgerModel", "record", "(I)Z"⟩
abbrev cc_Mo_fall : ByteArray := prog_12_method_5_code
def yy_Mo_fall : MethodName := ⟨"DagLedgerModel", "fall", "(I)V"⟩
abbrev cc_Mo_deliver : ByteArray := prog_12_method_30_code
def yy_Mo_deliver : MethodName := ⟨"DagLedgerModel", "deliver", "(II)Z"⟩
abbrev cc_Mo_works : ByteArray := prog_12_method_27_code
def yy_Mo_works : MethodName := ⟨"DagLedgerModel", "works", "(I)Z"⟩
abbrev cc_Mo_full : ByteArray := prog_12_method_28_code
def yy_Mo_full : MethodName := ⟨"DagLedgerModel", "full", "()Z"⟩
abbrev cc_Mo_take : ByteArray := prog_12_method_11_code
def yy_Mo_take : MethodName := ⟨"DagLedgerModel", "take", "(II)V"⟩
abbrev cc_Mo_formed : ByteArray := prog_12_method_9_code
def yy_Mo_formed : MethodName := ⟨"DagLedgerModel", "formed", "(I)Z"⟩
abbrev cc_Mo_ones : ByteArray := prog_12_method_8_code
def yy_Mo_ones : MethodName := ⟨"DagLedgerModel", "ones", "(I)I"⟩
abbrev cc_Mo_spot : ByteArray := prog_12_method_10_code
def yy_Mo_spot : MethodName := ⟨"DagLedgerModel", "spot", "(II)I"⟩
abbrev cc_Mo_say : ByteArray := prog_12_method_7_code
def yy_Mo_say : MethodName := ⟨"DagLedgerModel", "say", "(III)I"⟩
abbrev cc_Mo_act : ByteArray := prog_12_method_12_code
def yy_Mo_act : MethodName := ⟨"DagLedgerModel", "act", "(I)V"⟩
abbrev cc_Mo_insertable : ByteArray := prog_12_method_14_code
def yy_Mo_insertable : MethodName := ⟨"DagLedgerModel", "insertable", "(I)I"⟩
abbrev cc_Mo_there : ByteArray := prog_12_method_13_code
def yy_Mo_there : MethodName := ⟨"DagLedgerModel", "there", "(II)I"⟩
abbrev cc_Mo_committable : ByteArray := prog_12_method_17_code
def yy_Mo_committable : MethodName := ⟨"DagLedgerModel", "committable", "(I)I"⟩
abbrev cc_Mo_leader : ByteArray := prog_12_method_15_code
def yy_Mo_leader : MethodName := ⟨"DagLedgerModel", "leader", "(I)I"⟩
abbrev cc_Mo_hasLeader : ByteArray := prog_12_method_16_code
def yy_Mo_hasLeader : MethodName := ⟨"DagLedgerModel", "hasLeader", "(II)Z"⟩
abbrev cc_Mo_commit : ByteArray := prog_12_method_19_code
def yy_Mo_commit : MethodName := ⟨"DagLedgerModel", "commit", "(II)V"⟩
abbrev cc_Mo_spread : ByteArray := prog_12_method_18_code
def yy_Mo_spread : MethodName := ⟨"DagLedgerModel", "spread", "(III)V"⟩
abbrev cc_Mo_emit : ByteArray := prog_12_method_20_code
def yy_Mo_emit : MethodName := ⟨"DagLedgerModel", "emit", "(II)V"⟩
abbrev cc_Mo_place : ByteArray := prog_12_method_21_code
def yy_Mo_place : MethodName := ⟨"DagLedgerModel", "place", "(II)V"⟩
abbrev cc_Mo_advances : ByteArray := prog_12_method_22_code
def yy_Mo_advances : MethodName := ⟨"DagLedgerModel", "advances", "(I)Z"⟩
abbrev cc_Mo_advance : ByteArray := prog_12_method_24_code
def yy_Mo_advance : MethodName := ⟨"DagLedgerModel", "advance", "(I)V"⟩
abbrev cc_Mo_queued : ByteArray := prog_12_method_23_code
def yy_Mo_queued : MethodName := ⟨"DagLedgerModel", "queued", "(II)I"⟩
abbrev cc_Mo_make : ByteArray := prog_12_method_25_code
def yy_Mo_make : MethodName := ⟨"DagLedgerModel", "make", "(IIIII)I"⟩
abbrev cc_Mo_pump : ByteArray := prog_12_method_31_code
def yy_Mo_pump : MethodName := ⟨"DagLedgerModel", "pump", "(II)I"⟩
abbrev cc_Mo_tick : ByteArray := prog_12_method_32_code
def yy_Mo_tick : MethodName := ⟨"DagLedgerModel", "tick", "(I)Z"⟩
abbrev cc_Mo_crash : ByteArray := prog_12_method_33_code
def yy_Mo_crash : MethodName := ⟨"DagLedgerModel", "crash", "(I)Z"⟩
abbrev cc_Mo_restart : ByteArray := prog_12_method_34_code
def yy_Mo_restart : MethodName := ⟨"DagLedgerModel", "restart", "(I)Z"⟩
abbrev cc_Mo_cut : ByteArray := prog_12_method_35_code
def yy_Mo_cut : MethodName := ⟨"DagLedgerModel", "cut", "(II)Z"⟩
abbrev cc_Mo_corrupt : ByteArray := prog_12_method_37_code
def yy_Mo_corrupt : MethodName := ⟨"DagLedgerModel", "corrupt", "(I)Z"⟩
abbrev cc_Mo_faulty : ByteArray := prog_12_method_36_code
def yy_Mo_faulty : MethodName := ⟨"DagLedgerModel", "faulty", "()I"⟩
abbrev cc_Mo_forge : ByteArray := prog_12_method_39_code
def yy_Mo_forge : MethodName := ⟨"DagLedgerModel", "forge", "(IIII)I"⟩
abbrev cc_Mo_isTransfer : ByteArray := prog_12_method_38_code
def yy_Mo_isTransfer : MethodName := ⟨"DagLedgerModel", "isTransfer", "(I)Z"⟩
abbrev cc_Mo_send : ByteArray := prog_12_method_40_code
def yy_Mo_send : MethodName := ⟨"DagLedgerModel", "send", "(II)I"⟩
abbrev cc_Mo_message : ByteArray := prog_12_method_41_code
def yy_Mo_message : MethodName := ⟨"DagLedgerModel", "message", "(II)I"⟩
abbrev cc_Mo_vertex : ByteArray := prog_12_method_42_code
def yy_Mo_vertex : MethodName := ⟨"DagLedgerModel", "vertex", "(II)I"⟩
abbrev cc_Mo_node : ByteArray := prog_12_method_43_code
def yy_Mo_node : MethodName := ⟨"DagLedgerModel", "node", "(II)I"⟩
abbrev cc_Mo_dag : ByteArray := prog_12_method_44_code
def yy_Mo_dag : MethodName := ⟨"DagLedgerModel", "dag", "(III)I"⟩
abbrev cc_Mo_at : ByteArray := prog_12_method_45_code
def yy_Mo_at : MethodName := ⟨"DagLedgerModel", "at", "(II)I"⟩
abbrev cc_Mo_balance : ByteArray := prog_12_method_46_code
def yy_Mo_balance : MethodName := ⟨"DagLedgerModel", "balance", "(II)I"⟩
def tt_Le : u_T := fun k => match k with
  | 0 => ("DagLedger", "transfers", "LDagLedger$Transfers;", true)
  | 1 => ("DagLedger", "vertices", "LDagLedger$Vertices;", true)
  | 2 => ("DagLedger", "board", "LDagLedger$Board;", true)
  | 3 => ("DagLedger", "replicas", "[LDagLedger$Replica;", true)
  | _ => ("DagLedger", "faulty", "I", false)
def ty_Le : Nat → FieldType := fun k => match k with
  | 0 => .object "DagLedger$Transfers"
  | 1 => .object "DagLedger$Vertices"
  | 2 => .object "DagLedger$Board"
  | 3 => .array (.object "DagLedger$Replica")
  | _ => .int
theorem nm_Le : ∀ a, a < 5 → ∀ b, b < 5 → a ≠ b → (tt_Le a).2.1 ≠ (tt_Le b).2.1 := by decide +kernel
theorem ty_Le_ok : ∀ k, k < 5 → parseFieldDescriptor (tt_Le k).2.2.1 = some (ty_Le k) := by decide +kernel
def tt_Tr : u_T := fun k => match k with
  | 0 => ("DagLedger$Transfers", "froms", "[I", true)
  | 1 => ("DagLedger$Transfers", "tos", "[I", true)
  | 2 => ("DagLedger$Transfers", "amounts", "[I", true)
  | _ => ("DagLedger$Transfers", "count", "I", false)
def ty_Tr : Nat → FieldType := fun k => match k with
  | 0 => .array .int
  | 1 => .array .int
  | 2 => .array .int
  | _ => .int
theorem nm_Tr : ∀ a, a < 4 → ∀ b, b < 4 → a ≠ b → (tt_Tr a).2.1 ≠ (tt_Tr b).2.1 := by decide +kernel
theorem ty_Tr_ok : ∀ k, k < 4 → parseFieldDescriptor (tt_Tr k).2.2.1 = some (ty_Tr k) := by decide +kernel
def tt_Ve : u_T := fun k => match k with
  | 0 => ("DagLedger$Vertices", "authors", "[I", true)
  | 1 => ("DagLedger$Vertices", "rounds", "[I", true)
  | 2 => ("DagLedger$Vertices", "parents", "[I", true)
  | 3 => ("DagLedger$Vertices", "firsts", "[I", true)
  | 4 => ("DagLedger$Vertices", "seconds", "[I", true)
  | _ => ("DagLedger$Vertices", "count", "I", false)
def ty_Ve : Nat → FieldType := fun k => match k with
  | 0 => .array .int
  | 1 => .array .int
  | 2 => .array .int
  | 3 => .array .int
  | 4 => .array .int
  | _ => .int
theorem nm_Ve : ∀ a, a < 6 → ∀ b, b < 6 → a ≠ b → (tt_Ve a).2.1 ≠ (tt_Ve b).2.1 := by decide +kernel
theorem ty_Ve_ok : ∀ k, k < 6 → parseFieldDescriptor (tt_Ve k).2.2.1 = some (ty_Ve k) := by decide +kernel
def tt_Bo : u_T := fun k => match k with
  | 0 => ("DagLedger$Board", "kinds", "[I", true)
  | 1 => ("DagLedger$Board", "senders", "[I", true)
  | 2 => ("DagLedger$Board", "subjects", "[I", true)
  | _ => ("DagLedger$Board", "count", "I", false)
def ty_Bo : Nat → FieldType := fun k => match k with
  | 0 => .array .int
  | 1 => .array .int
  | 2 => .array .int
  | _ => .int
theorem nm_Bo : ∀ a, a < 4 → ∀ b, b < 4 → a ≠ b → (tt_Bo a).2.1 ≠ (tt_Bo b).2.1 := by decide +kernel
theorem ty_Bo_ok : ∀ k, k < 4 → parseFieldDescriptor (tt_Bo k).2.2.1 = some (ty_Bo k) := by decide +kernel
def tt_Re : u_T := fun k => match k with
  | 0 => ("DagLedger$Replica", "id", "I", true)
  | 1 => ("DagLedger$Replica", "board", "LDagLedger$Board;", true)
  | 2 => ("DagLedger$Replica", "vertices", "LDagLedger$Vertices;", true)
  | 3 => ("DagLedger$Replica", "disk", "LDagLedger$Disk;", true)
  | 4 => ("DagLedger$Replica", "notes", "LDagLedger$Notes;", true)
  | 5 => ("DagLedger$Replica", "dag", "LDagLedger$Dag;", true)
  | 6 => ("DagLedger$Replica", "book", "LDagLedger$Book;", true)
  | 7 => ("DagLedger$Replica", "commits", "LDagLedger$Commits;", true)
  | 8 => ("DagLedger$Replica", "state", "I", false)
  | 9 => ("DagLedger$Replica", "mark", "I", false)
  | 10 => ("DagLedger$Replica", "timer", "I", false)
  | 11 => ("DagLedger$Replica", "cutIsSet", "Z", false)
  | _ => ("DagLedger$Replica", "recordsBeforeCut", "I", false)
def ty_Re : Nat → FieldType := fun k => match k with
  | 0 => .int
  | 1 => .object "DagLedger$Board"
  | 2 => .object "DagLedger$Vertices"
  | 3 => .object "DagLedger$Disk"
  | 4 => .object "DagLedger$Notes"
  | 5 => .object "DagLedger$Dag"
  | 6 => .object "DagLedger$Book"
  | 7 => .object "DagLedger$Commits"
  | 8 => .int
  | 9 => .int
  | 10 => .int
  | 11 => .boolean
  | _ => .int
theorem nm_Re : ∀ a, a < 13 → ∀ b, b < 13 → a ≠ b → (tt_Re a).2.1 ≠ (tt_Re b).2.1 := by decide +kernel
theorem ty_Re_ok : ∀ k, k < 13 → parseFieldDescriptor (tt_Re k).2.2.1 = some (ty_Re k) := by decide +kernel
def tt_Di : u_T := fun k => match k with
  | 0 => ("DagLedger$Disk", "own", "[I", true)
  | 1 => ("DagLedger$Disk", "ownCount", "I", false)
  | 2 => ("DagLedger$Disk", "queueHead", "I", false)
  | 3 => ("DagLedger$Disk", "echoedRounds", "[I", true)
  | 4 => ("DagLedger$Disk", "readiedRounds", "[I", true)
  | 5 => ("DagLedger$Disk", "round", "I", false)
  | _ => ("DagLedger$Disk", "records", "I", false)
def ty_Di : Nat → FieldType := fun k => match k with
  | 0 => .array .int
  | 1 => .int
  | 2 => .int
  | 3 => .array .int
  | 4 => .array .int
  | 5 => .int
  | _ => .int
theorem nm_Di : ∀ a, a < 7 → ∀ b, b < 7 → a ≠ b → (tt_Di a).2.1 ≠ (tt_Di b).2.1 := by decide +kernel
theorem ty_Di_ok : ∀ k, k < 7 → parseFieldDescriptor (tt_Di k).2.2.1 = some (ty_Di k) := by decide +kernel
def tt_No : u_T := fun k => match k with
  | 0 => ("DagLedger$Notes", "echoes", "[I", true)
  | 1 => ("DagLedger$Notes", "readies", "[I", true)
  | 2 => ("DagLedger$Notes", "waiting", "[I", true)
  | _ => ("DagLedger$Notes", "waitingCount", "I", false)
def ty_No : Nat → FieldType := fun k => match k with
  | 0 => .array .int
  | 1 => .array .int
  | 2 => .array .int
  | _ => .int
theorem nm_No : ∀ a, a < 4 → ∀ b, b < 4 → a ≠ b → (tt_No a).2.1 ≠ (tt_No b).2.1 := by decide +kernel
theorem ty_No_ok : ∀ k, k < 4 → parseFieldDescriptor (tt_No k).2.2.1 = some (ty_No k) := by decide +kernel
def tt_Dg : u_T := fun k => match k with
  | 0 => ("DagLedger$Dag", "vertices", "LDagLedger$Vertices;", true)
  | 1 => ("DagLedger$Dag", "slots", "[I", true)
  | 2 => ("DagLedger$Dag", "authorSets", "[I", true)
  | _ => ("DagLedger$Dag", "count", "I", false)
def ty_Dg : Nat → FieldType := fun k => match k with
  | 0 => .object "DagLedger$Vertices"
  | 1 => .array .int
  | 2 => .array .int
  | _ => .int
theorem nm_Dg : ∀ a, a < 4 → ∀ b, b < 4 → a ≠ b → (tt_Dg a).2.1 ≠ (tt_Dg b).2.1 := by decide +kernel
theorem ty_Dg_ok : ∀ k, k < 4 → parseFieldDescriptor (tt_Dg k).2.2.1 = some (ty_Dg k) := by decide +kernel
def tt_Bk : u_T := fun k => match k with
  | 0 => ("DagLedger$Book", "transfers", "LDagLedger$Transfers;", true)
  | 1 => ("DagLedger$Book", "order", "[I", true)
  | 2 => ("DagLedger$Book", "count", "I", false)
  | 3 => ("DagLedger$Book", "placed", "J", false)
  | _ => ("DagLedger$Book", "balances", "[I", true)
def ty_Bk : Nat → FieldType := fun k => match k with
  | 0 => .object "DagLedger$Transfers"
  | 1 => .array .int
  | 2 => .int
  | 3 => .long
  | _ => .array .int
theorem nm_Bk : ∀ a, a < 5 → ∀ b, b < 5 → a ≠ b → (tt_Bk a).2.1 ≠ (tt_Bk b).2.1 := by decide +kernel
theorem ty_Bk_ok : ∀ k, k < 5 → parseFieldDescriptor (tt_Bk k).2.2.1 = some (ty_Bk k) := by decide +kernel
def tt_Co : u_T := fun k => match k with
  | 0 => ("DagLedger$Commits", "vertices", "LDagLedger$Vertices;", true)
  | 1 => ("DagLedger$Commits", "dag", "LDagLedger$Dag;", true)
  | 2 => ("DagLedger$Commits", "book", "LDagLedger$Book;", true)
  | 3 => ("DagLedger$Commits", "emitted", "[I", true)
  | 4 => ("DagLedger$Commits", "reached", "[I", true)
  | _ => ("DagLedger$Commits", "last", "I", false)
def ty_Co : Nat → FieldType := fun k => match k with
  | 0 => .object "DagLedger$Vertices"
  | 1 => .object "DagLedger$Dag"
  | 2 => .object "DagLedger$Book"
  | 3 => .array .int
  | 4 => .array .int
  | _ => .int
theorem nm_Co : ∀ a, a < 6 → ∀ b, b < 6 → a ≠ b → (tt_Co a).2.1 ≠ (tt_Co b).2.1 := by decide +kernel
theorem ty_Co_ok : ∀ k, k < 6 → parseFieldDescriptor (tt_Co k).2.2.1 = some (ty_Co k) := by decide +kernel
def tt_Mo : u_T := fun k => match k with
  | 0 => ("DagLedgerModel", "thrown", "I", false)
  | 1 => ("DagLedgerModel", "transfers", "I", false)
  | 2 => ("DagLedgerModel", "from", "[I", true)
  | 3 => ("DagLedgerModel", "to", "[I", true)
  | 4 => ("DagLedgerModel", "amount", "[I", true)
  | 5 => ("DagLedgerModel", "owner", "[I", true)
  | 6 => ("DagLedgerModel", "placed", "[Z", true)
  | 7 => ("DagLedgerModel", "vertices", "I", false)
  | 8 => ("DagLedgerModel", "author", "[I", true)
  | 9 => ("DagLedgerModel", "round", "[I", true)
  | 10 => ("DagLedgerModel", "parents", "[I", true)
  | 11 => ("DagLedgerModel", "first", "[I", true)
  | 12 => ("DagLedgerModel", "second", "[I", true)
  | 13 => ("DagLedgerModel", "messages", "I", false)
  | 14 => ("DagLedgerModel", "sender", "[I", true)
  | 15 => ("DagLedgerModel", "about", "[I", true)
  | 16 => ("DagLedgerModel", "kind", "[I", true)
  | 17 => ("DagLedgerModel", "state", "[I", true)
  | 18 => ("DagLedgerModel", "records", "[I", true)
  | 19 => ("DagLedgerModel", "cutAt", "[I", true)
  | 20 => ("DagLedgerModel", "made", "[I", true)
  | 21 => ("DagLedgerModel", "echoed", "[Z", true)
  | 22 => ("DagLedgerModel", "readied", "[Z", true)
  | 23 => ("DagLedgerModel", "timer", "[I", true)
  | 24 => ("DagLedgerModel", "mark", "[I", true)
  | 25 => ("DagLedgerModel", "last", "[I", true)
  | 26 => ("DagLedgerModel", "dag", "[I", true)
  | 27 => ("DagLedgerModel", "echoes", "[I", true)
  | 28 => ("DagLedgerModel", "readies", "[I", true)
  | 29 => ("DagLedgerModel", "emitted", "[Z", true)
  | 30 => ("DagLedgerModel", "order", "[I", true)
  | 31 => ("DagLedgerModel", "positions", "[I", true)
  | 32 => ("DagLedgerModel", "balances", "[I", true)
  | 33 => ("DagLedgerModel", "reach", "[I", true)
  | _ => ("DagLedgerModel", "wasDown", "Z", false)
def ty_Mo : Nat → FieldType := fun k => match k with
  | 0 => .int
  | 1 => .int
  | 2 => .array .int
  | 3 => .array .int
  | 4 => .array .int
  | 5 => .array .int
  | 6 => .array .boolean
  | 7 => .int
  | 8 => .array .int
  | 9 => .array .int
  | 10 => .array .int
  | 11 => .array .int
  | 12 => .array .int
  | 13 => .int
  | 14 => .array .int
  | 15 => .array .int
  | 16 => .array .int
  | 17 => .array .int
  | 18 => .array .int
  | 19 => .array .int
  | 20 => .array .int
  | 21 => .array .boolean
  | 22 => .array .boolean
  | 23 => .array .int
  | 24 => .array .int
  | 25 => .array .int
  | 26 => .array .int
  | 27 => .array .int
  | 28 => .array .int
  | 29 => .array .boolean
  | 30 => .array .int
  | 31 => .array .int
  | 32 => .array .int
  | 33 => .array .int
  | _ => .boolean
theorem nm_Mo : ∀ a, a < 35 → ∀ b, b < 35 → a ≠ b → (tt_Mo a).2.1 ≠ (tt_Mo b).2.1 := by decide +kernel
theorem ty_Mo_ok : ∀ k, k < 35 → parseFieldDescriptor (tt_Mo k).2.2.1 = some (ty_Mo k) := by decide +kernel
def wd_cl : List vw_C := [("DagLedger", tt_Le, 5), ("DagLedger$Transfers", tt_Tr, 4), ("DagLedger$Vertices", tt_Ve, 6), ("DagLedger$Board", tt_Bo, 4), ("DagLedger$Replica", tt_Re, 13), ("DagLedger$Disk", tt_Di, 7), ("DagLedger$Notes", tt_No, 4), ("DagLedger$Dag", tt_Dg, 4), ("DagLedger$Book", tt_Bk, 5), ("DagLedger$Commits", tt_Co, 6), ("DagLedgerModel", tt_Mo, 35)]
abbrev wd_R : String := "DagLedger$Replica"
def wd_kd : Nat → Nat × Nat × List (Nat × Nat)
  | 0 => (4, 0, [(2, 1), (2, 5), (2, 11), (2, 15), (0, 0)])
  | 1 => (4, 1, [(2, 2), (2, 3), (2, 4), (0, 0)])
  | 2 => (0, 40, [])
  | 3 => (0, 40, [])
  | 4 => (0, 40, [])
  | 5 => (4, 2, [(2, 6), (2, 7), (2, 8), (2, 9), (2, 10), (0, 0)])
  | 6 => (0, 90, [])
  | 7 => (0, 90, [])
  | 8 => (0, 90, [])
  | 9 => (0, 90, [])
  | 10 => (0, 90, [])
  | 11 => (4, 3, [(2, 12), (2, 13), (2, 14), (0, 0)])
  | 12 => (0, 802, [])
  | 13 => (0, 802, [])
  | 14 => (0, 802, [])
  | 15 => (3, 4, [(0, 16)])
  | 16 => (4, 4, [(0, 0), (2, 11), (2, 5), (3, 17), (3, 21), (3, 25), (3, 28), (3, 31), (0, 0), (0, 0), (0, 0), (0, 0), (0, 0)])
  | 17 => (4, 5, [(3, 18), (0, 0), (0, 0), (3, 19), (3, 20), (0, 0), (0, 0)])
  | 18 => (0, 40, [])
  | 19 => (0, 4, [])
  | 20 => (0, 4, [])
  | 21 => (4, 6, [(3, 22), (3, 23), (3, 24), (0, 0)])
  | 22 => (0, 90, [])
  | 23 => (0, 90, [])
  | 24 => (0, 90, [])
  | 25 => (4, 7, [(2, 5), (3, 26), (3, 27), (0, 0)])
  | 26 => (0, 64, [])
  | 27 => (0, 16, [])
  | 28 => (4, 8, [(2, 1), (3, 29), (0, 0), (1, 0), (3, 30)])
  | 29 => (0, 40, [])
  | 30 => (0, 4, [])
  | 31 => (4, 9, [(2, 5), (3, 25), (3, 28), (3, 32), (3, 33), (0, 0)])
  | 32 => (0, 15, [])
  | 33 => (0, 15, [])
  | 34 => (4, 10, [(0, 0), (0, 0), (2, 35), (2, 36), (2, 37), (2, 38), (2, 39), (0, 0), (2, 40), (2, 41), (2, 42), (2, 43), (2, 44), (0, 0), (2, 45), (2, 46), (2, 47), (2, 48), (2, 49), (2, 50), (2, 51), (2, 52), (2, 53), (2, 54), (2, 55), (2, 56), (2, 57), (2, 58), (2, 59), (2, 60), (2, 61), (2, 62), (2, 63), (2, 64), (0, 0)])
  | 35 => (0, 40, [])
  | 36 => (0, 40, [])
  | 37 => (0, 40, [])
  | 38 => (0, 40, [])
  | 39 => (1, 40, [])
  | 40 => (0, 90, [])
  | 41 => (0, 90, [])
  | 42 => (0, 90, [])
  | 43 => (0, 90, [])
  | 44 => (0, 90, [])
  | 45 => (0, 840, [])
  | 46 => (0, 840, [])
  | 47 => (0, 840, [])
  | 48 => (0, 4, [])
  | 49 => (0, 4, [])
  | 50 => (0, 4, [])
  | 51 => (0, 4, [])
  | 52 => (1, 240, [])
  | 53 => (1, 240, [])
  | 54 => (0, 4, [])
  | 55 => (0, 4, [])
  | 56 => (0, 4, [])
  | 57 => (0, 240, [])
  | 58 => (0, 360, [])
  | 59 => (0, 360, [])
  | 60 => (1, 360, [])
  | 61 => (0, 160, [])
  | 62 => (0, 4, [])
  | 63 => (0, 16, [])
  | 64 => (0, 16, [])
  | 65 => (2, 1, [])
  | _ => (5, 0, [])
def wd_all : List Nat := [0, 4, 8, 12, 16, 20, 24, 28, 32, 36, 40, 44, 48, 52, 56, 60, 64, 65, 66, 67, 68, 69, 70, 71, 72, 73, 74, 75, 76, 77, 78, 79, 80, 81, 82, 83, 84, 85, 86, 87, 88, 89, 90, 91, 92, 93, 94, 95, 96, 97, 98, 99, 100, 101, 102, 103, 104, 105, 106, 107, 108, 109, 110, 111, 112, 113, 114, 115, 116, 117, 118, 119, 120, 121, 122, 123, 124, 125, 126, 127, 128, 129, 130, 131, 132, 133, 134, 135, 136, 140, 144, 148, 152, 156, 160, 164, 168, 172, 176, 180, 184, 188, 192, 196, 200, 204, 208, 212, 216, 220, 224, 228, 232, 236, 240, 244, 248, 252, 256, 260]
theorem wd_nd : wd_all.Nodup := by decide +kernel
def wd_tb : List Cond := lw_tbl.filter goodWord
theorem wd_good : ∀ w ∈ wd_tb, (w.onTables && w.keeps) = true ∨ ∃ ty, w = .arrayClass ty := fun w hw => good_of_word (List.mem_filter.mp hw).2
theorem wd_in {w : Cond} (h : w ∈ tables_1) (hg : goodWord w = true) : w ∈ wd_tb := List.mem_filter.mpr ⟨List.mem_append_right _ h, hg⟩
theorem wd_se {w : Cond} (h : w ∈ k2_sels lw_privs) (hg : goodWord w = true) : w ∈ wd_tb := List.mem_filter.mpr ⟨List.mem_append_left _ h, hg⟩
theorem wd_c0 {w : Cond} (h : w ∈ tables_1_1) : w ∈ tables_1 := by
  show w ∈ tables_1_1 ++ (tables_1_2 ++ (tables_1_3 ++ (tables_1_4 ++ (tables_1_5))))
  exact (List.mem_append_left _ h)
theorem wd_c1 {w : Cond} (h : w ∈ tables_1_2) : w ∈ tables_1 := by
  show w ∈ tables_1_1 ++ (tables_1_2 ++ (tables_1_3 ++ (tables_1_4 ++ (tables_1_5))))
  exact (List.mem_append_right _ (List.mem_append_left _ h))
theorem wd_c2 {w : Cond} (h : w ∈ tables_1_3) : w ∈ tables_1 := by
  show w ∈ tables_1_1 ++ (tables_1_2 ++ (tables_1_3 ++ (tables_1_4 ++ (tables_1_5))))
  exact (List.mem_append_right _ (List.mem_append_right _ (List.mem_append_left _ h)))
theorem wd_c3 {w : Cond} (h : w ∈ tables_1_4) : w ∈ tables_1 := by
  show w ∈ tables_1_1 ++ (tables_1_2 ++ (tables_1_3 ++ (tables_1_4 ++ (tables_1_5))))
  exact (List.mem_append_right _ (List.mem_append_right _ (List.mem_append_right _ (List.mem_append_left _ h))))
theorem wd_c4 {w : Cond} (h : w ∈ tables_1_5) : w ∈ tables_1 := by
  show w ∈ tables_1_1 ++ (tables_1_2 ++ (tables_1_3 ++ (tables_1_4 ++ (tables_1_5))))
  exact (List.mem_append_right _ (List.mem_append_right _ (List.mem_append_right _ (List.mem_append_right _ h))))
def wd_nb : List Cond := [(Cond.methodLinkNest "DagLedger" (11 : Nat) ({ cls := "DagLedger$Transfers", name := "<init>", desc := "()V" } : MethodName) "DagLedger"), (Cond.methodLinkNest "DagLedger" (18 : Nat) ({ cls := "DagLedger$Vertices", name := "<init>", desc := "()V" } : MethodName) "DagLedger"), (Cond.methodLinkNest "DagLedger" (25 : Nat) ({ cls := "DagLedger$Board", name := "<init>", desc := "()V" } : MethodName) "DagLedger"), (Cond.methodLinkNest "DagLedger$Replica" (11 : Nat) ({ cls := "DagLedger$Disk", name := "<init>", desc := "()V" } : MethodName) "DagLedger"), (Cond.methodLinkNest "DagLedger$Replica" (20 : Nat) ({ cls := "DagLedger$Notes", name := "<init>", desc := "()V" } : MethodName) "DagLedger"), (Cond.methodLinkNest "DagLedger$Replica" (141 : Nat) ({ cls := "DagLedger", name := "contains", desc := "(II)Z" } : MethodName) "DagLedger"), (Cond.methodLinkNest "DagLedger$Commits" (46 : Nat) ({ cls := "DagLedger", name := "leaderOf", desc := "(I)I" } : MethodName) "DagLedger"), (Cond.methodLinkNest "DagLedger$Dag" (51 : Nat) ({ cls := "DagLedger", name := "contains", desc := "(II)Z" } : MethodName) "DagLedger"), (Cond.methodLinkNest "DagLedger$Commits" (42 : Nat) ({ cls := "DagLedger", name := "contains", desc := "(II)Z" } : MethodName) "DagLedger"), (Cond.methodLinkNest "DagLedger$Replica" (225 : Nat) ({ cls := "DagLedger", name := "leaderOf", desc := "(I)I" } : MethodName) "DagLedger")]
theorem wd_nb_in : ∀ w ∈ wd_nb, w ∈ tables_1 := List.forall_mem_cons.mpr ⟨wd_c0 (List.mem_of_getElem? (i := 30) rfl), List.forall_mem_cons.mpr ⟨wd_c0 (List.mem_of_getElem? (i := 53) rfl), List.forall_mem_cons.mpr ⟨wd_c0 (List.mem_of_getElem? (i := 90) rfl), List.forall_mem_cons.mpr ⟨wd_c0 (List.mem_of_getElem? (i := 122) rfl), List.forall_mem_cons.mpr ⟨wd_c0 (List.mem_of_getElem? (i := 154) rfl), List.forall_mem_cons.mpr ⟨wd_c2 (List.mem_of_getElem? (i := 49) rfl), List.forall_mem_cons.mpr ⟨wd_c2 (List.mem_of_getElem? (i := 113) rfl), List.forall_mem_cons.mpr ⟨wd_c2 (List.mem_of_getElem? (i := 121) rfl), List.forall_mem_cons.mpr ⟨wd_c2 (List.mem_of_getElem? (i := 130) rfl), List.forall_mem_cons.mpr ⟨wd_c2 (List.mem_of_getElem? (i := 162) rfl), fun _ h => absurd h List.not_mem_nil⟩⟩⟩⟩⟩⟩⟩⟩⟩⟩
end
section
/-! The clean layer: the machine's walk W seen through ONE world (all cells of the class, of the reference and of the law's out array): cells have numbers, their int contents are σ, their long contents τ; addresses stay behind g. -/
abbrev wd_G : Type := (Nat → Nat) × va_G × (Nat → ClassId)
abbrev wd_S : Type := Nat → Nat → Int32
abbrev wd_L : Type := Nat → Nat → Int64
/-- a value of the clean layer: .ref k is cell number k, .retAddr a is a cell outside the world -/
def cw_v (ad : Nat → Nat) : Value → Value
  | .ref k => .ref (ad k)
  | .retAddr a => .ref a
  | .int x => .int x
  | .long x => .long x
  | .float x => .float x
  | .double x => .double x
  | .null => .null
def cw_up (σ : wd_S) (c k : Nat) (x : Int32) : wd_S := fun c' k' => if c' = c ∧ k' = k then x else σ c' k'
def cw_uq (τ : wd_L) (c k : Nat) (x : Int64) : wd_L := fun c' k' => if c' = c ∧ k' = k then x else τ c' k'
theorem cw_up_eq (σ : wd_S) (c k : Nat) (x : Int32) : cw_up σ c k x c k = x := by simp [cw_up]
theorem cw_up_ne {σ : wd_S} {c k c' k' : Nat} {x : Int32} (h : ¬ (c' = c ∧ k' = k)) : cw_up σ c k x c' k' = σ c' k' := by simp [cw_up, h]
theorem cw_up_nc {σ : wd_S} {c k c' k' : Nat} {x : Int32} (h : c' ≠ c) : cw_up σ c k x c' k' = σ c' k' := by simp [cw_up, h]
theorem cw_up_nk {σ : wd_S} {c k c' k' : Nat} {x : Int32} (h : k' ≠ k) : cw_up σ c k x c' k' = σ c' k' := by simp [cw_up, h]
theorem cw_up_c {σ : wd_S} {c k c' : Nat} {x : Int32} (h : c' ≠ c) : cw_up σ c k x c' = σ c' := by funext k'; simp [cw_up, h]
theorem cw_up_u (σ : wd_S) (c k : Nat) (x : Int32) : cw_up σ c k x c = upd (σ c) k x := by funext k'; simp [cw_up, upd]
theorem cw_uq_c {τ : wd_L} {c k c' : Nat} {x : Int64} (h : c' ≠ c) : cw_uq τ c k x c' = τ c' := by funext k'; simp [cw_uq, h]
theorem cw_uq_u (τ : wd_L) (c k : Nat) (x : Int64) : cw_uq τ c k x c = vp_updL (τ c) k x := by funext k'; simp [cw_uq, vp_updL]
/-- a field: kind 0 an int, 1 a long, 2 the one cell of kind j, 3 the cell of kind j of the same number -/
def wd_fv (c : Nat) (σ : wd_S) (τ : wd_L) (k : Nat) (f : Nat × Nat) : Value :=
  match f.1 with
  | 0 => .int (σ c k)
  | 1 => .long (τ c k)
  | 2 => .ref (4 * f.2)
  | _ => .ref (4 * f.2 + c % 4)
def wd_fs (c : Nat) (σ : wd_S) (τ : wd_L) (fl : List (Nat × Nat)) : List Value := fl.zipIdx.map (fun q => wd_fv c σ τ q.2 q.1)
theorem wd_fs_at {c k : Nat} {σ : wd_S} {τ : wd_L} {fl : List (Nat × Nat)} {f : Nat × Nat} (h : fl[k]? = some f) : (wd_fs c σ τ fl)[k]? = some (wd_fv c σ τ k f) := by
  simp [wd_fs, List.getElem?_zipIdx, h]
theorem wd_fs_len (c : Nat) (σ : wd_S) (τ : wd_L) (fl : List (Nat × Nat)) : (wd_fs c σ τ fl).length = fl.length := by simp [wd_fs]
theorem wd_fs_up {c k j : Nat} {σ : wd_S} {τ : wd_L} {fl : List (Nat × Nat)} {x : Int32} (h : fl[k]? = some (0, j)) : (wd_fs c σ τ fl).set k (.int x) = wd_fs c (cw_up σ c k x) τ fl := by
  apply List.ext_getElem?
  intro i
  rw [List.getElem?_set]
  by_cases hi : k = i
  · subst hi
    have hl : k < fl.length := (List.getElem?_eq_some_iff.mp h).1
    rw [if_pos rfl, if_pos (by rw [wd_fs_len]; exact hl), wd_fs_at h]
    simp [wd_fv, cw_up]
  · rw [if_neg hi]
    cases hf : fl[i]? with
    | none => simp [wd_fs, List.getElem?_zipIdx, hf]
    | some f =>
      rw [wd_fs_at hf, wd_fs_at hf]
      have e : cw_up σ c k x c i = σ c i := cw_up_nk (fun q => hi q.symm)
      simp only [wd_fv, e]
theorem wd_fs_uq {c k j : Nat} {σ : wd_S} {τ : wd_L} {fl : List (Nat × Nat)} {x : Int64} (h : fl[k]? = some (1, j)) : (wd_fs c σ τ fl).set k (.long x) = wd_fs c σ (cw_uq τ c k x) fl := by
  apply List.ext_getElem?
  intro i
  rw [List.getElem?_set]
  by_cases hi : k = i
  · subst hi
    have hl : k < fl.length := (List.getElem?_eq_some_iff.mp h).1
    rw [if_pos rfl, if_pos (by rw [wd_fs_len]; exact hl), wd_fs_at h]
    simp [wd_fv, cw_uq]
  · rw [if_neg hi]
    cases hf : fl[i]? with
    | none => simp [wd_fs, List.getElem?_zipIdx, hf]
    | some f =>
      rw [wd_fs_at hf, wd_fs_at hf]
      have hne : i ≠ k := fun q => hi q.symm
      have e : cw_uq τ c k x c i = τ c i := by simp [cw_uq, hne]
      simp only [wd_fv, e]
/-- the cell number c, as the machine has it -/
def wd_ce (g : wd_G) (σ : wd_S) (τ : wd_L) (c : Nat) : va_E :=
  match wd_kd (c / 4) with
  | (0, n, _) => .inl (g.2.2 0, n, .inl (σ c))
  | (1, n, _) => .inl (g.2.2 1, n, .inl (σ c))
  | (2, n, _) => .inl (g.2.2 2, n, .inr (.inl (τ c)))
  | (3, n, fl) => .inl (g.2.2 3, n, .inr (.inr (.inr (.inr (fun i => some (g.1 (4 * (fl.headD (0, 0)).2 + i)))))))
  | (_, ci, fl) => .inr (ci, (wd_fs c σ τ fl).map (cw_v g.1))
theorem wd_ce_i {g : wd_G} {σ : wd_S} {τ : wd_L} {c n : Nat} {fl : List (Nat × Nat)} (h : wd_kd (c / 4) = (0, n, fl)) : wd_ce g σ τ c = .inl (g.2.2 0, n, .inl (σ c)) := by simp only [wd_ce, h]
theorem wd_ce_z {g : wd_G} {σ : wd_S} {τ : wd_L} {c n : Nat} {fl : List (Nat × Nat)} (h : wd_kd (c / 4) = (1, n, fl)) : wd_ce g σ τ c = .inl (g.2.2 1, n, .inl (σ c)) := by simp only [wd_ce, h]
theorem wd_ce_l {g : wd_G} {σ : wd_S} {τ : wd_L} {c n : Nat} {fl : List (Nat × Nat)} (h : wd_kd (c / 4) = (2, n, fl)) : wd_ce g σ τ c = .inl (g.2.2 2, n, .inr (.inl (τ c))) := by simp only [wd_ce, h]
theorem wd_ce_r {g : wd_G} {σ : wd_S} {τ : wd_L} {c n : Nat} {fl : List (Nat × Nat)} (h : wd_kd (c / 4) = (3, n, fl)) : wd_ce g σ τ c = .inl (g.2.2 3, n, .inr (.inr (.inr (.inr (fun i => some (g.1 (4 * (fl.headD (0, 0)).2 + i))))))) := by simp only [wd_ce, h]
theorem wd_ce_o {g : wd_G} {σ : wd_S} {τ : wd_L} {c n : Nat} {fl : List (Nat × Nat)} (h : wd_kd (c / 4) = (4, n, fl)) : wd_ce g σ τ c = .inr (n, (wd_fs c σ τ fl).map (cw_v g.1)) := by simp only [wd_ce, h]
theorem wd_fs_ext {c : Nat} {σ σ' : wd_S} {τ τ' : wd_L} (h1 : σ' c = σ c) (h2 : τ' c = τ c) (fl : List (Nat × Nat)) : wd_fs c σ' τ' fl = wd_fs c σ τ fl := by
  unfold wd_fs
  congr 1
  funext q
  simp only [wd_fv, h1, h2]
theorem wd_ce_ext {g : wd_G} {σ σ' : wd_S} {τ τ' : wd_L} {c : Nat} (h1 : σ' c = σ c) (h2 : τ' c = τ c) : wd_ce g σ' τ' c = wd_ce g σ τ c := by
  simp only [wd_ce, h1, h2, wd_fs_ext h1 h2]
def wd_w (ids : List Nat) (g : wd_G) (σ : wd_S) (τ : wd_L) : va_W := ids.map (fun c => (g.1 c, wd_ce g σ τ c))
theorem wd_at {ids : List Nat} {g : wd_G} {σ : wd_S} {τ : wd_L} {i c : Nat} (h : ids[i]? = some c) : (wd_w ids g σ τ)[i]? = some (g.1 c, wd_ce g σ τ c) := by simp [wd_w, h]
theorem wd_inj {ids : List Nat} (hn : ids.Nodup) {i j c : Nat} (h1 : ids[i]? = some c) (h2 : ids[j]? = some c) : i = j := by
  obtain ⟨a1, b1⟩ := List.getElem?_eq_some_iff.mp h1
  obtain ⟨a2, b2⟩ := List.getElem?_eq_some_iff.mp h2
  have hp := List.pairwise_iff_getElem.mp hn
  rcases Nat.lt_trichotomy i j with h | h | h
  · exact absurd (b1.trans b2.symm) (hp i j a1 a2 h)
  · exact h
  · exact absurd (b2.trans b1.symm) (hp j i a2 a1 h)
theorem wd_set {ids : List Nat} (hn : ids.Nodup) {g : wd_G} {σ σ' : wd_S} {τ τ' : wd_L} {i c : Nat} {x : va_E} (h : ids[i]? = some c) (hs : ∀ c', c' ≠ c → σ' c' = σ c') (ht : ∀ c', c' ≠ c → τ' c' = τ c') (hx : x = wd_ce g σ' τ' c) : (wd_w ids g σ τ).set i (g.1 c, x) = wd_w ids g σ' τ' := by
  apply List.ext_getElem?
  intro j
  rw [List.getElem?_set]
  by_cases hj : i = j
  · subst hj
    rw [if_pos rfl, wd_at h, if_pos (by have := (List.getElem?_eq_some_iff.mp (wd_at (g := g) (σ := σ) (τ := τ) h)).1; exact this), hx]
  · rw [if_neg hj]
    cases hc : ids[j]? with
    | none => simp [wd_w, hc]
    | some c' =>
      have hne : c' ≠ c := fun q => hj (wd_inj hn h (q ▸ hc))
      rw [wd_at hc, wd_at hc, wd_ce_ext (hs c' hne) (ht c' hne)]
theorem wd_D {ids : List Nat} {A : Nat → Prop} {g : wd_G} {σ σ' : wd_S} {τ τ' : wd_L} (h : va_D A (wd_w ids g σ τ)) : va_D A (wd_w ids g σ' τ') := by
  have key : ∀ (i : Nat) (q : Nat × va_E), (wd_w ids g σ' τ')[i]? = some q → ∃ q', (wd_w ids g σ τ)[i]? = some q' ∧ q'.1 = q.1 := by
    intro i q hq
    cases hc : ids[i]? with
    | none => simp [wd_w, hc] at hq
    | some c =>
      rw [wd_at hc] at hq
      cases hq
      exact ⟨_, wd_at hc, rfl⟩
  refine ⟨fun i j a b ha hb hab => ?_, fun k q hk => ?_⟩
  · obtain ⟨a', ha', ea⟩ := key i a ha
    obtain ⟨b', hb', eb⟩ := key j b hb
    exact h.1 i j a' b' ha' hb' (by rw [ea, eb]; exact hab)
  · obtain ⟨q', hq', eq'⟩ := key k q hk
    rw [← eq']
    exact h.2 k q' hq'
abbrev wd_ty (g : wd_G) : List (ClassId × FieldType) := [(g.2.2 0, .int), (g.2.2 1, .boolean), (g.2.2 2, .long), (g.2.2 3, .object wd_R)]
/-- cell c is there, and of that kind -/
def wd_is (ids : List Nat) (c : Nat) (k : Nat × Nat × List (Nat × Nat)) : Prop := c ∈ ids ∧ wd_kd (c / 4) = k
/-- the locals, as far as they are known -/
def cw_lh (ad : Nat → Nat) (nL : Nat) (ls : List (Option Value)) (la : Array Slot) : Prop := la.size = nL ∧ lv_wf la ∧ ∀ (i : Nat) (v : Value), ls[i]? = some (some v) → la[i]? = some (.val (cw_v ad v)) ∧ (cw_v ad v).category = 1
def cw_pr (ad : Nat → Nat) (ls : List (Option Value)) : List (Nat × Value) := (List.range ls.length).filterMap (fun i => match ls[i]? with | some (some v) => some (i, cw_v ad v) | _ => none)
theorem cw_pr_mem {ad : Nat → Nat} {ls : List (Option Value)} {q : Nat × Value} : q ∈ cw_pr ad ls ↔ ∃ v, ls[q.1]? = some (some v) ∧ q.2 = cw_v ad v := by
  unfold cw_pr
  rw [List.mem_filterMap]
  constructor
  · rintro ⟨i, hi, h⟩
    split at h
    · rename_i v hv
      cases h
      exact ⟨v, hv, rfl⟩
    · cases h
  · rintro ⟨v, hv, h2⟩
    refine ⟨q.1, List.mem_range.mpr (List.getElem?_eq_some_iff.mp hv).1, ?_⟩
    simp only [hv, ← h2]
/-- all values of one word -/
def cw_c1 : Value → Bool
  | .long _ => false
  | .double _ => false
  | _ => true
theorem cw_c1_cat {v : Value} (h : cw_c1 v = true) (ad : Nat → Nat) : (cw_v ad v).category = 1 := by
  cases v <;> first | rfl | (simp [cw_c1] at h)
theorem cw_lh_has {ad : Nat → Nat} {nL : Nat} {ls : List (Option Value)} {la : Array Slot} (h : cw_lh ad nL ls la) : lv_has la nL (cw_pr ad ls) := by
  refine ⟨h.1, h.2.1, fun q hq => ?_⟩
  obtain ⟨v, h1, h2⟩ := cw_pr_mem.mp hq
  rw [h2]
  exact (h.2.2 _ _ h1).1
theorem cw_lh_set {ad : Nat → Nat} {nL i : Nat} {ls : List (Option Value)} {la la' : Array Slot} {v : Value} (h : cw_lh ad nL ls la) (hc : (cw_v ad v).category = 1)
    (h' : lv_has la' nL ((i, cw_v ad v) :: (cw_pr ad ls).filter (fun q => !(q.1 == i) && !(q.1 + 1 == i && q.2.category == 2)))) : cw_lh ad nL (ls.set i (some v)) la' := by
  refine ⟨h'.1, h'.2.1, fun j w hj => ?_⟩
  rw [List.getElem?_set] at hj
  by_cases hij : i = j
  · subst hij
    rw [if_pos rfl] at hj
    split at hj
    · cases hj
      exact ⟨h'.2.2 (i, cw_v ad v) List.mem_cons_self, hc⟩
    · cases hj
  · rw [if_neg hij] at hj
    have hc2 := (h.2.2 _ _ hj).2
    refine ⟨h'.2.2 (j, cw_v ad w) (List.mem_cons_of_mem _ (List.mem_filter.mpr ⟨cw_pr_mem.mpr ⟨w, hj, rfl⟩, ?_⟩)), hc2⟩
    have hne : j ≠ i := fun q => hij q.symm
    simp [hc2, hne]
def cw_in (av : List Value) (nL : Nat) : List (Option Value) := av.map some ++ List.replicate (nL - av.length) none
theorem cw_args_at : ∀ (vs : List Value) (k i : Nat) (v : Value), (∀ w ∈ vs, w.category = 1) → vs[i]? = some v → (k + i, v) ∈ lv_args k vs := by
  intro vs
  induction vs with
  | nil => intro k i v _ h; simp at h
  | cons w t ih =>
    intro k i v hc h
    have hw : ¬ w.category = 2 := by rw [hc w List.mem_cons_self]; decide
    simp only [lv_args, if_neg hw]
    cases i with
    | zero => simp at h; subst h; exact List.mem_cons_self
    | succ n =>
      have := ih (k + 1) n v (fun x hx => hc x (List.mem_cons_of_mem _ hx)) (by simpa using h)
      rw [show k + (n + 1) = k + 1 + n by omega]
      exact List.mem_cons_of_mem _ this
theorem cw_sl_len : ∀ (vs : List Value), (∀ w ∈ vs, w.category = 1) → (lg_sl vs).length = vs.length := by
  intro vs
  induction vs with
  | nil => intro _; rfl
  | cons w t ih =>
    intro hc
    have hw : ¬ w.category = 2 := by rw [hc w List.mem_cons_self]; decide
    have e : lg_sl (w :: t) = [.val w] ++ lg_sl t := by simp [lg_sl, hw]
    rw [e, List.length_append, ih (fun x hx => hc x (List.mem_cons_of_mem _ hx))]
    simp; omega
theorem cw_lh_in {ad : Nat → Nat} {nL : Nat} {av : List Value} (hc : ∀ w ∈ av, (cw_v ad w).category = 1) (hn : av.length ≤ nL) :
    cw_lh ad nL (cw_in av nL) ((lg_sl (av.map (cw_v ad)) ++ List.replicate (nL - (lg_sl (av.map (cw_v ad))).length) Slot.unset).toArray) := by
  have hc' : ∀ w ∈ av.map (cw_v ad), w.category = 1 := fun w hw => by
    obtain ⟨x, hx, rfl⟩ := List.mem_map.mp hw
    exact hc x hx
  have h := lv_entry (av.map (cw_v ad)) (n := nL) (by rw [cw_sl_len _ hc', List.length_map]; exact hn)
  refine ⟨h.1, h.2.1, fun i v hi => ?_⟩
  have hv : av[i]? = some v := by
    unfold cw_in at hi
    rw [List.getElem?_append] at hi
    split at hi
    · simpa using hi
    · rw [List.getElem?_replicate] at hi
      split at hi <;> cases hi
  have hm : (cw_v ad v) ∈ av.map (cw_v ad) := List.mem_map_of_mem (List.mem_of_getElem? hv)
  refine ⟨?_, hc' _ hm⟩
  have := cw_args_at (av.map (cw_v ad)) 0 i (cw_v ad v) hc' (by simp [hv])
  rw [Nat.zero_add] at this
  exact h.2.2 _ this
def cw_isN : Cond → Bool
  | .fieldLinkNest .. => true
  | .methodLinkNest .. => true
  | _ => false
theorem cw_N_on {w : Cond} (h : cw_isN w = true) : w.onTables = true := by
  cases w <;> first | rfl | (simp [cw_isN] at h)
theorem cw_N_warm {w : Cond} (h : cw_isN w = true) {s U : State} (hW : s.WarmedH U.vm) (hz : va_Nw w s) : va_Nw w U := by
  cases w <;> first | exact va_Nw.warmF hW hz | exact va_Nw.warmM hW hz | (simp [cw_isN] at h)
theorem wd_nbN : ∀ w ∈ wd_nb, cw_isN w = true := fun w hw => List.all_eq_true.mp (show wd_nb.all cw_isN = true from rfl) w hw
def cw_rm (d mc ms : Nat) : Room := { frames := d, cells := mc, slots := ms, locals := 40 * d }
/-- what a method finds -/
def cw_B (ids : List Nat) (g : wd_G) (sz : Nat) (σ : wd_S) (τ : wd_L) (U : State) : Prop := U.heap.size = sz ∧ va_P g.2.1 wd_cl (wd_w ids g σ τ) U.heap ∧ va_K g.2.1 wd_cl (wd_ty g) U ∧ va_D (fun _ => True) (wd_w ids g σ τ) ∧ (∀ w ∈ wd_nb, va_Nw w U) ∧ ids.Nodup
/-- what it leaves -/
def cw_Q (ids : List Nat) (g : wd_G) (A : Nat → Prop) (Q : Option Value → wd_S → wd_L → Prop) : Array Value → State → Outcome → State → Prop := fun _ st oc t =>
  (∃ (v : Option Value) (σ' : wd_S) (τ' : wd_L), oc = .returned (v.map (cw_v g.1)) ∧ Q v σ' τ' ∧ va_P g.2.1 wd_cl (wd_w ids g σ' τ') t.heap) ∧ va_F A st t
/-- a method's contract: with these arguments, in this world, it returns, and Q holds of its answer and of the world behind it; at most mc cells of ms slots are new, d frames deep -/
def cw_M (ids : List Nat) (y : MethodName) (cc : ByteArray) (nL : Nat) (ret : Option FieldType) (d mc ms : Nat) (av : List Value) (σ : wd_S) (τ : wd_L) (Q : Option Value → wd_S → wd_L → Prop) : Prop :=
  ∀ (l : Launch) (g : wd_G) (sz : Nat), Met l y (Cond.code y cc nL ret :: wd_tb) (cw_rm d mc ms) (va_Pc (av.map (cw_v g.1)) (cw_B ids g sz σ τ)) (cw_Q ids g (va_A (wd_w ids g σ τ) sz) Q) mc ms (va_A (wd_w ids g σ τ) sz)
def cw_C (p : Program) (s : State) (m : MethodId) (args : Array Value) (meth : Method) (c : Code) (A : Nat → Prop) (ids : List Nat) (g : wd_G) (cc : ByteArray) (nL : Nat) (own : String) (ret : Option FieldType) : Prop :=
  p.tables.exec = Jvm.exec ∧ c.code = cc ∧ c.maxLocals = nL ∧ s.vm.findClass own = some m.cls ∧ (∀ w ∈ wd_tb, w.before args s = true) ∧ (∀ w ∈ wd_nb, va_Nw w s) ∧ va_K g.2.1 wd_cl (wd_ty g) s ∧ (∀ (σ : wd_S) (τ : wd_L), va_D A (wd_w ids g σ τ)) ∧ (∀ q, s.heap.size ≤ q → A q) ∧ meth.sig.returnType = ret ∧ meth.locks = false ∧ ids.Nodup
/-- the walk from pc on, with these locals, this stack, this world -/
def cw_W (p : Program) (l : Launch) (e : Env) (R : Room) (s : State) (m : MethodId) (args : Array Value) (below : List Frame) (meth : Method) (c : Code) (A : Nat → Prop) (ids : List Nat) (g : wd_G) (cells slots : Nat) (G : State → Prop) (nL pc : Nat) (ls : List (Option Value)) (st : List Value) (σ : wd_S) (τ : wd_L) : Prop :=
  ∀ (H : Heap) (locs : List Loc) (la : Array Slot), cw_lh g.1 nL ls la → va_P g.2.1 wd_cl (wd_w ids g σ τ) H → va_S A s.heap H locs → W p l e R s m args below meth c H locs cells slots G (F0 m pc la (st.map (cw_v g.1)))
abbrev cw_G (below : List Frame) (args : Array Value) (s : State) (A : Nat → Prop) (ids : List Nat) (g : wd_G) (mc ms : Nat) (Q : Option Value → wd_S → wd_L → Prop) : State → Prop := MQ below (cw_Q ids g A Q) args s mc ms A
end
section
section
variable {p : Program} {l : Launch} {e : Env} {R : Room} {s : State} {m : MethodId} {args : Array Value} {below : List Frame} {meth : Method} {c : Code} {A : Nat → Prop} {ids : List Nat} {g : wd_G} {cells slots : Nat} {G : State → Prop} {cc : ByteArray} {nL pc : Nat} {own : String} {ret : Option FieldType} {ls : List (Option Value)} {st : List Value} {σ : wd_S} {τ : wd_L}
theorem cw_iconst (C : cw_C p s m args meth c A ids g cc nL own ret) {n : Int} {v : Int32} (hd : decode cc pc = .ok (.iconst n, 1)) (hv : Int32.ofInt n = v) (k : cw_W p l e R s m args below meth c A ids g cells slots G nL (pc + 1) ls (.int v :: st) σ τ) : cw_W p l e R s m args below meth c A ids g cells slots G nL pc ls st σ τ := fun H locs la hl hP hS => lv_iconst C.1 C.2.1 hd hv (k H locs la hl hP hS)
theorem cw_bipush (C : cw_C p s m args meth c A ids g cc nL own ret) {n : Int} {v : Int32} (hd : decode cc pc = .ok (.bipush n, 2)) (hv : (Int8.ofInt n).toInt32 = v) (k : cw_W p l e R s m args below meth c A ids g cells slots G nL (pc + 2) ls (.int v :: st) σ τ) : cw_W p l e R s m args below meth c A ids g cells slots G nL pc ls st σ τ := fun H locs la hl hP hS => lv_bipush C.1 C.2.1 hd hv (k H locs la hl hP hS)
theorem cw_sipush (C : cw_C p s m args meth c A ids g cc nL own ret) {n : Int} {v : Int32} (hd : decode cc pc = .ok (.sipush n, 3)) (hv : (Int16.ofInt n).toInt32 = v) (k : cw_W p l e R s m args below meth c A ids g cells slots G nL (pc + 3) ls (.int v :: st) σ τ) : cw_W p l e R s m args below meth c A ids g cells slots G nL pc ls st σ τ := fun H locs la hl hP hS => lv_sipush C.1 C.2.1 hd hv (k H locs la hl hP hS)
theorem cw_lconst (C : cw_C p s m args meth c A ids g cc nL own ret) {n : Fin 2} {v : Int64} (hd : decode cc pc = .ok (.lconst n, 1)) (hv : Int64.ofNat (n : Nat) = v) (k : cw_W p l e R s m args below meth c A ids g cells slots G nL (pc + 1) ls (.long v :: st) σ τ) : cw_W p l e R s m args below meth c A ids g cells slots G nL pc ls st σ τ := fun H locs la hl hP hS => lv_lconst C.1 C.2.1 hd hv (k H locs la hl hP hS)
theorem cw_iload_n (C : cw_C p s m args meth c A ids g cc nL own ret) {k0 : Fin 4} {x : Int32} (hd : decode cc pc = .ok (.iload_n k0, 1)) (h : ls[(k0 : Nat)]? = some (some (.int x))) (k : cw_W p l e R s m args below meth c A ids g cells slots G nL (pc + 1) ls (.int x :: st) σ τ) : cw_W p l e R s m args below meth c A ids g cells slots G nL pc ls st σ τ := fun H locs la hl hP hS => lv_iload_n C.1 C.2.1 hd rfl (hl.2.2 _ _ h).1 (k H locs la hl hP hS)
theorem cw_iload (C : cw_C p s m args meth c A ids g cc nL own ret) {i : Nat} {x : Int32} (hd : decode cc pc = .ok (.iload i, 2)) (h : ls[i]? = some (some (.int x))) (k : cw_W p l e R s m args below meth c A ids g cells slots G nL (pc + 2) ls (.int x :: st) σ τ) : cw_W p l e R s m args below meth c A ids g cells slots G nL pc ls st σ τ := fun H locs la hl hP hS => lv_iload C.1 C.2.1 hd (hl.2.2 _ _ h).1 (k H locs la hl hP hS)
theorem cw_aload_n (C : cw_C p s m args meth c A ids g cc nL own ret) {k0 : Fin 4} {x : Nat} (hd : decode cc pc = .ok (.aload_n k0, 1)) (h : ls[(k0 : Nat)]? = some (some (.ref x))) (k : cw_W p l e R s m args below meth c A ids g cells slots G nL (pc + 1) ls (.ref x :: st) σ τ) : cw_W p l e R s m args below meth c A ids g cells slots G nL pc ls st σ τ := fun H locs la hl hP hS => lv_aload_n C.1 C.2.1 hd rfl (hl.2.2 _ _ h).1 (k H locs la hl hP hS)
theorem cw_aload (C : cw_C p s m args meth c A ids g cc nL own ret) {i x : Nat} (hd : decode cc pc = .ok (.aload i, 2)) (h : ls[i]? = some (some (.ref x))) (k : cw_W p l e R s m args below meth c A ids g cells slots G nL (pc + 2) ls (.ref x :: st) σ τ) : cw_W p l e R s m args below meth c A ids g cells slots G nL pc ls st σ τ := fun H locs la hl hP hS => lv_aload C.1 C.2.1 hd (hl.2.2 _ _ h).1 (k H locs la hl hP hS)
theorem cw_istore_n (C : cw_C p s m args meth c A ids g cc nL own ret) {k0 : Fin 4} {x : Int32} (hd : decode cc pc = .ok (.istore_n k0, 1)) (hi : (k0 : Nat) < nL) (k : cw_W p l e R s m args below meth c A ids g cells slots G nL (pc + 1) (ls.set (k0 : Nat) (some (.int x))) st σ τ) : cw_W p l e R s m args below meth c A ids g cells slots G nL pc ls (.int x :: st) σ τ := fun H locs la hl hP hS => lv_istore_n C.1 C.2.1 hd rfl (cw_lh_has hl) hi rfl (fun la' h' => k H locs la' (cw_lh_set (v := .int x) hl rfl h') hP hS)
theorem cw_istore (C : cw_C p s m args meth c A ids g cc nL own ret) {i : Nat} {x : Int32} (hd : decode cc pc = .ok (.istore i, 2)) (hi : i < nL) (k : cw_W p l e R s m args below meth c A ids g cells slots G nL (pc + 2) (ls.set i (some (.int x))) st σ τ) : cw_W p l e R s m args below meth c A ids g cells slots G nL pc ls (.int x :: st) σ τ := fun H locs la hl hP hS => lv_istore C.1 C.2.1 hd (cw_lh_has hl) hi rfl (fun la' h' => k H locs la' (cw_lh_set (v := .int x) hl rfl h') hP hS)
theorem cw_astore_n (C : cw_C p s m args meth c A ids g cc nL own ret) {k0 : Fin 4} {x : Nat} (hd : decode cc pc = .ok (.astore_n k0, 1)) (hi : (k0 : Nat) < nL) (k : cw_W p l e R s m args below meth c A ids g cells slots G nL (pc + 1) (ls.set (k0 : Nat) (some (.ref x))) st σ τ) : cw_W p l e R s m args below meth c A ids g cells slots G nL pc ls (.ref x :: st) σ τ := fun H locs la hl hP hS => lv_astore_n C.1 C.2.1 hd rfl (cw_lh_has hl) hi rfl (fun la' h' => k H locs la' (cw_lh_set (v := .ref x) hl rfl h') hP hS)
theorem cw_astore (C : cw_C p s m args meth c A ids g cc nL own ret) {i x : Nat} (hd : decode cc pc = .ok (.astore i, 2)) (hi : i < nL) (k : cw_W p l e R s m args below meth c A ids g cells slots G nL (pc + 2) (ls.set i (some (.ref x))) st σ τ) : cw_W p l e R s m args below meth c A ids g cells slots G nL pc ls (.ref x :: st) σ τ := fun H locs la hl hP hS => lv_astore C.1 C.2.1 hd (cw_lh_has hl) hi rfl (fun la' h' => k H locs la' (cw_lh_set (v := .ref x) hl rfl h') hP hS)
theorem cw_astore_nq (C : cw_C p s m args meth c A ids g cc nL own ret) {k0 : Fin 4} {x : Nat} (hd : decode cc pc = .ok (.astore_n k0, 1)) (hi : (k0 : Nat) < nL) (k : cw_W p l e R s m args below meth c A ids g cells slots G nL (pc + 1) (ls.set (k0 : Nat) (some (.retAddr x))) st σ τ) : cw_W p l e R s m args below meth c A ids g cells slots G nL pc ls (.retAddr x :: st) σ τ := fun H locs la hl hP hS => lv_astore_n C.1 C.2.1 hd rfl (cw_lh_has hl) hi rfl (fun la' h' => k H locs la' (cw_lh_set (v := .retAddr x) hl rfl h') hP hS)
theorem cw_astore_q (C : cw_C p s m args meth c A ids g cc nL own ret) {i x : Nat} (hd : decode cc pc = .ok (.astore i, 2)) (hi : i < nL) (k : cw_W p l e R s m args below meth c A ids g cells slots G nL (pc + 2) (ls.set i (some (.retAddr x))) st σ τ) : cw_W p l e R s m args below meth c A ids g cells slots G nL pc ls (.retAddr x :: st) σ τ := fun H locs la hl hP hS => lv_astore C.1 C.2.1 hd (cw_lh_has hl) hi rfl (fun la' h' => k H locs la' (cw_lh_set (v := .retAddr x) hl rfl h') hP hS)
theorem cw_iinc (C : cw_C p s m args meth c A ids g cc nL own ret) {i : Nat} {n : Int} {x v : Int32} (hd : decode cc pc = .ok (.iinc i n, 3)) (h : ls[i]? = some (some (.int x))) (hv : x + Int32.ofInt n = v) (hi : i < nL) (k : cw_W p l e R s m args below meth c A ids g cells slots G nL (pc + 3) (ls.set i (some (.int v))) st σ τ) : cw_W p l e R s m args below meth c A ids g cells slots G nL pc ls st σ τ := fun H locs la hl hP hS => by
  obtain ⟨k9, hk9⟩ := List.getElem?_of_mem (cw_pr_mem (ad := g.1) (q := (i, .int x)) |>.mpr ⟨.int x, h, rfl⟩)
  exact lv_iinc C.1 C.2.1 hd (cw_lh_has hl) hk9 hv hi rfl (fun la' h' => k H locs la' (cw_lh_set (v := .int v) hl rfl h') hP hS)
theorem cw_iadd (C : cw_C p s m args meth c A ids g cc nL own ret) {x y : Int32} (hd : decode cc pc = .ok (.iadd, 1)) (k : cw_W p l e R s m args below meth c A ids g cells slots G nL (pc + 1) ls (.int (x + y) :: st) σ τ) : cw_W p l e R s m args below meth c A ids g cells slots G nL pc ls (.int y :: .int x :: st) σ τ := fun H locs la hl hP hS => lv_iadd C.1 C.2.1 hd (k H locs la hl hP hS)
theorem cw_isub (C : cw_C p s m args meth c A ids g cc nL own ret) {x y : Int32} (hd : decode cc pc = .ok (.isub, 1)) (k : cw_W p l e R s m args below meth c A ids g cells slots G nL (pc + 1) ls (.int (x - y) :: st) σ τ) : cw_W p l e R s m args below meth c A ids g cells slots G nL pc ls (.int y :: .int x :: st) σ τ := fun H locs la hl hP hS => lv_isub C.1 C.2.1 hd (k H locs la hl hP hS)
theorem cw_imul (C : cw_C p s m args meth c A ids g cc nL own ret) {x y : Int32} (hd : decode cc pc = .ok (.imul, 1)) (k : cw_W p l e R s m args below meth c A ids g cells slots G nL (pc + 1) ls (.int (x * y) :: st) σ τ) : cw_W p l e R s m args below meth c A ids g cells slots G nL pc ls (.int y :: .int x :: st) σ τ := fun H locs la hl hP hS => lv_imul C.1 C.2.1 hd (k H locs la hl hP hS)
theorem cw_iand (C : cw_C p s m args meth c A ids g cc nL own ret) {x y : Int32} (hd : decode cc pc = .ok (.iand, 1)) (k : cw_W p l e R s m args below meth c A ids g cells slots G nL (pc + 1) ls (.int (x &&& y) :: st) σ τ) : cw_W p l e R s m args below meth c A ids g cells slots G nL pc ls (.int y :: .int x :: st) σ τ := fun H locs la hl hP hS => lv_iand C.1 C.2.1 hd (k H locs la hl hP hS)
theorem cw_ior (C : cw_C p s m args meth c A ids g cc nL own ret) {x y : Int32} (hd : decode cc pc = .ok (.ior, 1)) (k : cw_W p l e R s m args below meth c A ids g cells slots G nL (pc + 1) ls (.int (x ||| y) :: st) σ τ) : cw_W p l e R s m args below meth c A ids g cells slots G nL pc ls (.int y :: .int x :: st) σ τ := fun H locs la hl hP hS => lv_ior C.1 C.2.1 hd (k H locs la hl hP hS)
theorem cw_ixor (C : cw_C p s m args meth c A ids g cc nL own ret) {x y : Int32} (hd : decode cc pc = .ok (.ixor, 1)) (k : cw_W p l e R s m args below meth c A ids g cells slots G nL (pc + 1) ls (.int (x ^^^ y) :: st) σ τ) : cw_W p l e R s m args below meth c A ids g cells slots G nL pc ls (.int y :: .int x :: st) σ τ := fun H locs la hl hP hS => lv_ixor C.1 C.2.1 hd (k H locs la hl hP hS)
theorem cw_ishl (C : cw_C p s m args meth c A ids g cc nL own ret) {x y : Int32} (hd : decode cc pc = .ok (.ishl, 1)) (k : cw_W p l e R s m args below meth c A ids g cells slots G nL (pc + 1) ls (.int (x <<< (y &&& 31)) :: st) σ τ) : cw_W p l e R s m args below meth c A ids g cells slots G nL pc ls (.int y :: .int x :: st) σ τ := fun H locs la hl hP hS => lv_ishl C.1 C.2.1 hd (k H locs la hl hP hS)
theorem cw_ishr (C : cw_C p s m args meth c A ids g cc nL own ret) {x y : Int32} (hd : decode cc pc = .ok (.ishr, 1)) (k : cw_W p l e R s m args below meth c A ids g cells slots G nL (pc + 1) ls (.int (x >>> (y &&& 31)) :: st) σ τ) : cw_W p l e R s m args below meth c A ids g cells slots G nL pc ls (.int y :: .int x :: st) σ τ := fun H locs la hl hP hS => lv_ishr C.1 C.2.1 hd (k H locs la hl hP hS)
theorem cw_idiv (C : cw_C p s m args meth c A ids g cc nL own ret) {x y : Int32} (hd : decode cc pc = .ok (.idiv, 1)) (hne : ¬ y = 0) (k : cw_W p l e R s m args below meth c A ids g cells slots G nL (pc + 1) ls (.int (x / y) :: st) σ τ) : cw_W p l e R s m args below meth c A ids g cells slots G nL pc ls (.int y :: .int x :: st) σ τ := fun H locs la hl hP hS => lv_idiv C.1 C.2.1 hd hne (k H locs la hl hP hS)
theorem cw_irem (C : cw_C p s m args meth c A ids g cc nL own ret) {x y : Int32} (hd : decode cc pc = .ok (.irem, 1)) (hne : ¬ y = 0) (k : cw_W p l e R s m args below meth c A ids g cells slots G nL (pc + 1) ls (.int (x - x / y * y) :: st) σ τ) : cw_W p l e R s m args below meth c A ids g cells slots G nL pc ls (.int y :: .int x :: st) σ τ := fun H locs la hl hP hS => lv_irem C.1 C.2.1 hd hne (k H locs la hl hP hS)
theorem cw_iushr (C : cw_C p s m args meth c A ids g cc nL own ret) {x y : Int32} (hd : decode cc pc = .ok (.iushr, 1)) (k : cw_W p l e R s m args below meth c A ids g cells slots G nL (pc + 1) ls (.int (x.toUInt32 >>> (y.toUInt32 &&& Int32.toUInt32 31)).toInt32 :: st) σ τ) : cw_W p l e R s m args below meth c A ids g cells slots G nL pc ls (.int y :: .int x :: st) σ τ := fun H locs la hl hP hS => lv_iushr C.1 C.2.1 hd rfl (k H locs la hl hP hS)
theorem cw_ineg (C : cw_C p s m args meth c A ids g cc nL own ret) {x : Int32} (hd : decode cc pc = .ok (.ineg, 1)) (k : cw_W p l e R s m args below meth c A ids g cells slots G nL (pc + 1) ls (.int (-x) :: st) σ τ) : cw_W p l e R s m args below meth c A ids g cells slots G nL pc ls (.int x :: st) σ τ := fun H locs la hl hP hS => lv_ineg C.1 C.2.1 hd (k H locs la hl hP hS)
theorem cw_land (C : cw_C p s m args meth c A ids g cc nL own ret) {x y : Int64} (hd : decode cc pc = .ok (.land, 1)) (k : cw_W p l e R s m args below meth c A ids g cells slots G nL (pc + 1) ls (.long (x &&& y) :: st) σ τ) : cw_W p l e R s m args below meth c A ids g cells slots G nL pc ls (.long y :: .long x :: st) σ τ := fun H locs la hl hP hS => lv_land C.1 C.2.1 hd (k H locs la hl hP hS)
theorem cw_lor (C : cw_C p s m args meth c A ids g cc nL own ret) {x y : Int64} (hd : decode cc pc = .ok (.lor, 1)) (k : cw_W p l e R s m args below meth c A ids g cells slots G nL (pc + 1) ls (.long (x ||| y) :: st) σ τ) : cw_W p l e R s m args below meth c A ids g cells slots G nL pc ls (.long y :: .long x :: st) σ τ := fun H locs la hl hP hS => lv_lor C.1 C.2.1 hd (k H locs la hl hP hS)
theorem cw_lshl (C : cw_C p s m args meth c A ids g cc nL own ret) {x : Int64} {y : Int32} (hd : decode cc pc = .ok (.lshl, 1)) (k : cw_W p l e R s m args below meth c A ids g cells slots G nL (pc + 1) ls (.long (x <<< (y.toInt64 &&& 63)) :: st) σ τ) : cw_W p l e R s m args below meth c A ids g cells slots G nL pc ls (.int y :: .long x :: st) σ τ := fun H locs la hl hP hS => lv_lshl C.1 C.2.1 hd rfl (k H locs la hl hP hS)
theorem cw_lshr (C : cw_C p s m args meth c A ids g cc nL own ret) {x : Int64} {y : Int32} (hd : decode cc pc = .ok (.lshr, 1)) (k : cw_W p l e R s m args below meth c A ids g cells slots G nL (pc + 1) ls (.long (x >>> (y.toInt64 &&& 63)) :: st) σ τ) : cw_W p l e R s m args below meth c A ids g cells slots G nL pc ls (.int y :: .long x :: st) σ τ := fun H locs la hl hP hS => lv_lshr C.1 C.2.1 hd rfl (k H locs la hl hP hS)
theorem cw_i2l (C : cw_C p s m args meth c A ids g cc nL own ret) {x : Int32} (hd : decode cc pc = .ok (.i2l, 1)) (k : cw_W p l e R s m args below meth c A ids g cells slots G nL (pc + 1) ls (.long x.toInt64 :: st) σ τ) : cw_W p l e R s m args below meth c A ids g cells slots G nL pc ls (.int x :: st) σ τ := fun H locs la hl hP hS => lv_i2l C.1 C.2.1 hd rfl (k H locs la hl hP hS)
theorem cw_lcmp (C : cw_C p s m args meth c A ids g cc nL own ret) {x y : Int64} (hd : decode cc pc = .ok (.lcmp, 1)) (k : cw_W p l e R s m args below meth c A ids g cells slots G nL (pc + 1) ls (.int (lg_cmp x y) :: st) σ τ) : cw_W p l e R s m args below meth c A ids g cells slots G nL pc ls (.long y :: .long x :: st) σ τ := fun H locs la hl hP hS => W.lcmp C.1 C.2.1 hd (k H locs la hl hP hS)
theorem cw_dup (C : cw_C p s m args meth c A ids g cc nL own ret) {u : Value} (hd : decode cc pc = .ok (.dup, 1)) (h1 : (cw_v g.1 u).category = 1) (k : cw_W p l e R s m args below meth c A ids g cells slots G nL (pc + 1) ls (u :: u :: st) σ τ) : cw_W p l e R s m args below meth c A ids g cells slots G nL pc ls (u :: st) σ τ := fun H locs la hl hP hS => lv_dup C.1 C.2.1 hd h1 (k H locs la hl hP hS)
theorem cw_dup_x1 (C : cw_C p s m args meth c A ids g cc nL own ret) {u v : Value} (hd : decode cc pc = .ok (.dup_x1, 1)) (h1 : (cw_v g.1 u).category = 1) (h2 : (cw_v g.1 v).category = 1) (k : cw_W p l e R s m args below meth c A ids g cells slots G nL (pc + 1) ls (u :: v :: u :: st) σ τ) : cw_W p l e R s m args below meth c A ids g cells slots G nL pc ls (u :: v :: st) σ τ := fun H locs la hl hP hS => lv_dup_x1 C.1 C.2.1 hd h1 h2 (k H locs la hl hP hS)
theorem cw_dup_x2 (C : cw_C p s m args meth c A ids g cc nL own ret) {u v w : Value} (hd : decode cc pc = .ok (.dup_x2, 1)) (h1 : (cw_v g.1 u).category = 1) (h2 : (cw_v g.1 v).category = 1) (h3 : (cw_v g.1 w).category = 1) (k : cw_W p l e R s m args below meth c A ids g cells slots G nL (pc + 1) ls (u :: v :: w :: u :: st) σ τ) : cw_W p l e R s m args below meth c A ids g cells slots G nL pc ls (u :: v :: w :: st) σ τ := fun H locs la hl hP hS => lv_dup_x2 C.1 C.2.1 hd h1 h2 h3 (k H locs la hl hP hS)
theorem cw_dup2 (C : cw_C p s m args meth c A ids g cc nL own ret) {u v : Value} (hd : decode cc pc = .ok (.dup2, 1)) (h1 : (cw_v g.1 u).category = 1) (h2 : (cw_v g.1 v).category = 1) (k : cw_W p l e R s m args below meth c A ids g cells slots G nL (pc + 1) ls (u :: v :: u :: v :: st) σ τ) : cw_W p l e R s m args below meth c A ids g cells slots G nL pc ls (u :: v :: st) σ τ := fun H locs la hl hP hS => lv_dup2_11 C.1 C.2.1 hd h1 h2 (k H locs la hl hP hS)
theorem cw_dup2l (C : cw_C p s m args meth c A ids g cc nL own ret) {u : Value} (hd : decode cc pc = .ok (.dup2, 1)) (h1 : (cw_v g.1 u).category = 2) (k : cw_W p l e R s m args below meth c A ids g cells slots G nL (pc + 1) ls (u :: u :: st) σ τ) : cw_W p l e R s m args below meth c A ids g cells slots G nL pc ls (u :: st) σ τ := fun H locs la hl hP hS => lv_dup2_2 C.1 C.2.1 hd h1 (k H locs la hl hP hS)
theorem cw_pop (C : cw_C p s m args meth c A ids g cc nL own ret) {u : Value} (hd : decode cc pc = .ok (.pop, 1)) (h1 : (cw_v g.1 u).category = 1) (k : cw_W p l e R s m args below meth c A ids g cells slots G nL (pc + 1) ls st σ τ) : cw_W p l e R s m args below meth c A ids g cells slots G nL pc ls (u :: st) σ τ := fun H locs la hl hP hS => lv_pop C.1 C.2.1 hd h1 (k H locs la hl hP hS)
theorem cw_goto (C : cw_C p s m args meth c A ids g cc nL own ret) {off : Int} {tgt : Nat} (hd : decode cc pc = .ok (.goto off, 3)) (ht : (pc : Int) + off = (tgt : Int)) (k : cw_W p l e R s m args below meth c A ids g cells slots G nL tgt ls st σ τ) : cw_W p l e R s m args below meth c A ids g cells slots G nL pc ls st σ τ := fun H locs la hl hP hS => lv_goto C.1 C.2.1 hd ht (k H locs la hl hP hS)
theorem cw_if_eq (C : cw_C p s m args meth c A ids g cc nL own ret) {x : Int32} {off : Int} {tgt : Nat} (hd : decode cc pc = .ok (.ifCond .eq off, 3)) (ht : (pc : Int) + off = (tgt : Int)) (kt : x = 0 → cw_W p l e R s m args below meth c A ids g cells slots G nL tgt ls st σ τ) (kf : ¬ x = 0 → cw_W p l e R s m args below meth c A ids g cells slots G nL (pc + 3) ls st σ τ) : cw_W p l e R s m args below meth c A ids g cells slots G nL pc ls (.int x :: st) σ τ := fun H locs la hl hP hS => lv_if_eq C.1 C.2.1 hd ht (fun h => kt h H locs la hl hP hS) (fun h => kf h H locs la hl hP hS)
theorem cw_icmp_eq (C : cw_C p s m args meth c A ids g cc nL own ret) {x y : Int32} {off : Int} {tgt : Nat} (hd : decode cc pc = .ok (.if_icmp .eq off, 3)) (ht : (pc : Int) + off = (tgt : Int)) (kt : x = y → cw_W p l e R s m args below meth c A ids g cells slots G nL tgt ls st σ τ) (kf : ¬ x = y → cw_W p l e R s m args below meth c A ids g cells slots G nL (pc + 3) ls st σ τ) : cw_W p l e R s m args below meth c A ids g cells slots G nL pc ls (.int y :: .int x :: st) σ τ := fun H locs la hl hP hS => lv_icmp_eq C.1 C.2.1 hd ht (fun h => kt h H locs la hl hP hS) (fun h => kf h H locs la hl hP hS)
theorem cw_if_ne (C : cw_C p s m args meth c A ids g cc nL own ret) {x : Int32} {off : Int} {tgt : Nat} (hd : decode cc pc = .ok (.ifCond .ne off, 3)) (ht : (pc : Int) + off = (tgt : Int)) (kt : ¬ x = 0 → cw_W p l e R s m args below meth c A ids g cells slots G nL tgt ls st σ τ) (kf : x = 0 → cw_W p l e R s m args below meth c A ids g cells slots G nL (pc + 3) ls st σ τ) : cw_W p l e R s m args below meth c A ids g cells slots G nL pc ls (.int x :: st) σ τ := fun H locs la hl hP hS => lv_if_ne C.1 C.2.1 hd ht (fun h => kt h H locs la hl hP hS) (fun h => kf h H locs la hl hP hS)
theorem cw_icmp_ne (C : cw_C p s m args meth c A ids g cc nL own ret) {x y : Int32} {off : Int} {tgt : Nat} (hd : decode cc pc = .ok (.if_icmp .ne off, 3)) (ht : (pc : Int) + off = (tgt : Int)) (kt : ¬ x = y → cw_W p l e R s m args below meth c A ids g cells slots G nL tgt ls st σ τ) (kf : x = y → cw_W p l e R s m args below meth c A ids g cells slots G nL (pc + 3) ls st σ τ) : cw_W p l e R s m args below meth c A ids g cells slots G nL pc ls (.int y :: .int x :: st) σ τ := fun H locs la hl hP hS => lv_icmp_ne C.1 C.2.1 hd ht (fun h => kt h H locs la hl hP hS) (fun h => kf h H locs la hl hP hS)
theorem cw_if_lt (C : cw_C p s m args meth c A ids g cc nL own ret) {x : Int32} {off : Int} {tgt : Nat} (hd : decode cc pc = .ok (.ifCond .lt off, 3)) (ht : (pc : Int) + off = (tgt : Int)) (kt : x < 0 → cw_W p l e R s m args below meth c A ids g cells slots G nL tgt ls st σ τ) (kf : ¬ x < 0 → cw_W p l e R s m args below meth c A ids g cells slots G nL (pc + 3) ls st σ τ) : cw_W p l e R s m args below meth c A ids g cells slots G nL pc ls (.int x :: st) σ τ := fun H locs la hl hP hS => lv_if_lt C.1 C.2.1 hd ht (fun h => kt h H locs la hl hP hS) (fun h => kf h H locs la hl hP hS)
theorem cw_icmp_lt (C : cw_C p s m args meth c A ids g cc nL own ret) {x y : Int32} {off : Int} {tgt : Nat} (hd : decode cc pc = .ok (.if_icmp .lt off, 3)) (ht : (pc : Int) + off = (tgt : Int)) (kt : x < y → cw_W p l e R s m args below meth c A ids g cells slots G nL tgt ls st σ τ) (kf : ¬ x < y → cw_W p l e R s m args below meth c A ids g cells slots G nL (pc + 3) ls st σ τ) : cw_W p l e R s m args below meth c A ids g cells slots G nL pc ls (.int y :: .int x :: st) σ τ := fun H locs la hl hP hS => lv_icmp_lt C.1 C.2.1 hd ht (fun h => kt h H locs la hl hP hS) (fun h => kf h H locs la hl hP hS)
theorem cw_if_ge (C : cw_C p s m args meth c A ids g cc nL own ret) {x : Int32} {off : Int} {tgt : Nat} (hd : decode cc pc = .ok (.ifCond .ge off, 3)) (ht : (pc : Int) + off = (tgt : Int)) (kt : 0 ≤ x → cw_W p l e R s m args below meth c A ids g cells slots G nL tgt ls st σ τ) (kf : ¬ 0 ≤ x → cw_W p l e R s m args below meth c A ids g cells slots G nL (pc + 3) ls st σ τ) : cw_W p l e R s m args below meth c A ids g cells slots G nL pc ls (.int x :: st) σ τ := fun H locs la hl hP hS => lv_if_ge C.1 C.2.1 hd ht (fun h => kt h H locs la hl hP hS) (fun h => kf h H locs la hl hP hS)
theorem cw_icmp_ge (C : cw_C p s m args meth c A ids g cc nL own ret) {x y : Int32} {off : Int} {tgt : Nat} (hd : decode cc pc = .ok (.if_icmp .ge off, 3)) (ht : (pc : Int) + off = (tgt : Int)) (kt : y ≤ x → cw_W p l e R s m args below meth c A ids g cells slots G nL tgt ls st σ τ) (kf : ¬ y ≤ x → cw_W p l e R s m args below meth c A ids g cells slots G nL (pc + 3) ls st σ τ) : cw_W p l e R s m args below meth c A ids g cells slots G nL pc ls (.int y :: .int x :: st) σ τ := fun H locs la hl hP hS => lv_icmp_ge C.1 C.2.1 hd ht (fun h => kt h H locs la hl hP hS) (fun h => kf h H locs la hl hP hS)
theorem cw_if_gt (C : cw_C p s m args meth c A ids g cc nL own ret) {x : Int32} {off : Int} {tgt : Nat} (hd : decode cc pc = .ok (.ifCond .gt off, 3)) (ht : (pc : Int) + off = (tgt : Int)) (kt : 0 < x → cw_W p l e R s m args below meth c A ids g cells slots G nL tgt ls st σ τ) (kf : ¬ 0 < x → cw_W p l e R s m args below meth c A ids g cells slots G nL (pc + 3) ls st σ τ) : cw_W p l e R s m args below meth c A ids g cells slots G nL pc ls (.int x :: st) σ τ := fun H locs la hl hP hS => lv_if_gt C.1 C.2.1 hd ht (fun h => kt h H locs la hl hP hS) (fun h => kf h H locs la hl hP hS)
theorem cw_icmp_gt (C : cw_C p s m args meth c A ids g cc nL own ret) {x y : Int32} {off : Int} {tgt : Nat} (hd : decode cc pc = .ok (.if_icmp .gt off, 3)) (ht : (pc : Int) + off = (tgt : Int)) (kt : y < x → cw_W p l e R s m args below meth c A ids g cells slots G nL tgt ls st σ τ) (kf : ¬ y < x → cw_W p l e R s m args below meth c A ids g cells slots G nL (pc + 3) ls st σ τ) : cw_W p l e R s m args below meth c A ids g cells slots G nL pc ls (.int y :: .int x :: st) σ τ := fun H locs la hl hP hS => lv_icmp_gt C.1 C.2.1 hd ht (fun h => kt h H locs la hl hP hS) (fun h => kf h H locs la hl hP hS)
theorem cw_if_le (C : cw_C p s m args meth c A ids g cc nL own ret) {x : Int32} {off : Int} {tgt : Nat} (hd : decode cc pc = .ok (.ifCond .le off, 3)) (ht : (pc : Int) + off = (tgt : Int)) (kt : x ≤ 0 → cw_W p l e R s m args below meth c A ids g cells slots G nL tgt ls st σ τ) (kf : ¬ x ≤ 0 → cw_W p l e R s m args below meth c A ids g cells slots G nL (pc + 3) ls st σ τ) : cw_W p l e R s m args below meth c A ids g cells slots G nL pc ls (.int x :: st) σ τ := fun H locs la hl hP hS => lv_if_le C.1 C.2.1 hd ht (fun h => kt h H locs la hl hP hS) (fun h => kf h H locs la hl hP hS)
theorem cw_icmp_le (C : cw_C p s m args meth c A ids g cc nL own ret) {x y : Int32} {off : Int} {tgt : Nat} (hd : decode cc pc = .ok (.if_icmp .le off, 3)) (ht : (pc : Int) + off = (tgt : Int)) (kt : x ≤ y → cw_W p l e R s m args below meth c A ids g cells slots G nL tgt ls st σ τ) (kf : ¬ x ≤ y → cw_W p l e R s m args below meth c A ids g cells slots G nL (pc + 3) ls st σ τ) : cw_W p l e R s m args below meth c A ids g cells slots G nL pc ls (.int y :: .int x :: st) σ τ := fun H locs la hl hP hS => lv_icmp_le C.1 C.2.1 hd ht (fun h => kt h H locs la hl hP hS) (fun h => kf h H locs la hl hP hS)
theorem cw_lookup (C : cw_C p s m args meth c A ids g cc nL own ret) {dflt : Int} {ps : Array (Int × Int)} {len : Nat} {x : Int32} {off : Int} {tgt : Nat} (hd : decode cc pc = .ok (.lookupswitch dflt ps, len)) (hp : (ps.toList.zip (ps.toList.drop 1)).all (fun (a, next) => a.1 < next.1) = true) (ho : Op.lookupswitch.offset ps.toList dflt x.toInt = off) (ht : (pc : Int) + off = (tgt : Int)) (k : cw_W p l e R s m args below meth c A ids g cells slots G nL tgt ls st σ τ) : cw_W p l e R s m args below meth c A ids g cells slots G nL pc ls (.int x :: st) σ τ := fun H locs la hl hP hS => lv_lookup C.1 C.2.1 hd hp ho ht (k H locs la hl hP hS)
theorem cw_tableOut (C : cw_C p s m args meth c A ids g cc nL own ret) {dflt lo hi : Int} {offs : Array Int} {len : Nat} {x : Int32} {tgt : Nat} (hd : decode cc pc = .ok (.tableswitch dflt lo hi offs, len)) (h : x.toInt < lo ∨ hi < x.toInt) (ht : (pc : Int) + dflt = (tgt : Int)) (k : cw_W p l e R s m args below meth c A ids g cells slots G nL tgt ls st σ τ) : cw_W p l e R s m args below meth c A ids g cells slots G nL pc ls (.int x :: st) σ τ := fun H locs la hl hP hS => lv_tableOut C.1 C.2.1 hd h ht (k H locs la hl hP hS)
theorem cw_tableIn (C : cw_C p s m args meth c A ids g cc nL own ret) {dflt lo hi : Int} {offs : Array Int} {len : Nat} {x : Int32} {off : Int} {tgt : Nat} (hd : decode cc pc = .ok (.tableswitch dflt lo hi offs, len)) (h1 : ¬ x.toInt < lo) (h2 : ¬ hi < x.toInt) (ho : offs[(x.toInt - lo).toNat]? = some off) (ht : (pc : Int) + off = (tgt : Int)) (k : cw_W p l e R s m args below meth c A ids g cells slots G nL tgt ls st σ τ) : cw_W p l e R s m args below meth c A ids g cells slots G nL pc ls (.int x :: st) σ τ := fun H locs la hl hP hS => lv_tableIn C.1 C.2.1 hd h1 h2 ho ht (k H locs la hl hP hS)
theorem cw_ldc (C : cw_C p s m args meth c A ids g cc nL own ret) {index : Nat} {v : Int32} (hk : Cond.constant own index v ∈ wd_tb) (hd : decode cc pc = .ok (.ldc index, 2)) (k : cw_W p l e R s m args below meth c A ids g cells slots G nL (pc + 2) ls (.int v :: st) σ τ) : cw_W p l e R s m args below meth c A ids g cells slots G nL pc ls st σ τ := fun H locs la hl hP hS => lv_ldc C.1 C.2.1 C.2.2.2.1 (C.2.2.2.2.1 _ hk) hd (k H locs la hl hP hS)
theorem cw_eq {st' : List Value} {ls' : List (Option Value)} {σ' : wd_S} {τ' : wd_L} (h1 : ls = ls') (h2 : st = st') (h3 : σ = σ') (h4 : τ = τ') (k : cw_W p l e R s m args below meth c A ids g cells slots G nL pc ls' st' σ' τ') : cw_W p l e R s m args below meth c A ids g cells slots G nL pc ls st σ τ := by subst h1 h2 h3 h4; exact k
end
end
section
/-! The clean layer: fields, arrays, calls, returns. -/
/-- a class of the world: its place, its fields' words, their types -/
def wd_cls (ci : Nat) (K : String) (T : u_T) (N : Nat) (ty0 : Nat → FieldType) : Prop := wd_cl[ci]? = some (K, T, N) ∧ (∀ w ∈ u_ws K T N, w ∈ wd_tb) ∧ (∀ k, k < N → parseFieldDescriptor (T k).2.2.1 = some (ty0 k)) ∧ (∀ a, a < N → ∀ b, b < N → a ≠ b → (T a).2.1 ≠ (T b).2.1)
def cw_kF (own : String) (idx : Nat) (T : u_T) (k : Nat) : Prop := Cond.fieldLink own idx (T k).1 (T k).2.1 (T k).2.2.1 ∈ wd_tb
section
variable {p : Program} {l : Launch} {e : Env} {R : Room} {s : State} {m : MethodId} {args : Array Value} {below : List Frame} {meth : Method} {c : Code} {A : Nat → Prop} {ids : List Nat} {g : wd_G} {cells slots : Nat} {G : State → Prop} {cc : ByteArray} {nL pc : Nat} {own : String} {ret : Option FieldType} {ls : List (Option Value)} {st : List Value} {σ : wd_S} {τ : wd_L}
theorem cw_hts (C : cw_C p s m args meth c A ids g cc nL own ret) : ∀ w ∈ wd_tb, w.before args s = true := C.2.2.2.2.1
theorem cw_hK (C : cw_C p s m args meth c A ids g cc nL own ret) : va_K g.2.1 wd_cl (wd_ty g) s := C.2.2.2.2.2.2.1
theorem cw_hD (C : cw_C p s m args meth c A ids g cc nL own ret) : ∀ (σ : wd_S) (τ : wd_L), va_D A (wd_w ids g σ τ) := C.2.2.2.2.2.2.2.1
theorem cw_hA (C : cw_C p s m args meth c A ids g cc nL own ret) : ∀ q, s.heap.size ≤ q → A q := C.2.2.2.2.2.2.2.2.1
theorem cw_hr (C : cw_C p s m args meth c A ids g cc nL own ret) : meth.sig.returnType = ret := C.2.2.2.2.2.2.2.2.2.1
theorem cw_hlk (C : cw_C p s m args meth c A ids g cc nL own ret) : meth.locks = false := C.2.2.2.2.2.2.2.2.2.2.1
theorem cw_hn (C : cw_C p s m args meth c A ids g cc nL own ret) : ids.Nodup := C.2.2.2.2.2.2.2.2.2.2.2
theorem cw_getv (C : cw_C p s m args meth c A ids g cc nL own ret) {ci N k q idx : Nat} {K : String} {T : u_T} {ty0 : Nat → FieldType} {fl : List (Nat × Nat)} {f : Nat × Nat} (hc : wd_cls ci K T N ty0) (hf : cw_kF own idx T k) (hi : wd_is ids q (4, ci, fl)) (hk : k < N) (hfl : fl[k]? = some f) (hd : decode cc pc = .ok (.getfield idx, 3))
    (kk : cw_W p l e R s m args below meth c A ids g cells slots G nL (pc + 3) ls (wd_fv q σ τ k f :: st) σ τ) : cw_W p l e R s m args below meth c A ids g cells slots G nL pc ls (.ref q :: st) σ τ := by
  intro H locs la hl hP hS
  obtain ⟨i, hids⟩ := List.getElem?_of_mem hi.1
  have he := wd_at (ids := ids) (g := g) (σ := σ) (τ := τ) hids
  rw [wd_ce_o hi.2] at he
  exact va_get (D := g.2.1) (cl := wd_cl) (tys := wd_ty g) (v := cw_v g.1 (wd_fv q σ τ k f)) (ref := (T k).1) C.1 C.2.1 (cw_hts C) hc.2.1 C.2.2.2.1 (cw_hK C) hP i he hc.1 k hk (cw_hts C _ hf) (fun _ h => h) (by rw [List.getElem?_map, wd_fs_at hfl]; rfl) hd (kk H locs la hl hP hS)
theorem cw_geti (C : cw_C p s m args meth c A ids g cc nL own ret) {ci N k q idx j : Nat} {K : String} {T : u_T} {ty0 : Nat → FieldType} {fl : List (Nat × Nat)} (hc : wd_cls ci K T N ty0) (hf : cw_kF own idx T k) (hi : wd_is ids q (4, ci, fl)) (hk : k < N) (hfl : fl[k]? = some (0, j)) (hd : decode cc pc = .ok (.getfield idx, 3))
    (kk : cw_W p l e R s m args below meth c A ids g cells slots G nL (pc + 3) ls (.int (σ q k) :: st) σ τ) : cw_W p l e R s m args below meth c A ids g cells slots G nL pc ls (.ref q :: st) σ τ := cw_getv C hc hf hi hk hfl hd kk
theorem cw_getl (C : cw_C p s m args meth c A ids g cc nL own ret) {ci N k q idx j : Nat} {K : String} {T : u_T} {ty0 : Nat → FieldType} {fl : List (Nat × Nat)} (hc : wd_cls ci K T N ty0) (hf : cw_kF own idx T k) (hi : wd_is ids q (4, ci, fl)) (hk : k < N) (hfl : fl[k]? = some (1, j)) (hd : decode cc pc = .ok (.getfield idx, 3))
    (kk : cw_W p l e R s m args below meth c A ids g cells slots G nL (pc + 3) ls (.long (τ q k) :: st) σ τ) : cw_W p l e R s m args below meth c A ids g cells slots G nL pc ls (.ref q :: st) σ τ := cw_getv C hc hf hi hk hfl hd kk
theorem cw_getr (C : cw_C p s m args meth c A ids g cc nL own ret) {ci N k q q' idx j : Nat} {K : String} {T : u_T} {ty0 : Nat → FieldType} {fl : List (Nat × Nat)} (hc : wd_cls ci K T N ty0) (hf : cw_kF own idx T k) (hi : wd_is ids q (4, ci, fl)) (hk : k < N) (hfl : fl[k]? = some (2, j)) (hd : decode cc pc = .ok (.getfield idx, 3)) (hq : 4 * j = q')
    (kk : cw_W p l e R s m args below meth c A ids g cells slots G nL (pc + 3) ls (.ref q' :: st) σ τ) : cw_W p l e R s m args below meth c A ids g cells slots G nL pc ls (.ref q :: st) σ τ := by
  subst hq
  exact cw_getv C hc hf hi hk hfl hd kk
theorem cw_gets (C : cw_C p s m args meth c A ids g cc nL own ret) {ci N k b b' r idx j : Nat} {K : String} {T : u_T} {ty0 : Nat → FieldType} {fl : List (Nat × Nat)} (hr : r < 4) (h0 : b % 4 = 0) (hc : wd_cls ci K T N ty0) (hf : cw_kF own idx T k) (hi : wd_is ids (b + r) (4, ci, fl)) (hk : k < N) (hfl : fl[k]? = some (3, j)) (hd : decode cc pc = .ok (.getfield idx, 3)) (hq : 4 * j = b')
    (kk : cw_W p l e R s m args below meth c A ids g cells slots G nL (pc + 3) ls (.ref (b' + r) :: st) σ τ) : cw_W p l e R s m args below meth c A ids g cells slots G nL pc ls (.ref (b + r) :: st) σ τ := by
  subst hq
  refine cw_getv C hc hf hi hk hfl hd ?_
  have e9 : (b + r) % 4 = r := by omega
  show cw_W p l e R s m args below meth c A ids g cells slots G nL (pc + 3) ls (.ref (4 * j + (b + r) % 4) :: st) σ τ
  rw [e9]
  exact kk
theorem cw_puti (C : cw_C p s m args meth c A ids g cc nL own ret) {ci N k q idx j : Nat} {K : String} {T : u_T} {ty0 : Nat → FieldType} {fl : List (Nat × Nat)} {x : Int32} (hc : wd_cls ci K T N ty0) (hf : cw_kF own idx T k) (hi : wd_is ids q (4, ci, fl)) (hk : k < N) (hfl : fl[k]? = some (0, j)) (hfin : (T k).2.2.2 = false) (hn : narrow (ty0 k) (.int x) = .int x) (hfit : fits (ty0 k) (.int x) = true) (hd : decode cc pc = .ok (.putfield idx, 3))
    (kk : cw_W p l e R s m args below meth c A ids g cells slots G nL (pc + 3) ls st (cw_up σ q k x) τ) : cw_W p l e R s m args below meth c A ids g cells slots G nL pc ls (.int x :: .ref q :: st) σ τ := by
  intro H locs la hl hP hS
  obtain ⟨i, hids⟩ := List.getElem?_of_mem hi.1
  have he := wd_at (ids := ids) (g := g) (σ := σ) (τ := τ) hids
  rw [wd_ce_o hi.2] at he
  have hkl : k < fl.length := (List.getElem?_eq_some_iff.mp hfl).1
  refine va_put (D := g.2.1) (cl := wd_cl) (tys := wd_ty g) (v := .int x) (ty := ty0 k) (ref := (T k).1) C.1 C.2.1 (cw_hts C) hc.2.1 ty0 hc.2.2.1 hc.2.2.2 C.2.2.2.1 (cw_hK C) hP (cw_hD C σ τ) hS i he hc.1 k hk (cw_hts C _ hf) (fun _ h => h) hfin (hc.2.2.1 k hk) hn hfit (by rw [List.length_map, wd_fs_len]; exact hkl) hd (fun H1 locs1 hP1 _ hS1 => ?_)
  rw [wd_set (cw_hn C) (σ' := cw_up σ q k x) (τ' := τ) hids (fun c' h => cw_up_c h) (fun _ _ => rfl) (by
    rw [wd_ce_o hi.2, ← wd_fs_up hfl, List.map_set]; rfl)] at hP1
  exact kk H1 locs1 la hl hP1 hS1
theorem cw_putl (C : cw_C p s m args meth c A ids g cc nL own ret) {ci N k q idx j : Nat} {K : String} {T : u_T} {ty0 : Nat → FieldType} {fl : List (Nat × Nat)} {x : Int64} (hc : wd_cls ci K T N ty0) (hf : cw_kF own idx T k) (hi : wd_is ids q (4, ci, fl)) (hk : k < N) (hfl : fl[k]? = some (1, j)) (hfin : (T k).2.2.2 = false) (hn : narrow (ty0 k) (.long x) = .long x) (hfit : fits (ty0 k) (.long x) = true) (hd : decode cc pc = .ok (.putfield idx, 3))
    (kk : cw_W p l e R s m args below meth c A ids g cells slots G nL (pc + 3) ls st σ (cw_uq τ q k x)) : cw_W p l e R s m args below meth c A ids g cells slots G nL pc ls (.long x :: .ref q :: st) σ τ := by
  intro H locs la hl hP hS
  obtain ⟨i, hids⟩ := List.getElem?_of_mem hi.1
  have he := wd_at (ids := ids) (g := g) (σ := σ) (τ := τ) hids
  rw [wd_ce_o hi.2] at he
  have hkl : k < fl.length := (List.getElem?_eq_some_iff.mp hfl).1
  refine va_put (D := g.2.1) (cl := wd_cl) (tys := wd_ty g) (v := .long x) (ty := ty0 k) (ref := (T k).1) C.1 C.2.1 (cw_hts C) hc.2.1 ty0 hc.2.2.1 hc.2.2.2 C.2.2.2.1 (cw_hK C) hP (cw_hD C σ τ) hS i he hc.1 k hk (cw_hts C _ hf) (fun _ h => h) hfin (hc.2.2.1 k hk) hn hfit (by rw [List.length_map, wd_fs_len]; exact hkl) hd (fun H1 locs1 hP1 _ hS1 => ?_)
  rw [wd_set (cw_hn C) (σ' := σ) (τ' := cw_uq τ q k x) hids (fun _ _ => rfl) (fun c' h => cw_uq_c h) (by
    rw [wd_ce_o hi.2, ← wd_fs_uq hfl, List.map_set]; rfl)] at hP1
  exact kk H1 locs1 la hl hP1 hS1
theorem cw_iald (C : cw_C p s m args meth c A ids g cc nL own ret) {q n i : Nat} {fl : List (Nat × Nat)} {x : Int32} (hi : wd_is ids q (0, n, fl)) (hx : x = nI i) (hin : i < n) (hn : n < 2 ^ 31) (hd : decode cc pc = .ok (.iaload, 1))
    (kk : cw_W p l e R s m args below meth c A ids g cells slots G nL (pc + 1) ls (.int (σ q i) :: st) σ τ) : cw_W p l e R s m args below meth c A ids g cells slots G nL pc ls (.int x :: .ref q :: st) σ τ := by
  intro H locs la hl hP hS
  obtain ⟨i0, hids⟩ := List.getElem?_of_mem hi.1
  have he := wd_at (ids := ids) (g := g) (σ := σ) (τ := τ) hids
  rw [wd_ce_i hi.2] at he
  subst hx
  have kk := kk H locs la hl hP hS
  refine va_iald C.1 C.2.1 (cw_hK C) hP i0 0 he rfl (vp_in_nI hin hn) hd ?_
  rw [nI_clamp (Nat.lt_trans hin hn)]
  exact kk
theorem cw_zald (C : cw_C p s m args meth c A ids g cc nL own ret) {q n i : Nat} {fl : List (Nat × Nat)} {x : Int32} (hi : wd_is ids q (1, n, fl)) (hx : x = nI i) (hin : i < n) (hn : n < 2 ^ 31) (hd : decode cc pc = .ok (.baload, 1))
    (kk : cw_W p l e R s m args below meth c A ids g cells slots G nL (pc + 1) ls (.int (σ q i) :: st) σ τ) : cw_W p l e R s m args below meth c A ids g cells slots G nL pc ls (.int x :: .ref q :: st) σ τ := by
  intro H locs la hl hP hS
  obtain ⟨i0, hids⟩ := List.getElem?_of_mem hi.1
  have he := wd_at (ids := ids) (g := g) (σ := σ) (τ := τ) hids
  rw [wd_ce_z hi.2] at he
  subst hx
  have kk := kk H locs la hl hP hS
  refine va_zald C.1 C.2.1 (cw_hK C) hP i0 1 he rfl (vp_in_nI hin hn) hd ?_
  rw [nI_clamp (Nat.lt_trans hin hn)]
  exact kk
theorem cw_lald (C : cw_C p s m args meth c A ids g cc nL own ret) {q n i : Nat} {fl : List (Nat × Nat)} {x : Int32} (hi : wd_is ids q (2, n, fl)) (hx : x = nI i) (hin : i < n) (hn : n < 2 ^ 31) (hd : decode cc pc = .ok (.laload, 1))
    (kk : cw_W p l e R s m args below meth c A ids g cells slots G nL (pc + 1) ls (.long (τ q i) :: st) σ τ) : cw_W p l e R s m args below meth c A ids g cells slots G nL pc ls (.int x :: .ref q :: st) σ τ := by
  intro H locs la hl hP hS
  obtain ⟨i0, hids⟩ := List.getElem?_of_mem hi.1
  have he := wd_at (ids := ids) (g := g) (σ := σ) (τ := τ) hids
  rw [wd_ce_l hi.2] at he
  subst hx
  have kk := kk H locs la hl hP hS
  refine va_lald C.1 C.2.1 (cw_hK C) hP i0 2 he rfl (vp_in_nI hin hn) hd ?_
  rw [nI_clamp (Nat.lt_trans hin hn)]
  exact kk
theorem cw_aald (C : cw_C p s m args meth c A ids g cc nL own ret) {q n i j a b' : Nat} {x : Int32} (hi : wd_is ids q (3, n, [(a, j)])) (hx : x = nI i) (hin : i < n) (hn : n < 2 ^ 31) (hd : decode cc pc = .ok (.aaload, 1)) (hq : 4 * j = b')
    (kk : cw_W p l e R s m args below meth c A ids g cells slots G nL (pc + 1) ls (.ref (b' + i) :: st) σ τ) : cw_W p l e R s m args below meth c A ids g cells slots G nL pc ls (.int x :: .ref q :: st) σ τ := by
  subst hq
  intro H locs la hl hP hS
  obtain ⟨i0, hids⟩ := List.getElem?_of_mem hi.1
  have he := wd_at (ids := ids) (g := g) (σ := σ) (τ := τ) hids
  rw [wd_ce_r hi.2] at he
  subst hx
  have kk := kk H locs la hl hP hS
  refine va_aldq C.1 C.2.1 (cw_hK C) hP i0 3 he rfl (vp_in_nI hin hn) hd ?_
  rw [nI_clamp (Nat.lt_trans hin hn)]
  exact kk
theorem cw_alen (C : cw_C p s m args meth c A ids g cc nL own ret) {q n : Nat} {fl : List (Nat × Nat)} (hi : wd_is ids q (0, n, fl)) (hd : decode cc pc = .ok (.arraylength, 1))
    (kk : cw_W p l e R s m args below meth c A ids g cells slots G nL (pc + 1) ls (.int (nI n) :: st) σ τ) : cw_W p l e R s m args below meth c A ids g cells slots G nL pc ls (.ref q :: st) σ τ := by
  intro H locs la hl hP hS
  obtain ⟨i0, hids⟩ := List.getElem?_of_mem hi.1
  have he := wd_at (ids := ids) (g := g) (σ := σ) (τ := τ) hids
  rw [wd_ce_i hi.2] at he
  exact va_alen C.1 C.2.1 (cw_hK C) hP i0 0 he rfl rfl hd (kk H locs la hl hP hS)
theorem cw_iast (C : cw_C p s m args meth c A ids g cc nL own ret) {q n i : Nat} {fl : List (Nat × Nat)} {x y : Int32} (hi : wd_is ids q (0, n, fl)) (hx : x = nI i) (hin : i < n) (hn : n < 2 ^ 31) (hd : decode cc pc = .ok (.iastore, 1))
    (kk : cw_W p l e R s m args below meth c A ids g cells slots G nL (pc + 1) ls st (cw_up σ q i y) τ) : cw_W p l e R s m args below meth c A ids g cells slots G nL pc ls (.int y :: .int x :: .ref q :: st) σ τ := by
  intro H locs la hl hP hS
  obtain ⟨i0, hids⟩ := List.getElem?_of_mem hi.1
  have he := wd_at (ids := ids) (g := g) (σ := σ) (τ := τ) hids
  rw [wd_ce_i hi.2] at he
  subst hx
  refine va_iast C.1 C.2.1 (cw_hK C) hP (cw_hD C σ τ) hS i0 0 he rfl (vp_in_nI hin hn) hd (fun H1 locs1 hP1 _ hS1 => ?_)
  rw [nI_clamp (Nat.lt_trans hin hn), wd_set (cw_hn C) (σ' := cw_up σ q i y) (τ' := τ) hids (fun c' h => cw_up_c h) (fun _ _ => rfl) (by
    rw [wd_ce_i hi.2, cw_up_u])] at hP1
  exact kk H1 locs1 la hl hP1 hS1
theorem cw_zast (C : cw_C p s m args meth c A ids g cc nL own ret) {q n i : Nat} {fl : List (Nat × Nat)} {x y : Int32} (hi : wd_is ids q (1, n, fl)) (hx : x = nI i) (hin : i < n) (hn : n < 2 ^ 31) (hy : vp_nar .boolean y = y) (hd : decode cc pc = .ok (.bastore, 1))
    (kk : cw_W p l e R s m args below meth c A ids g cells slots G nL (pc + 1) ls st (cw_up σ q i y) τ) : cw_W p l e R s m args below meth c A ids g cells slots G nL pc ls (.int y :: .int x :: .ref q :: st) σ τ := by
  intro H locs la hl hP hS
  obtain ⟨i0, hids⟩ := List.getElem?_of_mem hi.1
  have he := wd_at (ids := ids) (g := g) (σ := σ) (τ := τ) hids
  rw [wd_ce_z hi.2] at he
  subst hx
  refine va_zast C.1 C.2.1 (cw_hK C) hP (cw_hD C σ τ) hS i0 1 he rfl (vp_in_nI hin hn) hd (fun H1 locs1 hP1 _ hS1 => ?_)
  rw [nI_clamp (Nat.lt_trans hin hn), hy, wd_set (cw_hn C) (σ' := cw_up σ q i y) (τ' := τ) hids (fun c' h => cw_up_c h) (fun _ _ => rfl) (by
    rw [wd_ce_z hi.2, cw_up_u])] at hP1
  exact kk H1 locs1 la hl hP1 hS1
theorem cw_last (C : cw_C p s m args meth c A ids g cc nL own ret) {q n i : Nat} {fl : List (Nat × Nat)} {x : Int32} {y : Int64} (hi : wd_is ids q (2, n, fl)) (hx : x = nI i) (hin : i < n) (hn : n < 2 ^ 31) (hd : decode cc pc = .ok (.lastore, 1))
    (kk : cw_W p l e R s m args below meth c A ids g cells slots G nL (pc + 1) ls st σ (cw_uq τ q i y)) : cw_W p l e R s m args below meth c A ids g cells slots G nL pc ls (.long y :: .int x :: .ref q :: st) σ τ := by
  intro H locs la hl hP hS
  obtain ⟨i0, hids⟩ := List.getElem?_of_mem hi.1
  have he := wd_at (ids := ids) (g := g) (σ := σ) (τ := τ) hids
  rw [wd_ce_l hi.2] at he
  subst hx
  refine va_last C.1 C.2.1 (cw_hK C) hP (cw_hD C σ τ) hS i0 2 he rfl (vp_in_nI hin hn) hd (fun H1 locs1 hP1 _ hS1 => ?_)
  rw [nI_clamp (Nat.lt_trans hin hn), wd_set (cw_hn C) (σ' := σ) (τ' := cw_uq τ q i y) hids (fun _ _ => rfl) (fun c' h => cw_uq_c h) (by
    rw [wd_ce_l hi.2, cw_uq_u])] at hP1
  exact kk H1 locs1 la hl hP1 hS1
/-! returns -/
variable {mc ms : Nat} {Q : Option Value → wd_S → wd_L → Prop}
theorem cw_ireturn (C : cw_C p s m args meth c A ids g cc nL own (some .int)) {x : Int32} (hd : decode cc pc = .ok (.ireturn, 1)) (h1 : cells ≤ mc) (h2 : slots ≤ ms) (hq : Q (some (.int x)) σ τ) :
    cw_W p l e R s m args below meth c A ids g cells slots (cw_G below args s A ids g mc ms Q) nL pc ls [.int x] σ τ := fun H locs la _ hP hS =>
  W.widen h1 h2 (W.iret (v := x) C.1 C.2.1 (cw_hr C) (fun t ht _ => ⟨⟨some (.int x), σ, τ, rfl, hq, by rw [ht]; exact hP⟩, hS.F ht⟩) hS.2.2 hd (cw_hlk C))
theorem cw_zreturn (C : cw_C p s m args meth c A ids g cc nL own (some .boolean)) {x : Int32} (hd : decode cc pc = .ok (.ireturn, 1)) (hn : narrow .boolean (.int x) = .int x) (h1 : cells ≤ mc) (h2 : slots ≤ ms) (hq : Q (some (.int x)) σ τ) :
    cw_W p l e R s m args below meth c A ids g cells slots (cw_G below args s A ids g mc ms Q) nL pc ls [.int x] σ τ := fun H locs la _ hP hS =>
  W.widen h1 h2 (W.zret (v := x) C.1 C.2.1 (cw_hr C) hn (fun t ht _ => ⟨⟨some (.int x), σ, τ, rfl, hq, by rw [ht]; exact hP⟩, hS.F ht⟩) hS.2.2 hd (cw_hlk C))
theorem cw_areturn {cn : String} (C : cw_C p s m args meth c A ids g cc nL own (some (.object cn))) {q : Nat} (hd : decode cc pc = .ok (.areturn, 1)) (h1 : cells ≤ mc) (h2 : slots ≤ ms) (hq : Q (some (.ref q)) σ τ) :
    cw_W p l e R s m args below meth c A ids g cells slots (cw_G below args s A ids g mc ms Q) nL pc ls [.ref q] σ τ := fun H locs la _ hP hS =>
  W.widen h1 h2 (W.aret (v := .ref (g.1 q)) C.1 C.2.1 (cw_hr C) (Or.inl ⟨cn, rfl⟩) (Or.inr ⟨_, rfl⟩) (fun t ht _ => ⟨⟨some (.ref q), σ, τ, rfl, hq, by rw [ht]; exact hP⟩, hS.F ht⟩) hS.2.2 hd (cw_hlk C))
theorem cw_vreturn (C : cw_C p s m args meth c A ids g cc nL own none) (hd : decode cc pc = .ok (.return_, 1)) (h1 : cells ≤ mc) (h2 : slots ≤ ms) (hq : Q none σ τ) :
    cw_W p l e R s m args below meth c A ids g cells slots (cw_G below args s A ids g mc ms Q) nL pc ls [] σ τ := fun H locs la _ hP hS =>
  W.widen h1 h2 (W.vret C.1 C.2.1 (cw_hr C) (fun t ht _ => ⟨⟨none, σ, τ, rfl, hq, by rw [ht]; exact hP⟩, hS.F ht⟩) hS.2.2 hd (cw_hlk C))
end
/-! a contract out of a walk -/
theorem cw_M.of {ids : List Nat} {y : MethodName} {cc : ByteArray} {nL : Nat} {ret : Option FieldType} {d mc ms : Nat} {av : List Value} {σ : wd_S} {τ : wd_L} {Q : Option Value → wd_S → wd_L → Prop} (hy : plainName y.cls = true) (hcat : av.all cw_c1 = true) (hlen : av.length ≤ nL)
    (h : ∀ (p : Program) (l : Launch) (e : Env) (s : State) (m : MethodId) (args : Array Value) (below : List Frame) (meth : Method) (c : Code) (A : Nat → Prop) (g : wd_G), cw_C p s m args meth c A ids g cc nL y.cls ret →
      cw_W p l e (cw_rm d mc ms) s m args below meth c A ids g 0 0 (cw_G below args s A ids g mc ms Q) nL 0 (cw_in av nL) [] σ τ) : cw_M ids y cc nL ret d mc ms av σ τ Q := by
  intro l g sz
  refine Met.ofW (cc := cc) (maxL := nL) (ret := ret) hy rfl ?_
  intro p e s m args below meth c s₁ B hml hv
  obtain ⟨rfl, hsz, hP, hK, hD0, hN, hnd⟩ := hv
  have hts := atoms_spec (ws := Cond.code y cc nL ret :: wd_tb) B.pre
  have hown : s.vm.findClass y.cls = some m.cls := findClass_of_methodNamed B.named
  subst hsz
  have hD := hD0.self (sz := s.heap.size)
  rw [lg_entry_eq]
  exact h p l e s m _ below meth c (va_A (wd_w ids g σ τ) s.heap.size) g ⟨B.exec, B.bytes, hml, hown, fun w hw => hts w (List.mem_cons_of_mem _ hw), hN, hK, fun σ' τ' => wd_D hD, fun q hq => Or.inr hq, B.returns, B.notSynchronized, hnd⟩ s.heap [] _ (cw_lh_in (fun w hw => cw_c1_cat (List.all_eq_true.mp hcat w hw) g.1) hlen) hP va_S.rf
/-! calls -/
def cw_kV (own : String) (idx : Nat) (y : MethodName) (cc : ByteArray) (nL : Nat) (ret : Option FieldType) (n : Nat) : Prop := Cond.methodLink own idx y ∈ wd_tb ∧ Cond.instanceMethod y ∈ wd_tb ∧ Cond.selects y.cls y y ∈ wd_tb ∧ Cond.initialized y.cls ∈ wd_tb ∧ Cond.code y cc nL ret ∈ wd_tb ∧ (y.cls ≠ "java/lang/invoke/MethodHandle" ∧ y.cls ≠ "java/lang/invoke/VarHandle" ∧ (parseMethodDescriptor y.desc).map (fun d => d.parameters.length) = some n)
def cw_kS (own : String) (idx : Nat) (y : MethodName) (cc : ByteArray) (nL : Nat) (ret : Option FieldType) (n : Nat) : Prop := Cond.methodLink own idx y ∈ wd_tb ∧ Cond.static y ∈ wd_tb ∧ Cond.initialized y.cls ∈ wd_tb ∧ Cond.code y cc nL ret ∈ wd_tb ∧ (y.cls ≠ "java/lang/invoke/MethodHandle" ∧ y.cls ≠ "java/lang/invoke/VarHandle" ∧ (parseMethodDescriptor y.desc).map (fun d => d.parameters.length) = some n)
def cw_kSN (own : String) (idx : Nat) (y : MethodName) (cc : ByteArray) (nL : Nat) (ret : Option FieldType) (n : Nat) (host : String) : Prop := Cond.methodLinkNest own idx y host ∈ wd_nb ∧ Cond.static y ∈ wd_tb ∧ Cond.initialized y.cls ∈ wd_tb ∧ Cond.code y cc nL ret ∈ wd_tb ∧ (y.cls ≠ "java/lang/invoke/MethodHandle" ∧ y.cls ≠ "java/lang/invoke/VarHandle" ∧ (parseMethodDescriptor y.desc).map (fun d => d.parameters.length) = some n)
theorem cw_goodIn {y : MethodName} {cc : ByteArray} {nL : Nat} {ret : Option FieldType} (h : Cond.code y cc nL ret ∈ wd_tb) : GoodIn wd_tb (Cond.code y cc nL ret :: wd_tb) := by
  intro w hw
  rcases List.mem_cons.mp hw with rfl | hw
  · exact ⟨h, wd_good _ h⟩
  · exact ⟨hw, wd_good _ hw⟩
theorem cw_blind {ids : List Nat} {av : List Value} {g : wd_G} {sz : Nat} {σ : wd_S} {τ : wd_L} : FrameBlind (va_Pc av (cw_B ids g sz σ τ)) := fun a U f mk q => by
  obtain ⟨q0, q1, qP, qK, qD, qN, qn⟩ := q
  exact ⟨q0, q1, qP, va_K.moved (u := U) (U := U.calling f mk a) (Vm.Alike.refl U.vm) qK, qD, fun w hw => va_Nw.same (u := U) (U := U.calling f mk a) (cw_N_on (wd_nbN w hw)) rfl (qN w hw), qn⟩
section
variable {p : Program} {l : Launch} {e : Env} {R : Room} {s : State} {m : MethodId} {args : Array Value} {below : List Frame} {meth : Method} {c : Code} {A : Nat → Prop} {ids : List Nat} {g : wd_G} {cells slots : Nat} {G : State → Prop} {cc : ByteArray} {nL pc : Nat} {own : String} {ret : Option FieldType} {ls : List (Option Value)} {st : List Value} {σ : wd_S} {τ : wd_L}
theorem cw_pre (C : cw_C p s m args meth c A ids g cc nL own ret) {H : Heap} (hP : va_P g.2.1 wd_cl (wd_w ids g σ τ) H) (av : List Value) : ∀ U : State, U.heap = H → s.WarmedH U.vm → va_Pc (av.map (cw_v g.1)) (cw_B ids g H.size σ τ) (av.map (cw_v g.1)).toArray U := fun U hU hW =>
  ⟨rfl, by rw [hU], by rw [hU]; exact hP, va_K.moved hW.alike (cw_hK C), (cw_hD C σ τ).weaken (fun _ _ _ _ => trivial), fun w hw => cw_N_warm (wd_nbN w hw) hW (C.2.2.2.2.2.1 w hw), cw_hn C⟩
theorem cw_back (C : cw_C p s m args meth c A ids g cc nL own ret) {H : Heap} {locs : List Loc} {la : Array Slot} {mc ms : Nat} {st0 rest : List Value} {a : Array Value} {Q' : Option Value → wd_S → wd_L → Prop} (hP : va_P g.2.1 wd_cl (wd_w ids g σ τ) H) (hS : va_S A s.heap H locs)
    (hr : va_Run p l e R s m args below meth c H locs cells slots mc ms (F0 m pc la st0) rest (cw_Q ids g (va_A (wd_w ids g σ τ) H.size) Q' a) (va_A (wd_w ids g σ τ) H.size))
    (kk : ∀ (v : Option Value) (σ' : wd_S) (τ' : wd_L) (H1 : Heap) (locs1 : List Loc), Q' v σ' τ' → va_P g.2.1 wd_cl (wd_w ids g σ' τ') H1 → va_S A s.heap H1 locs1 → W p l e R s m args below meth c H1 locs1 (cells + mc) (slots + ms) G (F0 m (pc + 3) la ((v.map (cw_v g.1)).toList ++ rest))) :
    W p l e R s m args below meth c H locs cells slots G (F0 m pc la st0) := by
  have hF : ∀ q, va_A (wd_w ids g σ τ) H.size q → A q := fun q h => by
    rcases h with ⟨k, x, h⟩ | h
    · exact (cw_hD C σ τ).2 k _ h
    · exact cw_hA C q (Nat.le_trans hS.1 h)
  intro T hT X
  obtain ⟨v, st₀, t, T', L, h0, X', hL, e1, e2, ⟨⟨v', σ', τ', hv, hq, hb⟩, hz, hk⟩, stp⟩ := hr T hT X
  cases hv
  rw [h0] at hz hk
  rw [← e1] at hb hz
  obtain ⟨t2, a1, b1⟩ := kk v' σ' τ' T'.heap (locs ++ L) hq hb
    ⟨Nat.le_trans hS.1 hz, fun q h1 h2 => by rw [e1, hk q (Nat.lt_of_lt_of_le h1 hS.1) (fun z => h2 (hF q z))]; exact hS.2.1 q h1 h2, fun q hq => by
      rcases List.mem_append.mp hq with h | h
      · exact hS.2.2 q h
      · exact hF _ (hL q h)⟩ T' rfl X'
  exact ⟨t2, stp t2 a1, b1⟩
theorem cw_toList (ad : Nat → Nat) (v : Option Value) (st : List Value) : (v.map (cw_v ad)).toList ++ st.map (cw_v ad) = (v.toList ++ st).map (cw_v ad) := by cases v <;> rfl
theorem cw_dki {z : Int32} {σ1 : wd_S} {τ1 : wd_L} (kk : cw_W p l e R s m args below meth c A ids g cells slots G nL pc ls (.int z :: st) σ1 τ1) : ∀ (v : Option Value) (σ' : wd_S) (τ' : wd_L), (v = some (.int z) ∧ σ' = σ1 ∧ τ' = τ1) → cw_W p l e R s m args below meth c A ids g cells slots G nL pc ls (v.toList ++ st) σ' τ' := by
  rintro _ _ _ ⟨rfl, rfl, rfl⟩
  exact kk
theorem cw_dkr {z : Nat} {σ1 : wd_S} {τ1 : wd_L} (kk : cw_W p l e R s m args below meth c A ids g cells slots G nL pc ls (.ref z :: st) σ1 τ1) : ∀ (v : Option Value) (σ' : wd_S) (τ' : wd_L), (v = some (.ref z) ∧ σ' = σ1 ∧ τ' = τ1) → cw_W p l e R s m args below meth c A ids g cells slots G nL pc ls (v.toList ++ st) σ' τ' := by
  rintro _ _ _ ⟨rfl, rfl, rfl⟩
  exact kk
theorem cw_dkv {σ1 : wd_S} {τ1 : wd_L} (kk : cw_W p l e R s m args below meth c A ids g cells slots G nL pc ls st σ1 τ1) : ∀ (v : Option Value) (σ' : wd_S) (τ' : wd_L), (v = none ∧ σ' = σ1 ∧ τ' = τ1) → cw_W p l e R s m args below meth c A ids g cells slots G nL pc ls (v.toList ++ st) σ' τ' := by
  rintro _ _ _ ⟨rfl, rfl, rfl⟩
  exact kk
theorem cw_callV (C : cw_C p s m args meth c A ids g cc nL own ret) {y : MethodName} {cc' : ByteArray} {nL' n idx d mc ms ci N q : Nat} {ret' : Option FieldType} {fl : List (Nat × Nat)} {T : u_T} {ty0 : Nat → FieldType} {As stk : List Value} {Q' : Option Value → wd_S → wd_L → Prop} (K : cw_kV own idx y cc' nL' ret' n) (hc : wd_cls ci y.cls T N ty0) (hi : wd_is ids q (4, ci, fl))
    (hd : decode cc pc = .ok (.invokevirtual idx, 3)) (hs : stk = As.reverse ++ .ref q :: st) (hn : As.length = n) (hw : ((st.map (cw_v g.1)).map fun v => v.category).sum ≤ 8) (hR : d + 1 ≤ R.frames ∧ 8 + (nL' + 11) + 40 * d ≤ R.locals) (hf : cells + mc ≤ R.cells ∧ slots + ms ≤ R.slots)
    (hM : cw_M ids y cc' nL' ret' d mc ms (.ref q :: As) σ τ Q')
    (kk : ∀ (v : Option Value) (σ' : wd_S) (τ' : wd_L), Q' v σ' τ' → cw_W p l e R s m args below meth c A ids g (cells + mc) (slots + ms) G nL (pc + 3) ls (v.toList ++ st) σ' τ') : cw_W p l e R s m args below meth c A ids g cells slots G nL pc ls stk σ τ := by
  intro H locs la hl hP hS
  obtain ⟨i, hids⟩ := List.getElem?_of_mem hi.1
  have he := wd_at (ids := ids) (g := g) (σ := σ) (τ := τ) hids
  rw [wd_ce_o hi.2] at he
  obtain ⟨cell, hr1, hr2, hr3⟩ := va_recv (cw_hK C) hP hc.1 he
  have hts := cw_hts C
  refine cw_back C hP hS (va_runV (C := y.cls) (As := As.map (cw_v g.1)) (rest := st.map (cw_v g.1)) (n := n) ⟨C.1, C.2.1, C.2.2.1, C.2.2.2.1, hts⟩ (hM l g H.size) ⟨callB_of n hts (cw_goodIn K.2.2.2.2.1) rfl rfl rfl (hts _ K.2.2.2.1) (hts _ K.1) K.2.2.2.2.2 hR, hts _ K.2.1, hts _ K.2.2.1⟩ ⟨cw_blind, ⟨cell, hr1, hr2, hr3⟩, cw_pre C hP (.ref q :: As)⟩ rfl (by rw [List.length_map]; exact hn) hl.1 (by rw [hs]; simp [cw_v]) (lv_room hw) hd hf) ?_
  intro v σ' τ' H1 locs1 hq hP1 hS1
  rw [cw_toList]
  exact kk v σ' τ' hq H1 locs1 la hl hP1 hS1
theorem cw_callS (C : cw_C p s m args meth c A ids g cc nL own ret) {y : MethodName} {cc' : ByteArray} {nL' n idx d mc ms : Nat} {ret' : Option FieldType} {As stk : List Value} {Q' : Option Value → wd_S → wd_L → Prop} (K : cw_kS own idx y cc' nL' ret' n)
    (hd : decode cc pc = .ok (.invokestatic idx, 3)) (hs : stk = As.reverse ++ st) (hn : As.length = n) (hw : ((st.map (cw_v g.1)).map fun v => v.category).sum ≤ 8) (hR : d + 1 ≤ R.frames ∧ 8 + (nL' + 11) + 40 * d ≤ R.locals) (hf : cells + mc ≤ R.cells ∧ slots + ms ≤ R.slots)
    (hM : cw_M ids y cc' nL' ret' d mc ms As σ τ Q')
    (kk : ∀ (v : Option Value) (σ' : wd_S) (τ' : wd_L), Q' v σ' τ' → cw_W p l e R s m args below meth c A ids g (cells + mc) (slots + ms) G nL (pc + 3) ls (v.toList ++ st) σ' τ') : cw_W p l e R s m args below meth c A ids g cells slots G nL pc ls stk σ τ := by
  intro H locs la hl hP hS
  have hts := cw_hts C
  refine cw_back C hP hS (va_runS (As := As.map (cw_v g.1)) (rest := st.map (cw_v g.1)) (n := n) ⟨C.1, C.2.1, C.2.2.1, C.2.2.2.1, hts⟩ (hM l g H.size) ⟨callB_of n hts (cw_goodIn K.2.2.2.1) rfl rfl rfl (hts _ K.2.2.1) (hts _ K.1) K.2.2.2.2 hR, hts _ K.2.1⟩ ⟨cw_blind, cw_pre C hP As⟩ rfl (by rw [List.length_map]; exact hn) hl.1 (by rw [hs]; simp) (lv_room hw) hd hf) ?_
  intro v σ' τ' H1 locs1 hq hP1 hS1
  rw [cw_toList]
  exact kk v σ' τ' hq H1 locs1 la hl hP1 hS1
theorem cw_callSN (C : cw_C p s m args meth c A ids g cc nL own ret) {y : MethodName} {cc' : ByteArray} {nL' n idx d mc ms : Nat} {ret' : Option FieldType} {host : String} {As stk : List Value} {Q' : Option Value → wd_S → wd_L → Prop} (K : cw_kSN own idx y cc' nL' ret' n host)
    (hd : decode cc pc = .ok (.invokestatic idx, 3)) (hs : stk = As.reverse ++ st) (hn : As.length = n) (hw : ((st.map (cw_v g.1)).map fun v => v.category).sum ≤ 8) (hR : d + 1 ≤ R.frames ∧ 8 + (nL' + 11) + 40 * d ≤ R.locals) (hf : cells + mc ≤ R.cells ∧ slots + ms ≤ R.slots)
    (hM : cw_M ids y cc' nL' ret' d mc ms As σ τ Q')
    (kk : ∀ (v : Option Value) (σ' : wd_S) (τ' : wd_L), Q' v σ' τ' → cw_W p l e R s m args below meth c A ids g (cells + mc) (slots + ms) G nL (pc + 3) ls (v.toList ++ st) σ' τ') : cw_W p l e R s m args below meth c A ids g cells slots G nL pc ls stk σ τ := by
  intro H locs la hl hP hS
  have hts := cw_hts C
  refine cw_back C hP hS (va_runSN (As := As.map (cw_v g.1)) (rest := st.map (cw_v g.1)) (n := n) ⟨C.1, C.2.1, C.2.2.1, C.2.2.2.1, hts⟩ (hM l g H.size) ⟨va_cnB n hts (cw_goodIn K.2.2.2.1) rfl rfl rfl (C.2.2.2.2.2.1 _ K.1) (hts _ K.2.2.1) K.2.2.2.2 hR, hts _ K.2.1, trivial⟩ ⟨cw_blind, cw_pre C hP As⟩ rfl (by rw [List.length_map]; exact hn) hl.1 (by rw [hs]; simp) (lv_room hw) hd hf) ?_
  intro v σ' τ' H1 locs1 hq hP1 hS1
  rw [cw_toList]
  exact kk v σ' τ' hq H1 locs1 la hl hP1 hS1
end
end
section
/-! The clean layer over natural numbers: the world is en X, every int is nI of a number (-1 is nI 4294967295). -/
abbrev wx_S : Type := Nat → Nat → Nat
def wx_e (X : wx_S) : wd_S := fun c k => nI (X c k)
def wx_l (X : wx_S) : wd_L := fun c k => lN (X c k)
def wx_u (X : wx_S) (c k n : Nat) : wx_S := fun c' k' => if c' = c ∧ k' = k then n else X c' k'
abbrev wx_N : Nat := 4294967295
theorem wx_e_u (X : wx_S) (c k n : Nat) : cw_up (wx_e X) c k (nI n) = wx_e (wx_u X c k n) := by
  funext c' k'
  simp only [cw_up, wx_e, wx_u]
  split <;> rfl
theorem wx_u_eq (X : wx_S) (c k n : Nat) : wx_u X c k n c k = n := by simp [wx_u]
theorem wx_u_ne {X : wx_S} {c k n c' k' : Nat} (h : ¬ (c' = c ∧ k' = k)) : wx_u X c k n c' k' = X c' k' := by simp [wx_u, h]
theorem wx_u_nc {X : wx_S} {c k n c' k' : Nat} (h : c' ≠ c) : wx_u X c k n c' k' = X c' k' := by simp [wx_u, h]
theorem wx_u_nk {X : wx_S} {c k n c' k' : Nat} (h : k' ≠ k) : wx_u X c k n c' k' = X c' k' := by simp [wx_u, h]
theorem wx_u_id (X : wx_S) (c k : Nat) : wx_u X c k (X c k) = X := by
  funext c' k'
  simp only [wx_u]
  split
  · rename_i h; rw [h.1, h.2]
  · rfl
theorem wx_u_uu (X : wx_S) (c k n n' : Nat) : wx_u (wx_u X c k n) c k n' = wx_u X c k n' := by
  funext c' k'
  simp only [wx_u]
  split <;> rfl
theorem wx_bool : ∀ k, k < 2 → vp_nar .boolean (nI k) = nI k := by decide +kernel
theorem wx_m1 : (-1 : Int32) = nI wx_N := by decide +kernel
theorem wx_bv (n : Nat) : (nI n).toBitVec = BitVec.ofNat 32 n := rfl
theorem wx_inj {a b : Int32} (h : a.toBitVec = b.toBitVec) : a = b := Int32.toBitVec_inj.mp h
theorem wx_mod (n : Nat) : nI n = nI (n % 4294967296) := wx_inj (by rw [wx_bv, wx_bv]; apply BitVec.eq_of_toNat_eq; simp)
theorem wx_eq {a b : Nat} (ha : a < 4294967296) (hb : b < 4294967296) : nI a = nI b ↔ a = b := by
  constructor
  · intro h
    have h1 : (nI a).toBitVec.toNat = (nI b).toBitVec.toNat := by rw [h]
    rw [wx_bv, wx_bv, BitVec.toNat_ofNat, BitVec.toNat_ofNat, Nat.mod_eq_of_lt ha, Nat.mod_eq_of_lt hb] at h1
    exact h1
  · rintro rfl; rfl
theorem wx_and (a b : Nat) : nI a &&& nI b = nI (a &&& b) := wx_inj (by
  show (BitVec.ofNat 32 a) &&& (BitVec.ofNat 32 b) = BitVec.ofNat 32 (a &&& b)
  apply BitVec.eq_of_toNat_eq
  simp [BitVec.toNat_and, Nat.and_mod_two_pow])
theorem wx_or (a b : Nat) : nI a ||| nI b = nI (a ||| b) := wx_inj (by
  show (BitVec.ofNat 32 a) ||| (BitVec.ofNat 32 b) = BitVec.ofNat 32 (a ||| b)
  apply BitVec.eq_of_toNat_eq
  simp [BitVec.toNat_or, Nat.or_mod_two_pow])
theorem wx_xor (a b : Nat) : nI a ^^^ nI b = nI (a ^^^ b) := wx_inj (by
  show (BitVec.ofNat 32 a) ^^^ (BitVec.ofNat 32 b) = BitVec.ofNat 32 (a ^^^ b)
  apply BitVec.eq_of_toNat_eq
  simp [BitVec.toNat_xor, Nat.xor_mod_two_pow])
theorem wx_k : ∀ k, k < 32 → ((nI k &&& 31).toBitVec.smod 32).toNat = k := by decide +kernel
theorem wx_shl (a : Nat) {k : Nat} (hk : k < 32) : nI a <<< (nI k &&& 31) = nI (a * 2 ^ k) := wx_inj (by
  apply BitVec.eq_of_toNat_eq
  rw [pk_shl (nI a) (nI k &&& 31) k (wx_k k hk), wx_bv, wx_bv, BitVec.toNat_ofNat, BitVec.toNat_ofNat]
  rw [show (2 : Nat) ^ 32 = 4294967296 from rfl, Nat.mod_mul_mod])
theorem wx_shr {a k : Nat} (ha : a < 2147483648) (hk : k < 32) : nI a >>> (nI k &&& 31) = nI (a / 2 ^ k) := pk_shrN ha (nI k &&& 31) k (wx_k k hk)
theorem wx_lt0 {a : Nat} (ha : a < 4294967296) : nI a < 0 ↔ 2147483648 ≤ a := by
  constructor
  · intro h
    by_cases h2 : a < 2147483648
    · exact absurd h (nI_pos h2)
    · omega
  · intro h
    have e : (nI a).toInt = (a : Int) - 4294967296 := by
      show (BitVec.ofNat 32 a).toInt = _
      rw [BitVec.toInt_eq_toNat_cond, BitVec.toNat_ofNat, Nat.mod_eq_of_lt (by omega)]
      rw [if_neg (by omega)]
      omega
    rw [Int32.lt_iff_toInt_lt, e]
    show _ < (0 : Int)
    omega
theorem wx_lt {a b : Nat} (ha : a < 2147483648) (hb : b < 2147483648) : nI a < nI b ↔ a < b := nI_ltI ha hb
theorem wx_le {a b : Nat} (ha : a < 2147483648) (hb : b < 2147483648) : nI a ≤ nI b ↔ a ≤ b := nI_leI ha hb
theorem wx_pd (d : Nat) : nI d - nI 1 = nI (if d = 0 then 4294967295 else d - 1) := by
  split
  · subst_vars; decide +kernel
  · exact pk_sub (by omega)
theorem wx_ge0 {x : Int32} (h : x < 0) (h2 : 0 ≤ x) : False := by
  rw [Int32.lt_iff_toInt_lt] at h
  rw [Int32.le_iff_toInt_le] at h2
  omega
theorem wx_gt0 {a : Nat} (ha : a < 4294967296) (h : 0 < nI a) : 0 < a ∧ a < 2147483648 := by
  refine ⟨Nat.pos_of_ne_zero (fun q => ?_), Nat.not_le.mp (fun q => ?_)⟩
  · subst q; exact absurd h (by decide +kernel)
  · have h1 := (wx_lt0 ha).mpr q
    rw [Int32.lt_iff_toInt_lt] at h h1
    omega
theorem wx_nle0 {a : Nat} (ha : a < 4294967296) (h : ¬ nI a ≤ 0) : 0 < a ∧ a < 2147483648 := wx_gt0 ha (by
  rw [Int32.le_iff_toInt_le] at h
  rw [Int32.lt_iff_toInt_lt]
  omega)
theorem wx_ngt0 {a : Nat} (ha : a < 4294967296) (h : ¬ 0 < nI a) : a = 0 ∨ 2147483648 ≤ a := by
  by_cases h0 : a = 0
  · exact Or.inl h0
  · refine Or.inr (Nat.not_lt.mp (fun q => h ?_))
    have := nI_lt (a := 0) (b := a) (by omega) q
    exact this
theorem wx_le0 {a : Nat} (ha : a < 4294967296) (h : nI a ≤ 0) : a = 0 ∨ 2147483648 ≤ a := wx_ngt0 ha (by
  rw [Int32.le_iff_toInt_le] at h
  rw [Int32.lt_iff_toInt_lt]
  omega)
section
variable {p : Program} {l : Launch} {e : Env} {R : Room} {s : State} {m : MethodId} {args : Array Value} {below : List Frame} {meth : Method} {c : Code} {A : Nat → Prop} {ids : List Nat} {g : wd_G} {cells slots : Nat} {G : State → Prop} {cc : ByteArray} {nL pc : Nat} {own : String} {ret : Option FieldType} {ls : List (Option Value)} {st : List Value} {σ : wd_S} {τ : wd_L}
theorem nw_iadd (C : cw_C p s m args meth c A ids g cc nL own ret) {a b : Nat} (hd : decode cc pc = .ok (.iadd, 1)) (k : cw_W p l e R s m args below meth c A ids g cells slots G nL (pc + 1) ls (.int (nI (a + b)) :: st) σ τ) : cw_W p l e R s m args below meth c A ids g cells slots G nL pc ls (.int (nI b) :: .int (nI a) :: st) σ τ := cw_iadd C hd (nI_add a b ▸ k)
theorem nw_imul (C : cw_C p s m args meth c A ids g cc nL own ret) {a b : Nat} (hd : decode cc pc = .ok (.imul, 1)) (k : cw_W p l e R s m args below meth c A ids g cells slots G nL (pc + 1) ls (.int (nI (a * b)) :: st) σ τ) : cw_W p l e R s m args below meth c A ids g cells slots G nL pc ls (.int (nI b) :: .int (nI a) :: st) σ τ := cw_imul C hd (pk_mul a b ▸ k)
theorem nw_iand (C : cw_C p s m args meth c A ids g cc nL own ret) {a b : Nat} (hd : decode cc pc = .ok (.iand, 1)) (k : cw_W p l e R s m args below meth c A ids g cells slots G nL (pc + 1) ls (.int (nI (a &&& b)) :: st) σ τ) : cw_W p l e R s m args below meth c A ids g cells slots G nL pc ls (.int (nI b) :: .int (nI a) :: st) σ τ := cw_iand C hd (wx_and a b ▸ k)
theorem nw_ior (C : cw_C p s m args meth c A ids g cc nL own ret) {a b : Nat} (hd : decode cc pc = .ok (.ior, 1)) (k : cw_W p l e R s m args below meth c A ids g cells slots G nL (pc + 1) ls (.int (nI (a ||| b)) :: st) σ τ) : cw_W p l e R s m args below meth c A ids g cells slots G nL pc ls (.int (nI b) :: .int (nI a) :: st) σ τ := cw_ior C hd (wx_or a b ▸ k)
theorem nw_ixor (C : cw_C p s m args meth c A ids g cc nL own ret) {a b : Nat} (hd : decode cc pc = .ok (.ixor, 1)) (k : cw_W p l e R s m args below meth c A ids g cells slots G nL (pc + 1) ls (.int (nI (a ^^^ b)) :: st) σ τ) : cw_W p l e R s m args below meth c A ids g cells slots G nL pc ls (.int (nI b) :: .int (nI a) :: st) σ τ := cw_ixor C hd (wx_xor a b ▸ k)
theorem nw_isub (C : cw_C p s m args meth c A ids g cc nL own ret) {a b : Nat} (hd : decode cc pc = .ok (.isub, 1)) (h : b ≤ a) (k : cw_W p l e R s m args below meth c A ids g cells slots G nL (pc + 1) ls (.int (nI (a - b)) :: st) σ τ) : cw_W p l e R s m args below meth c A ids g cells slots G nL pc ls (.int (nI b) :: .int (nI a) :: st) σ τ := cw_isub C hd (pk_sub h ▸ k)
theorem nw_idec (C : cw_C p s m args meth c A ids g cc nL own ret) {a : Nat} (hd : decode cc pc = .ok (.isub, 1)) (k : cw_W p l e R s m args below meth c A ids g cells slots G nL (pc + 1) ls (.int (nI (if a = 0 then 4294967295 else a - 1)) :: st) σ τ) : cw_W p l e R s m args below meth c A ids g cells slots G nL pc ls (.int (nI 1) :: .int (nI a) :: st) σ τ := cw_isub C hd (wx_pd a ▸ k)
theorem nw_idiv (C : cw_C p s m args meth c A ids g cc nL own ret) {a b : Nat} (hd : decode cc pc = .ok (.idiv, 1)) (ha : a < 2147483648) (hb : b < 2147483648) (h0 : 0 < b) (k : cw_W p l e R s m args below meth c A ids g cells slots G nL (pc + 1) ls (.int (nI (a / b)) :: st) σ τ) : cw_W p l e R s m args below meth c A ids g cells slots G nL pc ls (.int (nI b) :: .int (nI a) :: st) σ τ := cw_idiv C hd (nI_ne0 h0 hb) (pk_div ha h0 hb ▸ k)
theorem nw_irem (C : cw_C p s m args meth c A ids g cc nL own ret) {a b : Nat} (hd : decode cc pc = .ok (.irem, 1)) (ha : a < 2147483648) (hb : b < 2147483648) (h0 : 0 < b) (k : cw_W p l e R s m args below meth c A ids g cells slots G nL (pc + 1) ls (.int (nI (a % b)) :: st) σ τ) : cw_W p l e R s m args below meth c A ids g cells slots G nL pc ls (.int (nI b) :: .int (nI a) :: st) σ τ := cw_irem C hd (nI_ne0 h0 hb) (pk_rem ha h0 hb ▸ k)
theorem nw_ishl (C : cw_C p s m args meth c A ids g cc nL own ret) {a b : Nat} (hd : decode cc pc = .ok (.ishl, 1)) (hb : b < 32) (k : cw_W p l e R s m args below meth c A ids g cells slots G nL (pc + 1) ls (.int (nI (a * 2 ^ b)) :: st) σ τ) : cw_W p l e R s m args below meth c A ids g cells slots G nL pc ls (.int (nI b) :: .int (nI a) :: st) σ τ := cw_ishl C hd (wx_shl a hb ▸ k)
theorem nw_ishr (C : cw_C p s m args meth c A ids g cc nL own ret) {a b : Nat} (hd : decode cc pc = .ok (.ishr, 1)) (ha : a < 2147483648) (hb : b < 32) (k : cw_W p l e R s m args below meth c A ids g cells slots G nL (pc + 1) ls (.int (nI (a / 2 ^ b)) :: st) σ τ) : cw_W p l e R s m args below meth c A ids g cells slots G nL pc ls (.int (nI b) :: .int (nI a) :: st) σ τ := cw_ishr C hd (wx_shr ha hb ▸ k)
theorem nw_icmp_eq (C : cw_C p s m args meth c A ids g cc nL own ret) {a b : Nat} {off : Int} {tgt : Nat} (hd : decode cc pc = .ok (.if_icmp .eq off, 3)) (ht : (pc : Int) + off = (tgt : Int)) (ha : a < 4294967296) (hb : b < 4294967296) (kt : a = b → cw_W p l e R s m args below meth c A ids g cells slots G nL tgt ls st σ τ) (kf : ¬ a = b → cw_W p l e R s m args below meth c A ids g cells slots G nL (pc + 3) ls st σ τ) : cw_W p l e R s m args below meth c A ids g cells slots G nL pc ls (.int (nI b) :: .int (nI a) :: st) σ τ := cw_icmp_eq C hd ht (fun h => kt ((wx_eq ha hb).mp h)) (fun h => kf (fun q => h ((wx_eq ha hb).mpr q)))
theorem nw_if_eq (C : cw_C p s m args meth c A ids g cc nL own ret) {a : Nat} {off : Int} {tgt : Nat} (hd : decode cc pc = .ok (.ifCond .eq off, 3)) (ht : (pc : Int) + off = (tgt : Int)) (ha : a < 4294967296) (kt : a = 0 → cw_W p l e R s m args below meth c A ids g cells slots G nL tgt ls st σ τ) (kf : ¬ a = 0 → cw_W p l e R s m args below meth c A ids g cells slots G nL (pc + 3) ls st σ τ) : cw_W p l e R s m args below meth c A ids g cells slots G nL pc ls (.int (nI a) :: st) σ τ := cw_if_eq C hd ht (fun h => kt ((wx_eq ha (b := 0) (by decide)).mp h)) (fun h => kf (fun q => h ((wx_eq ha (b := 0) (by decide)).mpr q)))
theorem nw_icmp_ne (C : cw_C p s m args meth c A ids g cc nL own ret) {a b : Nat} {off : Int} {tgt : Nat} (hd : decode cc pc = .ok (.if_icmp .ne off, 3)) (ht : (pc : Int) + off = (tgt : Int)) (ha : a < 4294967296) (hb : b < 4294967296) (kt : ¬ a = b → cw_W p l e R s m args below meth c A ids g cells slots G nL tgt ls st σ τ) (kf : a = b → cw_W p l e R s m args below meth c A ids g cells slots G nL (pc + 3) ls st σ τ) : cw_W p l e R s m args below meth c A ids g cells slots G nL pc ls (.int (nI b) :: .int (nI a) :: st) σ τ := cw_icmp_ne C hd ht (fun h => kt (fun q => h ((wx_eq ha hb).mpr q))) (fun h => kf ((wx_eq ha hb).mp h))
theorem nw_if_ne (C : cw_C p s m args meth c A ids g cc nL own ret) {a : Nat} {off : Int} {tgt : Nat} (hd : decode cc pc = .ok (.ifCond .ne off, 3)) (ht : (pc : Int) + off = (tgt : Int)) (ha : a < 4294967296) (kt : ¬ a = 0 → cw_W p l e R s m args below meth c A ids g cells slots G nL tgt ls st σ τ) (kf : a = 0 → cw_W p l e R s m args below meth c A ids g cells slots G nL (pc + 3) ls st σ τ) : cw_W p l e R s m args below meth c A ids g cells slots G nL pc ls (.int (nI a) :: st) σ τ := cw_if_ne C hd ht (fun h => kt (fun q => h ((wx_eq ha (b := 0) (by decide)).mpr q))) (fun h => kf ((wx_eq ha (b := 0) (by decide)).mp h))
theorem nw_icmp_lt (C : cw_C p s m args meth c A ids g cc nL own ret) {a b : Nat} {off : Int} {tgt : Nat} (hd : decode cc pc = .ok (.if_icmp .lt off, 3)) (ht : (pc : Int) + off = (tgt : Int)) (ha : a < 2147483648) (hb : b < 2147483648) (kt : a < b → cw_W p l e R s m args below meth c A ids g cells slots G nL tgt ls st σ τ) (kf : b ≤ a → cw_W p l e R s m args below meth c A ids g cells slots G nL (pc + 3) ls st σ τ) : cw_W p l e R s m args below meth c A ids g cells slots G nL pc ls (.int (nI b) :: .int (nI a) :: st) σ τ := cw_icmp_lt C hd ht (fun h => kt ((wx_lt ha hb).mp h)) (fun h => kf (Nat.not_lt.mp (fun q => h ((wx_lt ha hb).mpr q))))
theorem nw_icmp_ge (C : cw_C p s m args meth c A ids g cc nL own ret) {a b : Nat} {off : Int} {tgt : Nat} (hd : decode cc pc = .ok (.if_icmp .ge off, 3)) (ht : (pc : Int) + off = (tgt : Int)) (ha : a < 2147483648) (hb : b < 2147483648) (kt : b ≤ a → cw_W p l e R s m args below meth c A ids g cells slots G nL tgt ls st σ τ) (kf : a < b → cw_W p l e R s m args below meth c A ids g cells slots G nL (pc + 3) ls st σ τ) : cw_W p l e R s m args below meth c A ids g cells slots G nL pc ls (.int (nI b) :: .int (nI a) :: st) σ τ := cw_icmp_ge C hd ht (fun h => kt ((wx_le hb ha).mp h)) (fun h => kf (Nat.not_le.mp (fun q => h ((wx_le hb ha).mpr q))))
theorem nw_icmp_gt (C : cw_C p s m args meth c A ids g cc nL own ret) {a b : Nat} {off : Int} {tgt : Nat} (hd : decode cc pc = .ok (.if_icmp .gt off, 3)) (ht : (pc : Int) + off = (tgt : Int)) (ha : a < 2147483648) (hb : b < 2147483648) (kt : b < a → cw_W p l e R s m args below meth c A ids g cells slots G nL tgt ls st σ τ) (kf : a ≤ b → cw_W p l e R s m args below meth c A ids g cells slots G nL (pc + 3) ls st σ τ) : cw_W p l e R s m args below meth c A ids g cells slots G nL pc ls (.int (nI b) :: .int (nI a) :: st) σ τ := cw_icmp_gt C hd ht (fun h => kt ((wx_lt hb ha).mp h)) (fun h => kf (Nat.not_lt.mp (fun q => h ((wx_lt hb ha).mpr q))))
theorem nw_icmp_le (C : cw_C p s m args meth c A ids g cc nL own ret) {a b : Nat} {off : Int} {tgt : Nat} (hd : decode cc pc = .ok (.if_icmp .le off, 3)) (ht : (pc : Int) + off = (tgt : Int)) (ha : a < 2147483648) (hb : b < 2147483648) (kt : a ≤ b → cw_W p l e R s m args below meth c A ids g cells slots G nL tgt ls st σ τ) (kf : b < a → cw_W p l e R s m args below meth c A ids g cells slots G nL (pc + 3) ls st σ τ) : cw_W p l e R s m args below meth c A ids g cells slots G nL pc ls (.int (nI b) :: .int (nI a) :: st) σ τ := cw_icmp_le C hd ht (fun h => kt ((wx_le ha hb).mp h)) (fun h => kf (Nat.not_le.mp (fun q => h ((wx_le ha hb).mpr q))))
theorem nw_if_lt (C : cw_C p s m args meth c A ids g cc nL own ret) {a : Nat} {off : Int} {tgt : Nat} (hd : decode cc pc = .ok (.ifCond .lt off, 3)) (ht : (pc : Int) + off = (tgt : Int)) (ha : a < 4294967296) (kt : 2147483648 ≤ a → cw_W p l e R s m args below meth c A ids g cells slots G nL tgt ls st σ τ) (kf : a < 2147483648 → cw_W p l e R s m args below meth c A ids g cells slots G nL (pc + 3) ls st σ τ) : cw_W p l e R s m args below meth c A ids g cells slots G nL pc ls (.int (nI a) :: st) σ τ := cw_if_lt C hd ht (fun h => kt ((wx_lt0 ha).mp h)) (fun h => kf (Nat.not_le.mp (fun q => h ((wx_lt0 ha).mpr q))))
theorem nw_if_ge (C : cw_C p s m args meth c A ids g cc nL own ret) {a : Nat} {off : Int} {tgt : Nat} (hd : decode cc pc = .ok (.ifCond .ge off, 3)) (ht : (pc : Int) + off = (tgt : Int)) (ha : a < 4294967296) (kt : a < 2147483648 → cw_W p l e R s m args below meth c A ids g cells slots G nL tgt ls st σ τ) (kf : 2147483648 ≤ a → cw_W p l e R s m args below meth c A ids g cells slots G nL (pc + 3) ls st σ τ) : cw_W p l e R s m args below meth c A ids g cells slots G nL pc ls (.int (nI a) :: st) σ τ := cw_if_ge C hd ht (fun h => kt (Nat.not_le.mp (fun q => wx_ge0 ((wx_lt0 ha).mpr q) h))) (fun h => kf (Nat.not_lt.mp (fun q => h (nI_pos' q))))
theorem nw_if_gt (C : cw_C p s m args meth c A ids g cc nL own ret) {a : Nat} {off : Int} {tgt : Nat} (hd : decode cc pc = .ok (.ifCond .gt off, 3)) (ht : (pc : Int) + off = (tgt : Int)) (ha : a < 4294967296) (kt : 0 < a ∧ a < 2147483648 → cw_W p l e R s m args below meth c A ids g cells slots G nL tgt ls st σ τ) (kf : a = 0 ∨ 2147483648 ≤ a → cw_W p l e R s m args below meth c A ids g cells slots G nL (pc + 3) ls st σ τ) : cw_W p l e R s m args below meth c A ids g cells slots G nL pc ls (.int (nI a) :: st) σ τ := cw_if_gt C hd ht (fun h => kt (wx_gt0 ha h)) (fun h => kf (wx_ngt0 ha h))
theorem nw_if_le (C : cw_C p s m args meth c A ids g cc nL own ret) {a : Nat} {off : Int} {tgt : Nat} (hd : decode cc pc = .ok (.ifCond .le off, 3)) (ht : (pc : Int) + off = (tgt : Int)) (ha : a < 4294967296) (kt : a = 0 ∨ 2147483648 ≤ a → cw_W p l e R s m args below meth c A ids g cells slots G nL tgt ls st σ τ) (kf : 0 < a ∧ a < 2147483648 → cw_W p l e R s m args below meth c A ids g cells slots G nL (pc + 3) ls st σ τ) : cw_W p l e R s m args below meth c A ids g cells slots G nL pc ls (.int (nI a) :: st) σ τ := cw_if_le C hd ht (fun h => kt (wx_le0 ha h)) (fun h => kf (wx_nle0 ha h))
theorem nw_iinc (C : cw_C p s m args meth c A ids g cc nL own ret) {i a b : Nat} {n : Int} (hd : decode cc pc = .ok (.iinc i n, 3)) (hn : Int32.ofInt n = nI b) (h : ls[i]? = some (some (.int (nI a)))) (hi : i < nL) (k : cw_W p l e R s m args below meth c A ids g cells slots G nL (pc + 3) (ls.set i (some (.int (nI (a + b))))) st σ τ) : cw_W p l e R s m args below meth c A ids g cells slots G nL pc ls st σ τ := cw_iinc C hd h (by rw [hn, nI_add]) hi k
theorem nw_iincm (C : cw_C p s m args meth c A ids g cc nL own ret) {i a b : Nat} {n : Int} (hd : decode cc pc = .ok (.iinc i n, 3)) (hn : Int32.ofInt n = nI (4294967296 - b)) (h : ls[i]? = some (some (.int (nI a)))) (hb : b ≤ a ∧ a < 4294967296) (hi : i < nL) (k : cw_W p l e R s m args below meth c A ids g cells slots G nL (pc + 3) (ls.set i (some (.int (nI (a - b))))) st σ τ) : cw_W p l e R s m args below meth c A ids g cells slots G nL pc ls st σ τ := cw_iinc C hd h (by rw [hn, nI_add, wx_mod (a + (4294967296 - b)), show (a + (4294967296 - b)) % 4294967296 = a - b by omega]) hi k
variable {X : wx_S}
theorem nw_geti (C : cw_C p s m args meth c A ids g cc nL own ret) {ci N k q idx j : Nat} {K : String} {T : u_T} {ty0 : Nat → FieldType} {fl : List (Nat × Nat)} (hc : wd_cls ci K T N ty0) (hf : cw_kF own idx T k) (hi : wd_is ids q (4, ci, fl)) (hk : k < N) (hfl : fl[k]? = some (0, j)) (hd : decode cc pc = .ok (.getfield idx, 3)) (kk : cw_W p l e R s m args below meth c A ids g cells slots G nL (pc + 3) ls (.int (nI (X q k)) :: st) (wx_e X) (wx_l X)) : cw_W p l e R s m args below meth c A ids g cells slots G nL pc ls (.ref q :: st) (wx_e X) (wx_l X) := cw_geti C hc hf hi hk hfl hd kk
theorem wx_l_u (X : wx_S) (c k n : Nat) : cw_uq (wx_l X) c k (lN n) = wx_l (wx_u X c k n) := by
  funext c' k'
  simp only [cw_uq, wx_l, wx_u]
  split <;> rfl
theorem wx_u_c {X : wx_S} {c k n c' : Nat} (h : c' ≠ c) : wx_u X c k n c' = X c' := by funext k'; simp [wx_u, h]
theorem cw_tau {σ' : wd_S} {τ' : wd_L} (h : ∀ q ∈ ids, wd_ce g σ τ q = wd_ce g σ' τ' q) (k : cw_W p l e R s m args below meth c A ids g cells slots G nL pc ls st σ' τ') : cw_W p l e R s m args below meth c A ids g cells slots G nL pc ls st σ τ := by
  have e : wd_w ids g σ τ = wd_w ids g σ' τ' := List.map_congr_left (fun q hq => by rw [h q hq])
  intro H locs la hl hP hS
  rw [e] at hP
  exact k H locs la hl hP hS
theorem nw_tau_o {q k n ci j : Nat} {fl : List (Nat × Nat)} (hi : wd_is ids q (4, ci, fl)) (hfl : fl[k]? = some (0, j)) (kk : cw_W p l e R s m args below meth c A ids g cells slots G nL pc ls st (wx_e (wx_u X q k n)) (wx_l (wx_u X q k n))) : cw_W p l e R s m args below meth c A ids g cells slots G nL pc ls st (wx_e (wx_u X q k n)) (wx_l X) := by
  refine cw_tau (fun q' hq' => ?_) kk
  by_cases hq : q' = q
  · subst hq
    rw [wd_ce_o hi.2, wd_ce_o hi.2]
    congr 3
    apply List.ext_getElem?
    intro i
    cases hf : fl[i]? with
    | none => simp [wd_fs, List.getElem?_zipIdx, hf]
    | some f =>
      rw [wd_fs_at hf, wd_fs_at hf]
      by_cases hik : i = k
      · subst hik
        rw [hfl] at hf
        cases hf
        rfl
      · have e : wx_l (wx_u X q' k n) q' i = wx_l X q' i := by simp [wx_l, wx_u, hik]
        simp only [wd_fv, e]
  · exact wd_ce_ext rfl (by funext k'; simp [wx_l, wx_u, hq])
theorem nw_tau_a {q i n v t : Nat} {fl : List (Nat × Nat)} (hi : wd_is ids q (t, n, fl)) (ht : t = 0 ∨ t = 1) (kk : cw_W p l e R s m args below meth c A ids g cells slots G nL pc ls st (wx_e (wx_u X q i v)) (wx_l (wx_u X q i v))) : cw_W p l e R s m args below meth c A ids g cells slots G nL pc ls st (wx_e (wx_u X q i v)) (wx_l X) := by
  refine cw_tau (fun q' hq' => ?_) kk
  by_cases hq : q' = q
  · subst hq
    rcases ht with rfl | rfl
    · rw [wd_ce_i hi.2, wd_ce_i hi.2]
    · rw [wd_ce_z hi.2, wd_ce_z hi.2]
  · exact wd_ce_ext rfl (by funext k'; simp [wx_l, wx_u, hq])
theorem nw_sig_o {q k n ci j : Nat} {fl : List (Nat × Nat)} (hi : wd_is ids q (4, ci, fl)) (hfl : fl[k]? = some (1, j)) (kk : cw_W p l e R s m args below meth c A ids g cells slots G nL pc ls st (wx_e (wx_u X q k n)) (wx_l (wx_u X q k n))) : cw_W p l e R s m args below meth c A ids g cells slots G nL pc ls st (wx_e X) (wx_l (wx_u X q k n)) := by
  refine cw_tau (fun q' hq' => ?_) kk
  by_cases hq : q' = q
  · subst hq
    rw [wd_ce_o hi.2, wd_ce_o hi.2]
    congr 3
    apply List.ext_getElem?
    intro i
    cases hf : fl[i]? with
    | none => simp [wd_fs, List.getElem?_zipIdx, hf]
    | some f =>
      rw [wd_fs_at hf, wd_fs_at hf]
      by_cases hik : i = k
      · subst hik
        rw [hfl] at hf
        cases hf
        rfl
      · have e : wx_e (wx_u X q' k n) q' i = wx_e X q' i := by simp [wx_e, wx_u, hik]
        simp only [wd_fv, e]
  · exact wd_ce_ext (by funext k'; simp [wx_e, wx_u, hq]) rfl
theorem nw_sig_a {q i n v : Nat} {fl : List (Nat × Nat)} (hi : wd_is ids q (2, n, fl)) (kk : cw_W p l e R s m args below meth c A ids g cells slots G nL pc ls st (wx_e (wx_u X q i v)) (wx_l (wx_u X q i v))) : cw_W p l e R s m args below meth c A ids g cells slots G nL pc ls st (wx_e X) (wx_l (wx_u X q i v)) := by
  refine cw_tau (fun q' hq' => ?_) kk
  by_cases hq : q' = q
  · subst hq
    rw [wd_ce_l hi.2, wd_ce_l hi.2]
  · exact wd_ce_ext (by funext k'; simp [wx_e, wx_u, hq]) rfl
theorem nw_puti (C : cw_C p s m args meth c A ids g cc nL own ret) {ci N k q idx j n : Nat} {K : String} {T : u_T} {ty0 : Nat → FieldType} {fl : List (Nat × Nat)} (hc : wd_cls ci K T N ty0) (hf : cw_kF own idx T k) (hi : wd_is ids q (4, ci, fl)) (hk : k < N) (hfl : fl[k]? = some (0, j)) (hfin : (T k).2.2.2 = false) (hn : narrow (ty0 k) (.int (nI n)) = .int (nI n)) (hfit : fits (ty0 k) (.int (nI n)) = true) (hd : decode cc pc = .ok (.putfield idx, 3)) (kk : cw_W p l e R s m args below meth c A ids g cells slots G nL (pc + 3) ls st (wx_e (wx_u X q k n)) (wx_l (wx_u X q k n))) : cw_W p l e R s m args below meth c A ids g cells slots G nL pc ls (.int (nI n) :: .ref q :: st) (wx_e X) (wx_l X) := cw_puti C hc hf hi hk hfl hfin hn hfit hd (wx_e_u X q k n ▸ nw_tau_o hi hfl kk)
theorem nw_getl (C : cw_C p s m args meth c A ids g cc nL own ret) {ci N k q idx j : Nat} {K : String} {T : u_T} {ty0 : Nat → FieldType} {fl : List (Nat × Nat)} (hc : wd_cls ci K T N ty0) (hf : cw_kF own idx T k) (hi : wd_is ids q (4, ci, fl)) (hk : k < N) (hfl : fl[k]? = some (1, j)) (hd : decode cc pc = .ok (.getfield idx, 3)) (kk : cw_W p l e R s m args below meth c A ids g cells slots G nL (pc + 3) ls (.long (lN (X q k)) :: st) (wx_e X) (wx_l X)) : cw_W p l e R s m args below meth c A ids g cells slots G nL pc ls (.ref q :: st) (wx_e X) (wx_l X) := cw_getl C hc hf hi hk hfl hd kk
theorem nw_putl (C : cw_C p s m args meth c A ids g cc nL own ret) {ci N k q idx j n : Nat} {K : String} {T : u_T} {ty0 : Nat → FieldType} {fl : List (Nat × Nat)} (hc : wd_cls ci K T N ty0) (hf : cw_kF own idx T k) (hi : wd_is ids q (4, ci, fl)) (hk : k < N) (hfl : fl[k]? = some (1, j)) (hfin : (T k).2.2.2 = false) (hn : narrow (ty0 k) (.long (lN n)) = .long (lN n)) (hfit : fits (ty0 k) (.long (lN n)) = true) (hd : decode cc pc = .ok (.putfield idx, 3)) (kk : cw_W p l e R s m args below meth c A ids g cells slots G nL (pc + 3) ls st (wx_e (wx_u X q k n)) (wx_l (wx_u X q k n))) : cw_W p l e R s m args below meth c A ids g cells slots G nL pc ls (.long (lN n) :: .ref q :: st) (wx_e X) (wx_l X) := cw_putl C hc hf hi hk hfl hfin hn hfit hd (wx_l_u X q k n ▸ nw_sig_o hi hfl kk)
theorem nw_lald (C : cw_C p s m args meth c A ids g cc nL own ret) {q n i : Nat} {fl : List (Nat × Nat)} (hi : wd_is ids q (2, n, fl)) (hin : i < n) (hn : n < 2 ^ 31) (hd : decode cc pc = .ok (.laload, 1)) (kk : cw_W p l e R s m args below meth c A ids g cells slots G nL (pc + 1) ls (.long (lN (X q i)) :: st) (wx_e X) (wx_l X)) : cw_W p l e R s m args below meth c A ids g cells slots G nL pc ls (.int (nI i) :: .ref q :: st) (wx_e X) (wx_l X) := cw_lald C hi rfl hin hn hd kk
theorem nw_last (C : cw_C p s m args meth c A ids g cc nL own ret) {q n i v : Nat} {fl : List (Nat × Nat)} (hi : wd_is ids q (2, n, fl)) (hin : i < n) (hn : n < 2 ^ 31) (hd : decode cc pc = .ok (.lastore, 1)) (kk : cw_W p l e R s m args below meth c A ids g cells slots G nL (pc + 1) ls st (wx_e (wx_u X q i v)) (wx_l (wx_u X q i v))) : cw_W p l e R s m args below meth c A ids g cells slots G nL pc ls (.long (lN v) :: .int (nI i) :: .ref q :: st) (wx_e X) (wx_l X) := cw_last C hi rfl hin hn hd (wx_l_u X q i v ▸ nw_sig_a hi kk)
theorem nw_iald (C : cw_C p s m args meth c A ids g cc nL own ret) {q n i : Nat} {fl : List (Nat × Nat)} (hi : wd_is ids q (0, n, fl)) (hin : i < n) (hn : n < 2 ^ 31) (hd : decode cc pc = .ok (.iaload, 1)) (kk : cw_W p l e R s m args below meth c A ids g cells slots G nL (pc + 1) ls (.int (nI (X q i)) :: st) (wx_e X) (wx_l X)) : cw_W p l e R s m args below meth c A ids g cells slots G nL pc ls (.int (nI i) :: .ref q :: st) (wx_e X) (wx_l X) := cw_iald C hi rfl hin hn hd kk
theorem nw_zald (C : cw_C p s m args meth c A ids g cc nL own ret) {q n i : Nat} {fl : List (Nat × Nat)} (hi : wd_is ids q (1, n, fl)) (hin : i < n) (hn : n < 2 ^ 31) (hd : decode cc pc = .ok (.baload, 1)) (kk : cw_W p l e R s m args below meth c A ids g cells slots G nL (pc + 1) ls (.int (nI (X q i)) :: st) (wx_e X) (wx_l X)) : cw_W p l e R s m args below meth c A ids g cells slots G nL pc ls (.int (nI i) :: .ref q :: st) (wx_e X) (wx_l X) := cw_zald C hi rfl hin hn hd kk
theorem nw_iast (C : cw_C p s m args meth c A ids g cc nL own ret) {q n i v : Nat} {fl : List (Nat × Nat)} (hi : wd_is ids q (0, n, fl)) (hin : i < n) (hn : n < 2 ^ 31) (hd : decode cc pc = .ok (.iastore, 1)) (kk : cw_W p l e R s m args below meth c A ids g cells slots G nL (pc + 1) ls st (wx_e (wx_u X q i v)) (wx_l (wx_u X q i v))) : cw_W p l e R s m args below meth c A ids g cells slots G nL pc ls (.int (nI v) :: .int (nI i) :: .ref q :: st) (wx_e X) (wx_l X) := cw_iast C hi rfl hin hn hd (wx_e_u X q i v ▸ nw_tau_a hi (Or.inl rfl) kk)
theorem nw_zast (C : cw_C p s m args meth c A ids g cc nL own ret) {q n i v : Nat} {fl : List (Nat × Nat)} (hi : wd_is ids q (1, n, fl)) (hin : i < n) (hn : n < 2 ^ 31) (hv : v < 2) (hd : decode cc pc = .ok (.bastore, 1)) (kk : cw_W p l e R s m args below meth c A ids g cells slots G nL (pc + 1) ls st (wx_e (wx_u X q i v)) (wx_l (wx_u X q i v))) : cw_W p l e R s m args below meth c A ids g cells slots G nL pc ls (.int (nI v) :: .int (nI i) :: .ref q :: st) (wx_e X) (wx_l X) := cw_zast C hi rfl hin hn (wx_bool v hv) hd (wx_e_u X q i v ▸ nw_tau_a hi (Or.inr rfl) kk)
theorem nw_aald (C : cw_C p s m args meth c A ids g cc nL own ret) {q n i j a b9 : Nat} (hi : wd_is ids q (3, n, [(a, j)])) (hin : i < n) (hn : n < 2 ^ 31) (hd : decode cc pc = .ok (.aaload, 1)) (hq : 4 * j = b9) (kk : cw_W p l e R s m args below meth c A ids g cells slots G nL (pc + 1) ls (.ref (b9 + i) :: st) (wx_e X) (wx_l X)) : cw_W p l e R s m args below meth c A ids g cells slots G nL pc ls (.int (nI i) :: .ref q :: st) (wx_e X) (wx_l X) := cw_aald C hi rfl hin hn hd hq kk
end
/-- a contract over numbers -/
def nw_M (ids : List Nat) (y : MethodName) (cc : ByteArray) (nL : Nat) (ret : Option FieldType) (d mc ms : Nat) (av : List Value) (X : wx_S) (Q : Option Value → wx_S → Prop) : Prop := cw_M ids y cc nL ret d mc ms av (wx_e X) (wx_l X) (fun v σ' τ' => ∃ X' : wx_S, σ' = wx_e X' ∧ τ' = wx_l X' ∧ Q v X')
theorem nw_k {p : Program} {l : Launch} {e : Env} {R : Room} {s : State} {m : MethodId} {args : Array Value} {below : List Frame} {meth : Method} {c : Code} {A : Nat → Prop} {ids : List Nat} {g : wd_G} {cells slots : Nat} {G : State → Prop} {nL pc : Nat} {ls : List (Option Value)} {st : List Value} {Q : Option Value → wx_S → Prop}
    (kk : ∀ (v : Option Value) (X : wx_S), Q v X → cw_W p l e R s m args below meth c A ids g cells slots G nL pc ls (v.toList ++ st) (wx_e X) (wx_l X)) : ∀ (v : Option Value) (σ' : wd_S) (τ' : wd_L), (∃ X' : wx_S, σ' = wx_e X' ∧ τ' = wx_l X' ∧ Q v X') → cw_W p l e R s m args below meth c A ids g cells slots G nL pc ls (v.toList ++ st) σ' τ' := by
  rintro v _ _ ⟨X, rfl, rfl, h⟩
  exact kk v X h
theorem nw_ki {p : Program} {l : Launch} {e : Env} {R : Room} {s : State} {m : MethodId} {args : Array Value} {below : List Frame} {meth : Method} {c : Code} {A : Nat → Prop} {ids : List Nat} {g : wd_G} {cells slots : Nat} {G : State → Prop} {nL pc : Nat} {ls : List (Option Value)} {st : List Value} {z : Int32} {X1 : wx_S}
    (kk : cw_W p l e R s m args below meth c A ids g cells slots G nL pc ls (.int z :: st) (wx_e X1) (wx_l X1)) : ∀ (v : Option Value) (σ' : wd_S) (τ' : wd_L), (∃ X' : wx_S, σ' = wx_e X' ∧ τ' = wx_l X' ∧ (v = some (.int z) ∧ X' = X1)) → cw_W p l e R s m args below meth c A ids g cells slots G nL pc ls (v.toList ++ st) σ' τ' := by
  rintro v _ _ ⟨X, rfl, rfl, rfl, rfl⟩
  exact kk
theorem nw_kr {p : Program} {l : Launch} {e : Env} {R : Room} {s : State} {m : MethodId} {args : Array Value} {below : List Frame} {meth : Method} {c : Code} {A : Nat → Prop} {ids : List Nat} {g : wd_G} {cells slots : Nat} {G : State → Prop} {nL pc : Nat} {ls : List (Option Value)} {st : List Value} {z : Nat} {X1 : wx_S}
    (kk : cw_W p l e R s m args below meth c A ids g cells slots G nL pc ls (.ref z :: st) (wx_e X1) (wx_l X1)) : ∀ (v : Option Value) (σ' : wd_S) (τ' : wd_L), (∃ X' : wx_S, σ' = wx_e X' ∧ τ' = wx_l X' ∧ (v = some (.ref z) ∧ X' = X1)) → cw_W p l e R s m args below meth c A ids g cells slots G nL pc ls (v.toList ++ st) σ' τ' := by
  rintro v _ _ ⟨X, rfl, rfl, rfl, rfl⟩
  exact kk
theorem nw_kv {p : Program} {l : Launch} {e : Env} {R : Room} {s : State} {m : MethodId} {args : Array Value} {below : List Frame} {meth : Method} {c : Code} {A : Nat → Prop} {ids : List Nat} {g : wd_G} {cells slots : Nat} {G : State → Prop} {nL pc : Nat} {ls : List (Option Value)} {st : List Value} {X1 : wx_S}
    (kk : cw_W p l e R s m args below meth c A ids g cells slots G nL pc ls st (wx_e X1) (wx_l X1)) : ∀ (v : Option Value) (σ' : wd_S) (τ' : wd_L), (∃ X' : wx_S, σ' = wx_e X' ∧ τ' = wx_l X' ∧ (v = none ∧ X' = X1)) → cw_W p l e R s m args below meth c A ids g cells slots G nL pc ls (v.toList ++ st) σ' τ' := by
  rintro v _ _ ⟨X, rfl, rfl, rfl, rfl⟩
  exact kk
theorem nw_q {Q : Option Value → wx_S → Prop} {v : Option Value} {X : wx_S} (h : Q v X) : ∃ X' : wx_S, wx_e X = wx_e X' ∧ wx_l X = wx_l X' ∧ Q v X' := ⟨X, rfl, rfl, h⟩
end
section
/-! links: words by their places, classes, fields, calls (written by wip/whole/gen02.py) -/
theorem tw_1 : (Cond.initialized "DagLedger") ∈ wd_tb := wd_in (wd_c0 (List.mem_of_getElem? (i := 1) rfl)) rfl
theorem tw_2 : (Cond.initialized "DagLedger$Transfers") ∈ wd_tb := wd_in (wd_c0 (List.mem_of_getElem? (i := 2) rfl)) rfl
theorem tw_3 : (Cond.initialized "DagLedger$Vertices") ∈ wd_tb := wd_in (wd_c0 (List.mem_of_getElem? (i := 3) rfl)) rfl
theorem tw_4 : (Cond.initialized "DagLedger$Board") ∈ wd_tb := wd_in (wd_c0 (List.mem_of_getElem? (i := 4) rfl)) rfl
theorem tw_5 : (Cond.initialized "DagLedger$Replica") ∈ wd_tb := wd_in (wd_c0 (List.mem_of_getElem? (i := 5) rfl)) rfl
theorem tw_6 : (Cond.initialized "DagLedger$Disk") ∈ wd_tb := wd_in (wd_c0 (List.mem_of_getElem? (i := 6) rfl)) rfl
theorem tw_7 : (Cond.initialized "DagLedger$Notes") ∈ wd_tb := wd_in (wd_c0 (List.mem_of_getElem? (i := 7) rfl)) rfl
theorem tw_8 : (Cond.initialized "DagLedger$Dag") ∈ wd_tb := wd_in (wd_c0 (List.mem_of_getElem? (i := 8) rfl)) rfl
theorem tw_9 : (Cond.initialized "java/util/Arrays") ∈ wd_tb := wd_in (wd_c0 (List.mem_of_getElem? (i := 9) rfl)) rfl
theorem tw_10 : (Cond.initialized "DagLedger$Book") ∈ wd_tb := wd_in (wd_c0 (List.mem_of_getElem? (i := 10) rfl)) rfl
theorem tw_11 : (Cond.initialized "DagLedger$Commits") ∈ wd_tb := wd_in (wd_c0 (List.mem_of_getElem? (i := 11) rfl)) rfl
theorem tw_12 : (Cond.initialized "DagLedgerModel") ∈ wd_tb := wd_in (wd_c0 (List.mem_of_getElem? (i := 12) rfl)) rfl
theorem tw_18 : (Cond.initialized "java/lang/Integer") ∈ wd_tb := wd_in (wd_c0 (List.mem_of_getElem? (i := 18) rfl)) rfl
theorem tw_19 : (Cond.initialized "java/lang/Math") ∈ wd_tb := wd_in (wd_c0 (List.mem_of_getElem? (i := 19) rfl)) rfl
theorem tw_34 : (Cond.fieldLink "DagLedger$Transfers" (9 : Nat) "DagLedger$Transfers" "froms" "[I") ∈ wd_tb := wd_in (wd_c0 (List.mem_of_getElem? (i := 34) rfl)) rfl
theorem tw_35 : (Cond.fieldLink "DagLedger$Book" (41 : Nat) "DagLedger$Transfers" "froms" "[I") ∈ wd_tb := wd_in (wd_c0 (List.mem_of_getElem? (i := 35) rfl)) rfl
theorem tw_36 : (Cond.fieldLink "DagLedger$Transfers" (15 : Nat) "DagLedger$Transfers" "tos" "[I") ∈ wd_tb := wd_in (wd_c0 (List.mem_of_getElem? (i := 36) rfl)) rfl
theorem tw_37 : (Cond.fieldLink "DagLedger$Book" (44 : Nat) "DagLedger$Transfers" "tos" "[I") ∈ wd_tb := wd_in (wd_c0 (List.mem_of_getElem? (i := 37) rfl)) rfl
theorem tw_38 : (Cond.fieldLink "DagLedger$Transfers" (18 : Nat) "DagLedger$Transfers" "amounts" "[I") ∈ wd_tb := wd_in (wd_c0 (List.mem_of_getElem? (i := 38) rfl)) rfl
theorem tw_39 : (Cond.fieldLink "DagLedger$Book" (36 : Nat) "DagLedger$Transfers" "amounts" "[I") ∈ wd_tb := wd_in (wd_c0 (List.mem_of_getElem? (i := 39) rfl)) rfl
theorem tw_40 : (Cond.fieldLink "DagLedger$Transfers" (21 : Nat) "DagLedger$Transfers" "count" "I") ∈ wd_tb := wd_in (wd_c0 (List.mem_of_getElem? (i := 40) rfl)) rfl
theorem tw_41 : (Cond.laysFinal "DagLedger$Transfers" "DagLedger$Transfers" "froms" "[I") ∈ wd_tb := wd_in (wd_c0 (List.mem_of_getElem? (i := 41) rfl)) rfl
theorem tw_43 : (Cond.laysFinal "DagLedger$Transfers" "DagLedger$Transfers" "tos" "[I") ∈ wd_tb := wd_in (wd_c0 (List.mem_of_getElem? (i := 43) rfl)) rfl
theorem tw_45 : (Cond.laysFinal "DagLedger$Transfers" "DagLedger$Transfers" "amounts" "[I") ∈ wd_tb := wd_in (wd_c0 (List.mem_of_getElem? (i := 45) rfl)) rfl
theorem tw_47 : (Cond.lays "DagLedger$Transfers" "DagLedger$Transfers" "count" "I") ∈ wd_tb := wd_in (wd_c0 (List.mem_of_getElem? (i := 47) rfl)) rfl
theorem tw_57 : (Cond.fieldLink "DagLedger$Vertices" (9 : Nat) "DagLedger$Vertices" "authors" "[I") ∈ wd_tb := wd_in (wd_c0 (List.mem_of_getElem? (i := 57) rfl)) rfl
theorem tw_58 : (Cond.fieldLink "DagLedger$Dag" (37 : Nat) "DagLedger$Vertices" "authors" "[I") ∈ wd_tb := wd_in (wd_c0 (List.mem_of_getElem? (i := 58) rfl)) rfl
theorem tw_59 : (Cond.fieldLink "DagLedger$Replica" (126 : Nat) "DagLedger$Vertices" "authors" "[I") ∈ wd_tb := wd_in (wd_c0 (List.mem_of_getElem? (i := 59) rfl)) rfl
theorem tw_60 : (Cond.fieldLink "DagLedger" (127 : Nat) "DagLedger$Vertices" "authors" "[I") ∈ wd_tb := wd_in (wd_c0 (List.mem_of_getElem? (i := 60) rfl)) rfl
theorem tw_61 : (Cond.fieldLink "DagLedger$Vertices" (15 : Nat) "DagLedger$Vertices" "rounds" "[I") ∈ wd_tb := wd_in (wd_c0 (List.mem_of_getElem? (i := 61) rfl)) rfl
theorem tw_62 : (Cond.fieldLink "DagLedger$Dag" (28 : Nat) "DagLedger$Vertices" "rounds" "[I") ∈ wd_tb := wd_in (wd_c0 (List.mem_of_getElem? (i := 62) rfl)) rfl
theorem tw_63 : (Cond.fieldLink "DagLedger$Replica" (131 : Nat) "DagLedger$Vertices" "rounds" "[I") ∈ wd_tb := wd_in (wd_c0 (List.mem_of_getElem? (i := 63) rfl)) rfl
theorem tw_64 : (Cond.fieldLink "DagLedger" (130 : Nat) "DagLedger$Vertices" "rounds" "[I") ∈ wd_tb := wd_in (wd_c0 (List.mem_of_getElem? (i := 64) rfl)) rfl
theorem tw_65 : (Cond.fieldLink "DagLedger$Vertices" (18 : Nat) "DagLedger$Vertices" "parents" "[I") ∈ wd_tb := wd_in (wd_c0 (List.mem_of_getElem? (i := 65) rfl)) rfl
theorem tw_66 : (Cond.fieldLink "DagLedger$Dag" (44 : Nat) "DagLedger$Vertices" "parents" "[I") ∈ wd_tb := wd_in (wd_c0 (List.mem_of_getElem? (i := 66) rfl)) rfl
theorem tw_67 : (Cond.fieldLink "DagLedger" (133 : Nat) "DagLedger$Vertices" "parents" "[I") ∈ wd_tb := wd_in (wd_c0 (List.mem_of_getElem? (i := 67) rfl)) rfl
theorem tw_68 : (Cond.fieldLink "DagLedger$Vertices" (21 : Nat) "DagLedger$Vertices" "firsts" "[I") ∈ wd_tb := wd_in (wd_c0 (List.mem_of_getElem? (i := 68) rfl)) rfl
theorem tw_69 : (Cond.fieldLink "DagLedger$Commits" (71 : Nat) "DagLedger$Vertices" "firsts" "[I") ∈ wd_tb := wd_in (wd_c0 (List.mem_of_getElem? (i := 69) rfl)) rfl
theorem tw_70 : (Cond.fieldLink "DagLedger" (136 : Nat) "DagLedger$Vertices" "firsts" "[I") ∈ wd_tb := wd_in (wd_c0 (List.mem_of_getElem? (i := 70) rfl)) rfl
theorem tw_71 : (Cond.fieldLink "DagLedger$Vertices" (24 : Nat) "DagLedger$Vertices" "seconds" "[I") ∈ wd_tb := wd_in (wd_c0 (List.mem_of_getElem? (i := 71) rfl)) rfl
theorem tw_72 : (Cond.fieldLink "DagLedger$Commits" (82 : Nat) "DagLedger$Vertices" "seconds" "[I") ∈ wd_tb := wd_in (wd_c0 (List.mem_of_getElem? (i := 72) rfl)) rfl
theorem tw_73 : (Cond.fieldLink "DagLedger" (139 : Nat) "DagLedger$Vertices" "seconds" "[I") ∈ wd_tb := wd_in (wd_c0 (List.mem_of_getElem? (i := 73) rfl)) rfl
theorem tw_74 : (Cond.fieldLink "DagLedger$Vertices" (27 : Nat) "DagLedger$Vertices" "count" "I") ∈ wd_tb := wd_in (wd_c0 (List.mem_of_getElem? (i := 74) rfl)) rfl
theorem tw_75 : (Cond.laysFinal "DagLedger$Vertices" "DagLedger$Vertices" "authors" "[I") ∈ wd_tb := wd_in (wd_c0 (List.mem_of_getElem? (i := 75) rfl)) rfl
theorem tw_77 : (Cond.laysFinal "DagLedger$Vertices" "DagLedger$Vertices" "rounds" "[I") ∈ wd_tb := wd_in (wd_c0 (List.mem_of_getElem? (i := 77) rfl)) rfl
theorem tw_79 : (Cond.laysFinal "DagLedger$Vertices" "DagLedger$Vertices" "parents" "[I") ∈ wd_tb := wd_in (wd_c0 (List.mem_of_getElem? (i := 79) rfl)) rfl
theorem tw_81 : (Cond.laysFinal "DagLedger$Vertices" "DagLedger$Vertices" "firsts" "[I") ∈ wd_tb := wd_in (wd_c0 (List.mem_of_getElem? (i := 81) rfl)) rfl
theorem tw_83 : (Cond.laysFinal "DagLedger$Vertices" "DagLedger$Vertices" "seconds" "[I") ∈ wd_tb := wd_in (wd_c0 (List.mem_of_getElem? (i := 83) rfl)) rfl
theorem tw_85 : (Cond.lays "DagLedger$Vertices" "DagLedger$Vertices" "count" "I") ∈ wd_tb := wd_in (wd_c0 (List.mem_of_getElem? (i := 85) rfl)) rfl
theorem tw_94 : (Cond.fieldLink "DagLedger$Board" (9 : Nat) "DagLedger$Board" "kinds" "[I") ∈ wd_tb := wd_in (wd_c0 (List.mem_of_getElem? (i := 94) rfl)) rfl
theorem tw_95 : (Cond.fieldLink "DagLedger$Replica" (113 : Nat) "DagLedger$Board" "kinds" "[I") ∈ wd_tb := wd_in (wd_c0 (List.mem_of_getElem? (i := 95) rfl)) rfl
theorem tw_96 : (Cond.fieldLink "DagLedger" (117 : Nat) "DagLedger$Board" "kinds" "[I") ∈ wd_tb := wd_in (wd_c0 (List.mem_of_getElem? (i := 96) rfl)) rfl
theorem tw_97 : (Cond.fieldLink "DagLedger$Board" (15 : Nat) "DagLedger$Board" "senders" "[I") ∈ wd_tb := wd_in (wd_c0 (List.mem_of_getElem? (i := 97) rfl)) rfl
theorem tw_98 : (Cond.fieldLink "DagLedger$Replica" (110 : Nat) "DagLedger$Board" "senders" "[I") ∈ wd_tb := wd_in (wd_c0 (List.mem_of_getElem? (i := 98) rfl)) rfl
theorem tw_99 : (Cond.fieldLink "DagLedger" (121 : Nat) "DagLedger$Board" "senders" "[I") ∈ wd_tb := wd_in (wd_c0 (List.mem_of_getElem? (i := 99) rfl)) rfl
theorem tw_100 : (Cond.fieldLink "DagLedger$Board" (18 : Nat) "DagLedger$Board" "subjects" "[I") ∈ wd_tb := wd_in (wd_c0 (List.mem_of_getElem? (i := 100) rfl)) rfl
theorem tw_101 : (Cond.fieldLink "DagLedger$Replica" (104 : Nat) "DagLedger$Board" "subjects" "[I") ∈ wd_tb := wd_in (wd_c0 (List.mem_of_getElem? (i := 101) rfl)) rfl
theorem tw_102 : (Cond.fieldLink "DagLedger" (124 : Nat) "DagLedger$Board" "subjects" "[I") ∈ wd_tb := wd_in (wd_c0 (List.mem_of_getElem? (i := 102) rfl)) rfl
theorem tw_103 : (Cond.fieldLink "DagLedger$Board" (21 : Nat) "DagLedger$Board" "count" "I") ∈ wd_tb := wd_in (wd_c0 (List.mem_of_getElem? (i := 103) rfl)) rfl
theorem tw_104 : (Cond.laysFinal "DagLedger$Board" "DagLedger$Board" "kinds" "[I") ∈ wd_tb := wd_in (wd_c0 (List.mem_of_getElem? (i := 104) rfl)) rfl
theorem tw_106 : (Cond.laysFinal "DagLedger$Board" "DagLedger$Board" "senders" "[I") ∈ wd_tb := wd_in (wd_c0 (List.mem_of_getElem? (i := 106) rfl)) rfl
theorem tw_108 : (Cond.laysFinal "DagLedger$Board" "DagLedger$Board" "subjects" "[I") ∈ wd_tb := wd_in (wd_c0 (List.mem_of_getElem? (i := 108) rfl)) rfl
theorem tw_110 : (Cond.lays "DagLedger$Board" "DagLedger$Board" "count" "I") ∈ wd_tb := wd_in (wd_c0 (List.mem_of_getElem? (i := 110) rfl)) rfl
theorem tw_126 : (Cond.fieldLink "DagLedger$Disk" (9 : Nat) "DagLedger$Disk" "own" "[I") ∈ wd_tb := wd_in (wd_c0 (List.mem_of_getElem? (i := 126) rfl)) rfl
theorem tw_127 : (Cond.fieldLink "DagLedger$Disk" (21 : Nat) "DagLedger$Disk" "ownCount" "I") ∈ wd_tb := wd_in (wd_c0 (List.mem_of_getElem? (i := 127) rfl)) rfl
theorem tw_128 : (Cond.fieldLink "DagLedger$Disk" (25 : Nat) "DagLedger$Disk" "queueHead" "I") ∈ wd_tb := wd_in (wd_c0 (List.mem_of_getElem? (i := 128) rfl)) rfl
theorem tw_129 : (Cond.fieldLink "DagLedger$Disk" (15 : Nat) "DagLedger$Disk" "echoedRounds" "[I") ∈ wd_tb := wd_in (wd_c0 (List.mem_of_getElem? (i := 129) rfl)) rfl
theorem tw_130 : (Cond.fieldLink "DagLedger$Replica" (138 : Nat) "DagLedger$Disk" "echoedRounds" "[I") ∈ wd_tb := wd_in (wd_c0 (List.mem_of_getElem? (i := 130) rfl)) rfl
theorem tw_131 : (Cond.fieldLink "DagLedger$Disk" (18 : Nat) "DagLedger$Disk" "readiedRounds" "[I") ∈ wd_tb := wd_in (wd_c0 (List.mem_of_getElem? (i := 131) rfl)) rfl
theorem tw_132 : (Cond.fieldLink "DagLedger$Replica" (163 : Nat) "DagLedger$Disk" "readiedRounds" "[I") ∈ wd_tb := wd_in (wd_c0 (List.mem_of_getElem? (i := 132) rfl)) rfl
theorem tw_133 : (Cond.fieldLink "DagLedger" (142 : Nat) "DagLedger$Disk" "round" "I") ∈ wd_tb := wd_in (wd_c0 (List.mem_of_getElem? (i := 133) rfl)) rfl
theorem tw_134 : (Cond.fieldLink "DagLedger$Replica" (199 : Nat) "DagLedger$Disk" "round" "I") ∈ wd_tb := wd_in (wd_c0 (List.mem_of_getElem? (i := 134) rfl)) rfl
theorem tw_135 : (Cond.fieldLink "DagLedger$Replica" (92 : Nat) "DagLedger$Disk" "records" "I") ∈ wd_tb := wd_in (wd_c0 (List.mem_of_getElem? (i := 135) rfl)) rfl
theorem tw_136 : (Cond.fieldLink "DagLedger" (177 : Nat) "DagLedger$Disk" "records" "I") ∈ wd_tb := wd_in (wd_c0 (List.mem_of_getElem? (i := 136) rfl)) rfl
theorem tw_137 : (Cond.laysFinal "DagLedger$Disk" "DagLedger$Disk" "own" "[I") ∈ wd_tb := wd_in (wd_c0 (List.mem_of_getElem? (i := 137) rfl)) rfl
theorem tw_139 : (Cond.lays "DagLedger$Disk" "DagLedger$Disk" "ownCount" "I") ∈ wd_tb := wd_in (wd_c0 (List.mem_of_getElem? (i := 139) rfl)) rfl
theorem tw_141 : (Cond.lays "DagLedger$Disk" "DagLedger$Disk" "queueHead" "I") ∈ wd_tb := wd_in (wd_c0 (List.mem_of_getElem? (i := 141) rfl)) rfl
theorem tw_143 : (Cond.laysFinal "DagLedger$Disk" "DagLedger$Disk" "echoedRounds" "[I") ∈ wd_tb := wd_in (wd_c0 (List.mem_of_getElem? (i := 143) rfl)) rfl
theorem tw_145 : (Cond.laysFinal "DagLedger$Disk" "DagLedger$Disk" "readiedRounds" "[I") ∈ wd_tb := wd_in (wd_c0 (List.mem_of_getElem? (i := 145) rfl)) rfl
theorem tw_147 : (Cond.lays "DagLedger$Disk" "DagLedger$Disk" "round" "I") ∈ wd_tb := wd_in (wd_c0 (List.mem_of_getElem? (i := 147) rfl)) rfl
theorem tw_149 : (Cond.lays "DagLedger$Disk" "DagLedger$Disk" "records" "I") ∈ wd_tb := wd_in (wd_c0 (List.mem_of_getElem? (i := 149) rfl)) rfl
theorem tw_158 : (Cond.fieldLink "DagLedger$Notes" (9 : Nat) "DagLedger$Notes" "echoes" "[I") ∈ wd_tb := wd_in (wd_c0 (List.mem_of_getElem? (i := 158) rfl)) rfl
theorem tw_159 : (Cond.fieldLink "DagLedger$Notes" (15 : Nat) "DagLedger$Notes" "readies" "[I") ∈ wd_tb := wd_in (wd_c0 (List.mem_of_getElem? (i := 159) rfl)) rfl
theorem tw_160 : (Cond.fieldLink "DagLedger$Notes" (18 : Nat) "DagLedger$Notes" "waiting" "[I") ∈ wd_tb := wd_in (wd_c0 (List.mem_of_getElem? (i := 160) rfl)) rfl
theorem tw_161 : (Cond.fieldLink "DagLedger$Replica" (181 : Nat) "DagLedger$Notes" "waiting" "[I") ∈ wd_tb := wd_in (wd_c0 (List.mem_of_getElem? (i := 161) rfl)) rfl
theorem tw_162 : (Cond.fieldLink "DagLedger$Notes" (27 : Nat) "DagLedger$Notes" "waitingCount" "I") ∈ wd_tb := wd_in (wd_c0 (List.mem_of_getElem? (i := 162) rfl)) rfl
theorem tw_163 : (Cond.fieldLink "DagLedger$Replica" (178 : Nat) "DagLedger$Notes" "waitingCount" "I") ∈ wd_tb := wd_in (wd_c0 (List.mem_of_getElem? (i := 163) rfl)) rfl
theorem tw_164 : (Cond.laysFinal "DagLedger$Notes" "DagLedger$Notes" "echoes" "[I") ∈ wd_tb := wd_in (wd_c0 (List.mem_of_getElem? (i := 164) rfl)) rfl
theorem tw_166 : (Cond.laysFinal "DagLedger$Notes" "DagLedger$Notes" "readies" "[I") ∈ wd_tb := wd_in (wd_c0 (List.mem_of_getElem? (i := 166) rfl)) rfl
theorem tw_168 : (Cond.laysFinal "DagLedger$Notes" "DagLedger$Notes" "waiting" "[I") ∈ wd_tb := wd_in (wd_c0 (List.mem_of_getElem? (i := 168) rfl)) rfl
theorem tw_170 : (Cond.lays "DagLedger$Notes" "DagLedger$Notes" "waitingCount" "I") ∈ wd_tb := wd_in (wd_c0 (List.mem_of_getElem? (i := 170) rfl)) rfl
theorem tw_179 : (Cond.methodLink "DagLedger$Dag" (22 : Nat) ({ cls := "java/util/Arrays", name := "fill", desc := "([II)V" } : MethodName)) ∈ wd_tb := wd_in (wd_c0 (List.mem_of_getElem? (i := 179) rfl)) rfl
theorem tw_180 : (Cond.static ({ cls := "java/util/Arrays", name := "fill", desc := "([II)V" } : MethodName)) ∈ wd_tb := wd_in (wd_c0 (List.mem_of_getElem? (i := 180) rfl)) rfl
theorem tw_181 : (Cond.code ({ cls := "java/util/Arrays", name := "fill", desc := "([II)V" } : MethodName) prog_21_method_103_code (4 : Nat) (Option.none : Option FieldType)) ∈ wd_tb := wd_in (wd_c0 (List.mem_of_getElem? (i := 181) rfl)) rfl
theorem tw_182 : (Cond.fieldLink "DagLedger$Dag" (18 : Nat) "DagLedger$Dag" "vertices" "LDagLedger$Vertices;") ∈ wd_tb := wd_in (wd_c0 (List.mem_of_getElem? (i := 182) rfl)) rfl
theorem tw_183 : (Cond.fieldLink "DagLedger$Dag" (9 : Nat) "DagLedger$Dag" "slots" "[I") ∈ wd_tb := wd_in (wd_c0 (List.mem_of_getElem? (i := 183) rfl)) rfl
theorem tw_184 : (Cond.fieldLink "DagLedger$Dag" (15 : Nat) "DagLedger$Dag" "authorSets" "[I") ∈ wd_tb := wd_in (wd_c0 (List.mem_of_getElem? (i := 184) rfl)) rfl
theorem tw_185 : (Cond.fieldLink "DagLedger$Dag" (47 : Nat) "DagLedger$Dag" "count" "I") ∈ wd_tb := wd_in (wd_c0 (List.mem_of_getElem? (i := 185) rfl)) rfl
theorem tw_186 : (Cond.fieldLink "DagLedger" (161 : Nat) "DagLedger$Dag" "count" "I") ∈ wd_tb := wd_in (wd_c0 (List.mem_of_getElem? (i := 186) rfl)) rfl
theorem tw_187 : (Cond.laysFinal "DagLedger$Dag" "DagLedger$Dag" "vertices" "LDagLedger$Vertices;") ∈ wd_tb := wd_in (wd_c0 (List.mem_of_getElem? (i := 187) rfl)) rfl
theorem tw_189 : (Cond.laysFinal "DagLedger$Dag" "DagLedger$Dag" "slots" "[I") ∈ wd_tb := wd_in (wd_c0 (List.mem_of_getElem? (i := 189) rfl)) rfl
theorem tw_191 : (Cond.laysFinal "DagLedger$Dag" "DagLedger$Dag" "authorSets" "[I") ∈ wd_tb := wd_in (wd_c0 (List.mem_of_getElem? (i := 191) rfl)) rfl
theorem tw_193 : (Cond.lays "DagLedger$Dag" "DagLedger$Dag" "count" "I") ∈ wd_tb := wd_in (wd_c0 (List.mem_of_getElem? (i := 193) rfl)) rfl
theorem tw_202 : (Cond.methodLink "DagLedger$Book" (22 : Nat) ({ cls := "java/util/Arrays", name := "fill", desc := "([II)V" } : MethodName)) ∈ wd_tb := wd_in (wd_c0 (List.mem_of_getElem? (i := 202) rfl)) rfl
theorem tw_203 : (Cond.fieldLink "DagLedger$Book" (18 : Nat) "DagLedger$Book" "transfers" "LDagLedger$Transfers;") ∈ wd_tb := wd_in (wd_c0 (List.mem_of_getElem? (i := 203) rfl)) rfl
theorem tw_204 : (Cond.fieldLink "DagLedger$Book" (9 : Nat) "DagLedger$Book" "order" "[I") ∈ wd_tb := wd_in (wd_c0 (List.mem_of_getElem? (i := 204) rfl)) rfl
theorem tw_205 : (Cond.fieldLink "DagLedger" (184 : Nat) "DagLedger$Book" "order" "[I") ∈ wd_tb := wd_in (wd_c0 (List.mem_of_getElem? (i := 205) rfl)) rfl
theorem tw_206 : (Cond.fieldLink "DagLedger$Book" (32 : Nat) "DagLedger$Book" "count" "I") ∈ wd_tb := wd_in (wd_c0 (List.mem_of_getElem? (i := 206) rfl)) rfl
theorem tw_207 : (Cond.fieldLink "DagLedger" (170 : Nat) "DagLedger$Book" "count" "I") ∈ wd_tb := wd_in (wd_c0 (List.mem_of_getElem? (i := 207) rfl)) rfl
theorem tw_208 : (Cond.fieldLink "DagLedger$Book" (28 : Nat) "DagLedger$Book" "placed" "J") ∈ wd_tb := wd_in (wd_c0 (List.mem_of_getElem? (i := 208) rfl)) rfl
theorem tw_209 : (Cond.fieldLink "DagLedger$Book" (15 : Nat) "DagLedger$Book" "balances" "[I") ∈ wd_tb := wd_in (wd_c0 (List.mem_of_getElem? (i := 209) rfl)) rfl
theorem tw_210 : (Cond.fieldLink "DagLedger" (187 : Nat) "DagLedger$Book" "balances" "[I") ∈ wd_tb := wd_in (wd_c0 (List.mem_of_getElem? (i := 210) rfl)) rfl
theorem tw_211 : (Cond.laysFinal "DagLedger$Book" "DagLedger$Book" "transfers" "LDagLedger$Transfers;") ∈ wd_tb := wd_in (wd_c0 (List.mem_of_getElem? (i := 211) rfl)) rfl
theorem tw_213 : (Cond.laysFinal "DagLedger$Book" "DagLedger$Book" "order" "[I") ∈ wd_tb := wd_in (wd_c0 (List.mem_of_getElem? (i := 213) rfl)) rfl
theorem tw_215 : (Cond.lays "DagLedger$Book" "DagLedger$Book" "count" "I") ∈ wd_tb := wd_in (wd_c0 (List.mem_of_getElem? (i := 215) rfl)) rfl
theorem tw_217 : (Cond.lays "DagLedger$Book" "DagLedger$Book" "placed" "J") ∈ wd_tb := wd_in (wd_c0 (List.mem_of_getElem? (i := 217) rfl)) rfl
theorem tw_219 : (Cond.laysFinal "DagLedger$Book" "DagLedger$Book" "balances" "[I") ∈ wd_tb := wd_in (wd_c0 (List.mem_of_getElem? (i := 219) rfl)) rfl
theorem tw_228 : (Cond.fieldLink "DagLedger$Commits" (18 : Nat) "DagLedger$Commits" "vertices" "LDagLedger$Vertices;") ∈ wd_tb := wd_in (wd_c0 (List.mem_of_getElem? (i := 228) rfl)) rfl
theorem tw_229 : (Cond.fieldLink "DagLedger$Commits" (22 : Nat) "DagLedger$Commits" "dag" "LDagLedger$Dag;") ∈ wd_tb := wd_in (wd_c0 (List.mem_of_getElem? (i := 229) rfl)) rfl
theorem tw_230 : (Cond.fieldLink "DagLedger$Commits" (26 : Nat) "DagLedger$Commits" "book" "LDagLedger$Book;") ∈ wd_tb := wd_in (wd_c0 (List.mem_of_getElem? (i := 230) rfl)) rfl
theorem tw_231 : (Cond.fieldLink "DagLedger$Commits" (9 : Nat) "DagLedger$Commits" "emitted" "[I") ∈ wd_tb := wd_in (wd_c0 (List.mem_of_getElem? (i := 231) rfl)) rfl
theorem tw_232 : (Cond.fieldLink "DagLedger$Commits" (15 : Nat) "DagLedger$Commits" "reached" "[I") ∈ wd_tb := wd_in (wd_c0 (List.mem_of_getElem? (i := 232) rfl)) rfl
theorem tw_233 : (Cond.fieldLink "DagLedger$Commits" (38 : Nat) "DagLedger$Commits" "last" "I") ∈ wd_tb := wd_in (wd_c0 (List.mem_of_getElem? (i := 233) rfl)) rfl
theorem tw_234 : (Cond.fieldLink "DagLedger" (152 : Nat) "DagLedger$Commits" "last" "I") ∈ wd_tb := wd_in (wd_c0 (List.mem_of_getElem? (i := 234) rfl)) rfl
theorem tw_235 : (Cond.laysFinal "DagLedger$Commits" "DagLedger$Commits" "vertices" "LDagLedger$Vertices;") ∈ wd_tb := wd_in (wd_c0 (List.mem_of_getElem? (i := 235) rfl)) rfl
theorem tw_237 : (Cond.laysFinal "DagLedger$Commits" "DagLedger$Commits" "dag" "LDagLedger$Dag;") ∈ wd_tb := wd_in (wd_c0 (List.mem_of_getElem? (i := 237) rfl)) rfl
theorem tw_239 : (Cond.laysFinal "DagLedger$Commits" "DagLedger$Commits" "book" "LDagLedger$Book;") ∈ wd_tb := wd_in (wd_c0 (List.mem_of_getElem? (i := 239) rfl)) rfl
theorem tw_241 : (Cond.laysFinal "DagLedger$Commits" "DagLedger$Commits" "emitted" "[I") ∈ wd_tb := wd_in (wd_c1 (List.mem_of_getElem? (i := 1) rfl)) rfl
theorem tw_243 : (Cond.laysFinal "DagLedger$Commits" "DagLedger$Commits" "reached" "[I") ∈ wd_tb := wd_in (wd_c1 (List.mem_of_getElem? (i := 3) rfl)) rfl
theorem tw_245 : (Cond.lays "DagLedger$Commits" "DagLedger$Commits" "last" "I") ∈ wd_tb := wd_in (wd_c1 (List.mem_of_getElem? (i := 5) rfl)) rfl
theorem tw_248 : (Cond.fieldLink "DagLedger$Replica" (29 : Nat) "DagLedger$Replica" "id" "I") ∈ wd_tb := wd_in (wd_c1 (List.mem_of_getElem? (i := 8) rfl)) rfl
theorem tw_249 : (Cond.fieldLink "DagLedger$Replica" (32 : Nat) "DagLedger$Replica" "board" "LDagLedger$Board;") ∈ wd_tb := wd_in (wd_c1 (List.mem_of_getElem? (i := 9) rfl)) rfl
theorem tw_250 : (Cond.fieldLink "DagLedger$Replica" (36 : Nat) "DagLedger$Replica" "vertices" "LDagLedger$Vertices;") ∈ wd_tb := wd_in (wd_c1 (List.mem_of_getElem? (i := 10) rfl)) rfl
theorem tw_251 : (Cond.fieldLink "DagLedger$Replica" (12 : Nat) "DagLedger$Replica" "disk" "LDagLedger$Disk;") ∈ wd_tb := wd_in (wd_c1 (List.mem_of_getElem? (i := 11) rfl)) rfl
theorem tw_252 : (Cond.fieldLink "DagLedger" (62 : Nat) "DagLedger$Replica" "disk" "LDagLedger$Disk;") ∈ wd_tb := wd_in (wd_c1 (List.mem_of_getElem? (i := 12) rfl)) rfl
theorem tw_253 : (Cond.fieldLink "DagLedger$Replica" (21 : Nat) "DagLedger$Replica" "notes" "LDagLedger$Notes;") ∈ wd_tb := wd_in (wd_c1 (List.mem_of_getElem? (i := 13) rfl)) rfl
theorem tw_254 : (Cond.fieldLink "DagLedger$Replica" (45 : Nat) "DagLedger$Replica" "dag" "LDagLedger$Dag;") ∈ wd_tb := wd_in (wd_c1 (List.mem_of_getElem? (i := 14) rfl)) rfl
theorem tw_255 : (Cond.fieldLink "DagLedger" (157 : Nat) "DagLedger$Replica" "dag" "LDagLedger$Dag;") ∈ wd_tb := wd_in (wd_c1 (List.mem_of_getElem? (i := 15) rfl)) rfl
theorem tw_256 : (Cond.fieldLink "DagLedger$Replica" (54 : Nat) "DagLedger$Replica" "book" "LDagLedger$Book;") ∈ wd_tb := wd_in (wd_c1 (List.mem_of_getElem? (i := 16) rfl)) rfl
theorem tw_257 : (Cond.fieldLink "DagLedger" (166 : Nat) "DagLedger$Replica" "book" "LDagLedger$Book;") ∈ wd_tb := wd_in (wd_c1 (List.mem_of_getElem? (i := 17) rfl)) rfl
theorem tw_258 : (Cond.fieldLink "DagLedger$Replica" (63 : Nat) "DagLedger$Replica" "commits" "LDagLedger$Commits;") ∈ wd_tb := wd_in (wd_c1 (List.mem_of_getElem? (i := 18) rfl)) rfl
theorem tw_259 : (Cond.fieldLink "DagLedger" (148 : Nat) "DagLedger$Replica" "commits" "LDagLedger$Commits;") ∈ wd_tb := wd_in (wd_c1 (List.mem_of_getElem? (i := 19) rfl)) rfl
theorem tw_260 : (Cond.fieldLink "DagLedger$Replica" (25 : Nat) "DagLedger$Replica" "state" "I") ∈ wd_tb := wd_in (wd_c1 (List.mem_of_getElem? (i := 20) rfl)) rfl
theorem tw_261 : (Cond.fieldLink "DagLedger" (94 : Nat) "DagLedger$Replica" "state" "I") ∈ wd_tb := wd_in (wd_c1 (List.mem_of_getElem? (i := 21) rfl)) rfl
theorem tw_262 : (Cond.fieldLink "DagLedger$Replica" (71 : Nat) "DagLedger$Replica" "mark" "I") ∈ wd_tb := wd_in (wd_c1 (List.mem_of_getElem? (i := 22) rfl)) rfl
theorem tw_263 : (Cond.fieldLink "DagLedger" (85 : Nat) "DagLedger$Replica" "mark" "I") ∈ wd_tb := wd_in (wd_c1 (List.mem_of_getElem? (i := 23) rfl)) rfl
theorem tw_264 : (Cond.fieldLink "DagLedger$Replica" (74 : Nat) "DagLedger$Replica" "timer" "I") ∈ wd_tb := wd_in (wd_c1 (List.mem_of_getElem? (i := 24) rfl)) rfl
theorem tw_265 : (Cond.fieldLink "DagLedger" (145 : Nat) "DagLedger$Replica" "timer" "I") ∈ wd_tb := wd_in (wd_c1 (List.mem_of_getElem? (i := 25) rfl)) rfl
theorem tw_266 : (Cond.fieldLink "DagLedger$Replica" (67 : Nat) "DagLedger$Replica" "cutIsSet" "Z") ∈ wd_tb := wd_in (wd_c1 (List.mem_of_getElem? (i := 26) rfl)) rfl
theorem tw_267 : (Cond.fieldLink "DagLedger$Replica" (86 : Nat) "DagLedger$Replica" "recordsBeforeCut" "I") ∈ wd_tb := wd_in (wd_c1 (List.mem_of_getElem? (i := 27) rfl)) rfl
theorem tw_268 : (Cond.laysFinal "DagLedger$Replica" "DagLedger$Replica" "id" "I") ∈ wd_tb := wd_in (wd_c1 (List.mem_of_getElem? (i := 28) rfl)) rfl
theorem tw_270 : (Cond.laysFinal "DagLedger$Replica" "DagLedger$Replica" "board" "LDagLedger$Board;") ∈ wd_tb := wd_in (wd_c1 (List.mem_of_getElem? (i := 30) rfl)) rfl
theorem tw_272 : (Cond.laysFinal "DagLedger$Replica" "DagLedger$Replica" "vertices" "LDagLedger$Vertices;") ∈ wd_tb := wd_in (wd_c1 (List.mem_of_getElem? (i := 32) rfl)) rfl
theorem tw_274 : (Cond.laysFinal "DagLedger$Replica" "DagLedger$Replica" "disk" "LDagLedger$Disk;") ∈ wd_tb := wd_in (wd_c1 (List.mem_of_getElem? (i := 34) rfl)) rfl
theorem tw_276 : (Cond.laysFinal "DagLedger$Replica" "DagLedger$Replica" "notes" "LDagLedger$Notes;") ∈ wd_tb := wd_in (wd_c1 (List.mem_of_getElem? (i := 36) rfl)) rfl
theorem tw_278 : (Cond.laysFinal "DagLedger$Replica" "DagLedger$Replica" "dag" "LDagLedger$Dag;") ∈ wd_tb := wd_in (wd_c1 (List.mem_of_getElem? (i := 38) rfl)) rfl
theorem tw_280 : (Cond.laysFinal "DagLedger$Replica" "DagLedger$Replica" "book" "LDagLedger$Book;") ∈ wd_tb := wd_in (wd_c1 (List.mem_of_getElem? (i := 40) rfl)) rfl
theorem tw_282 : (Cond.laysFinal "DagLedger$Replica" "DagLedger$Replica" "commits" "LDagLedger$Commits;") ∈ wd_tb := wd_in (wd_c1 (List.mem_of_getElem? (i := 42) rfl)) rfl
theorem tw_284 : (Cond.lays "DagLedger$Replica" "DagLedger$Replica" "state" "I") ∈ wd_tb := wd_in (wd_c1 (List.mem_of_getElem? (i := 44) rfl)) rfl
theorem tw_286 : (Cond.lays "DagLedger$Replica" "DagLedger$Replica" "mark" "I") ∈ wd_tb := wd_in (wd_c1 (List.mem_of_getElem? (i := 46) rfl)) rfl
theorem tw_288 : (Cond.lays "DagLedger$Replica" "DagLedger$Replica" "timer" "I") ∈ wd_tb := wd_in (wd_c1 (List.mem_of_getElem? (i := 48) rfl)) rfl
theorem tw_290 : (Cond.lays "DagLedger$Replica" "DagLedger$Replica" "cutIsSet" "Z") ∈ wd_tb := wd_in (wd_c1 (List.mem_of_getElem? (i := 50) rfl)) rfl
theorem tw_292 : (Cond.lays "DagLedger$Replica" "DagLedger$Replica" "recordsBeforeCut" "I") ∈ wd_tb := wd_in (wd_c1 (List.mem_of_getElem? (i := 52) rfl)) rfl
theorem tw_295 : (Cond.fieldLink "DagLedger" (12 : Nat) "DagLedger" "transfers" "LDagLedger$Transfers;") ∈ wd_tb := wd_in (wd_c1 (List.mem_of_getElem? (i := 55) rfl)) rfl
theorem tw_296 : (Cond.fieldLink "DagLedger" (19 : Nat) "DagLedger" "vertices" "LDagLedger$Vertices;") ∈ wd_tb := wd_in (wd_c1 (List.mem_of_getElem? (i := 56) rfl)) rfl
theorem tw_297 : (Cond.fieldLink "DagLedger" (26 : Nat) "DagLedger" "board" "LDagLedger$Board;") ∈ wd_tb := wd_in (wd_c1 (List.mem_of_getElem? (i := 57) rfl)) rfl
theorem tw_298 : (Cond.fieldLink "DagLedger" (32 : Nat) "DagLedger" "replicas" "[LDagLedger$Replica;") ∈ wd_tb := wd_in (wd_c1 (List.mem_of_getElem? (i := 58) rfl)) rfl
theorem tw_299 : (Cond.fieldLink "DagLedger" (39 : Nat) "DagLedger" "faulty" "I") ∈ wd_tb := wd_in (wd_c1 (List.mem_of_getElem? (i := 59) rfl)) rfl
theorem tw_300 : (Cond.laysFinal "DagLedger" "DagLedger" "transfers" "LDagLedger$Transfers;") ∈ wd_tb := wd_in (wd_c1 (List.mem_of_getElem? (i := 60) rfl)) rfl
theorem tw_302 : (Cond.laysFinal "DagLedger" "DagLedger" "vertices" "LDagLedger$Vertices;") ∈ wd_tb := wd_in (wd_c1 (List.mem_of_getElem? (i := 62) rfl)) rfl
theorem tw_304 : (Cond.laysFinal "DagLedger" "DagLedger" "board" "LDagLedger$Board;") ∈ wd_tb := wd_in (wd_c1 (List.mem_of_getElem? (i := 64) rfl)) rfl
theorem tw_306 : (Cond.laysFinal "DagLedger" "DagLedger" "replicas" "[LDagLedger$Replica;") ∈ wd_tb := wd_in (wd_c1 (List.mem_of_getElem? (i := 66) rfl)) rfl
theorem tw_308 : (Cond.lays "DagLedger" "DagLedger" "faulty" "I") ∈ wd_tb := wd_in (wd_c1 (List.mem_of_getElem? (i := 68) rfl)) rfl
theorem tw_311 : (Cond.methodLink "DagLedgerLaw" (91 : Nat) ({ cls := "DagLedger", name := "forge", desc := "(IIII)I" } : MethodName)) ∈ wd_tb := wd_in (wd_c1 (List.mem_of_getElem? (i := 71) rfl)) rfl
theorem tw_312 : (Cond.instanceMethod ({ cls := "DagLedger", name := "forge", desc := "(IIII)I" } : MethodName)) ∈ wd_tb := wd_in (wd_c1 (List.mem_of_getElem? (i := 72) rfl)) rfl
theorem tw_313 : (Cond.selects "DagLedger" ({ cls := "DagLedger", name := "forge", desc := "(IIII)I" } : MethodName) ({ cls := "DagLedger", name := "forge", desc := "(IIII)I" } : MethodName)) ∈ wd_tb := wd_in (wd_c1 (List.mem_of_getElem? (i := 73) rfl)) rfl
theorem tw_314 : (Cond.code ({ cls := "DagLedger", name := "forge", desc := "(IIII)I" } : MethodName) prog_1_method_10_code (6 : Nat) (Option.some FieldType.int)) ∈ wd_tb := wd_in (wd_c1 (List.mem_of_getElem? (i := 74) rfl)) rfl
theorem tw_315 : (Cond.methodLink "DagLedger" (106 : Nat) ({ cls := "DagLedger", name := "isTransferOrNone", desc := "(I)Z" } : MethodName)) ∈ wd_tb := wd_in (wd_c1 (List.mem_of_getElem? (i := 75) rfl)) rfl
theorem tw_317 : (Cond.instanceMethod ({ cls := "DagLedger", name := "isTransferOrNone", desc := "(I)Z" } : MethodName)) ∈ wd_tb := wd_in (wd_c1 (List.mem_of_getElem? (i := 77) rfl)) rfl
theorem tw_318 : (Cond.code ({ cls := "DagLedger", name := "isTransferOrNone", desc := "(I)Z" } : MethodName) prog_1_method_20_code (2 : Nat) (Option.some FieldType.boolean)) ∈ wd_tb := wd_in (wd_c1 (List.mem_of_getElem? (i := 78) rfl)) rfl
theorem tw_319 : (Cond.methodLink "DagLedger" (202 : Nat) ({ cls := "DagLedger$Transfers", name := "has", desc := "(I)Z" } : MethodName)) ∈ wd_tb := wd_in (wd_c1 (List.mem_of_getElem? (i := 79) rfl)) rfl
theorem tw_320 : (Cond.instanceMethod ({ cls := "DagLedger$Transfers", name := "has", desc := "(I)Z" } : MethodName)) ∈ wd_tb := wd_in (wd_c1 (List.mem_of_getElem? (i := 80) rfl)) rfl
theorem tw_321 : (Cond.selects "DagLedger$Transfers" ({ cls := "DagLedger$Transfers", name := "has", desc := "(I)Z" } : MethodName) ({ cls := "DagLedger$Transfers", name := "has", desc := "(I)Z" } : MethodName)) ∈ wd_tb := wd_in (wd_c1 (List.mem_of_getElem? (i := 81) rfl)) rfl
theorem tw_322 : (Cond.code ({ cls := "DagLedger$Transfers", name := "has", desc := "(I)Z" } : MethodName) prog_9_method_2_code (2 : Nat) (Option.some FieldType.boolean)) ∈ wd_tb := wd_in (wd_c1 (List.mem_of_getElem? (i := 82) rfl)) rfl
theorem tw_323 : (Cond.methodLink "DagLedger" (109 : Nat) ({ cls := "DagLedger$Vertices", name := "isFull", desc := "()Z" } : MethodName)) ∈ wd_tb := wd_in (wd_c1 (List.mem_of_getElem? (i := 83) rfl)) rfl
theorem tw_324 : (Cond.instanceMethod ({ cls := "DagLedger$Vertices", name := "isFull", desc := "()Z" } : MethodName)) ∈ wd_tb := wd_in (wd_c1 (List.mem_of_getElem? (i := 84) rfl)) rfl
theorem tw_325 : (Cond.selects "DagLedger$Vertices" ({ cls := "DagLedger$Vertices", name := "isFull", desc := "()Z" } : MethodName) ({ cls := "DagLedger$Vertices", name := "isFull", desc := "()Z" } : MethodName)) ∈ wd_tb := wd_in (wd_c1 (List.mem_of_getElem? (i := 85) rfl)) rfl
theorem tw_326 : (Cond.code ({ cls := "DagLedger$Vertices", name := "isFull", desc := "()Z" } : MethodName) prog_10_method_3_code (1 : Nat) (Option.some FieldType.boolean)) ∈ wd_tb := wd_in (wd_c1 (List.mem_of_getElem? (i := 86) rfl)) rfl
theorem tw_327 : (Cond.methodLink "DagLedger" (81 : Nat) ({ cls := "DagLedger$Board", name := "isFull", desc := "()Z" } : MethodName)) ∈ wd_tb := wd_in (wd_c1 (List.mem_of_getElem? (i := 87) rfl)) rfl
theorem tw_328 : (Cond.instanceMethod ({ cls := "DagLedger$Board", name := "isFull", desc := "()Z" } : MethodName)) ∈ wd_tb := wd_in (wd_c1 (List.mem_of_getElem? (i := 88) rfl)) rfl
theorem tw_329 : (Cond.selects "DagLedger$Board" ({ cls := "DagLedger$Board", name := "isFull", desc := "()Z" } : MethodName) ({ cls := "DagLedger$Board", name := "isFull", desc := "()Z" } : MethodName)) ∈ wd_tb := wd_in (wd_c1 (List.mem_of_getElem? (i := 89) rfl)) rfl
theorem tw_330 : (Cond.code ({ cls := "DagLedger$Board", name := "isFull", desc := "()Z" } : MethodName) prog_2_method_3_code (1 : Nat) (Option.some FieldType.boolean)) ∈ wd_tb := wd_in (wd_c1 (List.mem_of_getElem? (i := 90) rfl)) rfl
theorem tw_331 : (Cond.methodLink "DagLedger" (110 : Nat) ({ cls := "DagLedger$Vertices", name := "add", desc := "(IIIII)I" } : MethodName)) ∈ wd_tb := wd_in (wd_c1 (List.mem_of_getElem? (i := 91) rfl)) rfl
theorem tw_332 : (Cond.instanceMethod ({ cls := "DagLedger$Vertices", name := "add", desc := "(IIIII)I" } : MethodName)) ∈ wd_tb := wd_in (wd_c1 (List.mem_of_getElem? (i := 92) rfl)) rfl
theorem tw_333 : (Cond.selects "DagLedger$Vertices" ({ cls := "DagLedger$Vertices", name := "add", desc := "(IIIII)I" } : MethodName) ({ cls := "DagLedger$Vertices", name := "add", desc := "(IIIII)I" } : MethodName)) ∈ wd_tb := wd_in (wd_c1 (List.mem_of_getElem? (i := 93) rfl)) rfl
theorem tw_334 : (Cond.code ({ cls := "DagLedger$Vertices", name := "add", desc := "(IIIII)I" } : MethodName) prog_10_method_4_code (6 : Nat) (Option.some FieldType.int)) ∈ wd_tb := wd_in (wd_c1 (List.mem_of_getElem? (i := 94) rfl)) rfl
theorem tw_335 : (Cond.methodLink "DagLedger" (113 : Nat) ({ cls := "DagLedger$Board", name := "post", desc := "(III)I" } : MethodName)) ∈ wd_tb := wd_in (wd_c1 (List.mem_of_getElem? (i := 95) rfl)) rfl
theorem tw_336 : (Cond.instanceMethod ({ cls := "DagLedger$Board", name := "post", desc := "(III)I" } : MethodName)) ∈ wd_tb := wd_in (wd_c1 (List.mem_of_getElem? (i := 96) rfl)) rfl
theorem tw_337 : (Cond.selects "DagLedger$Board" ({ cls := "DagLedger$Board", name := "post", desc := "(III)I" } : MethodName) ({ cls := "DagLedger$Board", name := "post", desc := "(III)I" } : MethodName)) ∈ wd_tb := wd_in (wd_c1 (List.mem_of_getElem? (i := 97) rfl)) rfl
theorem tw_338 : (Cond.code ({ cls := "DagLedger$Board", name := "post", desc := "(III)I" } : MethodName) prog_2_method_4_code (4 : Nat) (Option.some FieldType.int)) ∈ wd_tb := wd_in (wd_c1 (List.mem_of_getElem? (i := 98) rfl)) rfl
theorem tw_339 : (Cond.methodLink "DagLedgerLaw" (95 : Nat) ({ cls := "DagLedger", name := "send", desc := "(II)I" } : MethodName)) ∈ wd_tb := wd_in (wd_c1 (List.mem_of_getElem? (i := 99) rfl)) rfl
theorem tw_340 : (Cond.instanceMethod ({ cls := "DagLedger", name := "send", desc := "(II)I" } : MethodName)) ∈ wd_tb := wd_in (wd_c1 (List.mem_of_getElem? (i := 100) rfl)) rfl
theorem tw_341 : (Cond.selects "DagLedger" ({ cls := "DagLedger", name := "send", desc := "(II)I" } : MethodName) ({ cls := "DagLedger", name := "send", desc := "(II)I" } : MethodName)) ∈ wd_tb := wd_in (wd_c1 (List.mem_of_getElem? (i := 101) rfl)) rfl
theorem tw_342 : (Cond.code ({ cls := "DagLedger", name := "send", desc := "(II)I" } : MethodName) prog_1_method_11_code (3 : Nat) (Option.some FieldType.int)) ∈ wd_tb := wd_in (wd_c1 (List.mem_of_getElem? (i := 102) rfl)) rfl
theorem tw_343 : (Cond.methodLink "DagLedger" (116 : Nat) ({ cls := "DagLedger$Vertices", name := "has", desc := "(I)Z" } : MethodName)) ∈ wd_tb := wd_in (wd_c1 (List.mem_of_getElem? (i := 103) rfl)) rfl
theorem tw_344 : (Cond.instanceMethod ({ cls := "DagLedger$Vertices", name := "has", desc := "(I)Z" } : MethodName)) ∈ wd_tb := wd_in (wd_c1 (List.mem_of_getElem? (i := 104) rfl)) rfl
theorem tw_345 : (Cond.selects "DagLedger$Vertices" ({ cls := "DagLedger$Vertices", name := "has", desc := "(I)Z" } : MethodName) ({ cls := "DagLedger$Vertices", name := "has", desc := "(I)Z" } : MethodName)) ∈ wd_tb := wd_in (wd_c1 (List.mem_of_getElem? (i := 105) rfl)) rfl
theorem tw_346 : (Cond.code ({ cls := "DagLedger$Vertices", name := "has", desc := "(I)Z" } : MethodName) prog_10_method_2_code (2 : Nat) (Option.some FieldType.boolean)) ∈ wd_tb := wd_in (wd_c1 (List.mem_of_getElem? (i := 106) rfl)) rfl
theorem tw_347 : (Cond.methodLink "DagLedgerLaw" (99 : Nat) ({ cls := "DagLedger", name := "message", desc := "(II)I" } : MethodName)) ∈ wd_tb := wd_in (wd_c1 (List.mem_of_getElem? (i := 107) rfl)) rfl
theorem tw_348 : (Cond.instanceMethod ({ cls := "DagLedger", name := "message", desc := "(II)I" } : MethodName)) ∈ wd_tb := wd_in (wd_c1 (List.mem_of_getElem? (i := 108) rfl)) rfl
theorem tw_349 : (Cond.selects "DagLedger" ({ cls := "DagLedger", name := "message", desc := "(II)I" } : MethodName) ({ cls := "DagLedger", name := "message", desc := "(II)I" } : MethodName)) ∈ wd_tb := wd_in (wd_c1 (List.mem_of_getElem? (i := 109) rfl)) rfl
theorem tw_350 : (Cond.code ({ cls := "DagLedger", name := "message", desc := "(II)I" } : MethodName) prog_1_method_12_code (3 : Nat) (Option.some FieldType.int)) ∈ wd_tb := wd_in (wd_c1 (List.mem_of_getElem? (i := 110) rfl)) rfl
theorem tw_351 : (Cond.methodLink "DagLedger" (75 : Nat) ({ cls := "DagLedger$Board", name := "has", desc := "(I)Z" } : MethodName)) ∈ wd_tb := wd_in (wd_c1 (List.mem_of_getElem? (i := 111) rfl)) rfl
theorem tw_352 : (Cond.instanceMethod ({ cls := "DagLedger$Board", name := "has", desc := "(I)Z" } : MethodName)) ∈ wd_tb := wd_in (wd_c1 (List.mem_of_getElem? (i := 112) rfl)) rfl
theorem tw_353 : (Cond.selects "DagLedger$Board" ({ cls := "DagLedger$Board", name := "has", desc := "(I)Z" } : MethodName) ({ cls := "DagLedger$Board", name := "has", desc := "(I)Z" } : MethodName)) ∈ wd_tb := wd_in (wd_c1 (List.mem_of_getElem? (i := 113) rfl)) rfl
theorem tw_354 : (Cond.code ({ cls := "DagLedger$Board", name := "has", desc := "(I)Z" } : MethodName) prog_2_method_2_code (2 : Nat) (Option.some FieldType.boolean)) ∈ wd_tb := wd_in (wd_c1 (List.mem_of_getElem? (i := 114) rfl)) rfl
theorem tw_355 : (Cond.methodLink "DagLedgerLaw" (103 : Nat) ({ cls := "DagLedger", name := "vertex", desc := "(II)I" } : MethodName)) ∈ wd_tb := wd_in (wd_c1 (List.mem_of_getElem? (i := 115) rfl)) rfl
theorem tw_356 : (Cond.instanceMethod ({ cls := "DagLedger", name := "vertex", desc := "(II)I" } : MethodName)) ∈ wd_tb := wd_in (wd_c1 (List.mem_of_getElem? (i := 116) rfl)) rfl
theorem tw_357 : (Cond.selects "DagLedger" ({ cls := "DagLedger", name := "vertex", desc := "(II)I" } : MethodName) ({ cls := "DagLedger", name := "vertex", desc := "(II)I" } : MethodName)) ∈ wd_tb := wd_in (wd_c1 (List.mem_of_getElem? (i := 117) rfl)) rfl
theorem tw_358 : (Cond.code ({ cls := "DagLedger", name := "vertex", desc := "(II)I" } : MethodName) prog_1_method_13_code (3 : Nat) (Option.some FieldType.int)) ∈ wd_tb := wd_in (wd_c1 (List.mem_of_getElem? (i := 118) rfl)) rfl
theorem tw_364 : (Cond.methodLink "DagLedgerLaw" (7 : Nat) ({ cls := "DagLedger", name := "submit", desc := "(IIII)I" } : MethodName)) ∈ wd_tb := wd_in (wd_c1 (List.mem_of_getElem? (i := 124) rfl)) rfl
theorem tw_365 : (Cond.instanceMethod ({ cls := "DagLedger", name := "submit", desc := "(IIII)I" } : MethodName)) ∈ wd_tb := wd_in (wd_c1 (List.mem_of_getElem? (i := 125) rfl)) rfl
theorem tw_366 : (Cond.selects "DagLedger" ({ cls := "DagLedger", name := "submit", desc := "(IIII)I" } : MethodName) ({ cls := "DagLedger", name := "submit", desc := "(IIII)I" } : MethodName)) ∈ wd_tb := wd_in (wd_c1 (List.mem_of_getElem? (i := 126) rfl)) rfl
theorem tw_367 : (Cond.code ({ cls := "DagLedger", name := "submit", desc := "(IIII)I" } : MethodName) prog_1_method_2_code (7 : Nat) (Option.some FieldType.int)) ∈ wd_tb := wd_in (wd_c1 (List.mem_of_getElem? (i := 127) rfl)) rfl
theorem tw_368 : (Cond.methodLink "DagLedger" (43 : Nat) ({ cls := "DagLedger", name := "upReplica", desc := "(I)LDagLedger$Replica;" } : MethodName)) ∈ wd_tb := wd_in (wd_c1 (List.mem_of_getElem? (i := 128) rfl)) rfl
theorem tw_370 : (Cond.instanceMethod ({ cls := "DagLedger", name := "upReplica", desc := "(I)LDagLedger$Replica;" } : MethodName)) ∈ wd_tb := wd_in (wd_c1 (List.mem_of_getElem? (i := 130) rfl)) rfl
theorem tw_371 : (Cond.code ({ cls := "DagLedger", name := "upReplica", desc := "(I)LDagLedger$Replica;" } : MethodName) prog_1_method_19_code (3 : Nat) (Option.some (FieldType.object "DagLedger$Replica"))) ∈ wd_tb := wd_in (wd_c1 (List.mem_of_getElem? (i := 131) rfl)) rfl
theorem tw_372 : (Cond.methodLink "DagLedger" (72 : Nat) ({ cls := "DagLedger", name := "replicaOf", desc := "(I)LDagLedger$Replica;" } : MethodName)) ∈ wd_tb := wd_in (wd_c1 (List.mem_of_getElem? (i := 132) rfl)) rfl
theorem tw_374 : (Cond.instanceMethod ({ cls := "DagLedger", name := "replicaOf", desc := "(I)LDagLedger$Replica;" } : MethodName)) ∈ wd_tb := wd_in (wd_c1 (List.mem_of_getElem? (i := 134) rfl)) rfl
theorem tw_375 : (Cond.code ({ cls := "DagLedger", name := "replicaOf", desc := "(I)LDagLedger$Replica;" } : MethodName) prog_1_method_18_code (2 : Nat) (Option.some (FieldType.object "DagLedger$Replica"))) ∈ wd_tb := wd_in (wd_c1 (List.mem_of_getElem? (i := 135) rfl)) rfl
theorem tw_443 : (Cond.methodLink "DagLedger" (78 : Nat) ({ cls := "DagLedger$Replica", name := "isUp", desc := "()Z" } : MethodName)) ∈ wd_tb := wd_in (wd_c1 (List.mem_of_getElem? (i := 203) rfl)) rfl
theorem tw_444 : (Cond.instanceMethod ({ cls := "DagLedger$Replica", name := "isUp", desc := "()Z" } : MethodName)) ∈ wd_tb := wd_in (wd_c1 (List.mem_of_getElem? (i := 204) rfl)) rfl
theorem tw_445 : (Cond.selects "DagLedger$Replica" ({ cls := "DagLedger$Replica", name := "isUp", desc := "()Z" } : MethodName) ({ cls := "DagLedger$Replica", name := "isUp", desc := "()Z" } : MethodName)) ∈ wd_tb := wd_in (wd_c1 (List.mem_of_getElem? (i := 205) rfl)) rfl
theorem tw_446 : (Cond.code ({ cls := "DagLedger$Replica", name := "isUp", desc := "()Z" } : MethodName) prog_8_method_2_code (1 : Nat) (Option.some FieldType.boolean)) ∈ wd_tb := wd_in (wd_c1 (List.mem_of_getElem? (i := 206) rfl)) rfl
theorem tw_463 : (Cond.methodLink "DagLedger" (47 : Nat) ({ cls := "DagLedger$Transfers", name := "isFull", desc := "()Z" } : MethodName)) ∈ wd_tb := wd_in (wd_c1 (List.mem_of_getElem? (i := 223) rfl)) rfl
theorem tw_464 : (Cond.instanceMethod ({ cls := "DagLedger$Transfers", name := "isFull", desc := "()Z" } : MethodName)) ∈ wd_tb := wd_in (wd_c1 (List.mem_of_getElem? (i := 224) rfl)) rfl
theorem tw_465 : (Cond.selects "DagLedger$Transfers" ({ cls := "DagLedger$Transfers", name := "isFull", desc := "()Z" } : MethodName) ({ cls := "DagLedger$Transfers", name := "isFull", desc := "()Z" } : MethodName)) ∈ wd_tb := wd_in (wd_c1 (List.mem_of_getElem? (i := 225) rfl)) rfl
theorem tw_466 : (Cond.code ({ cls := "DagLedger$Transfers", name := "isFull", desc := "()Z" } : MethodName) prog_9_method_3_code (1 : Nat) (Option.some FieldType.boolean)) ∈ wd_tb := wd_in (wd_c1 (List.mem_of_getElem? (i := 226) rfl)) rfl
theorem tw_467 : (Cond.methodLink "DagLedger" (51 : Nat) ({ cls := "DagLedger", name := "isAccount", desc := "(I)Z" } : MethodName)) ∈ wd_tb := wd_in (wd_c1 (List.mem_of_getElem? (i := 227) rfl)) rfl
theorem tw_468 : (Cond.static ({ cls := "DagLedger", name := "isAccount", desc := "(I)Z" } : MethodName)) ∈ wd_tb := wd_in (wd_c1 (List.mem_of_getElem? (i := 228) rfl)) rfl
theorem tw_469 : (Cond.code ({ cls := "DagLedger", name := "isAccount", desc := "(I)Z" } : MethodName) prog_1_method_21_code (1 : Nat) (Option.some FieldType.boolean)) ∈ wd_tb := wd_in (wd_c1 (List.mem_of_getElem? (i := 229) rfl)) rfl
theorem tw_470 : (Cond.methodLink "DagLedger" (55 : Nat) ({ cls := "DagLedger$Replica", name := "writeRecord", desc := "()Z" } : MethodName)) ∈ wd_tb := wd_in (wd_c1 (List.mem_of_getElem? (i := 230) rfl)) rfl
theorem tw_471 : (Cond.instanceMethod ({ cls := "DagLedger$Replica", name := "writeRecord", desc := "()Z" } : MethodName)) ∈ wd_tb := wd_in (wd_c1 (List.mem_of_getElem? (i := 231) rfl)) rfl
theorem tw_472 : (Cond.selects "DagLedger$Replica" ({ cls := "DagLedger$Replica", name := "writeRecord", desc := "()Z" } : MethodName) ({ cls := "DagLedger$Replica", name := "writeRecord", desc := "()Z" } : MethodName)) ∈ wd_tb := wd_in (wd_c1 (List.mem_of_getElem? (i := 232) rfl)) rfl
theorem tw_473 : (Cond.code ({ cls := "DagLedger$Replica", name := "writeRecord", desc := "()Z" } : MethodName) prog_8_method_6_code (1 : Nat) (Option.some FieldType.boolean)) ∈ wd_tb := wd_in (wd_c1 (List.mem_of_getElem? (i := 233) rfl)) rfl
theorem tw_474 : (Cond.methodLink "DagLedger$Replica" (89 : Nat) ({ cls := "DagLedger$Replica", name := "goDown", desc := "()V" } : MethodName)) ∈ wd_tb := wd_in (wd_c1 (List.mem_of_getElem? (i := 234) rfl)) rfl
theorem tw_475 : (Cond.instanceMethod ({ cls := "DagLedger$Replica", name := "goDown", desc := "()V" } : MethodName)) ∈ wd_tb := wd_in (wd_c1 (List.mem_of_getElem? (i := 235) rfl)) rfl
theorem tw_476 : (Cond.selects "DagLedger$Replica" ({ cls := "DagLedger$Replica", name := "goDown", desc := "()V" } : MethodName) ({ cls := "DagLedger$Replica", name := "goDown", desc := "()V" } : MethodName)) ∈ wd_tb := wd_in (wd_c1 (List.mem_of_getElem? (i := 236) rfl)) rfl
theorem tw_477 : (Cond.code ({ cls := "DagLedger$Replica", name := "goDown", desc := "()V" } : MethodName) prog_8_method_3_code (1 : Nat) (Option.none : Option FieldType)) ∈ wd_tb := wd_in (wd_c1 (List.mem_of_getElem? (i := 237) rfl)) rfl
theorem tw_478 : (Cond.methodLink "DagLedger$Replica" (77 : Nat) ({ cls := "DagLedger$Notes", name := "clear", desc := "()V" } : MethodName)) ∈ wd_tb := wd_in (wd_c1 (List.mem_of_getElem? (i := 238) rfl)) rfl
theorem tw_479 : (Cond.instanceMethod ({ cls := "DagLedger$Notes", name := "clear", desc := "()V" } : MethodName)) ∈ wd_tb := wd_in (wd_c1 (List.mem_of_getElem? (i := 239) rfl)) rfl
theorem tw_480 : (Cond.selects "DagLedger$Notes" ({ cls := "DagLedger$Notes", name := "clear", desc := "()V" } : MethodName) ({ cls := "DagLedger$Notes", name := "clear", desc := "()V" } : MethodName)) ∈ wd_tb := wd_in (wd_c2 (List.mem_of_getElem? (i := 0) rfl)) rfl
theorem tw_481 : (Cond.code ({ cls := "DagLedger$Notes", name := "clear", desc := "()V" } : MethodName) prog_7_method_5_code (1 : Nat) (Option.none : Option FieldType)) ∈ wd_tb := wd_in (wd_c2 (List.mem_of_getElem? (i := 1) rfl)) rfl
theorem tw_482 : (Cond.methodLink "DagLedger$Notes" (31 : Nat) ({ cls := "java/util/Arrays", name := "fill", desc := "([II)V" } : MethodName)) ∈ wd_tb := wd_in (wd_c2 (List.mem_of_getElem? (i := 2) rfl)) rfl
theorem tw_483 : (Cond.methodLink "DagLedger$Replica" (80 : Nat) ({ cls := "DagLedger$Dag", name := "clear", desc := "()V" } : MethodName)) ∈ wd_tb := wd_in (wd_c2 (List.mem_of_getElem? (i := 3) rfl)) rfl
theorem tw_484 : (Cond.instanceMethod ({ cls := "DagLedger$Dag", name := "clear", desc := "()V" } : MethodName)) ∈ wd_tb := wd_in (wd_c2 (List.mem_of_getElem? (i := 4) rfl)) rfl
theorem tw_485 : (Cond.selects "DagLedger$Dag" ({ cls := "DagLedger$Dag", name := "clear", desc := "()V" } : MethodName) ({ cls := "DagLedger$Dag", name := "clear", desc := "()V" } : MethodName)) ∈ wd_tb := wd_in (wd_c2 (List.mem_of_getElem? (i := 5) rfl)) rfl
theorem tw_486 : (Cond.code ({ cls := "DagLedger$Dag", name := "clear", desc := "()V" } : MethodName) prog_5_method_9_code (1 : Nat) (Option.none : Option FieldType)) ∈ wd_tb := wd_in (wd_c2 (List.mem_of_getElem? (i := 6) rfl)) rfl
theorem tw_487 : (Cond.methodLink "DagLedger$Replica" (81 : Nat) ({ cls := "DagLedger$Commits", name := "clear", desc := "()V" } : MethodName)) ∈ wd_tb := wd_in (wd_c2 (List.mem_of_getElem? (i := 7) rfl)) rfl
theorem tw_488 : (Cond.instanceMethod ({ cls := "DagLedger$Commits", name := "clear", desc := "()V" } : MethodName)) ∈ wd_tb := wd_in (wd_c2 (List.mem_of_getElem? (i := 8) rfl)) rfl
theorem tw_489 : (Cond.selects "DagLedger$Commits" ({ cls := "DagLedger$Commits", name := "clear", desc := "()V" } : MethodName) ({ cls := "DagLedger$Commits", name := "clear", desc := "()V" } : MethodName)) ∈ wd_tb := wd_in (wd_c2 (List.mem_of_getElem? (i := 9) rfl)) rfl
theorem tw_490 : (Cond.code ({ cls := "DagLedger$Commits", name := "clear", desc := "()V" } : MethodName) prog_4_method_7_code (1 : Nat) (Option.none : Option FieldType)) ∈ wd_tb := wd_in (wd_c2 (List.mem_of_getElem? (i := 10) rfl)) rfl
theorem tw_491 : (Cond.methodLink "DagLedger$Commits" (85 : Nat) ({ cls := "java/util/Arrays", name := "fill", desc := "([II)V" } : MethodName)) ∈ wd_tb := wd_in (wd_c2 (List.mem_of_getElem? (i := 11) rfl)) rfl
theorem tw_492 : (Cond.methodLink "DagLedger$Replica" (82 : Nat) ({ cls := "DagLedger$Book", name := "clear", desc := "()V" } : MethodName)) ∈ wd_tb := wd_in (wd_c2 (List.mem_of_getElem? (i := 12) rfl)) rfl
theorem tw_493 : (Cond.instanceMethod ({ cls := "DagLedger$Book", name := "clear", desc := "()V" } : MethodName)) ∈ wd_tb := wd_in (wd_c2 (List.mem_of_getElem? (i := 13) rfl)) rfl
theorem tw_494 : (Cond.selects "DagLedger$Book" ({ cls := "DagLedger$Book", name := "clear", desc := "()V" } : MethodName) ({ cls := "DagLedger$Book", name := "clear", desc := "()V" } : MethodName)) ∈ wd_tb := wd_in (wd_c2 (List.mem_of_getElem? (i := 14) rfl)) rfl
theorem tw_495 : (Cond.code ({ cls := "DagLedger$Book", name := "clear", desc := "()V" } : MethodName) prog_3_method_4_code (1 : Nat) (Option.none : Option FieldType)) ∈ wd_tb := wd_in (wd_c2 (List.mem_of_getElem? (i := 15) rfl)) rfl
theorem tw_496 : (Cond.methodLink "DagLedger" (58 : Nat) ({ cls := "DagLedger$Transfers", name := "add", desc := "(III)I" } : MethodName)) ∈ wd_tb := wd_in (wd_c2 (List.mem_of_getElem? (i := 16) rfl)) rfl
theorem tw_497 : (Cond.instanceMethod ({ cls := "DagLedger$Transfers", name := "add", desc := "(III)I" } : MethodName)) ∈ wd_tb := wd_in (wd_c2 (List.mem_of_getElem? (i := 17) rfl)) rfl
theorem tw_498 : (Cond.selects "DagLedger$Transfers" ({ cls := "DagLedger$Transfers", name := "add", desc := "(III)I" } : MethodName) ({ cls := "DagLedger$Transfers", name := "add", desc := "(III)I" } : MethodName)) ∈ wd_tb := wd_in (wd_c2 (List.mem_of_getElem? (i := 18) rfl)) rfl
theorem tw_499 : (Cond.code ({ cls := "DagLedger$Transfers", name := "add", desc := "(III)I" } : MethodName) prog_9_method_4_code (4 : Nat) (Option.some FieldType.int)) ∈ wd_tb := wd_in (wd_c2 (List.mem_of_getElem? (i := 19) rfl)) rfl
theorem tw_500 : (Cond.methodLink "DagLedger" (66 : Nat) ({ cls := "DagLedger$Disk", name := "keepTransfer", desc := "(I)V" } : MethodName)) ∈ wd_tb := wd_in (wd_c2 (List.mem_of_getElem? (i := 20) rfl)) rfl
theorem tw_501 : (Cond.instanceMethod ({ cls := "DagLedger$Disk", name := "keepTransfer", desc := "(I)V" } : MethodName)) ∈ wd_tb := wd_in (wd_c2 (List.mem_of_getElem? (i := 21) rfl)) rfl
theorem tw_502 : (Cond.selects "DagLedger$Disk" ({ cls := "DagLedger$Disk", name := "keepTransfer", desc := "(I)V" } : MethodName) ({ cls := "DagLedger$Disk", name := "keepTransfer", desc := "(I)V" } : MethodName)) ∈ wd_tb := wd_in (wd_c2 (List.mem_of_getElem? (i := 22) rfl)) rfl
theorem tw_503 : (Cond.code ({ cls := "DagLedger$Disk", name := "keepTransfer", desc := "(I)V" } : MethodName) prog_6_method_2_code (2 : Nat) (Option.none : Option FieldType)) ∈ wd_tb := wd_in (wd_c2 (List.mem_of_getElem? (i := 23) rfl)) rfl
theorem tw_507 : (Cond.methodLink "DagLedgerLaw" (17 : Nat) ({ cls := "DagLedger", name := "deliver", desc := "(II)Z" } : MethodName)) ∈ wd_tb := wd_in (wd_c2 (List.mem_of_getElem? (i := 27) rfl)) rfl
theorem tw_508 : (Cond.instanceMethod ({ cls := "DagLedger", name := "deliver", desc := "(II)Z" } : MethodName)) ∈ wd_tb := wd_in (wd_c2 (List.mem_of_getElem? (i := 28) rfl)) rfl
theorem tw_509 : (Cond.selects "DagLedger" ({ cls := "DagLedger", name := "deliver", desc := "(II)Z" } : MethodName) ({ cls := "DagLedger", name := "deliver", desc := "(II)Z" } : MethodName)) ∈ wd_tb := wd_in (wd_c2 (List.mem_of_getElem? (i := 29) rfl)) rfl
theorem tw_510 : (Cond.code ({ cls := "DagLedger", name := "deliver", desc := "(II)Z" } : MethodName) prog_1_method_3_code (4 : Nat) (Option.some FieldType.boolean)) ∈ wd_tb := wd_in (wd_c2 (List.mem_of_getElem? (i := 30) rfl)) rfl
theorem tw_511 : (Cond.methodLink "DagLedger" (82 : Nat) ({ cls := "DagLedger$Replica", name := "take", desc := "(I)V" } : MethodName)) ∈ wd_tb := wd_in (wd_c2 (List.mem_of_getElem? (i := 31) rfl)) rfl
theorem tw_512 : (Cond.instanceMethod ({ cls := "DagLedger$Replica", name := "take", desc := "(I)V" } : MethodName)) ∈ wd_tb := wd_in (wd_c2 (List.mem_of_getElem? (i := 32) rfl)) rfl
theorem tw_513 : (Cond.selects "DagLedger$Replica" ({ cls := "DagLedger$Replica", name := "take", desc := "(I)V" } : MethodName) ({ cls := "DagLedger$Replica", name := "take", desc := "(I)V" } : MethodName)) ∈ wd_tb := wd_in (wd_c2 (List.mem_of_getElem? (i := 33) rfl)) rfl
theorem tw_514 : (Cond.code ({ cls := "DagLedger$Replica", name := "take", desc := "(I)V" } : MethodName) prog_8_method_8_code (4 : Nat) (Option.none : Option FieldType)) ∈ wd_tb := wd_in (wd_c2 (List.mem_of_getElem? (i := 34) rfl)) rfl
theorem tw_515 : (Cond.methodLink "DagLedger$Replica" (116 : Nat) ({ cls := "DagLedger$Replica", name := "takeSend", desc := "(II)V" } : MethodName)) ∈ wd_tb := wd_in (wd_c2 (List.mem_of_getElem? (i := 35) rfl)) rfl
theorem tw_517 : (Cond.instanceMethod ({ cls := "DagLedger$Replica", name := "takeSend", desc := "(II)V" } : MethodName)) ∈ wd_tb := wd_in (wd_c2 (List.mem_of_getElem? (i := 37) rfl)) rfl
theorem tw_518 : (Cond.code ({ cls := "DagLedger$Replica", name := "takeSend", desc := "(II)V" } : MethodName) prog_8_method_9_code (5 : Nat) (Option.none : Option FieldType)) ∈ wd_tb := wd_in (wd_c2 (List.mem_of_getElem? (i := 38) rfl)) rfl
theorem tw_519 : (Cond.methodLink "DagLedger$Replica" (134 : Nat) ({ cls := "DagLedger$Vertices", name := "isWellFormed", desc := "(I)Z" } : MethodName)) ∈ wd_tb := wd_in (wd_c2 (List.mem_of_getElem? (i := 39) rfl)) rfl
theorem tw_520 : (Cond.instanceMethod ({ cls := "DagLedger$Vertices", name := "isWellFormed", desc := "(I)Z" } : MethodName)) ∈ wd_tb := wd_in (wd_c2 (List.mem_of_getElem? (i := 40) rfl)) rfl
theorem tw_521 : (Cond.selects "DagLedger$Vertices" ({ cls := "DagLedger$Vertices", name := "isWellFormed", desc := "(I)Z" } : MethodName) ({ cls := "DagLedger$Vertices", name := "isWellFormed", desc := "(I)Z" } : MethodName)) ∈ wd_tb := wd_in (wd_c2 (List.mem_of_getElem? (i := 41) rfl)) rfl
theorem tw_522 : (Cond.code ({ cls := "DagLedger$Vertices", name := "isWellFormed", desc := "(I)Z" } : MethodName) prog_10_method_5_code (2 : Nat) (Option.some FieldType.boolean)) ∈ wd_tb := wd_in (wd_c2 (List.mem_of_getElem? (i := 42) rfl)) rfl
theorem tw_523 : (Cond.methodLink "DagLedger$Vertices" (31 : Nat) ({ cls := "java/lang/Integer", name := "bitCount", desc := "(I)I" } : MethodName)) ∈ wd_tb := wd_in (wd_c2 (List.mem_of_getElem? (i := 43) rfl)) rfl
theorem tw_524 : (Cond.static ({ cls := "java/lang/Integer", name := "bitCount", desc := "(I)I" } : MethodName)) ∈ wd_tb := wd_in (wd_c2 (List.mem_of_getElem? (i := 44) rfl)) rfl
theorem tw_525 : (Cond.code ({ cls := "java/lang/Integer", name := "bitCount", desc := "(I)I" } : MethodName) prog_16_method_49_code (1 : Nat) (Option.some FieldType.int)) ∈ wd_tb := wd_in (wd_c2 (List.mem_of_getElem? (i := 45) rfl)) rfl
theorem tw_526 : (Cond.constant "java/lang/Integer" (265 : Nat) (1431655765 : Int32)) ∈ wd_tb := wd_in (wd_c2 (List.mem_of_getElem? (i := 46) rfl)) rfl
theorem tw_527 : (Cond.constant "java/lang/Integer" (266 : Nat) (858993459 : Int32)) ∈ wd_tb := wd_in (wd_c2 (List.mem_of_getElem? (i := 47) rfl)) rfl
theorem tw_528 : (Cond.constant "java/lang/Integer" (267 : Nat) (252645135 : Int32)) ∈ wd_tb := wd_in (wd_c2 (List.mem_of_getElem? (i := 48) rfl)) rfl
theorem tw_530 : (Cond.static ({ cls := "DagLedger", name := "contains", desc := "(II)Z" } : MethodName)) ∈ wd_tb := wd_in (wd_c2 (List.mem_of_getElem? (i := 50) rfl)) rfl
theorem tw_531 : (Cond.code ({ cls := "DagLedger", name := "contains", desc := "(II)Z" } : MethodName) prog_1_method_23_code (2 : Nat) (Option.some FieldType.boolean)) ∈ wd_tb := wd_in (wd_c2 (List.mem_of_getElem? (i := 51) rfl)) rfl
theorem tw_532 : (Cond.methodLink "DagLedger$Replica" (145 : Nat) ({ cls := "DagLedger$Replica", name := "writeRecord", desc := "()Z" } : MethodName)) ∈ wd_tb := wd_in (wd_c2 (List.mem_of_getElem? (i := 52) rfl)) rfl
theorem tw_533 : (Cond.methodLink "DagLedger$Replica" (149 : Nat) ({ cls := "DagLedger$Board", name := "post", desc := "(III)I" } : MethodName)) ∈ wd_tb := wd_in (wd_c2 (List.mem_of_getElem? (i := 53) rfl)) rfl
theorem tw_534 : (Cond.methodLink "DagLedger$Replica" (120 : Nat) ({ cls := "DagLedger$Replica", name := "takeEcho", desc := "(II)V" } : MethodName)) ∈ wd_tb := wd_in (wd_c2 (List.mem_of_getElem? (i := 54) rfl)) rfl
theorem tw_536 : (Cond.instanceMethod ({ cls := "DagLedger$Replica", name := "takeEcho", desc := "(II)V" } : MethodName)) ∈ wd_tb := wd_in (wd_c2 (List.mem_of_getElem? (i := 56) rfl)) rfl
theorem tw_537 : (Cond.code ({ cls := "DagLedger$Replica", name := "takeEcho", desc := "(II)V" } : MethodName) prog_8_method_10_code (3 : Nat) (Option.none : Option FieldType)) ∈ wd_tb := wd_in (wd_c2 (List.mem_of_getElem? (i := 57) rfl)) rfl
theorem tw_538 : (Cond.methodLink "DagLedger$Replica" (153 : Nat) ({ cls := "DagLedger$Notes", name := "noteEcho", desc := "(II)I" } : MethodName)) ∈ wd_tb := wd_in (wd_c2 (List.mem_of_getElem? (i := 58) rfl)) rfl
theorem tw_539 : (Cond.instanceMethod ({ cls := "DagLedger$Notes", name := "noteEcho", desc := "(II)I" } : MethodName)) ∈ wd_tb := wd_in (wd_c2 (List.mem_of_getElem? (i := 59) rfl)) rfl
theorem tw_540 : (Cond.selects "DagLedger$Notes" ({ cls := "DagLedger$Notes", name := "noteEcho", desc := "(II)I" } : MethodName) ({ cls := "DagLedger$Notes", name := "noteEcho", desc := "(II)I" } : MethodName)) ∈ wd_tb := wd_in (wd_c2 (List.mem_of_getElem? (i := 60) rfl)) rfl
theorem tw_541 : (Cond.code ({ cls := "DagLedger$Notes", name := "noteEcho", desc := "(II)I" } : MethodName) prog_7_method_2_code (3 : Nat) (Option.some FieldType.int)) ∈ wd_tb := wd_in (wd_c2 (List.mem_of_getElem? (i := 61) rfl)) rfl
theorem tw_542 : (Cond.methodLink "DagLedger$Notes" (21 : Nat) ({ cls := "java/lang/Integer", name := "bitCount", desc := "(I)I" } : MethodName)) ∈ wd_tb := wd_in (wd_c2 (List.mem_of_getElem? (i := 62) rfl)) rfl
theorem tw_543 : (Cond.methodLink "DagLedger$Replica" (156 : Nat) ({ cls := "DagLedger$Replica", name := "becomeReady", desc := "(I)V" } : MethodName)) ∈ wd_tb := wd_in (wd_c2 (List.mem_of_getElem? (i := 63) rfl)) rfl
theorem tw_545 : (Cond.instanceMethod ({ cls := "DagLedger$Replica", name := "becomeReady", desc := "(I)V" } : MethodName)) ∈ wd_tb := wd_in (wd_c2 (List.mem_of_getElem? (i := 65) rfl)) rfl
theorem tw_546 : (Cond.code ({ cls := "DagLedger$Replica", name := "becomeReady", desc := "(I)V" } : MethodName) prog_8_method_12_code (4 : Nat) (Option.none : Option FieldType)) ∈ wd_tb := wd_in (wd_c2 (List.mem_of_getElem? (i := 66) rfl)) rfl
theorem tw_547 : (Cond.methodLink "DagLedger$Replica" (123 : Nat) ({ cls := "DagLedger$Replica", name := "takeReady", desc := "(II)V" } : MethodName)) ∈ wd_tb := wd_in (wd_c2 (List.mem_of_getElem? (i := 67) rfl)) rfl
theorem tw_549 : (Cond.instanceMethod ({ cls := "DagLedger$Replica", name := "takeReady", desc := "(II)V" } : MethodName)) ∈ wd_tb := wd_in (wd_c2 (List.mem_of_getElem? (i := 69) rfl)) rfl
theorem tw_550 : (Cond.code ({ cls := "DagLedger$Replica", name := "takeReady", desc := "(II)V" } : MethodName) prog_8_method_11_code (3 : Nat) (Option.none : Option FieldType)) ∈ wd_tb := wd_in (wd_c2 (List.mem_of_getElem? (i := 70) rfl)) rfl
theorem tw_551 : (Cond.methodLink "DagLedger$Replica" (160 : Nat) ({ cls := "DagLedger$Notes", name := "noteReady", desc := "(II)I" } : MethodName)) ∈ wd_tb := wd_in (wd_c2 (List.mem_of_getElem? (i := 71) rfl)) rfl
theorem tw_552 : (Cond.instanceMethod ({ cls := "DagLedger$Notes", name := "noteReady", desc := "(II)I" } : MethodName)) ∈ wd_tb := wd_in (wd_c2 (List.mem_of_getElem? (i := 72) rfl)) rfl
theorem tw_553 : (Cond.selects "DagLedger$Notes" ({ cls := "DagLedger$Notes", name := "noteReady", desc := "(II)I" } : MethodName) ({ cls := "DagLedger$Notes", name := "noteReady", desc := "(II)I" } : MethodName)) ∈ wd_tb := wd_in (wd_c2 (List.mem_of_getElem? (i := 73) rfl)) rfl
theorem tw_554 : (Cond.code ({ cls := "DagLedger$Notes", name := "noteReady", desc := "(II)I" } : MethodName) prog_7_method_3_code (5 : Nat) (Option.some FieldType.int)) ∈ wd_tb := wd_in (wd_c2 (List.mem_of_getElem? (i := 74) rfl)) rfl
theorem tw_555 : (Cond.methodLink "DagLedger$Replica" (101 : Nat) ({ cls := "DagLedger$Replica", name := "act", desc := "()V" } : MethodName)) ∈ wd_tb := wd_in (wd_c2 (List.mem_of_getElem? (i := 75) rfl)) rfl
theorem tw_556 : (Cond.instanceMethod ({ cls := "DagLedger$Replica", name := "act", desc := "()V" } : MethodName)) ∈ wd_tb := wd_in (wd_c2 (List.mem_of_getElem? (i := 76) rfl)) rfl
theorem tw_557 : (Cond.selects "DagLedger$Replica" ({ cls := "DagLedger$Replica", name := "act", desc := "()V" } : MethodName) ({ cls := "DagLedger$Replica", name := "act", desc := "()V" } : MethodName)) ∈ wd_tb := wd_in (wd_c2 (List.mem_of_getElem? (i := 77) rfl)) rfl
theorem tw_558 : (Cond.code ({ cls := "DagLedger$Replica", name := "act", desc := "()V" } : MethodName) prog_8_method_13_code (2 : Nat) (Option.none : Option FieldType)) ∈ wd_tb := wd_in (wd_c2 (List.mem_of_getElem? (i := 78) rfl)) rfl
theorem tw_559 : (Cond.methodLink "DagLedger$Replica" (166 : Nat) ({ cls := "DagLedger$Replica", name := "isUp", desc := "()Z" } : MethodName)) ∈ wd_tb := wd_in (wd_c2 (List.mem_of_getElem? (i := 79) rfl)) rfl
theorem tw_560 : (Cond.methodLink "DagLedger$Replica" (169 : Nat) ({ cls := "DagLedger$Replica", name := "insertNext", desc := "()Z" } : MethodName)) ∈ wd_tb := wd_in (wd_c2 (List.mem_of_getElem? (i := 80) rfl)) rfl
theorem tw_562 : (Cond.instanceMethod ({ cls := "DagLedger$Replica", name := "insertNext", desc := "()Z" } : MethodName)) ∈ wd_tb := wd_in (wd_c2 (List.mem_of_getElem? (i := 82) rfl)) rfl
theorem tw_563 : (Cond.code ({ cls := "DagLedger$Replica", name := "insertNext", desc := "()Z" } : MethodName) prog_8_method_14_code (4 : Nat) (Option.some FieldType.boolean)) ∈ wd_tb := wd_in (wd_c2 (List.mem_of_getElem? (i := 83) rfl)) rfl
theorem tw_564 : (Cond.methodLink "DagLedger$Replica" (184 : Nat) ({ cls := "DagLedger$Dag", name := "canTake", desc := "(I)Z" } : MethodName)) ∈ wd_tb := wd_in (wd_c2 (List.mem_of_getElem? (i := 84) rfl)) rfl
theorem tw_565 : (Cond.instanceMethod ({ cls := "DagLedger$Dag", name := "canTake", desc := "(I)Z" } : MethodName)) ∈ wd_tb := wd_in (wd_c2 (List.mem_of_getElem? (i := 85) rfl)) rfl
theorem tw_566 : (Cond.selects "DagLedger$Dag" ({ cls := "DagLedger$Dag", name := "canTake", desc := "(I)Z" } : MethodName) ({ cls := "DagLedger$Dag", name := "canTake", desc := "(I)Z" } : MethodName)) ∈ wd_tb := wd_in (wd_c2 (List.mem_of_getElem? (i := 86) rfl)) rfl
theorem tw_567 : (Cond.code ({ cls := "DagLedger$Dag", name := "canTake", desc := "(I)Z" } : MethodName) prog_5_method_5_code (3 : Nat) (Option.some FieldType.boolean)) ∈ wd_tb := wd_in (wd_c2 (List.mem_of_getElem? (i := 87) rfl)) rfl
theorem tw_568 : (Cond.methodLink "DagLedger$Dag" (33 : Nat) ({ cls := "DagLedger$Vertices", name := "isWellFormed", desc := "(I)Z" } : MethodName)) ∈ wd_tb := wd_in (wd_c2 (List.mem_of_getElem? (i := 88) rfl)) rfl
theorem tw_569 : (Cond.methodLink "DagLedger$Dag" (40 : Nat) ({ cls := "DagLedger$Dag", name := "holds", desc := "(II)Z" } : MethodName)) ∈ wd_tb := wd_in (wd_c2 (List.mem_of_getElem? (i := 89) rfl)) rfl
theorem tw_570 : (Cond.instanceMethod ({ cls := "DagLedger$Dag", name := "holds", desc := "(II)Z" } : MethodName)) ∈ wd_tb := wd_in (wd_c2 (List.mem_of_getElem? (i := 90) rfl)) rfl
theorem tw_571 : (Cond.selects "DagLedger$Dag" ({ cls := "DagLedger$Dag", name := "holds", desc := "(II)Z" } : MethodName) ({ cls := "DagLedger$Dag", name := "holds", desc := "(II)Z" } : MethodName)) ∈ wd_tb := wd_in (wd_c2 (List.mem_of_getElem? (i := 91) rfl)) rfl
theorem tw_572 : (Cond.code ({ cls := "DagLedger$Dag", name := "holds", desc := "(II)Z" } : MethodName) prog_5_method_3_code (3 : Nat) (Option.some FieldType.boolean)) ∈ wd_tb := wd_in (wd_c2 (List.mem_of_getElem? (i := 92) rfl)) rfl
theorem tw_573 : (Cond.methodLink "DagLedger$Replica" (187 : Nat) ({ cls := "DagLedger$Vertices", name := "comesBefore", desc := "(II)Z" } : MethodName)) ∈ wd_tb := wd_in (wd_c2 (List.mem_of_getElem? (i := 93) rfl)) rfl
theorem tw_574 : (Cond.instanceMethod ({ cls := "DagLedger$Vertices", name := "comesBefore", desc := "(II)Z" } : MethodName)) ∈ wd_tb := wd_in (wd_c2 (List.mem_of_getElem? (i := 94) rfl)) rfl
theorem tw_575 : (Cond.selects "DagLedger$Vertices" ({ cls := "DagLedger$Vertices", name := "comesBefore", desc := "(II)Z" } : MethodName) ({ cls := "DagLedger$Vertices", name := "comesBefore", desc := "(II)Z" } : MethodName)) ∈ wd_tb := wd_in (wd_c2 (List.mem_of_getElem? (i := 95) rfl)) rfl
theorem tw_576 : (Cond.code ({ cls := "DagLedger$Vertices", name := "comesBefore", desc := "(II)Z" } : MethodName) prog_10_method_6_code (3 : Nat) (Option.some FieldType.boolean)) ∈ wd_tb := wd_in (wd_c2 (List.mem_of_getElem? (i := 96) rfl)) rfl
theorem tw_577 : (Cond.methodLink "DagLedger$Replica" (190 : Nat) ({ cls := "DagLedger$Dag", name := "insert", desc := "(I)V" } : MethodName)) ∈ wd_tb := wd_in (wd_c2 (List.mem_of_getElem? (i := 97) rfl)) rfl
theorem tw_578 : (Cond.instanceMethod ({ cls := "DagLedger$Dag", name := "insert", desc := "(I)V" } : MethodName)) ∈ wd_tb := wd_in (wd_c2 (List.mem_of_getElem? (i := 98) rfl)) rfl
theorem tw_579 : (Cond.selects "DagLedger$Dag" ({ cls := "DagLedger$Dag", name := "insert", desc := "(I)V" } : MethodName) ({ cls := "DagLedger$Dag", name := "insert", desc := "(I)V" } : MethodName)) ∈ wd_tb := wd_in (wd_c2 (List.mem_of_getElem? (i := 99) rfl)) rfl
theorem tw_580 : (Cond.code ({ cls := "DagLedger$Dag", name := "insert", desc := "(I)V" } : MethodName) prog_5_method_6_code (4 : Nat) (Option.none : Option FieldType)) ∈ wd_tb := wd_in (wd_c2 (List.mem_of_getElem? (i := 100) rfl)) rfl
theorem tw_581 : (Cond.methodLink "DagLedger$Replica" (193 : Nat) ({ cls := "DagLedger$Notes", name := "stopWaiting", desc := "(I)V" } : MethodName)) ∈ wd_tb := wd_in (wd_c2 (List.mem_of_getElem? (i := 101) rfl)) rfl
theorem tw_582 : (Cond.instanceMethod ({ cls := "DagLedger$Notes", name := "stopWaiting", desc := "(I)V" } : MethodName)) ∈ wd_tb := wd_in (wd_c2 (List.mem_of_getElem? (i := 102) rfl)) rfl
theorem tw_583 : (Cond.selects "DagLedger$Notes" ({ cls := "DagLedger$Notes", name := "stopWaiting", desc := "(I)V" } : MethodName) ({ cls := "DagLedger$Notes", name := "stopWaiting", desc := "(I)V" } : MethodName)) ∈ wd_tb := wd_in (wd_c2 (List.mem_of_getElem? (i := 103) rfl)) rfl
theorem tw_584 : (Cond.code ({ cls := "DagLedger$Notes", name := "stopWaiting", desc := "(I)V" } : MethodName) prog_7_method_4_code (2 : Nat) (Option.none : Option FieldType)) ∈ wd_tb := wd_in (wd_c2 (List.mem_of_getElem? (i := 104) rfl)) rfl
theorem tw_585 : (Cond.methodLink "DagLedger$Replica" (172 : Nat) ({ cls := "DagLedger$Commits", name := "commitNext", desc := "()Z" } : MethodName)) ∈ wd_tb := wd_in (wd_c2 (List.mem_of_getElem? (i := 105) rfl)) rfl
theorem tw_586 : (Cond.instanceMethod ({ cls := "DagLedger$Commits", name := "commitNext", desc := "()Z" } : MethodName)) ∈ wd_tb := wd_in (wd_c2 (List.mem_of_getElem? (i := 106) rfl)) rfl
theorem tw_587 : (Cond.selects "DagLedger$Commits" ({ cls := "DagLedger$Commits", name := "commitNext", desc := "()Z" } : MethodName) ({ cls := "DagLedger$Commits", name := "commitNext", desc := "()Z" } : MethodName)) ∈ wd_tb := wd_in (wd_c2 (List.mem_of_getElem? (i := 107) rfl)) rfl
theorem tw_588 : (Cond.code ({ cls := "DagLedger$Commits", name := "commitNext", desc := "()Z" } : MethodName) prog_4_method_2_code (4 : Nat) (Option.some FieldType.boolean)) ∈ wd_tb := wd_in (wd_c2 (List.mem_of_getElem? (i := 108) rfl)) rfl
theorem tw_589 : (Cond.methodLink "DagLedger$Commits" (30 : Nat) ({ cls := "DagLedger$Commits", name := "nextRound", desc := "()I" } : MethodName)) ∈ wd_tb := wd_in (wd_c2 (List.mem_of_getElem? (i := 109) rfl)) rfl
theorem tw_591 : (Cond.instanceMethod ({ cls := "DagLedger$Commits", name := "nextRound", desc := "()I" } : MethodName)) ∈ wd_tb := wd_in (wd_c2 (List.mem_of_getElem? (i := 111) rfl)) rfl
theorem tw_592 : (Cond.code ({ cls := "DagLedger$Commits", name := "nextRound", desc := "()I" } : MethodName) prog_4_method_3_code (3 : Nat) (Option.some FieldType.int)) ∈ wd_tb := wd_in (wd_c2 (List.mem_of_getElem? (i := 112) rfl)) rfl
theorem tw_594 : (Cond.static ({ cls := "DagLedger", name := "leaderOf", desc := "(I)I" } : MethodName)) ∈ wd_tb := wd_in (wd_c2 (List.mem_of_getElem? (i := 114) rfl)) rfl
theorem tw_595 : (Cond.code ({ cls := "DagLedger", name := "leaderOf", desc := "(I)I" } : MethodName) prog_1_method_22_code (1 : Nat) (Option.some FieldType.int)) ∈ wd_tb := wd_in (wd_c2 (List.mem_of_getElem? (i := 115) rfl)) rfl
theorem tw_596 : (Cond.methodLink "DagLedger$Commits" (53 : Nat) ({ cls := "DagLedger$Dag", name := "holds", desc := "(II)Z" } : MethodName)) ∈ wd_tb := wd_in (wd_c2 (List.mem_of_getElem? (i := 116) rfl)) rfl
theorem tw_597 : (Cond.methodLink "DagLedger$Commits" (58 : Nat) ({ cls := "DagLedger$Dag", name := "countStandingOn", desc := "(II)I" } : MethodName)) ∈ wd_tb := wd_in (wd_c2 (List.mem_of_getElem? (i := 117) rfl)) rfl
theorem tw_598 : (Cond.instanceMethod ({ cls := "DagLedger$Dag", name := "countStandingOn", desc := "(II)I" } : MethodName)) ∈ wd_tb := wd_in (wd_c2 (List.mem_of_getElem? (i := 118) rfl)) rfl
theorem tw_599 : (Cond.selects "DagLedger$Dag" ({ cls := "DagLedger$Dag", name := "countStandingOn", desc := "(II)I" } : MethodName) ({ cls := "DagLedger$Dag", name := "countStandingOn", desc := "(II)I" } : MethodName)) ∈ wd_tb := wd_in (wd_c2 (List.mem_of_getElem? (i := 119) rfl)) rfl
theorem tw_600 : (Cond.code ({ cls := "DagLedger$Dag", name := "countStandingOn", desc := "(II)I" } : MethodName) prog_5_method_8_code (6 : Nat) (Option.some FieldType.int)) ∈ wd_tb := wd_in (wd_c2 (List.mem_of_getElem? (i := 120) rfl)) rfl
theorem tw_602 : (Cond.methodLink "DagLedger$Commits" (34 : Nat) ({ cls := "DagLedger$Commits", name := "leadersUnder", desc := "(I)I" } : MethodName)) ∈ wd_tb := wd_in (wd_c2 (List.mem_of_getElem? (i := 122) rfl)) rfl
theorem tw_604 : (Cond.instanceMethod ({ cls := "DagLedger$Commits", name := "leadersUnder", desc := "(I)I" } : MethodName)) ∈ wd_tb := wd_in (wd_c2 (List.mem_of_getElem? (i := 124) rfl)) rfl
theorem tw_605 : (Cond.code ({ cls := "DagLedger$Commits", name := "leadersUnder", desc := "(I)I" } : MethodName) prog_4_method_4_code (5 : Nat) (Option.some FieldType.int)) ∈ wd_tb := wd_in (wd_c2 (List.mem_of_getElem? (i := 125) rfl)) rfl
theorem tw_606 : (Cond.methodLink "DagLedger$Commits" (62 : Nat) ({ cls := "DagLedger$Dag", name := "parentsOf", desc := "(II)I" } : MethodName)) ∈ wd_tb := wd_in (wd_c2 (List.mem_of_getElem? (i := 126) rfl)) rfl
theorem tw_607 : (Cond.instanceMethod ({ cls := "DagLedger$Dag", name := "parentsOf", desc := "(II)I" } : MethodName)) ∈ wd_tb := wd_in (wd_c2 (List.mem_of_getElem? (i := 127) rfl)) rfl
theorem tw_608 : (Cond.selects "DagLedger$Dag" ({ cls := "DagLedger$Dag", name := "parentsOf", desc := "(II)I" } : MethodName) ({ cls := "DagLedger$Dag", name := "parentsOf", desc := "(II)I" } : MethodName)) ∈ wd_tb := wd_in (wd_c2 (List.mem_of_getElem? (i := 128) rfl)) rfl
theorem tw_609 : (Cond.code ({ cls := "DagLedger$Dag", name := "parentsOf", desc := "(II)I" } : MethodName) prog_5_method_7_code (6 : Nat) (Option.some FieldType.int)) ∈ wd_tb := wd_in (wd_c2 (List.mem_of_getElem? (i := 129) rfl)) rfl
theorem tw_611 : (Cond.methodLink "DagLedger$Commits" (49 : Nat) ({ cls := "DagLedger$Commits", name := "emit", desc := "(II)V" } : MethodName)) ∈ wd_tb := wd_in (wd_c2 (List.mem_of_getElem? (i := 131) rfl)) rfl
theorem tw_613 : (Cond.instanceMethod ({ cls := "DagLedger$Commits", name := "emit", desc := "(II)V" } : MethodName)) ∈ wd_tb := wd_in (wd_c2 (List.mem_of_getElem? (i := 133) rfl)) rfl
theorem tw_614 : (Cond.code ({ cls := "DagLedger$Commits", name := "emit", desc := "(II)V" } : MethodName) prog_4_method_5_code (4 : Nat) (Option.none : Option FieldType)) ∈ wd_tb := wd_in (wd_c2 (List.mem_of_getElem? (i := 134) rfl)) rfl
theorem tw_615 : (Cond.methodLink "DagLedger$Commits" (65 : Nat) ({ cls := "DagLedger$Commits", name := "emitRound", desc := "(II)V" } : MethodName)) ∈ wd_tb := wd_in (wd_c2 (List.mem_of_getElem? (i := 135) rfl)) rfl
theorem tw_617 : (Cond.instanceMethod ({ cls := "DagLedger$Commits", name := "emitRound", desc := "(II)V" } : MethodName)) ∈ wd_tb := wd_in (wd_c2 (List.mem_of_getElem? (i := 137) rfl)) rfl
theorem tw_618 : (Cond.code ({ cls := "DagLedger$Commits", name := "emitRound", desc := "(II)V" } : MethodName) prog_4_method_6_code (5 : Nat) (Option.none : Option FieldType)) ∈ wd_tb := wd_in (wd_c2 (List.mem_of_getElem? (i := 138) rfl)) rfl
theorem tw_619 : (Cond.methodLink "DagLedger$Commits" (68 : Nat) ({ cls := "DagLedger$Dag", name := "find", desc := "(II)I" } : MethodName)) ∈ wd_tb := wd_in (wd_c2 (List.mem_of_getElem? (i := 139) rfl)) rfl
theorem tw_620 : (Cond.instanceMethod ({ cls := "DagLedger$Dag", name := "find", desc := "(II)I" } : MethodName)) ∈ wd_tb := wd_in (wd_c2 (List.mem_of_getElem? (i := 140) rfl)) rfl
theorem tw_621 : (Cond.selects "DagLedger$Dag" ({ cls := "DagLedger$Dag", name := "find", desc := "(II)I" } : MethodName) ({ cls := "DagLedger$Dag", name := "find", desc := "(II)I" } : MethodName)) ∈ wd_tb := wd_in (wd_c2 (List.mem_of_getElem? (i := 141) rfl)) rfl
theorem tw_622 : (Cond.code ({ cls := "DagLedger$Dag", name := "find", desc := "(II)I" } : MethodName) prog_5_method_2_code (3 : Nat) (Option.some FieldType.int)) ∈ wd_tb := wd_in (wd_c2 (List.mem_of_getElem? (i := 142) rfl)) rfl
theorem tw_623 : (Cond.methodLink "DagLedger$Commits" (76 : Nat) ({ cls := "DagLedger$Book", name := "place", desc := "(I)V" } : MethodName)) ∈ wd_tb := wd_in (wd_c2 (List.mem_of_getElem? (i := 143) rfl)) rfl
theorem tw_624 : (Cond.instanceMethod ({ cls := "DagLedger$Book", name := "place", desc := "(I)V" } : MethodName)) ∈ wd_tb := wd_in (wd_c2 (List.mem_of_getElem? (i := 144) rfl)) rfl
theorem tw_625 : (Cond.selects "DagLedger$Book" ({ cls := "DagLedger$Book", name := "place", desc := "(I)V" } : MethodName) ({ cls := "DagLedger$Book", name := "place", desc := "(I)V" } : MethodName)) ∈ wd_tb := wd_in (wd_c2 (List.mem_of_getElem? (i := 145) rfl)) rfl
theorem tw_626 : (Cond.code ({ cls := "DagLedger$Book", name := "place", desc := "(I)V" } : MethodName) prog_3_method_2_code (3 : Nat) (Option.none : Option FieldType)) ∈ wd_tb := wd_in (wd_c2 (List.mem_of_getElem? (i := 146) rfl)) rfl
theorem tw_627 : (Cond.methodLink "DagLedger$Replica" (175 : Nat) ({ cls := "DagLedger$Replica", name := "advance", desc := "()Z" } : MethodName)) ∈ wd_tb := wd_in (wd_c2 (List.mem_of_getElem? (i := 147) rfl)) rfl
theorem tw_629 : (Cond.instanceMethod ({ cls := "DagLedger$Replica", name := "advance", desc := "()Z" } : MethodName)) ∈ wd_tb := wd_in (wd_c2 (List.mem_of_getElem? (i := 149) rfl)) rfl
theorem tw_630 : (Cond.code ({ cls := "DagLedger$Replica", name := "advance", desc := "()Z" } : MethodName) prog_8_method_15_code (4 : Nat) (Option.some FieldType.boolean)) ∈ wd_tb := wd_in (wd_c2 (List.mem_of_getElem? (i := 150) rfl)) rfl
theorem tw_631 : (Cond.methodLink "DagLedger$Replica" (196 : Nat) ({ cls := "DagLedger$Replica", name := "mayAdvance", desc := "()Z" } : MethodName)) ∈ wd_tb := wd_in (wd_c2 (List.mem_of_getElem? (i := 151) rfl)) rfl
theorem tw_633 : (Cond.instanceMethod ({ cls := "DagLedger$Replica", name := "mayAdvance", desc := "()Z" } : MethodName)) ∈ wd_tb := wd_in (wd_c2 (List.mem_of_getElem? (i := 153) rfl)) rfl
theorem tw_634 : (Cond.code ({ cls := "DagLedger$Replica", name := "mayAdvance", desc := "()Z" } : MethodName) prog_8_method_16_code (2 : Nat) (Option.some FieldType.boolean)) ∈ wd_tb := wd_in (wd_c2 (List.mem_of_getElem? (i := 154) rfl)) rfl
theorem tw_635 : (Cond.methodLink "DagLedger$Replica" (214 : Nat) ({ cls := "DagLedger$Vertices", name := "isFull", desc := "()Z" } : MethodName)) ∈ wd_tb := wd_in (wd_c2 (List.mem_of_getElem? (i := 155) rfl)) rfl
theorem tw_636 : (Cond.methodLink "DagLedger$Replica" (217 : Nat) ({ cls := "DagLedger$Dag", name := "holds", desc := "(II)Z" } : MethodName)) ∈ wd_tb := wd_in (wd_c2 (List.mem_of_getElem? (i := 156) rfl)) rfl
theorem tw_637 : (Cond.methodLink "DagLedger$Replica" (202 : Nat) ({ cls := "DagLedger$Dag", name := "authorsOf", desc := "(I)I" } : MethodName)) ∈ wd_tb := wd_in (wd_c2 (List.mem_of_getElem? (i := 157) rfl)) rfl
theorem tw_638 : (Cond.instanceMethod ({ cls := "DagLedger$Dag", name := "authorsOf", desc := "(I)I" } : MethodName)) ∈ wd_tb := wd_in (wd_c2 (List.mem_of_getElem? (i := 158) rfl)) rfl
theorem tw_639 : (Cond.selects "DagLedger$Dag" ({ cls := "DagLedger$Dag", name := "authorsOf", desc := "(I)I" } : MethodName) ({ cls := "DagLedger$Dag", name := "authorsOf", desc := "(I)I" } : MethodName)) ∈ wd_tb := wd_in (wd_c2 (List.mem_of_getElem? (i := 159) rfl)) rfl
theorem tw_640 : (Cond.code ({ cls := "DagLedger$Dag", name := "authorsOf", desc := "(I)I" } : MethodName) prog_5_method_4_code (2 : Nat) (Option.some FieldType.int)) ∈ wd_tb := wd_in (wd_c2 (List.mem_of_getElem? (i := 160) rfl)) rfl
theorem tw_641 : (Cond.methodLink "DagLedger$Replica" (220 : Nat) ({ cls := "java/lang/Integer", name := "bitCount", desc := "(I)I" } : MethodName)) ∈ wd_tb := wd_in (wd_c2 (List.mem_of_getElem? (i := 161) rfl)) rfl
theorem tw_643 : (Cond.methodLink "DagLedger$Replica" (206 : Nat) ({ cls := "DagLedger$Disk", name := "nextOfQueue", desc := "()I" } : MethodName)) ∈ wd_tb := wd_in (wd_c2 (List.mem_of_getElem? (i := 163) rfl)) rfl
theorem tw_644 : (Cond.instanceMethod ({ cls := "DagLedger$Disk", name := "nextOfQueue", desc := "()I" } : MethodName)) ∈ wd_tb := wd_in (wd_c2 (List.mem_of_getElem? (i := 164) rfl)) rfl
theorem tw_645 : (Cond.selects "DagLedger$Disk" ({ cls := "DagLedger$Disk", name := "nextOfQueue", desc := "()I" } : MethodName) ({ cls := "DagLedger$Disk", name := "nextOfQueue", desc := "()I" } : MethodName)) ∈ wd_tb := wd_in (wd_c2 (List.mem_of_getElem? (i := 165) rfl)) rfl
theorem tw_646 : (Cond.code ({ cls := "DagLedger$Disk", name := "nextOfQueue", desc := "()I" } : MethodName) prog_6_method_4_code (1 : Nat) (Option.some FieldType.int)) ∈ wd_tb := wd_in (wd_c2 (List.mem_of_getElem? (i := 166) rfl)) rfl
theorem tw_647 : (Cond.methodLink "DagLedger$Replica" (210 : Nat) ({ cls := "DagLedger$Vertices", name := "add", desc := "(IIIII)I" } : MethodName)) ∈ wd_tb := wd_in (wd_c2 (List.mem_of_getElem? (i := 167) rfl)) rfl
theorem tw_651 : (Cond.methodLink "DagLedgerLaw" (21 : Nat) ({ cls := "DagLedger", name := "pump", desc := "(II)I" } : MethodName)) ∈ wd_tb := wd_in (wd_c2 (List.mem_of_getElem? (i := 171) rfl)) rfl
theorem tw_652 : (Cond.instanceMethod ({ cls := "DagLedger", name := "pump", desc := "(II)I" } : MethodName)) ∈ wd_tb := wd_in (wd_c2 (List.mem_of_getElem? (i := 172) rfl)) rfl
theorem tw_653 : (Cond.selects "DagLedger" ({ cls := "DagLedger", name := "pump", desc := "(II)I" } : MethodName) ({ cls := "DagLedger", name := "pump", desc := "(II)I" } : MethodName)) ∈ wd_tb := wd_in (wd_c2 (List.mem_of_getElem? (i := 173) rfl)) rfl
theorem tw_654 : (Cond.code ({ cls := "DagLedger", name := "pump", desc := "(II)I" } : MethodName) prog_1_method_4_code (5 : Nat) (Option.some FieldType.int)) ∈ wd_tb := wd_in (wd_c2 (List.mem_of_getElem? (i := 174) rfl)) rfl
theorem tw_658 : (Cond.methodLink "DagLedgerLaw" (25 : Nat) ({ cls := "DagLedger", name := "tick", desc := "(I)Z" } : MethodName)) ∈ wd_tb := wd_in (wd_c2 (List.mem_of_getElem? (i := 178) rfl)) rfl
theorem tw_659 : (Cond.instanceMethod ({ cls := "DagLedger", name := "tick", desc := "(I)Z" } : MethodName)) ∈ wd_tb := wd_in (wd_c2 (List.mem_of_getElem? (i := 179) rfl)) rfl
theorem tw_660 : (Cond.selects "DagLedger" ({ cls := "DagLedger", name := "tick", desc := "(I)Z" } : MethodName) ({ cls := "DagLedger", name := "tick", desc := "(I)Z" } : MethodName)) ∈ wd_tb := wd_in (wd_c2 (List.mem_of_getElem? (i := 180) rfl)) rfl
theorem tw_661 : (Cond.code ({ cls := "DagLedger", name := "tick", desc := "(I)Z" } : MethodName) prog_1_method_5_code (3 : Nat) (Option.some FieldType.boolean)) ∈ wd_tb := wd_in (wd_c2 (List.mem_of_getElem? (i := 181) rfl)) rfl
theorem tw_662 : (Cond.methodLink "DagLedger" (88 : Nat) ({ cls := "DagLedger$Replica", name := "passTime", desc := "()V" } : MethodName)) ∈ wd_tb := wd_in (wd_c2 (List.mem_of_getElem? (i := 182) rfl)) rfl
theorem tw_663 : (Cond.instanceMethod ({ cls := "DagLedger$Replica", name := "passTime", desc := "()V" } : MethodName)) ∈ wd_tb := wd_in (wd_c2 (List.mem_of_getElem? (i := 183) rfl)) rfl
theorem tw_664 : (Cond.selects "DagLedger$Replica" ({ cls := "DagLedger$Replica", name := "passTime", desc := "()V" } : MethodName) ({ cls := "DagLedger$Replica", name := "passTime", desc := "()V" } : MethodName)) ∈ wd_tb := wd_in (wd_c2 (List.mem_of_getElem? (i := 184) rfl)) rfl
theorem tw_665 : (Cond.code ({ cls := "DagLedger$Replica", name := "passTime", desc := "()V" } : MethodName) prog_8_method_7_code (1 : Nat) (Option.none : Option FieldType)) ∈ wd_tb := wd_in (wd_c2 (List.mem_of_getElem? (i := 185) rfl)) rfl
theorem tw_666 : (Cond.methodLink "DagLedger$Replica" (95 : Nat) ({ cls := "java/lang/Math", name := "min", desc := "(II)I" } : MethodName)) ∈ wd_tb := wd_in (wd_c2 (List.mem_of_getElem? (i := 186) rfl)) rfl
theorem tw_667 : (Cond.static ({ cls := "java/lang/Math", name := "min", desc := "(II)I" } : MethodName)) ∈ wd_tb := wd_in (wd_c2 (List.mem_of_getElem? (i := 187) rfl)) rfl
theorem tw_668 : (Cond.code ({ cls := "java/lang/Math", name := "min", desc := "(II)I" } : MethodName) prog_17_method_69_code (2 : Nat) (Option.some FieldType.int)) ∈ wd_tb := wd_in (wd_c2 (List.mem_of_getElem? (i := 188) rfl)) rfl
theorem tw_672 : (Cond.methodLink "DagLedgerLaw" (29 : Nat) ({ cls := "DagLedger", name := "crash", desc := "(I)Z" } : MethodName)) ∈ wd_tb := wd_in (wd_c2 (List.mem_of_getElem? (i := 192) rfl)) rfl
theorem tw_673 : (Cond.instanceMethod ({ cls := "DagLedger", name := "crash", desc := "(I)Z" } : MethodName)) ∈ wd_tb := wd_in (wd_c2 (List.mem_of_getElem? (i := 193) rfl)) rfl
theorem tw_674 : (Cond.selects "DagLedger" ({ cls := "DagLedger", name := "crash", desc := "(I)Z" } : MethodName) ({ cls := "DagLedger", name := "crash", desc := "(I)Z" } : MethodName)) ∈ wd_tb := wd_in (wd_c2 (List.mem_of_getElem? (i := 194) rfl)) rfl
theorem tw_675 : (Cond.code ({ cls := "DagLedger", name := "crash", desc := "(I)Z" } : MethodName) prog_1_method_6_code (3 : Nat) (Option.some FieldType.boolean)) ∈ wd_tb := wd_in (wd_c2 (List.mem_of_getElem? (i := 195) rfl)) rfl
theorem tw_676 : (Cond.methodLink "DagLedger" (91 : Nat) ({ cls := "DagLedger$Replica", name := "goDown", desc := "()V" } : MethodName)) ∈ wd_tb := wd_in (wd_c2 (List.mem_of_getElem? (i := 196) rfl)) rfl
theorem tw_680 : (Cond.methodLink "DagLedgerLaw" (32 : Nat) ({ cls := "DagLedger", name := "restart", desc := "(I)Z" } : MethodName)) ∈ wd_tb := wd_in (wd_c2 (List.mem_of_getElem? (i := 200) rfl)) rfl
theorem tw_681 : (Cond.instanceMethod ({ cls := "DagLedger", name := "restart", desc := "(I)Z" } : MethodName)) ∈ wd_tb := wd_in (wd_c2 (List.mem_of_getElem? (i := 201) rfl)) rfl
theorem tw_682 : (Cond.selects "DagLedger" ({ cls := "DagLedger", name := "restart", desc := "(I)Z" } : MethodName) ({ cls := "DagLedger", name := "restart", desc := "(I)Z" } : MethodName)) ∈ wd_tb := wd_in (wd_c2 (List.mem_of_getElem? (i := 202) rfl)) rfl
theorem tw_683 : (Cond.code ({ cls := "DagLedger", name := "restart", desc := "(I)Z" } : MethodName) prog_1_method_7_code (3 : Nat) (Option.some FieldType.boolean)) ∈ wd_tb := wd_in (wd_c2 (List.mem_of_getElem? (i := 203) rfl)) rfl
theorem tw_684 : (Cond.methodLink "DagLedger" (97 : Nat) ({ cls := "DagLedger$Replica", name := "comeUp", desc := "()V" } : MethodName)) ∈ wd_tb := wd_in (wd_c2 (List.mem_of_getElem? (i := 204) rfl)) rfl
theorem tw_685 : (Cond.instanceMethod ({ cls := "DagLedger$Replica", name := "comeUp", desc := "()V" } : MethodName)) ∈ wd_tb := wd_in (wd_c2 (List.mem_of_getElem? (i := 205) rfl)) rfl
theorem tw_686 : (Cond.selects "DagLedger$Replica" ({ cls := "DagLedger$Replica", name := "comeUp", desc := "()V" } : MethodName) ({ cls := "DagLedger$Replica", name := "comeUp", desc := "()V" } : MethodName)) ∈ wd_tb := wd_in (wd_c2 (List.mem_of_getElem? (i := 206) rfl)) rfl
theorem tw_687 : (Cond.code ({ cls := "DagLedger$Replica", name := "comeUp", desc := "()V" } : MethodName) prog_8_method_4_code (1 : Nat) (Option.none : Option FieldType)) ∈ wd_tb := wd_in (wd_c2 (List.mem_of_getElem? (i := 207) rfl)) rfl
theorem tw_688 : (Cond.methodLink "DagLedger$Replica" (83 : Nat) ({ cls := "DagLedger$Book", name := "open", desc := "()V" } : MethodName)) ∈ wd_tb := wd_in (wd_c2 (List.mem_of_getElem? (i := 208) rfl)) rfl
theorem tw_689 : (Cond.instanceMethod ({ cls := "DagLedger$Book", name := "open", desc := "()V" } : MethodName)) ∈ wd_tb := wd_in (wd_c2 (List.mem_of_getElem? (i := 209) rfl)) rfl
theorem tw_690 : (Cond.selects "DagLedger$Book" ({ cls := "DagLedger$Book", name := "open", desc := "()V" } : MethodName) ({ cls := "DagLedger$Book", name := "open", desc := "()V" } : MethodName)) ∈ wd_tb := wd_in (wd_c2 (List.mem_of_getElem? (i := 210) rfl)) rfl
theorem tw_691 : (Cond.code ({ cls := "DagLedger$Book", name := "open", desc := "()V" } : MethodName) prog_3_method_3_code (1 : Nat) (Option.none : Option FieldType)) ∈ wd_tb := wd_in (wd_c2 (List.mem_of_getElem? (i := 211) rfl)) rfl
theorem tw_692 : (Cond.methodLink "DagLedger" (100 : Nat) ({ cls := "DagLedger$Replica", name := "act", desc := "()V" } : MethodName)) ∈ wd_tb := wd_in (wd_c2 (List.mem_of_getElem? (i := 212) rfl)) rfl
theorem tw_696 : (Cond.methodLink "DagLedgerLaw" (35 : Nat) ({ cls := "DagLedger", name := "cut", desc := "(II)Z" } : MethodName)) ∈ wd_tb := wd_in (wd_c2 (List.mem_of_getElem? (i := 216) rfl)) rfl
theorem tw_697 : (Cond.instanceMethod ({ cls := "DagLedger", name := "cut", desc := "(II)Z" } : MethodName)) ∈ wd_tb := wd_in (wd_c2 (List.mem_of_getElem? (i := 217) rfl)) rfl
theorem tw_698 : (Cond.selects "DagLedger" ({ cls := "DagLedger", name := "cut", desc := "(II)Z" } : MethodName) ({ cls := "DagLedger", name := "cut", desc := "(II)Z" } : MethodName)) ∈ wd_tb := wd_in (wd_c2 (List.mem_of_getElem? (i := 218) rfl)) rfl
theorem tw_699 : (Cond.code ({ cls := "DagLedger", name := "cut", desc := "(II)Z" } : MethodName) prog_1_method_8_code (4 : Nat) (Option.some FieldType.boolean)) ∈ wd_tb := wd_in (wd_c2 (List.mem_of_getElem? (i := 219) rfl)) rfl
theorem tw_700 : (Cond.methodLink "DagLedger" (103 : Nat) ({ cls := "DagLedger$Replica", name := "setCut", desc := "(I)V" } : MethodName)) ∈ wd_tb := wd_in (wd_c2 (List.mem_of_getElem? (i := 220) rfl)) rfl
theorem tw_701 : (Cond.instanceMethod ({ cls := "DagLedger$Replica", name := "setCut", desc := "(I)V" } : MethodName)) ∈ wd_tb := wd_in (wd_c2 (List.mem_of_getElem? (i := 221) rfl)) rfl
theorem tw_702 : (Cond.selects "DagLedger$Replica" ({ cls := "DagLedger$Replica", name := "setCut", desc := "(I)V" } : MethodName) ({ cls := "DagLedger$Replica", name := "setCut", desc := "(I)V" } : MethodName)) ∈ wd_tb := wd_in (wd_c2 (List.mem_of_getElem? (i := 222) rfl)) rfl
theorem tw_703 : (Cond.code ({ cls := "DagLedger$Replica", name := "setCut", desc := "(I)V" } : MethodName) prog_8_method_5_code (2 : Nat) (Option.none : Option FieldType)) ∈ wd_tb := wd_in (wd_c2 (List.mem_of_getElem? (i := 223) rfl)) rfl
theorem tw_707 : (Cond.methodLink "DagLedgerLaw" (38 : Nat) ({ cls := "DagLedger", name := "corrupt", desc := "(I)Z" } : MethodName)) ∈ wd_tb := wd_in (wd_c2 (List.mem_of_getElem? (i := 227) rfl)) rfl
theorem tw_708 : (Cond.instanceMethod ({ cls := "DagLedger", name := "corrupt", desc := "(I)Z" } : MethodName)) ∈ wd_tb := wd_in (wd_c2 (List.mem_of_getElem? (i := 228) rfl)) rfl
theorem tw_709 : (Cond.selects "DagLedger" ({ cls := "DagLedger", name := "corrupt", desc := "(I)Z" } : MethodName) ({ cls := "DagLedger", name := "corrupt", desc := "(I)Z" } : MethodName)) ∈ wd_tb := wd_in (wd_c2 (List.mem_of_getElem? (i := 229) rfl)) rfl
theorem tw_710 : (Cond.code ({ cls := "DagLedger", name := "corrupt", desc := "(I)Z" } : MethodName) prog_1_method_9_code (3 : Nat) (Option.some FieldType.boolean)) ∈ wd_tb := wd_in (wd_c2 (List.mem_of_getElem? (i := 230) rfl)) rfl
theorem tw_714 : (Cond.methodLink "DagLedgerLaw" (41 : Nat) ({ cls := "DagLedger", name := "node", desc := "(II)I" } : MethodName)) ∈ wd_tb := wd_in (wd_c2 (List.mem_of_getElem? (i := 234) rfl)) rfl
theorem tw_715 : (Cond.instanceMethod ({ cls := "DagLedger", name := "node", desc := "(II)I" } : MethodName)) ∈ wd_tb := wd_in (wd_c2 (List.mem_of_getElem? (i := 235) rfl)) rfl
theorem tw_716 : (Cond.selects "DagLedger" ({ cls := "DagLedger", name := "node", desc := "(II)I" } : MethodName) ({ cls := "DagLedger", name := "node", desc := "(II)I" } : MethodName)) ∈ wd_tb := wd_in (wd_c2 (List.mem_of_getElem? (i := 236) rfl)) rfl
theorem tw_717 : (Cond.code ({ cls := "DagLedger", name := "node", desc := "(II)I" } : MethodName) prog_1_method_14_code (4 : Nat) (Option.some FieldType.int)) ∈ wd_tb := wd_in (wd_c2 (List.mem_of_getElem? (i := 237) rfl)) rfl
theorem tw_718 : (Cond.methodLink "DagLedger" (173 : Nat) ({ cls := "DagLedger$Disk", name := "queueLength", desc := "()I" } : MethodName)) ∈ wd_tb := wd_in (wd_c2 (List.mem_of_getElem? (i := 238) rfl)) rfl
theorem tw_719 : (Cond.instanceMethod ({ cls := "DagLedger$Disk", name := "queueLength", desc := "()I" } : MethodName)) ∈ wd_tb := wd_in (wd_c2 (List.mem_of_getElem? (i := 239) rfl)) rfl
theorem tw_720 : (Cond.selects "DagLedger$Disk" ({ cls := "DagLedger$Disk", name := "queueLength", desc := "()I" } : MethodName) ({ cls := "DagLedger$Disk", name := "queueLength", desc := "()I" } : MethodName)) ∈ wd_tb := wd_in (wd_c3 (List.mem_of_getElem? (i := 0) rfl)) rfl
theorem tw_721 : (Cond.code ({ cls := "DagLedger$Disk", name := "queueLength", desc := "()I" } : MethodName) prog_6_method_3_code (1 : Nat) (Option.some FieldType.int)) ∈ wd_tb := wd_in (wd_c3 (List.mem_of_getElem? (i := 1) rfl)) rfl
theorem tw_725 : (Cond.methodLink "DagLedgerLaw" (44 : Nat) ({ cls := "DagLedger", name := "dag", desc := "(III)I" } : MethodName)) ∈ wd_tb := wd_in (wd_c3 (List.mem_of_getElem? (i := 5) rfl)) rfl
theorem tw_726 : (Cond.instanceMethod ({ cls := "DagLedger", name := "dag", desc := "(III)I" } : MethodName)) ∈ wd_tb := wd_in (wd_c3 (List.mem_of_getElem? (i := 6) rfl)) rfl
theorem tw_727 : (Cond.selects "DagLedger" ({ cls := "DagLedger", name := "dag", desc := "(III)I" } : MethodName) ({ cls := "DagLedger", name := "dag", desc := "(III)I" } : MethodName)) ∈ wd_tb := wd_in (wd_c3 (List.mem_of_getElem? (i := 7) rfl)) rfl
theorem tw_728 : (Cond.code ({ cls := "DagLedger", name := "dag", desc := "(III)I" } : MethodName) prog_1_method_15_code (5 : Nat) (Option.some FieldType.int)) ∈ wd_tb := wd_in (wd_c3 (List.mem_of_getElem? (i := 8) rfl)) rfl
theorem tw_729 : (Cond.methodLink "DagLedger" (180 : Nat) ({ cls := "DagLedger$Dag", name := "find", desc := "(II)I" } : MethodName)) ∈ wd_tb := wd_in (wd_c3 (List.mem_of_getElem? (i := 9) rfl)) rfl
theorem tw_733 : (Cond.methodLink "DagLedgerLaw" (48 : Nat) ({ cls := "DagLedger", name := "at", desc := "(II)I" } : MethodName)) ∈ wd_tb := wd_in (wd_c3 (List.mem_of_getElem? (i := 13) rfl)) rfl
theorem tw_734 : (Cond.instanceMethod ({ cls := "DagLedger", name := "at", desc := "(II)I" } : MethodName)) ∈ wd_tb := wd_in (wd_c3 (List.mem_of_getElem? (i := 14) rfl)) rfl
theorem tw_735 : (Cond.selects "DagLedger" ({ cls := "DagLedger", name := "at", desc := "(II)I" } : MethodName) ({ cls := "DagLedger", name := "at", desc := "(II)I" } : MethodName)) ∈ wd_tb := wd_in (wd_c3 (List.mem_of_getElem? (i := 15) rfl)) rfl
theorem tw_736 : (Cond.code ({ cls := "DagLedger", name := "at", desc := "(II)I" } : MethodName) prog_1_method_16_code (4 : Nat) (Option.some FieldType.int)) ∈ wd_tb := wd_in (wd_c3 (List.mem_of_getElem? (i := 16) rfl)) rfl
theorem tw_740 : (Cond.methodLink "DagLedgerLaw" (51 : Nat) ({ cls := "DagLedger", name := "balance", desc := "(II)I" } : MethodName)) ∈ wd_tb := wd_in (wd_c3 (List.mem_of_getElem? (i := 20) rfl)) rfl
theorem tw_741 : (Cond.instanceMethod ({ cls := "DagLedger", name := "balance", desc := "(II)I" } : MethodName)) ∈ wd_tb := wd_in (wd_c3 (List.mem_of_getElem? (i := 21) rfl)) rfl
theorem tw_742 : (Cond.selects "DagLedger" ({ cls := "DagLedger", name := "balance", desc := "(II)I" } : MethodName) ({ cls := "DagLedger", name := "balance", desc := "(II)I" } : MethodName)) ∈ wd_tb := wd_in (wd_c3 (List.mem_of_getElem? (i := 22) rfl)) rfl
theorem tw_743 : (Cond.code ({ cls := "DagLedger", name := "balance", desc := "(II)I" } : MethodName) prog_1_method_17_code (4 : Nat) (Option.some FieldType.int)) ∈ wd_tb := wd_in (wd_c3 (List.mem_of_getElem? (i := 23) rfl)) rfl
theorem tw_750 : (Cond.methodLink "DagLedgerModel" (101 : Nat) ({ cls := "DagLedgerModel", name := "fresh", desc := "(I)V" } : MethodName)) ∈ wd_tb := wd_in (wd_c3 (List.mem_of_getElem? (i := 30) rfl)) rfl
theorem tw_752 : (Cond.instanceMethod ({ cls := "DagLedgerModel", name := "fresh", desc := "(I)V" } : MethodName)) ∈ wd_tb := wd_in (wd_c3 (List.mem_of_getElem? (i := 32) rfl)) rfl
theorem tw_753 : (Cond.code ({ cls := "DagLedgerModel", name := "fresh", desc := "(I)V" } : MethodName) prog_12_method_4_code (3 : Nat) (Option.none : Option FieldType)) ∈ wd_tb := wd_in (wd_c3 (List.mem_of_getElem? (i := 33) rfl)) rfl
theorem tw_754 : (Cond.fieldLink "DagLedgerModel" (105 : Nat) "DagLedgerModel" "thrown" "I") ∈ wd_tb := wd_in (wd_c3 (List.mem_of_getElem? (i := 34) rfl)) rfl
theorem tw_755 : (Cond.fieldLink "DagLedgerModel" (176 : Nat) "DagLedgerModel" "transfers" "I") ∈ wd_tb := wd_in (wd_c3 (List.mem_of_getElem? (i := 35) rfl)) rfl
theorem tw_756 : (Cond.fieldLink "DagLedgerModel" (7 : Nat) "DagLedgerModel" "from" "[I") ∈ wd_tb := wd_in (wd_c3 (List.mem_of_getElem? (i := 36) rfl)) rfl
theorem tw_757 : (Cond.fieldLink "DagLedgerModel" (13 : Nat) "DagLedgerModel" "to" "[I") ∈ wd_tb := wd_in (wd_c3 (List.mem_of_getElem? (i := 37) rfl)) rfl
theorem tw_758 : (Cond.fieldLink "DagLedgerModel" (16 : Nat) "DagLedgerModel" "amount" "[I") ∈ wd_tb := wd_in (wd_c3 (List.mem_of_getElem? (i := 38) rfl)) rfl
theorem tw_759 : (Cond.fieldLink "DagLedgerModel" (19 : Nat) "DagLedgerModel" "owner" "[I") ∈ wd_tb := wd_in (wd_c3 (List.mem_of_getElem? (i := 39) rfl)) rfl
theorem tw_760 : (Cond.fieldLink "DagLedgerModel" (22 : Nat) "DagLedgerModel" "placed" "[Z") ∈ wd_tb := wd_in (wd_c3 (List.mem_of_getElem? (i := 40) rfl)) rfl
theorem tw_761 : (Cond.fieldLink "DagLedgerModel" (153 : Nat) "DagLedgerModel" "vertices" "I") ∈ wd_tb := wd_in (wd_c3 (List.mem_of_getElem? (i := 41) rfl)) rfl
theorem tw_762 : (Cond.fieldLink "DagLedgerModel" (26 : Nat) "DagLedgerModel" "author" "[I") ∈ wd_tb := wd_in (wd_c3 (List.mem_of_getElem? (i := 42) rfl)) rfl
theorem tw_763 : (Cond.fieldLink "DagLedgerModel" (29 : Nat) "DagLedgerModel" "round" "[I") ∈ wd_tb := wd_in (wd_c3 (List.mem_of_getElem? (i := 43) rfl)) rfl
theorem tw_764 : (Cond.fieldLink "DagLedgerModel" (32 : Nat) "DagLedgerModel" "parents" "[I") ∈ wd_tb := wd_in (wd_c3 (List.mem_of_getElem? (i := 44) rfl)) rfl
theorem tw_765 : (Cond.fieldLink "DagLedgerModel" (35 : Nat) "DagLedgerModel" "first" "[I") ∈ wd_tb := wd_in (wd_c3 (List.mem_of_getElem? (i := 45) rfl)) rfl
theorem tw_766 : (Cond.fieldLink "DagLedgerModel" (38 : Nat) "DagLedgerModel" "second" "[I") ∈ wd_tb := wd_in (wd_c3 (List.mem_of_getElem? (i := 46) rfl)) rfl
theorem tw_767 : (Cond.fieldLink "DagLedgerModel" (112 : Nat) "DagLedgerModel" "messages" "I") ∈ wd_tb := wd_in (wd_c3 (List.mem_of_getElem? (i := 47) rfl)) rfl
theorem tw_768 : (Cond.fieldLink "DagLedgerModel" (41 : Nat) "DagLedgerModel" "sender" "[I") ∈ wd_tb := wd_in (wd_c3 (List.mem_of_getElem? (i := 48) rfl)) rfl
theorem tw_769 : (Cond.fieldLink "DagLedgerModel" (44 : Nat) "DagLedgerModel" "about" "[I") ∈ wd_tb := wd_in (wd_c3 (List.mem_of_getElem? (i := 49) rfl)) rfl
theorem tw_770 : (Cond.fieldLink "DagLedgerModel" (47 : Nat) "DagLedgerModel" "kind" "[I") ∈ wd_tb := wd_in (wd_c3 (List.mem_of_getElem? (i := 50) rfl)) rfl
theorem tw_771 : (Cond.fieldLink "DagLedgerModel" (50 : Nat) "DagLedgerModel" "state" "[I") ∈ wd_tb := wd_in (wd_c3 (List.mem_of_getElem? (i := 51) rfl)) rfl
theorem tw_772 : (Cond.fieldLink "DagLedgerModel" (53 : Nat) "DagLedgerModel" "records" "[I") ∈ wd_tb := wd_in (wd_c3 (List.mem_of_getElem? (i := 52) rfl)) rfl
theorem tw_773 : (Cond.fieldLink "DagLedgerModel" (56 : Nat) "DagLedgerModel" "cutAt" "[I") ∈ wd_tb := wd_in (wd_c3 (List.mem_of_getElem? (i := 53) rfl)) rfl
theorem tw_774 : (Cond.fieldLink "DagLedgerModel" (59 : Nat) "DagLedgerModel" "made" "[I") ∈ wd_tb := wd_in (wd_c3 (List.mem_of_getElem? (i := 54) rfl)) rfl
theorem tw_775 : (Cond.fieldLink "DagLedgerModel" (62 : Nat) "DagLedgerModel" "echoed" "[Z") ∈ wd_tb := wd_in (wd_c3 (List.mem_of_getElem? (i := 55) rfl)) rfl
theorem tw_776 : (Cond.fieldLink "DagLedgerModel" (65 : Nat) "DagLedgerModel" "readied" "[Z") ∈ wd_tb := wd_in (wd_c3 (List.mem_of_getElem? (i := 56) rfl)) rfl
theorem tw_777 : (Cond.fieldLink "DagLedgerModel" (68 : Nat) "DagLedgerModel" "timer" "[I") ∈ wd_tb := wd_in (wd_c3 (List.mem_of_getElem? (i := 57) rfl)) rfl
theorem tw_778 : (Cond.fieldLink "DagLedgerModel" (71 : Nat) "DagLedgerModel" "mark" "[I") ∈ wd_tb := wd_in (wd_c3 (List.mem_of_getElem? (i := 58) rfl)) rfl
theorem tw_779 : (Cond.fieldLink "DagLedgerModel" (74 : Nat) "DagLedgerModel" "last" "[I") ∈ wd_tb := wd_in (wd_c3 (List.mem_of_getElem? (i := 59) rfl)) rfl
theorem tw_780 : (Cond.fieldLink "DagLedgerModel" (77 : Nat) "DagLedgerModel" "dag" "[I") ∈ wd_tb := wd_in (wd_c3 (List.mem_of_getElem? (i := 60) rfl)) rfl
theorem tw_781 : (Cond.fieldLink "DagLedgerModel" (80 : Nat) "DagLedgerModel" "echoes" "[I") ∈ wd_tb := wd_in (wd_c3 (List.mem_of_getElem? (i := 61) rfl)) rfl
theorem tw_782 : (Cond.fieldLink "DagLedgerModel" (83 : Nat) "DagLedgerModel" "readies" "[I") ∈ wd_tb := wd_in (wd_c3 (List.mem_of_getElem? (i := 62) rfl)) rfl
theorem tw_783 : (Cond.fieldLink "DagLedgerModel" (86 : Nat) "DagLedgerModel" "emitted" "[Z") ∈ wd_tb := wd_in (wd_c3 (List.mem_of_getElem? (i := 63) rfl)) rfl
theorem tw_784 : (Cond.fieldLink "DagLedgerModel" (89 : Nat) "DagLedgerModel" "order" "[I") ∈ wd_tb := wd_in (wd_c3 (List.mem_of_getElem? (i := 64) rfl)) rfl
theorem tw_785 : (Cond.fieldLink "DagLedgerModel" (92 : Nat) "DagLedgerModel" "positions" "[I") ∈ wd_tb := wd_in (wd_c3 (List.mem_of_getElem? (i := 65) rfl)) rfl
theorem tw_786 : (Cond.fieldLink "DagLedgerModel" (95 : Nat) "DagLedgerModel" "balances" "[I") ∈ wd_tb := wd_in (wd_c3 (List.mem_of_getElem? (i := 66) rfl)) rfl
theorem tw_787 : (Cond.fieldLink "DagLedgerModel" (98 : Nat) "DagLedgerModel" "reach" "[I") ∈ wd_tb := wd_in (wd_c3 (List.mem_of_getElem? (i := 67) rfl)) rfl
theorem tw_788 : (Cond.fieldLink "DagLedgerModel" (207 : Nat) "DagLedgerModel" "wasDown" "Z") ∈ wd_tb := wd_in (wd_c3 (List.mem_of_getElem? (i := 68) rfl)) rfl
theorem tw_789 : (Cond.lays "DagLedgerModel" "DagLedgerModel" "thrown" "I") ∈ wd_tb := wd_in (wd_c3 (List.mem_of_getElem? (i := 69) rfl)) rfl
theorem tw_791 : (Cond.lays "DagLedgerModel" "DagLedgerModel" "transfers" "I") ∈ wd_tb := wd_in (wd_c3 (List.mem_of_getElem? (i := 71) rfl)) rfl
theorem tw_793 : (Cond.laysFinal "DagLedgerModel" "DagLedgerModel" "from" "[I") ∈ wd_tb := wd_in (wd_c3 (List.mem_of_getElem? (i := 73) rfl)) rfl
theorem tw_795 : (Cond.laysFinal "DagLedgerModel" "DagLedgerModel" "to" "[I") ∈ wd_tb := wd_in (wd_c3 (List.mem_of_getElem? (i := 75) rfl)) rfl
theorem tw_797 : (Cond.laysFinal "DagLedgerModel" "DagLedgerModel" "amount" "[I") ∈ wd_tb := wd_in (wd_c3 (List.mem_of_getElem? (i := 77) rfl)) rfl
theorem tw_799 : (Cond.laysFinal "DagLedgerModel" "DagLedgerModel" "owner" "[I") ∈ wd_tb := wd_in (wd_c3 (List.mem_of_getElem? (i := 79) rfl)) rfl
theorem tw_801 : (Cond.laysFinal "DagLedgerModel" "DagLedgerModel" "placed" "[Z") ∈ wd_tb := wd_in (wd_c3 (List.mem_of_getElem? (i := 81) rfl)) rfl
theorem tw_803 : (Cond.lays "DagLedgerModel" "DagLedgerModel" "vertices" "I") ∈ wd_tb := wd_in (wd_c3 (List.mem_of_getElem? (i := 83) rfl)) rfl
theorem tw_805 : (Cond.laysFinal "DagLedgerModel" "DagLedgerModel" "author" "[I") ∈ wd_tb := wd_in (wd_c3 (List.mem_of_getElem? (i := 85) rfl)) rfl
theorem tw_807 : (Cond.laysFinal "DagLedgerModel" "DagLedgerModel" "round" "[I") ∈ wd_tb := wd_in (wd_c3 (List.mem_of_getElem? (i := 87) rfl)) rfl
theorem tw_809 : (Cond.laysFinal "DagLedgerModel" "DagLedgerModel" "parents" "[I") ∈ wd_tb := wd_in (wd_c3 (List.mem_of_getElem? (i := 89) rfl)) rfl
theorem tw_811 : (Cond.laysFinal "DagLedgerModel" "DagLedgerModel" "first" "[I") ∈ wd_tb := wd_in (wd_c3 (List.mem_of_getElem? (i := 91) rfl)) rfl
theorem tw_813 : (Cond.laysFinal "DagLedgerModel" "DagLedgerModel" "second" "[I") ∈ wd_tb := wd_in (wd_c3 (List.mem_of_getElem? (i := 93) rfl)) rfl
theorem tw_815 : (Cond.lays "DagLedgerModel" "DagLedgerModel" "messages" "I") ∈ wd_tb := wd_in (wd_c3 (List.mem_of_getElem? (i := 95) rfl)) rfl
theorem tw_817 : (Cond.laysFinal "DagLedgerModel" "DagLedgerModel" "sender" "[I") ∈ wd_tb := wd_in (wd_c3 (List.mem_of_getElem? (i := 97) rfl)) rfl
theorem tw_819 : (Cond.laysFinal "DagLedgerModel" "DagLedgerModel" "about" "[I") ∈ wd_tb := wd_in (wd_c3 (List.mem_of_getElem? (i := 99) rfl)) rfl
theorem tw_821 : (Cond.laysFinal "DagLedgerModel" "DagLedgerModel" "kind" "[I") ∈ wd_tb := wd_in (wd_c3 (List.mem_of_getElem? (i := 101) rfl)) rfl
theorem tw_823 : (Cond.laysFinal "DagLedgerModel" "DagLedgerModel" "state" "[I") ∈ wd_tb := wd_in (wd_c3 (List.mem_of_getElem? (i := 103) rfl)) rfl
theorem tw_825 : (Cond.laysFinal "DagLedgerModel" "DagLedgerModel" "records" "[I") ∈ wd_tb := wd_in (wd_c3 (List.mem_of_getElem? (i := 105) rfl)) rfl
theorem tw_827 : (Cond.laysFinal "DagLedgerModel" "DagLedgerModel" "cutAt" "[I") ∈ wd_tb := wd_in (wd_c3 (List.mem_of_getElem? (i := 107) rfl)) rfl
theorem tw_829 : (Cond.laysFinal "DagLedgerModel" "DagLedgerModel" "made" "[I") ∈ wd_tb := wd_in (wd_c3 (List.mem_of_getElem? (i := 109) rfl)) rfl
theorem tw_831 : (Cond.laysFinal "DagLedgerModel" "DagLedgerModel" "echoed" "[Z") ∈ wd_tb := wd_in (wd_c3 (List.mem_of_getElem? (i := 111) rfl)) rfl
theorem tw_833 : (Cond.laysFinal "DagLedgerModel" "DagLedgerModel" "readied" "[Z") ∈ wd_tb := wd_in (wd_c3 (List.mem_of_getElem? (i := 113) rfl)) rfl
theorem tw_835 : (Cond.laysFinal "DagLedgerModel" "DagLedgerModel" "timer" "[I") ∈ wd_tb := wd_in (wd_c3 (List.mem_of_getElem? (i := 115) rfl)) rfl
theorem tw_837 : (Cond.laysFinal "DagLedgerModel" "DagLedgerModel" "mark" "[I") ∈ wd_tb := wd_in (wd_c3 (List.mem_of_getElem? (i := 117) rfl)) rfl
theorem tw_839 : (Cond.laysFinal "DagLedgerModel" "DagLedgerModel" "last" "[I") ∈ wd_tb := wd_in (wd_c3 (List.mem_of_getElem? (i := 119) rfl)) rfl
theorem tw_841 : (Cond.laysFinal "DagLedgerModel" "DagLedgerModel" "dag" "[I") ∈ wd_tb := wd_in (wd_c3 (List.mem_of_getElem? (i := 121) rfl)) rfl
theorem tw_843 : (Cond.laysFinal "DagLedgerModel" "DagLedgerModel" "echoes" "[I") ∈ wd_tb := wd_in (wd_c3 (List.mem_of_getElem? (i := 123) rfl)) rfl
theorem tw_845 : (Cond.laysFinal "DagLedgerModel" "DagLedgerModel" "readies" "[I") ∈ wd_tb := wd_in (wd_c3 (List.mem_of_getElem? (i := 125) rfl)) rfl
theorem tw_847 : (Cond.laysFinal "DagLedgerModel" "DagLedgerModel" "emitted" "[Z") ∈ wd_tb := wd_in (wd_c3 (List.mem_of_getElem? (i := 127) rfl)) rfl
theorem tw_849 : (Cond.laysFinal "DagLedgerModel" "DagLedgerModel" "order" "[I") ∈ wd_tb := wd_in (wd_c3 (List.mem_of_getElem? (i := 129) rfl)) rfl
theorem tw_851 : (Cond.laysFinal "DagLedgerModel" "DagLedgerModel" "positions" "[I") ∈ wd_tb := wd_in (wd_c3 (List.mem_of_getElem? (i := 131) rfl)) rfl
theorem tw_853 : (Cond.laysFinal "DagLedgerModel" "DagLedgerModel" "balances" "[I") ∈ wd_tb := wd_in (wd_c3 (List.mem_of_getElem? (i := 133) rfl)) rfl
theorem tw_855 : (Cond.laysFinal "DagLedgerModel" "DagLedgerModel" "reach" "[I") ∈ wd_tb := wd_in (wd_c3 (List.mem_of_getElem? (i := 135) rfl)) rfl
theorem tw_857 : (Cond.lays "DagLedgerModel" "DagLedgerModel" "wasDown" "Z") ∈ wd_tb := wd_in (wd_c3 (List.mem_of_getElem? (i := 137) rfl)) rfl
theorem tw_861 : (Cond.methodLink "DagLedgerLaw" (64 : Nat) ({ cls := "DagLedgerModel", name := "thrown", desc := "()I" } : MethodName)) ∈ wd_tb := wd_in (wd_c3 (List.mem_of_getElem? (i := 141) rfl)) rfl
theorem tw_862 : (Cond.instanceMethod ({ cls := "DagLedgerModel", name := "thrown", desc := "()I" } : MethodName)) ∈ wd_tb := wd_in (wd_c3 (List.mem_of_getElem? (i := 142) rfl)) rfl
theorem tw_863 : (Cond.selects "DagLedgerModel" ({ cls := "DagLedgerModel", name := "thrown", desc := "()I" } : MethodName) ({ cls := "DagLedgerModel", name := "thrown", desc := "()I" } : MethodName)) ∈ wd_tb := wd_in (wd_c3 (List.mem_of_getElem? (i := 143) rfl)) rfl
theorem tw_864 : (Cond.code ({ cls := "DagLedgerModel", name := "thrown", desc := "()I" } : MethodName) prog_12_method_2_code (1 : Nat) (Option.some FieldType.int)) ∈ wd_tb := wd_in (wd_c3 (List.mem_of_getElem? (i := 144) rfl)) rfl
theorem tw_865 : (Cond.methodLink "DagLedgerLaw" (63 : Nat) ({ cls := "DagLedgerModel", name := "submit", desc := "(IIII)I" } : MethodName)) ∈ wd_tb := wd_in (wd_c3 (List.mem_of_getElem? (i := 145) rfl)) rfl
theorem tw_866 : (Cond.instanceMethod ({ cls := "DagLedgerModel", name := "submit", desc := "(IIII)I" } : MethodName)) ∈ wd_tb := wd_in (wd_c3 (List.mem_of_getElem? (i := 146) rfl)) rfl
theorem tw_867 : (Cond.selects "DagLedgerModel" ({ cls := "DagLedgerModel", name := "submit", desc := "(IIII)I" } : MethodName) ({ cls := "DagLedgerModel", name := "submit", desc := "(IIII)I" } : MethodName)) ∈ wd_tb := wd_in (wd_c3 (List.mem_of_getElem? (i := 147) rfl)) rfl
theorem tw_868 : (Cond.code ({ cls := "DagLedgerModel", name := "submit", desc := "(IIII)I" } : MethodName) prog_12_method_29_code (5 : Nat) (Option.some FieldType.int)) ∈ wd_tb := wd_in (wd_c3 (List.mem_of_getElem? (i := 148) rfl)) rfl
theorem tw_869 : (Cond.methodLink "DagLedgerModel" (190 : Nat) ({ cls := "DagLedgerModel", name := "isNode", desc := "(I)Z" } : MethodName)) ∈ wd_tb := wd_in (wd_c3 (List.mem_of_getElem? (i := 149) rfl)) rfl
theorem tw_871 : (Cond.instanceMethod ({ cls := "DagLedgerModel", name := "isNode", desc := "(I)Z" } : MethodName)) ∈ wd_tb := wd_in (wd_c3 (List.mem_of_getElem? (i := 151) rfl)) rfl
theorem tw_872 : (Cond.code ({ cls := "DagLedgerModel", name := "isNode", desc := "(I)Z" } : MethodName) prog_12_method_26_code (2 : Nat) (Option.some FieldType.boolean)) ∈ wd_tb := wd_in (wd_c3 (List.mem_of_getElem? (i := 152) rfl)) rfl
theorem tw_873 : (Cond.methodLink "DagLedgerModel" (186 : Nat) ({ cls := "DagLedgerModel", name := "in", desc := "(III)Z" } : MethodName)) ∈ wd_tb := wd_in (wd_c3 (List.mem_of_getElem? (i := 153) rfl)) rfl
theorem tw_874 : (Cond.static ({ cls := "DagLedgerModel", name := "in", desc := "(III)Z" } : MethodName)) ∈ wd_tb := wd_in (wd_c3 (List.mem_of_getElem? (i := 154) rfl)) rfl
theorem tw_875 : (Cond.code ({ cls := "DagLedgerModel", name := "in", desc := "(III)Z" } : MethodName) prog_12_method_3_code (3 : Nat) (Option.some FieldType.boolean)) ∈ wd_tb := wd_in (wd_c3 (List.mem_of_getElem? (i := 155) rfl)) rfl
theorem tw_876 : (Cond.methodLink "DagLedgerModel" (127 : Nat) ({ cls := "DagLedgerModel", name := "record", desc := "(I)Z" } : MethodName)) ∈ wd_tb := wd_in (wd_c3 (List.mem_of_getElem? (i := 156) rfl)) rfl
theorem tw_878 : (Cond.instanceMethod ({ cls := "DagLedgerModel", name := "record", desc := "(I)Z" } : MethodName)) ∈ wd_tb := wd_in (wd_c3 (List.mem_of_getElem? (i := 158) rfl)) rfl
theorem tw_879 : (Cond.code ({ cls := "DagLedgerModel", name := "record", desc := "(I)Z" } : MethodName) prog_12_method_6_code (2 : Nat) (Option.some FieldType.boolean)) ∈ wd_tb := wd_in (wd_c3 (List.mem_of_getElem? (i := 159) rfl)) rfl
theorem tw_880 : (Cond.methodLink "DagLedgerModel" (109 : Nat) ({ cls := "DagLedgerModel", name := "fall", desc := "(I)V" } : MethodName)) ∈ wd_tb := wd_in (wd_c3 (List.mem_of_getElem? (i := 160) rfl)) rfl
theorem tw_882 : (Cond.instanceMethod ({ cls := "DagLedgerModel", name := "fall", desc := "(I)V" } : MethodName)) ∈ wd_tb := wd_in (wd_c3 (List.mem_of_getElem? (i := 162) rfl)) rfl
theorem tw_883 : (Cond.code ({ cls := "DagLedgerModel", name := "fall", desc := "(I)V" } : MethodName) prog_12_method_5_code (2 : Nat) (Option.none : Option FieldType)) ∈ wd_tb := wd_in (wd_c3 (List.mem_of_getElem? (i := 163) rfl)) rfl
theorem tw_884 : (Cond.methodLink "DagLedgerLaw" (71 : Nat) ({ cls := "DagLedgerModel", name := "deliver", desc := "(II)Z" } : MethodName)) ∈ wd_tb := wd_in (wd_c3 (List.mem_of_getElem? (i := 164) rfl)) rfl
theorem tw_885 : (Cond.instanceMethod ({ cls := "DagLedgerModel", name := "deliver", desc := "(II)Z" } : MethodName)) ∈ wd_tb := wd_in (wd_c3 (List.mem_of_getElem? (i := 165) rfl)) rfl
theorem tw_886 : (Cond.selects "DagLedgerModel" ({ cls := "DagLedgerModel", name := "deliver", desc := "(II)Z" } : MethodName) ({ cls := "DagLedgerModel", name := "deliver", desc := "(II)Z" } : MethodName)) ∈ wd_tb := wd_in (wd_c3 (List.mem_of_getElem? (i := 166) rfl)) rfl
theorem tw_887 : (Cond.code ({ cls := "DagLedgerModel", name := "deliver", desc := "(II)Z" } : MethodName) prog_12_method_30_code (3 : Nat) (Option.some FieldType.boolean)) ∈ wd_tb := wd_in (wd_c3 (List.mem_of_getElem? (i := 167) rfl)) rfl
theorem tw_888 : (Cond.methodLink "DagLedgerModel" (193 : Nat) ({ cls := "DagLedgerModel", name := "works", desc := "(I)Z" } : MethodName)) ∈ wd_tb := wd_in (wd_c3 (List.mem_of_getElem? (i := 168) rfl)) rfl
theorem tw_890 : (Cond.instanceMethod ({ cls := "DagLedgerModel", name := "works", desc := "(I)Z" } : MethodName)) ∈ wd_tb := wd_in (wd_c3 (List.mem_of_getElem? (i := 170) rfl)) rfl
theorem tw_891 : (Cond.code ({ cls := "DagLedgerModel", name := "works", desc := "(I)Z" } : MethodName) prog_12_method_27_code (2 : Nat) (Option.some FieldType.boolean)) ∈ wd_tb := wd_in (wd_c3 (List.mem_of_getElem? (i := 171) rfl)) rfl
theorem tw_892 : (Cond.methodLink "DagLedgerModel" (196 : Nat) ({ cls := "DagLedgerModel", name := "full", desc := "()Z" } : MethodName)) ∈ wd_tb := wd_in (wd_c3 (List.mem_of_getElem? (i := 172) rfl)) rfl
theorem tw_894 : (Cond.instanceMethod ({ cls := "DagLedgerModel", name := "full", desc := "()Z" } : MethodName)) ∈ wd_tb := wd_in (wd_c3 (List.mem_of_getElem? (i := 174) rfl)) rfl
theorem tw_895 : (Cond.code ({ cls := "DagLedgerModel", name := "full", desc := "()Z" } : MethodName) prog_12_method_28_code (1 : Nat) (Option.some FieldType.boolean)) ∈ wd_tb := wd_in (wd_c3 (List.mem_of_getElem? (i := 175) rfl)) rfl
theorem tw_896 : (Cond.methodLink "DagLedgerModel" (200 : Nat) ({ cls := "DagLedgerModel", name := "take", desc := "(II)V" } : MethodName)) ∈ wd_tb := wd_in (wd_c3 (List.mem_of_getElem? (i := 176) rfl)) rfl
theorem tw_898 : (Cond.instanceMethod ({ cls := "DagLedgerModel", name := "take", desc := "(II)V" } : MethodName)) ∈ wd_tb := wd_in (wd_c3 (List.mem_of_getElem? (i := 178) rfl)) rfl
theorem tw_899 : (Cond.code ({ cls := "DagLedgerModel", name := "take", desc := "(II)V" } : MethodName) prog_12_method_11_code (6 : Nat) (Option.none : Option FieldType)) ∈ wd_tb := wd_in (wd_c3 (List.mem_of_getElem? (i := 179) rfl)) rfl
theorem tw_900 : (Cond.methodLink "DagLedgerModel" (119 : Nat) ({ cls := "DagLedgerModel", name := "formed", desc := "(I)Z" } : MethodName)) ∈ wd_tb := wd_in (wd_c3 (List.mem_of_getElem? (i := 180) rfl)) rfl
theorem tw_902 : (Cond.instanceMethod ({ cls := "DagLedgerModel", name := "formed", desc := "(I)Z" } : MethodName)) ∈ wd_tb := wd_in (wd_c3 (List.mem_of_getElem? (i := 182) rfl)) rfl
theorem tw_903 : (Cond.code ({ cls := "DagLedgerModel", name := "formed", desc := "(I)Z" } : MethodName) prog_12_method_9_code (2 : Nat) (Option.some FieldType.boolean)) ∈ wd_tb := wd_in (wd_c3 (List.mem_of_getElem? (i := 183) rfl)) rfl
theorem tw_904 : (Cond.methodLink "DagLedgerModel" (115 : Nat) ({ cls := "DagLedgerModel", name := "ones", desc := "(I)I" } : MethodName)) ∈ wd_tb := wd_in (wd_c3 (List.mem_of_getElem? (i := 184) rfl)) rfl
theorem tw_905 : (Cond.static ({ cls := "DagLedgerModel", name := "ones", desc := "(I)I" } : MethodName)) ∈ wd_tb := wd_in (wd_c3 (List.mem_of_getElem? (i := 185) rfl)) rfl
theorem tw_906 : (Cond.code ({ cls := "DagLedgerModel", name := "ones", desc := "(I)I" } : MethodName) prog_12_method_8_code (1 : Nat) (Option.some FieldType.int)) ∈ wd_tb := wd_in (wd_c3 (List.mem_of_getElem? (i := 186) rfl)) rfl
theorem tw_907 : (Cond.methodLink "DagLedgerModel" (123 : Nat) ({ cls := "DagLedgerModel", name := "spot", desc := "(II)I" } : MethodName)) ∈ wd_tb := wd_in (wd_c3 (List.mem_of_getElem? (i := 187) rfl)) rfl
theorem tw_909 : (Cond.instanceMethod ({ cls := "DagLedgerModel", name := "spot", desc := "(II)I" } : MethodName)) ∈ wd_tb := wd_in (wd_c3 (List.mem_of_getElem? (i := 189) rfl)) rfl
theorem tw_910 : (Cond.code ({ cls := "DagLedgerModel", name := "spot", desc := "(II)I" } : MethodName) prog_12_method_10_code (3 : Nat) (Option.some FieldType.int)) ∈ wd_tb := wd_in (wd_c3 (List.mem_of_getElem? (i := 190) rfl)) rfl
theorem tw_911 : (Cond.methodLink "DagLedgerModel" (130 : Nat) ({ cls := "DagLedgerModel", name := "say", desc := "(III)I" } : MethodName)) ∈ wd_tb := wd_in (wd_c3 (List.mem_of_getElem? (i := 191) rfl)) rfl
theorem tw_913 : (Cond.instanceMethod ({ cls := "DagLedgerModel", name := "say", desc := "(III)I" } : MethodName)) ∈ wd_tb := wd_in (wd_c3 (List.mem_of_getElem? (i := 193) rfl)) rfl
theorem tw_914 : (Cond.code ({ cls := "DagLedgerModel", name := "say", desc := "(III)I" } : MethodName) prog_12_method_7_code (4 : Nat) (Option.some FieldType.int)) ∈ wd_tb := wd_in (wd_c3 (List.mem_of_getElem? (i := 194) rfl)) rfl
theorem tw_915 : (Cond.methodLink "DagLedgerModel" (134 : Nat) ({ cls := "DagLedgerModel", name := "act", desc := "(I)V" } : MethodName)) ∈ wd_tb := wd_in (wd_c3 (List.mem_of_getElem? (i := 195) rfl)) rfl
theorem tw_917 : (Cond.instanceMethod ({ cls := "DagLedgerModel", name := "act", desc := "(I)V" } : MethodName)) ∈ wd_tb := wd_in (wd_c3 (List.mem_of_getElem? (i := 197) rfl)) rfl
theorem tw_918 : (Cond.code ({ cls := "DagLedgerModel", name := "act", desc := "(I)V" } : MethodName) prog_12_method_12_code (5 : Nat) (Option.none : Option FieldType)) ∈ wd_tb := wd_in (wd_c3 (List.mem_of_getElem? (i := 198) rfl)) rfl
theorem tw_919 : (Cond.methodLink "DagLedgerModel" (137 : Nat) ({ cls := "DagLedgerModel", name := "insertable", desc := "(I)I" } : MethodName)) ∈ wd_tb := wd_in (wd_c3 (List.mem_of_getElem? (i := 199) rfl)) rfl
theorem tw_921 : (Cond.instanceMethod ({ cls := "DagLedgerModel", name := "insertable", desc := "(I)I" } : MethodName)) ∈ wd_tb := wd_in (wd_c3 (List.mem_of_getElem? (i := 201) rfl)) rfl
theorem tw_922 : (Cond.code ({ cls := "DagLedgerModel", name := "insertable", desc := "(I)I" } : MethodName) prog_12_method_14_code (5 : Nat) (Option.some FieldType.int)) ∈ wd_tb := wd_in (wd_c3 (List.mem_of_getElem? (i := 202) rfl)) rfl
theorem tw_923 : (Cond.methodLink "DagLedgerModel" (156 : Nat) ({ cls := "DagLedgerModel", name := "there", desc := "(II)I" } : MethodName)) ∈ wd_tb := wd_in (wd_c3 (List.mem_of_getElem? (i := 203) rfl)) rfl
theorem tw_925 : (Cond.instanceMethod ({ cls := "DagLedgerModel", name := "there", desc := "(II)I" } : MethodName)) ∈ wd_tb := wd_in (wd_c3 (List.mem_of_getElem? (i := 205) rfl)) rfl
theorem tw_926 : (Cond.code ({ cls := "DagLedgerModel", name := "there", desc := "(II)I" } : MethodName) prog_12_method_13_code (5 : Nat) (Option.some FieldType.int)) ∈ wd_tb := wd_in (wd_c3 (List.mem_of_getElem? (i := 206) rfl)) rfl
theorem tw_927 : (Cond.methodLink "DagLedgerModel" (140 : Nat) ({ cls := "DagLedgerModel", name := "committable", desc := "(I)I" } : MethodName)) ∈ wd_tb := wd_in (wd_c3 (List.mem_of_getElem? (i := 207) rfl)) rfl
theorem tw_929 : (Cond.instanceMethod ({ cls := "DagLedgerModel", name := "committable", desc := "(I)I" } : MethodName)) ∈ wd_tb := wd_in (wd_c3 (List.mem_of_getElem? (i := 209) rfl)) rfl
theorem tw_930 : (Cond.code ({ cls := "DagLedgerModel", name := "committable", desc := "(I)I" } : MethodName) prog_12_method_17_code (6 : Nat) (Option.some FieldType.int)) ∈ wd_tb := wd_in (wd_c3 (List.mem_of_getElem? (i := 210) rfl)) rfl
theorem tw_931 : (Cond.methodLink "DagLedgerModel" (159 : Nat) ({ cls := "DagLedgerModel", name := "leader", desc := "(I)I" } : MethodName)) ∈ wd_tb := wd_in (wd_c3 (List.mem_of_getElem? (i := 211) rfl)) rfl
theorem tw_932 : (Cond.static ({ cls := "DagLedgerModel", name := "leader", desc := "(I)I" } : MethodName)) ∈ wd_tb := wd_in (wd_c3 (List.mem_of_getElem? (i := 212) rfl)) rfl
theorem tw_933 : (Cond.code ({ cls := "DagLedgerModel", name := "leader", desc := "(I)I" } : MethodName) prog_12_method_15_code (1 : Nat) (Option.some FieldType.int)) ∈ wd_tb := wd_in (wd_c3 (List.mem_of_getElem? (i := 213) rfl)) rfl
theorem tw_934 : (Cond.methodLink "DagLedgerModel" (162 : Nat) ({ cls := "DagLedgerModel", name := "hasLeader", desc := "(II)Z" } : MethodName)) ∈ wd_tb := wd_in (wd_c3 (List.mem_of_getElem? (i := 214) rfl)) rfl
theorem tw_936 : (Cond.instanceMethod ({ cls := "DagLedgerModel", name := "hasLeader", desc := "(II)Z" } : MethodName)) ∈ wd_tb := wd_in (wd_c3 (List.mem_of_getElem? (i := 216) rfl)) rfl
theorem tw_937 : (Cond.code ({ cls := "DagLedgerModel", name := "hasLeader", desc := "(II)Z" } : MethodName) prog_12_method_16_code (3 : Nat) (Option.some FieldType.boolean)) ∈ wd_tb := wd_in (wd_c3 (List.mem_of_getElem? (i := 217) rfl)) rfl
theorem tw_938 : (Cond.methodLink "DagLedgerModel" (143 : Nat) ({ cls := "DagLedgerModel", name := "commit", desc := "(II)V" } : MethodName)) ∈ wd_tb := wd_in (wd_c3 (List.mem_of_getElem? (i := 218) rfl)) rfl
theorem tw_940 : (Cond.instanceMethod ({ cls := "DagLedgerModel", name := "commit", desc := "(II)V" } : MethodName)) ∈ wd_tb := wd_in (wd_c3 (List.mem_of_getElem? (i := 220) rfl)) rfl
theorem tw_941 : (Cond.code ({ cls := "DagLedgerModel", name := "commit", desc := "(II)V" } : MethodName) prog_12_method_19_code (6 : Nat) (Option.none : Option FieldType)) ∈ wd_tb := wd_in (wd_c3 (List.mem_of_getElem? (i := 221) rfl)) rfl
theorem tw_942 : (Cond.methodLink "DagLedgerModel" (166 : Nat) ({ cls := "DagLedgerModel", name := "spread", desc := "(III)V" } : MethodName)) ∈ wd_tb := wd_in (wd_c3 (List.mem_of_getElem? (i := 222) rfl)) rfl
theorem tw_944 : (Cond.instanceMethod ({ cls := "DagLedgerModel", name := "spread", desc := "(III)V" } : MethodName)) ∈ wd_tb := wd_in (wd_c3 (List.mem_of_getElem? (i := 224) rfl)) rfl
theorem tw_945 : (Cond.code ({ cls := "DagLedgerModel", name := "spread", desc := "(III)V" } : MethodName) prog_12_method_18_code (6 : Nat) (Option.none : Option FieldType)) ∈ wd_tb := wd_in (wd_c3 (List.mem_of_getElem? (i := 225) rfl)) rfl
theorem tw_946 : (Cond.methodLink "DagLedgerModel" (170 : Nat) ({ cls := "DagLedgerModel", name := "emit", desc := "(II)V" } : MethodName)) ∈ wd_tb := wd_in (wd_c3 (List.mem_of_getElem? (i := 226) rfl)) rfl
theorem tw_948 : (Cond.instanceMethod ({ cls := "DagLedgerModel", name := "emit", desc := "(II)V" } : MethodName)) ∈ wd_tb := wd_in (wd_c3 (List.mem_of_getElem? (i := 228) rfl)) rfl
theorem tw_949 : (Cond.code ({ cls := "DagLedgerModel", name := "emit", desc := "(II)V" } : MethodName) prog_12_method_20_code (6 : Nat) (Option.none : Option FieldType)) ∈ wd_tb := wd_in (wd_c3 (List.mem_of_getElem? (i := 229) rfl)) rfl
theorem tw_950 : (Cond.methodLink "DagLedgerModel" (173 : Nat) ({ cls := "DagLedgerModel", name := "place", desc := "(II)V" } : MethodName)) ∈ wd_tb := wd_in (wd_c3 (List.mem_of_getElem? (i := 230) rfl)) rfl
theorem tw_952 : (Cond.instanceMethod ({ cls := "DagLedgerModel", name := "place", desc := "(II)V" } : MethodName)) ∈ wd_tb := wd_in (wd_c3 (List.mem_of_getElem? (i := 232) rfl)) rfl
theorem tw_953 : (Cond.code ({ cls := "DagLedgerModel", name := "place", desc := "(II)V" } : MethodName) prog_12_method_21_code (5 : Nat) (Option.none : Option FieldType)) ∈ wd_tb := wd_in (wd_c3 (List.mem_of_getElem? (i := 233) rfl)) rfl
theorem tw_954 : (Cond.methodLink "DagLedgerModel" (147 : Nat) ({ cls := "DagLedgerModel", name := "advances", desc := "(I)Z" } : MethodName)) ∈ wd_tb := wd_in (wd_c3 (List.mem_of_getElem? (i := 234) rfl)) rfl
theorem tw_956 : (Cond.instanceMethod ({ cls := "DagLedgerModel", name := "advances", desc := "(I)Z" } : MethodName)) ∈ wd_tb := wd_in (wd_c3 (List.mem_of_getElem? (i := 236) rfl)) rfl
theorem tw_957 : (Cond.code ({ cls := "DagLedgerModel", name := "advances", desc := "(I)Z" } : MethodName) prog_12_method_22_code (4 : Nat) (Option.some FieldType.boolean)) ∈ wd_tb := wd_in (wd_c3 (List.mem_of_getElem? (i := 237) rfl)) rfl
theorem tw_958 : (Cond.methodLink "DagLedgerModel" (150 : Nat) ({ cls := "DagLedgerModel", name := "advance", desc := "(I)V" } : MethodName)) ∈ wd_tb := wd_in (wd_c3 (List.mem_of_getElem? (i := 238) rfl)) rfl
theorem tw_960 : (Cond.instanceMethod ({ cls := "DagLedgerModel", name := "advance", desc := "(I)V" } : MethodName)) ∈ wd_tb := wd_in (wd_c4 (List.mem_of_getElem? (i := 0) rfl)) rfl
theorem tw_961 : (Cond.code ({ cls := "DagLedgerModel", name := "advance", desc := "(I)V" } : MethodName) prog_12_method_24_code (5 : Nat) (Option.none : Option FieldType)) ∈ wd_tb := wd_in (wd_c4 (List.mem_of_getElem? (i := 1) rfl)) rfl
theorem tw_962 : (Cond.methodLink "DagLedgerModel" (179 : Nat) ({ cls := "DagLedgerModel", name := "queued", desc := "(II)I" } : MethodName)) ∈ wd_tb := wd_in (wd_c4 (List.mem_of_getElem? (i := 2) rfl)) rfl
theorem tw_964 : (Cond.instanceMethod ({ cls := "DagLedgerModel", name := "queued", desc := "(II)I" } : MethodName)) ∈ wd_tb := wd_in (wd_c4 (List.mem_of_getElem? (i := 4) rfl)) rfl
theorem tw_965 : (Cond.code ({ cls := "DagLedgerModel", name := "queued", desc := "(II)I" } : MethodName) prog_12_method_23_code (4 : Nat) (Option.some FieldType.int)) ∈ wd_tb := wd_in (wd_c4 (List.mem_of_getElem? (i := 5) rfl)) rfl
theorem tw_966 : (Cond.methodLink "DagLedgerModel" (182 : Nat) ({ cls := "DagLedgerModel", name := "make", desc := "(IIIII)I" } : MethodName)) ∈ wd_tb := wd_in (wd_c4 (List.mem_of_getElem? (i := 6) rfl)) rfl
theorem tw_968 : (Cond.instanceMethod ({ cls := "DagLedgerModel", name := "make", desc := "(IIIII)I" } : MethodName)) ∈ wd_tb := wd_in (wd_c4 (List.mem_of_getElem? (i := 8) rfl)) rfl
theorem tw_969 : (Cond.code ({ cls := "DagLedgerModel", name := "make", desc := "(IIIII)I" } : MethodName) prog_12_method_25_code (6 : Nat) (Option.some FieldType.int)) ∈ wd_tb := wd_in (wd_c4 (List.mem_of_getElem? (i := 9) rfl)) rfl
theorem tw_970 : (Cond.methodLink "DagLedgerLaw" (74 : Nat) ({ cls := "DagLedgerModel", name := "pump", desc := "(II)I" } : MethodName)) ∈ wd_tb := wd_in (wd_c4 (List.mem_of_getElem? (i := 10) rfl)) rfl
theorem tw_971 : (Cond.instanceMethod ({ cls := "DagLedgerModel", name := "pump", desc := "(II)I" } : MethodName)) ∈ wd_tb := wd_in (wd_c4 (List.mem_of_getElem? (i := 11) rfl)) rfl
theorem tw_972 : (Cond.selects "DagLedgerModel" ({ cls := "DagLedgerModel", name := "pump", desc := "(II)I" } : MethodName) ({ cls := "DagLedgerModel", name := "pump", desc := "(II)I" } : MethodName)) ∈ wd_tb := wd_in (wd_c4 (List.mem_of_getElem? (i := 12) rfl)) rfl
theorem tw_973 : (Cond.code ({ cls := "DagLedgerModel", name := "pump", desc := "(II)I" } : MethodName) prog_12_method_31_code (4 : Nat) (Option.some FieldType.int)) ∈ wd_tb := wd_in (wd_c4 (List.mem_of_getElem? (i := 13) rfl)) rfl
theorem tw_974 : (Cond.methodLink "DagLedgerLaw" (78 : Nat) ({ cls := "DagLedgerModel", name := "tick", desc := "(I)Z" } : MethodName)) ∈ wd_tb := wd_in (wd_c4 (List.mem_of_getElem? (i := 14) rfl)) rfl
theorem tw_975 : (Cond.instanceMethod ({ cls := "DagLedgerModel", name := "tick", desc := "(I)Z" } : MethodName)) ∈ wd_tb := wd_in (wd_c4 (List.mem_of_getElem? (i := 15) rfl)) rfl
theorem tw_976 : (Cond.selects "DagLedgerModel" ({ cls := "DagLedgerModel", name := "tick", desc := "(I)Z" } : MethodName) ({ cls := "DagLedgerModel", name := "tick", desc := "(I)Z" } : MethodName)) ∈ wd_tb := wd_in (wd_c4 (List.mem_of_getElem? (i := 16) rfl)) rfl
theorem tw_977 : (Cond.code ({ cls := "DagLedgerModel", name := "tick", desc := "(I)Z" } : MethodName) prog_12_method_32_code (2 : Nat) (Option.some FieldType.boolean)) ∈ wd_tb := wd_in (wd_c4 (List.mem_of_getElem? (i := 17) rfl)) rfl
theorem tw_978 : (Cond.methodLink "DagLedgerLaw" (81 : Nat) ({ cls := "DagLedgerModel", name := "crash", desc := "(I)Z" } : MethodName)) ∈ wd_tb := wd_in (wd_c4 (List.mem_of_getElem? (i := 18) rfl)) rfl
theorem tw_979 : (Cond.instanceMethod ({ cls := "DagLedgerModel", name := "crash", desc := "(I)Z" } : MethodName)) ∈ wd_tb := wd_in (wd_c4 (List.mem_of_getElem? (i := 19) rfl)) rfl
theorem tw_980 : (Cond.selects "DagLedgerModel" ({ cls := "DagLedgerModel", name := "crash", desc := "(I)Z" } : MethodName) ({ cls := "DagLedgerModel", name := "crash", desc := "(I)Z" } : MethodName)) ∈ wd_tb := wd_in (wd_c4 (List.mem_of_getElem? (i := 20) rfl)) rfl
theorem tw_981 : (Cond.code ({ cls := "DagLedgerModel", name := "crash", desc := "(I)Z" } : MethodName) prog_12_method_33_code (2 : Nat) (Option.some FieldType.boolean)) ∈ wd_tb := wd_in (wd_c4 (List.mem_of_getElem? (i := 21) rfl)) rfl
theorem tw_982 : (Cond.methodLink "DagLedgerLaw" (84 : Nat) ({ cls := "DagLedgerModel", name := "restart", desc := "(I)Z" } : MethodName)) ∈ wd_tb := wd_in (wd_c4 (List.mem_of_getElem? (i := 22) rfl)) rfl
theorem tw_983 : (Cond.instanceMethod ({ cls := "DagLedgerModel", name := "restart", desc := "(I)Z" } : MethodName)) ∈ wd_tb := wd_in (wd_c4 (List.mem_of_getElem? (i := 23) rfl)) rfl
theorem tw_984 : (Cond.selects "DagLedgerModel" ({ cls := "DagLedgerModel", name := "restart", desc := "(I)Z" } : MethodName) ({ cls := "DagLedgerModel", name := "restart", desc := "(I)Z" } : MethodName)) ∈ wd_tb := wd_in (wd_c4 (List.mem_of_getElem? (i := 24) rfl)) rfl
theorem tw_985 : (Cond.code ({ cls := "DagLedgerModel", name := "restart", desc := "(I)Z" } : MethodName) prog_12_method_34_code (2 : Nat) (Option.some FieldType.boolean)) ∈ wd_tb := wd_in (wd_c4 (List.mem_of_getElem? (i := 25) rfl)) rfl
theorem tw_986 : (Cond.methodLink "DagLedgerLaw" (87 : Nat) ({ cls := "DagLedgerModel", name := "cut", desc := "(II)Z" } : MethodName)) ∈ wd_tb := wd_in (wd_c4 (List.mem_of_getElem? (i := 26) rfl)) rfl
theorem tw_987 : (Cond.instanceMethod ({ cls := "DagLedgerModel", name := "cut", desc := "(II)Z" } : MethodName)) ∈ wd_tb := wd_in (wd_c4 (List.mem_of_getElem? (i := 27) rfl)) rfl
theorem tw_988 : (Cond.selects "DagLedgerModel" ({ cls := "DagLedgerModel", name := "cut", desc := "(II)Z" } : MethodName) ({ cls := "DagLedgerModel", name := "cut", desc := "(II)Z" } : MethodName)) ∈ wd_tb := wd_in (wd_c4 (List.mem_of_getElem? (i := 28) rfl)) rfl
theorem tw_989 : (Cond.code ({ cls := "DagLedgerModel", name := "cut", desc := "(II)Z" } : MethodName) prog_12_method_35_code (3 : Nat) (Option.some FieldType.boolean)) ∈ wd_tb := wd_in (wd_c4 (List.mem_of_getElem? (i := 29) rfl)) rfl
theorem tw_990 : (Cond.methodLink "DagLedgerLaw" (90 : Nat) ({ cls := "DagLedgerModel", name := "corrupt", desc := "(I)Z" } : MethodName)) ∈ wd_tb := wd_in (wd_c4 (List.mem_of_getElem? (i := 30) rfl)) rfl
theorem tw_991 : (Cond.instanceMethod ({ cls := "DagLedgerModel", name := "corrupt", desc := "(I)Z" } : MethodName)) ∈ wd_tb := wd_in (wd_c4 (List.mem_of_getElem? (i := 31) rfl)) rfl
theorem tw_992 : (Cond.selects "DagLedgerModel" ({ cls := "DagLedgerModel", name := "corrupt", desc := "(I)Z" } : MethodName) ({ cls := "DagLedgerModel", name := "corrupt", desc := "(I)Z" } : MethodName)) ∈ wd_tb := wd_in (wd_c4 (List.mem_of_getElem? (i := 32) rfl)) rfl
theorem tw_993 : (Cond.code ({ cls := "DagLedgerModel", name := "corrupt", desc := "(I)Z" } : MethodName) prog_12_method_37_code (2 : Nat) (Option.some FieldType.boolean)) ∈ wd_tb := wd_in (wd_c4 (List.mem_of_getElem? (i := 33) rfl)) rfl
theorem tw_994 : (Cond.methodLink "DagLedgerModel" (203 : Nat) ({ cls := "DagLedgerModel", name := "faulty", desc := "()I" } : MethodName)) ∈ wd_tb := wd_in (wd_c4 (List.mem_of_getElem? (i := 34) rfl)) rfl
theorem tw_996 : (Cond.instanceMethod ({ cls := "DagLedgerModel", name := "faulty", desc := "()I" } : MethodName)) ∈ wd_tb := wd_in (wd_c4 (List.mem_of_getElem? (i := 36) rfl)) rfl
theorem tw_997 : (Cond.code ({ cls := "DagLedgerModel", name := "faulty", desc := "()I" } : MethodName) prog_12_method_36_code (2 : Nat) (Option.some FieldType.int)) ∈ wd_tb := wd_in (wd_c4 (List.mem_of_getElem? (i := 37) rfl)) rfl
theorem tw_998 : (Cond.methodLink "DagLedgerLaw" (94 : Nat) ({ cls := "DagLedgerModel", name := "forge", desc := "(IIII)I" } : MethodName)) ∈ wd_tb := wd_in (wd_c4 (List.mem_of_getElem? (i := 38) rfl)) rfl
theorem tw_999 : (Cond.instanceMethod ({ cls := "DagLedgerModel", name := "forge", desc := "(IIII)I" } : MethodName)) ∈ wd_tb := wd_in (wd_c4 (List.mem_of_getElem? (i := 39) rfl)) rfl
theorem tw_1000 : (Cond.selects "DagLedgerModel" ({ cls := "DagLedgerModel", name := "forge", desc := "(IIII)I" } : MethodName) ({ cls := "DagLedgerModel", name := "forge", desc := "(IIII)I" } : MethodName)) ∈ wd_tb := wd_in (wd_c4 (List.mem_of_getElem? (i := 40) rfl)) rfl
theorem tw_1001 : (Cond.code ({ cls := "DagLedgerModel", name := "forge", desc := "(IIII)I" } : MethodName) prog_12_method_39_code (6 : Nat) (Option.some FieldType.int)) ∈ wd_tb := wd_in (wd_c4 (List.mem_of_getElem? (i := 41) rfl)) rfl
theorem tw_1002 : (Cond.methodLink "DagLedgerModel" (211 : Nat) ({ cls := "DagLedgerModel", name := "isTransfer", desc := "(I)Z" } : MethodName)) ∈ wd_tb := wd_in (wd_c4 (List.mem_of_getElem? (i := 42) rfl)) rfl
theorem tw_1004 : (Cond.instanceMethod ({ cls := "DagLedgerModel", name := "isTransfer", desc := "(I)Z" } : MethodName)) ∈ wd_tb := wd_in (wd_c4 (List.mem_of_getElem? (i := 44) rfl)) rfl
theorem tw_1005 : (Cond.code ({ cls := "DagLedgerModel", name := "isTransfer", desc := "(I)Z" } : MethodName) prog_12_method_38_code (2 : Nat) (Option.some FieldType.boolean)) ∈ wd_tb := wd_in (wd_c4 (List.mem_of_getElem? (i := 45) rfl)) rfl
theorem tw_1006 : (Cond.methodLink "DagLedgerLaw" (98 : Nat) ({ cls := "DagLedgerModel", name := "send", desc := "(II)I" } : MethodName)) ∈ wd_tb := wd_in (wd_c4 (List.mem_of_getElem? (i := 46) rfl)) rfl
theorem tw_1007 : (Cond.instanceMethod ({ cls := "DagLedgerModel", name := "send", desc := "(II)I" } : MethodName)) ∈ wd_tb := wd_in (wd_c4 (List.mem_of_getElem? (i := 47) rfl)) rfl
theorem tw_1008 : (Cond.selects "DagLedgerModel" ({ cls := "DagLedgerModel", name := "send", desc := "(II)I" } : MethodName) ({ cls := "DagLedgerModel", name := "send", desc := "(II)I" } : MethodName)) ∈ wd_tb := wd_in (wd_c4 (List.mem_of_getElem? (i := 48) rfl)) rfl
theorem tw_1009 : (Cond.code ({ cls := "DagLedgerModel", name := "send", desc := "(II)I" } : MethodName) prog_12_method_40_code (3 : Nat) (Option.some FieldType.int)) ∈ wd_tb := wd_in (wd_c4 (List.mem_of_getElem? (i := 49) rfl)) rfl
theorem tw_1010 : (Cond.methodLink "DagLedgerLaw" (102 : Nat) ({ cls := "DagLedgerModel", name := "message", desc := "(II)I" } : MethodName)) ∈ wd_tb := wd_in (wd_c4 (List.mem_of_getElem? (i := 50) rfl)) rfl
theorem tw_1011 : (Cond.instanceMethod ({ cls := "DagLedgerModel", name := "message", desc := "(II)I" } : MethodName)) ∈ wd_tb := wd_in (wd_c4 (List.mem_of_getElem? (i := 51) rfl)) rfl
theorem tw_1012 : (Cond.selects "DagLedgerModel" ({ cls := "DagLedgerModel", name := "message", desc := "(II)I" } : MethodName) ({ cls := "DagLedgerModel", name := "message", desc := "(II)I" } : MethodName)) ∈ wd_tb := wd_in (wd_c4 (List.mem_of_getElem? (i := 52) rfl)) rfl
theorem tw_1013 : (Cond.code ({ cls := "DagLedgerModel", name := "message", desc := "(II)I" } : MethodName) prog_12_method_41_code (3 : Nat) (Option.some FieldType.int)) ∈ wd_tb := wd_in (wd_c4 (List.mem_of_getElem? (i := 53) rfl)) rfl
theorem tw_1014 : (Cond.methodLink "DagLedgerLaw" (106 : Nat) ({ cls := "DagLedgerModel", name := "vertex", desc := "(II)I" } : MethodName)) ∈ wd_tb := wd_in (wd_c4 (List.mem_of_getElem? (i := 54) rfl)) rfl
theorem tw_1015 : (Cond.instanceMethod ({ cls := "DagLedgerModel", name := "vertex", desc := "(II)I" } : MethodName)) ∈ wd_tb := wd_in (wd_c4 (List.mem_of_getElem? (i := 55) rfl)) rfl
theorem tw_1016 : (Cond.selects "DagLedgerModel" ({ cls := "DagLedgerModel", name := "vertex", desc := "(II)I" } : MethodName) ({ cls := "DagLedgerModel", name := "vertex", desc := "(II)I" } : MethodName)) ∈ wd_tb := wd_in (wd_c4 (List.mem_of_getElem? (i := 56) rfl)) rfl
theorem tw_1017 : (Cond.code ({ cls := "DagLedgerModel", name := "vertex", desc := "(II)I" } : MethodName) prog_12_method_42_code (3 : Nat) (Option.some FieldType.int)) ∈ wd_tb := wd_in (wd_c4 (List.mem_of_getElem? (i := 57) rfl)) rfl
theorem tw_1018 : (Cond.methodLink "DagLedgerLaw" (109 : Nat) ({ cls := "DagLedgerModel", name := "node", desc := "(II)I" } : MethodName)) ∈ wd_tb := wd_in (wd_c4 (List.mem_of_getElem? (i := 58) rfl)) rfl
theorem tw_1019 : (Cond.instanceMethod ({ cls := "DagLedgerModel", name := "node", desc := "(II)I" } : MethodName)) ∈ wd_tb := wd_in (wd_c4 (List.mem_of_getElem? (i := 59) rfl)) rfl
theorem tw_1020 : (Cond.selects "DagLedgerModel" ({ cls := "DagLedgerModel", name := "node", desc := "(II)I" } : MethodName) ({ cls := "DagLedgerModel", name := "node", desc := "(II)I" } : MethodName)) ∈ wd_tb := wd_in (wd_c4 (List.mem_of_getElem? (i := 60) rfl)) rfl
theorem tw_1021 : (Cond.code ({ cls := "DagLedgerModel", name := "node", desc := "(II)I" } : MethodName) prog_12_method_43_code (5 : Nat) (Option.some FieldType.int)) ∈ wd_tb := wd_in (wd_c4 (List.mem_of_getElem? (i := 61) rfl)) rfl
theorem tw_1022 : (Cond.methodLink "DagLedgerLaw" (113 : Nat) ({ cls := "DagLedgerModel", name := "dag", desc := "(III)I" } : MethodName)) ∈ wd_tb := wd_in (wd_c4 (List.mem_of_getElem? (i := 62) rfl)) rfl
theorem tw_1023 : (Cond.instanceMethod ({ cls := "DagLedgerModel", name := "dag", desc := "(III)I" } : MethodName)) ∈ wd_tb := wd_in (wd_c4 (List.mem_of_getElem? (i := 63) rfl)) rfl
theorem tw_1024 : (Cond.selects "DagLedgerModel" ({ cls := "DagLedgerModel", name := "dag", desc := "(III)I" } : MethodName) ({ cls := "DagLedgerModel", name := "dag", desc := "(III)I" } : MethodName)) ∈ wd_tb := wd_in (wd_c4 (List.mem_of_getElem? (i := 64) rfl)) rfl
theorem tw_1025 : (Cond.code ({ cls := "DagLedgerModel", name := "dag", desc := "(III)I" } : MethodName) prog_12_method_44_code (4 : Nat) (Option.some FieldType.int)) ∈ wd_tb := wd_in (wd_c4 (List.mem_of_getElem? (i := 65) rfl)) rfl
theorem tw_1026 : (Cond.methodLink "DagLedgerLaw" (116 : Nat) ({ cls := "DagLedgerModel", name := "at", desc := "(II)I" } : MethodName)) ∈ wd_tb := wd_in (wd_c4 (List.mem_of_getElem? (i := 66) rfl)) rfl
theorem tw_1027 : (Cond.instanceMethod ({ cls := "DagLedgerModel", name := "at", desc := "(II)I" } : MethodName)) ∈ wd_tb := wd_in (wd_c4 (List.mem_of_getElem? (i := 67) rfl)) rfl
theorem tw_1028 : (Cond.selects "DagLedgerModel" ({ cls := "DagLedgerModel", name := "at", desc := "(II)I" } : MethodName) ({ cls := "DagLedgerModel", name := "at", desc := "(II)I" } : MethodName)) ∈ wd_tb := wd_in (wd_c4 (List.mem_of_getElem? (i := 68) rfl)) rfl
theorem tw_1029 : (Cond.code ({ cls := "DagLedgerModel", name := "at", desc := "(II)I" } : MethodName) prog_12_method_45_code (3 : Nat) (Option.some FieldType.int)) ∈ wd_tb := wd_in (wd_c4 (List.mem_of_getElem? (i := 69) rfl)) rfl
theorem tw_1030 : (Cond.methodLink "DagLedgerLaw" (119 : Nat) ({ cls := "DagLedgerModel", name := "balance", desc := "(II)I" } : MethodName)) ∈ wd_tb := wd_in (wd_c4 (List.mem_of_getElem? (i := 70) rfl)) rfl
theorem tw_1031 : (Cond.instanceMethod ({ cls := "DagLedgerModel", name := "balance", desc := "(II)I" } : MethodName)) ∈ wd_tb := wd_in (wd_c4 (List.mem_of_getElem? (i := 71) rfl)) rfl
theorem tw_1032 : (Cond.selects "DagLedgerModel" ({ cls := "DagLedgerModel", name := "balance", desc := "(II)I" } : MethodName) ({ cls := "DagLedgerModel", name := "balance", desc := "(II)I" } : MethodName)) ∈ wd_tb := wd_in (wd_c4 (List.mem_of_getElem? (i := 72) rfl)) rfl
theorem tw_1033 : (Cond.code ({ cls := "DagLedgerModel", name := "balance", desc := "(II)I" } : MethodName) prog_12_method_46_code (3 : Nat) (Option.some FieldType.int)) ∈ wd_tb := wd_in (wd_c4 (List.mem_of_getElem? (i := 73) rfl)) rfl
theorem ts_0 : Cond.selects "DagLedger" ⟨"DagLedger", "isTransferOrNone", "(I)Z"⟩ ⟨"DagLedger", "isTransferOrNone", "(I)Z"⟩ ∈ wd_tb := wd_se (List.mem_of_getElem? (i := 0) rfl) rfl
theorem ts_1 : Cond.selects "DagLedger" ⟨"DagLedger", "upReplica", "(I)LDagLedger$Replica;"⟩ ⟨"DagLedger", "upReplica", "(I)LDagLedger$Replica;"⟩ ∈ wd_tb := wd_se (List.mem_of_getElem? (i := 1) rfl) rfl
theorem ts_2 : Cond.selects "DagLedger" ⟨"DagLedger", "replicaOf", "(I)LDagLedger$Replica;"⟩ ⟨"DagLedger", "replicaOf", "(I)LDagLedger$Replica;"⟩ ∈ wd_tb := wd_se (List.mem_of_getElem? (i := 2) rfl) rfl
theorem ts_4 : Cond.selects "DagLedger$Replica" ⟨"DagLedger$Replica", "takeSend", "(II)V"⟩ ⟨"DagLedger$Replica", "takeSend", "(II)V"⟩ ∈ wd_tb := wd_se (List.mem_of_getElem? (i := 4) rfl) rfl
theorem ts_5 : Cond.selects "DagLedger$Replica" ⟨"DagLedger$Replica", "takeEcho", "(II)V"⟩ ⟨"DagLedger$Replica", "takeEcho", "(II)V"⟩ ∈ wd_tb := wd_se (List.mem_of_getElem? (i := 5) rfl) rfl
theorem ts_6 : Cond.selects "DagLedger$Replica" ⟨"DagLedger$Replica", "becomeReady", "(I)V"⟩ ⟨"DagLedger$Replica", "becomeReady", "(I)V"⟩ ∈ wd_tb := wd_se (List.mem_of_getElem? (i := 6) rfl) rfl
theorem ts_7 : Cond.selects "DagLedger$Replica" ⟨"DagLedger$Replica", "takeReady", "(II)V"⟩ ⟨"DagLedger$Replica", "takeReady", "(II)V"⟩ ∈ wd_tb := wd_se (List.mem_of_getElem? (i := 7) rfl) rfl
theorem ts_8 : Cond.selects "DagLedger$Replica" ⟨"DagLedger$Replica", "insertNext", "()Z"⟩ ⟨"DagLedger$Replica", "insertNext", "()Z"⟩ ∈ wd_tb := wd_se (List.mem_of_getElem? (i := 8) rfl) rfl
theorem ts_9 : Cond.selects "DagLedger$Commits" ⟨"DagLedger$Commits", "nextRound", "()I"⟩ ⟨"DagLedger$Commits", "nextRound", "()I"⟩ ∈ wd_tb := wd_se (List.mem_of_getElem? (i := 9) rfl) rfl
theorem ts_10 : Cond.selects "DagLedger$Commits" ⟨"DagLedger$Commits", "leadersUnder", "(I)I"⟩ ⟨"DagLedger$Commits", "leadersUnder", "(I)I"⟩ ∈ wd_tb := wd_se (List.mem_of_getElem? (i := 10) rfl) rfl
theorem ts_11 : Cond.selects "DagLedger$Commits" ⟨"DagLedger$Commits", "emit", "(II)V"⟩ ⟨"DagLedger$Commits", "emit", "(II)V"⟩ ∈ wd_tb := wd_se (List.mem_of_getElem? (i := 11) rfl) rfl
theorem ts_12 : Cond.selects "DagLedger$Commits" ⟨"DagLedger$Commits", "emitRound", "(II)V"⟩ ⟨"DagLedger$Commits", "emitRound", "(II)V"⟩ ∈ wd_tb := wd_se (List.mem_of_getElem? (i := 12) rfl) rfl
theorem ts_13 : Cond.selects "DagLedger$Replica" ⟨"DagLedger$Replica", "advance", "()Z"⟩ ⟨"DagLedger$Replica", "advance", "()Z"⟩ ∈ wd_tb := wd_se (List.mem_of_getElem? (i := 13) rfl) rfl
theorem ts_14 : Cond.selects "DagLedger$Replica" ⟨"DagLedger$Replica", "mayAdvance", "()Z"⟩ ⟨"DagLedger$Replica", "mayAdvance", "()Z"⟩ ∈ wd_tb := wd_se (List.mem_of_getElem? (i := 14) rfl) rfl
theorem ts_15 : Cond.selects "DagLedgerModel" ⟨"DagLedgerModel", "fresh", "(I)V"⟩ ⟨"DagLedgerModel", "fresh", "(I)V"⟩ ∈ wd_tb := wd_se (List.mem_of_getElem? (i := 15) rfl) rfl
theorem ts_16 : Cond.selects "DagLedgerModel" ⟨"DagLedgerModel", "isNode", "(I)Z"⟩ ⟨"DagLedgerModel", "isNode", "(I)Z"⟩ ∈ wd_tb := wd_se (List.mem_of_getElem? (i := 16) rfl) rfl
theorem ts_17 : Cond.selects "DagLedgerModel" ⟨"DagLedgerModel", "record", "(I)Z"⟩ ⟨"DagLedgerModel", "record", "(I)Z"⟩ ∈ wd_tb := wd_se (List.mem_of_getElem? (i := 17) rfl) rfl
theorem ts_18 : Cond.selects "DagLedgerModel" ⟨"DagLedgerModel", "fall", "(I)V"⟩ ⟨"DagLedgerModel", "fall", "(I)V"⟩ ∈ wd_tb := wd_se (List.mem_of_getElem? (i := 18) rfl) rfl
theorem ts_19 : Cond.selects "DagLedgerModel" ⟨"DagLedgerModel", "works", "(I)Z"⟩ ⟨"DagLedgerModel", "works", "(I)Z"⟩ ∈ wd_tb := wd_se (List.mem_of_getElem? (i := 19) rfl) rfl
theorem ts_20 : Cond.selects "DagLedgerModel" ⟨"DagLedgerModel", "full", "()Z"⟩ ⟨"DagLedgerModel", "full", "()Z"⟩ ∈ wd_tb := wd_se (List.mem_of_getElem? (i := 20) rfl) rfl
theorem ts_21 : Cond.selects "DagLedgerModel" ⟨"DagLedgerModel", "take", "(II)V"⟩ ⟨"DagLedgerModel", "take", "(II)V"⟩ ∈ wd_tb := wd_se (List.mem_of_getElem? (i := 21) rfl) rfl
theorem ts_22 : Cond.selects "DagLedgerModel" ⟨"DagLedgerModel", "formed", "(I)Z"⟩ ⟨"DagLedgerModel", "formed", "(I)Z"⟩ ∈ wd_tb := wd_se (List.mem_of_getElem? (i := 22) rfl) rfl
theorem ts_23 : Cond.selects "DagLedgerModel" ⟨"DagLedgerModel", "spot", "(II)I"⟩ ⟨"DagLedgerModel", "spot", "(II)I"⟩ ∈ wd_tb := wd_se (List.mem_of_getElem? (i := 23) rfl) rfl
theorem ts_24 : Cond.selects "DagLedgerModel" ⟨"DagLedgerModel", "say", "(III)I"⟩ ⟨"DagLedgerModel", "say", "(III)I"⟩ ∈ wd_tb := wd_se (List.mem_of_getElem? (i := 24) rfl) rfl
theorem ts_25 : Cond.selects "DagLedgerModel" ⟨"DagLedgerModel", "act", "(I)V"⟩ ⟨"DagLedgerModel", "act", "(I)V"⟩ ∈ wd_tb := wd_se (List.mem_of_getElem? (i := 25) rfl) rfl
theorem ts_26 : Cond.selects "DagLedgerModel" ⟨"DagLedgerModel", "insertable", "(I)I"⟩ ⟨"DagLedgerModel", "insertable", "(I)I"⟩ ∈ wd_tb := wd_se (List.mem_of_getElem? (i := 26) rfl) rfl
theorem ts_27 : Cond.selects "DagLedgerModel" ⟨"DagLedgerModel", "there", "(II)I"⟩ ⟨"DagLedgerModel", "there", "(II)I"⟩ ∈ wd_tb := wd_se (List.mem_of_getElem? (i := 27) rfl) rfl
theorem ts_28 : Cond.selects "DagLedgerModel" ⟨"DagLedgerModel", "committable", "(I)I"⟩ ⟨"DagLedgerModel", "committable", "(I)I"⟩ ∈ wd_tb := wd_se (List.mem_of_getElem? (i := 28) rfl) rfl
theorem ts_29 : Cond.selects "DagLedgerModel" ⟨"DagLedgerModel", "hasLeader", "(II)Z"⟩ ⟨"DagLedgerModel", "hasLeader", "(II)Z"⟩ ∈ wd_tb := wd_se (List.mem_of_getElem? (i := 29) rfl) rfl
theorem ts_30 : Cond.selects "DagLedgerModel" ⟨"DagLedgerModel", "commit", "(II)V"⟩ ⟨"DagLedgerModel", "commit", "(II)V"⟩ ∈ wd_tb := wd_se (List.mem_of_getElem? (i := 30) rfl) rfl
theorem ts_31 : Cond.selects "DagLedgerModel" ⟨"DagLedgerModel", "spread", "(III)V"⟩ ⟨"DagLedgerModel", "spread", "(III)V"⟩ ∈ wd_tb := wd_se (List.mem_of_getElem? (i := 31) rfl) rfl
theorem ts_32 : Cond.selects "DagLedgerModel" ⟨"DagLedgerModel", "emit", "(II)V"⟩ ⟨"DagLedgerModel", "emit", "(II)V"⟩ ∈ wd_tb := wd_se (List.mem_of_getElem? (i := 32) rfl) rfl
theorem ts_33 : Cond.selects "DagLedgerModel" ⟨"DagLedgerModel", "place", "(II)V"⟩ ⟨"DagLedgerModel", "place", "(II)V"⟩ ∈ wd_tb := wd_se (List.mem_of_getElem? (i := 33) rfl) rfl
theorem ts_34 : Cond.selects "DagLedgerModel" ⟨"DagLedgerModel", "advances", "(I)Z"⟩ ⟨"DagLedgerModel", "advances", "(I)Z"⟩ ∈ wd_tb := wd_se (List.mem_of_getElem? (i := 34) rfl) rfl
theorem ts_35 : Cond.selects "DagLedgerModel" ⟨"DagLedgerModel", "advance", "(I)V"⟩ ⟨"DagLedgerModel", "advance", "(I)V"⟩ ∈ wd_tb := wd_se (List.mem_of_getElem? (i := 35) rfl) rfl
theorem ts_36 : Cond.selects "DagLedgerModel" ⟨"DagLedgerModel", "queued", "(II)I"⟩ ⟨"DagLedgerModel", "queued", "(II)I"⟩ ∈ wd_tb := wd_se (List.mem_of_getElem? (i := 36) rfl) rfl
theorem ts_37 : Cond.selects "DagLedgerModel" ⟨"DagLedgerModel", "make", "(IIIII)I"⟩ ⟨"DagLedgerModel", "make", "(IIIII)I"⟩ ∈ wd_tb := wd_se (List.mem_of_getElem? (i := 37) rfl) rfl
theorem ts_38 : Cond.selects "DagLedgerModel" ⟨"DagLedgerModel", "faulty", "()I"⟩ ⟨"DagLedgerModel", "faulty", "()I"⟩ ∈ wd_tb := wd_se (List.mem_of_getElem? (i := 38) rfl) rfl
theorem ts_39 : Cond.selects "DagLedgerModel" ⟨"DagLedgerModel", "isTransfer", "(I)Z"⟩ ⟨"DagLedgerModel", "isTransfer", "(I)Z"⟩ ∈ wd_tb := wd_se (List.mem_of_getElem? (i := 39) rfl) rfl
theorem wc_0 : wd_cls 0 "DagLedger" tt_Le 5 ty_Le := ⟨rfl, List.forall_mem_cons.mpr ⟨tw_300, List.forall_mem_cons.mpr ⟨tw_302, List.forall_mem_cons.mpr ⟨tw_304, List.forall_mem_cons.mpr ⟨tw_306, List.forall_mem_cons.mpr ⟨tw_308, fun _ h => absurd h List.not_mem_nil⟩⟩⟩⟩⟩, ty_Le_ok, nm_Le⟩
theorem wc_1 : wd_cls 1 "DagLedger$Transfers" tt_Tr 4 ty_Tr := ⟨rfl, List.forall_mem_cons.mpr ⟨tw_41, List.forall_mem_cons.mpr ⟨tw_43, List.forall_mem_cons.mpr ⟨tw_45, List.forall_mem_cons.mpr ⟨tw_47, fun _ h => absurd h List.not_mem_nil⟩⟩⟩⟩, ty_Tr_ok, nm_Tr⟩
theorem wc_5 : wd_cls 2 "DagLedger$Vertices" tt_Ve 6 ty_Ve := ⟨rfl, List.forall_mem_cons.mpr ⟨tw_75, List.forall_mem_cons.mpr ⟨tw_77, List.forall_mem_cons.mpr ⟨tw_79, List.forall_mem_cons.mpr ⟨tw_81, List.forall_mem_cons.mpr ⟨tw_83, List.forall_mem_cons.mpr ⟨tw_85, fun _ h => absurd h List.not_mem_nil⟩⟩⟩⟩⟩⟩, ty_Ve_ok, nm_Ve⟩
theorem wc_11 : wd_cls 3 "DagLedger$Board" tt_Bo 4 ty_Bo := ⟨rfl, List.forall_mem_cons.mpr ⟨tw_104, List.forall_mem_cons.mpr ⟨tw_106, List.forall_mem_cons.mpr ⟨tw_108, List.forall_mem_cons.mpr ⟨tw_110, fun _ h => absurd h List.not_mem_nil⟩⟩⟩⟩, ty_Bo_ok, nm_Bo⟩
theorem wc_16 : wd_cls 4 "DagLedger$Replica" tt_Re 13 ty_Re := ⟨rfl, List.forall_mem_cons.mpr ⟨tw_268, List.forall_mem_cons.mpr ⟨tw_270, List.forall_mem_cons.mpr ⟨tw_272, List.forall_mem_cons.mpr ⟨tw_274, List.forall_mem_cons.mpr ⟨tw_276, List.forall_mem_cons.mpr ⟨tw_278, List.forall_mem_cons.mpr ⟨tw_280, List.forall_mem_cons.mpr ⟨tw_282, List.forall_mem_cons.mpr ⟨tw_284, List.forall_mem_cons.mpr ⟨tw_286, List.forall_mem_cons.mpr ⟨tw_288, List.forall_mem_cons.mpr ⟨tw_290, List.forall_mem_cons.mpr ⟨tw_292, fun _ h => absurd h List.not_mem_nil⟩⟩⟩⟩⟩⟩⟩⟩⟩⟩⟩⟩⟩, ty_Re_ok, nm_Re⟩
theorem wc_17 : wd_cls 5 "DagLedger$Disk" tt_Di 7 ty_Di := ⟨rfl, List.forall_mem_cons.mpr ⟨tw_137, List.forall_mem_cons.mpr ⟨tw_139, List.forall_mem_cons.mpr ⟨tw_141, List.forall_mem_cons.mpr ⟨tw_143, List.forall_mem_cons.mpr ⟨tw_145, List.forall_mem_cons.mpr ⟨tw_147, List.forall_mem_cons.mpr ⟨tw_149, fun _ h => absurd h List.not_mem_nil⟩⟩⟩⟩⟩⟩⟩, ty_Di_ok, nm_Di⟩
theorem wc_21 : wd_cls 6 "DagLedger$Notes" tt_No 4 ty_No := ⟨rfl, List.forall_mem_cons.mpr ⟨tw_164, List.forall_mem_cons.mpr ⟨tw_166, List.forall_mem_cons.mpr ⟨tw_168, List.forall_mem_cons.mpr ⟨tw_170, fun _ h => absurd h List.not_mem_nil⟩⟩⟩⟩, ty_No_ok, nm_No⟩
theorem wc_25 : wd_cls 7 "DagLedger$Dag" tt_Dg 4 ty_Dg := ⟨rfl, List.forall_mem_cons.mpr ⟨tw_187, List.forall_mem_cons.mpr ⟨tw_189, List.forall_mem_cons.mpr ⟨tw_191, List.forall_mem_cons.mpr ⟨tw_193, fun _ h => absurd h List.not_mem_nil⟩⟩⟩⟩, ty_Dg_ok, nm_Dg⟩
theorem wc_28 : wd_cls 8 "DagLedger$Book" tt_Bk 5 ty_Bk := ⟨rfl, List.forall_mem_cons.mpr ⟨tw_211, List.forall_mem_cons.mpr ⟨tw_213, List.forall_mem_cons.mpr ⟨tw_215, List.forall_mem_cons.mpr ⟨tw_217, List.forall_mem_cons.mpr ⟨tw_219, fun _ h => absurd h List.not_mem_nil⟩⟩⟩⟩⟩, ty_Bk_ok, nm_Bk⟩
theorem wc_31 : wd_cls 9 "DagLedger$Commits" tt_Co 6 ty_Co := ⟨rfl, List.forall_mem_cons.mpr ⟨tw_235, List.forall_mem_cons.mpr ⟨tw_237, List.forall_mem_cons.mpr ⟨tw_239, List.forall_mem_cons.mpr ⟨tw_241, List.forall_mem_cons.mpr ⟨tw_243, List.forall_mem_cons.mpr ⟨tw_245, fun _ h => absurd h List.not_mem_nil⟩⟩⟩⟩⟩⟩, ty_Co_ok, nm_Co⟩
theorem wc_34 : wd_cls 10 "DagLedgerModel" tt_Mo 35 ty_Mo := ⟨rfl, List.forall_mem_cons.mpr ⟨tw_789, List.forall_mem_cons.mpr ⟨tw_791, List.forall_mem_cons.mpr ⟨tw_793, List.forall_mem_cons.mpr ⟨tw_795, List.forall_mem_cons.mpr ⟨tw_797, List.forall_mem_cons.mpr ⟨tw_799, List.forall_mem_cons.mpr ⟨tw_801, List.forall_mem_cons.mpr ⟨tw_803, List.forall_mem_cons.mpr ⟨tw_805, List.forall_mem_cons.mpr ⟨tw_807, List.forall_mem_cons.mpr ⟨tw_809, List.forall_mem_cons.mpr ⟨tw_811, List.forall_mem_cons.mpr ⟨tw_813, List.forall_mem_cons.mpr ⟨tw_815, List.forall_mem_cons.mpr ⟨tw_817, List.forall_mem_cons.mpr ⟨tw_819, List.forall_mem_cons.mpr ⟨tw_821, List.forall_mem_cons.mpr ⟨tw_823, List.forall_mem_cons.mpr ⟨tw_825, List.forall_mem_cons.mpr ⟨tw_827, List.forall_mem_cons.mpr ⟨tw_829, List.forall_mem_cons.mpr ⟨tw_831, List.forall_mem_cons.mpr ⟨tw_833, List.forall_mem_cons.mpr ⟨tw_835, List.forall_mem_cons.mpr ⟨tw_837, List.forall_mem_cons.mpr ⟨tw_839, List.forall_mem_cons.mpr ⟨tw_841, List.forall_mem_cons.mpr ⟨tw_843, List.forall_mem_cons.mpr ⟨tw_845, List.forall_mem_cons.mpr ⟨tw_847, List.forall_mem_cons.mpr ⟨tw_849, List.forall_mem_cons.mpr ⟨tw_851, List.forall_mem_cons.mpr ⟨tw_853, List.forall_mem_cons.mpr ⟨tw_855, List.forall_mem_cons.mpr ⟨tw_857, fun _ h => absurd h List.not_mem_nil⟩⟩⟩⟩⟩⟩⟩⟩⟩⟩⟩⟩⟩⟩⟩⟩⟩⟩⟩⟩⟩⟩⟩⟩⟩⟩⟩⟩⟩⟩⟩⟩⟩⟩⟩, ty_Mo_ok, nm_Mo⟩
theorem is_0 : wd_is wd_all 0 (4, 0, [(2, 1), (2, 5), (2, 11), (2, 15), (0, 0)]) := ⟨by decide +kernel, rfl⟩
theorem is_1 : wd_is wd_all 4 (4, 1, [(2, 2), (2, 3), (2, 4), (0, 0)]) := ⟨by decide +kernel, rfl⟩
theorem is_2 : wd_is wd_all 8 (0, 40, []) := ⟨by decide +kernel, rfl⟩
theorem is_3 : wd_is wd_all 12 (0, 40, []) := ⟨by decide +kernel, rfl⟩
theorem is_4 : wd_is wd_all 16 (0, 40, []) := ⟨by decide +kernel, rfl⟩
theorem is_5 : wd_is wd_all 20 (4, 2, [(2, 6), (2, 7), (2, 8), (2, 9), (2, 10), (0, 0)]) := ⟨by decide +kernel, rfl⟩
theorem is_6 : wd_is wd_all 24 (0, 90, []) := ⟨by decide +kernel, rfl⟩
theorem is_7 : wd_is wd_all 28 (0, 90, []) := ⟨by decide +kernel, rfl⟩
theorem is_8 : wd_is wd_all 32 (0, 90, []) := ⟨by decide +kernel, rfl⟩
theorem is_9 : wd_is wd_all 36 (0, 90, []) := ⟨by decide +kernel, rfl⟩
theorem is_10 : wd_is wd_all 40 (0, 90, []) := ⟨by decide +kernel, rfl⟩
theorem is_11 : wd_is wd_all 44 (4, 3, [(2, 12), (2, 13), (2, 14), (0, 0)]) := ⟨by decide +kernel, rfl⟩
theorem is_12 : wd_is wd_all 48 (0, 802, []) := ⟨by decide +kernel, rfl⟩
theorem is_13 : wd_is wd_all 52 (0, 802, []) := ⟨by decide +kernel, rfl⟩
theorem is_14 : wd_is wd_all 56 (0, 802, []) := ⟨by decide +kernel, rfl⟩
theorem is_15 : wd_is wd_all 60 (3, 4, [(0, 16)]) := ⟨by decide +kernel, rfl⟩
theorem is_16 {r : Nat} (hr : r < 4) : wd_is wd_all (64 + r) (4, 4, [(0, 0), (2, 11), (2, 5), (3, 17), (3, 21), (3, 25), (3, 28), (3, 31), (0, 0), (0, 0), (0, 0), (0, 0), (0, 0)]) := by
  rcases (show r = 0 ∨ r = 1 ∨ r = 2 ∨ r = 3 by omega) with rfl | rfl | rfl | rfl <;> exact ⟨by decide +kernel, rfl⟩
theorem is_17 {r : Nat} (hr : r < 4) : wd_is wd_all (68 + r) (4, 5, [(3, 18), (0, 0), (0, 0), (3, 19), (3, 20), (0, 0), (0, 0)]) := by
  rcases (show r = 0 ∨ r = 1 ∨ r = 2 ∨ r = 3 by omega) with rfl | rfl | rfl | rfl <;> exact ⟨by decide +kernel, rfl⟩
theorem is_18 {r : Nat} (hr : r < 4) : wd_is wd_all (72 + r) (0, 40, []) := by
  rcases (show r = 0 ∨ r = 1 ∨ r = 2 ∨ r = 3 by omega) with rfl | rfl | rfl | rfl <;> exact ⟨by decide +kernel, rfl⟩
theorem is_19 {r : Nat} (hr : r < 4) : wd_is wd_all (76 + r) (0, 4, []) := by
  rcases (show r = 0 ∨ r = 1 ∨ r = 2 ∨ r = 3 by omega) with rfl | rfl | rfl | rfl <;> exact ⟨by decide +kernel, rfl⟩
theorem is_20 {r : Nat} (hr : r < 4) : wd_is wd_all (80 + r) (0, 4, []) := by
  rcases (show r = 0 ∨ r = 1 ∨ r = 2 ∨ r = 3 by omega) with rfl | rfl | rfl | rfl <;> exact ⟨by decide +kernel, rfl⟩
theorem is_21 {r : Nat} (hr : r < 4) : wd_is wd_all (84 + r) (4, 6, [(3, 22), (3, 23), (3, 24), (0, 0)]) := by
  rcases (show r = 0 ∨ r = 1 ∨ r = 2 ∨ r = 3 by omega) with rfl | rfl | rfl | rfl <;> exact ⟨by decide +kernel, rfl⟩
theorem is_22 {r : Nat} (hr : r < 4) : wd_is wd_all (88 + r) (0, 90, []) := by
  rcases (show r = 0 ∨ r = 1 ∨ r = 2 ∨ r = 3 by omega) with rfl | rfl | rfl | rfl <;> exact ⟨by decide +kernel, rfl⟩
theorem is_23 {r : Nat} (hr : r < 4) : wd_is wd_all (92 + r) (0, 90, []) := by
  rcases (show r = 0 ∨ r = 1 ∨ r = 2 ∨ r = 3 by omega) with rfl | rfl | rfl | rfl <;> exact ⟨by decide +kernel, rfl⟩
theorem is_24 {r : Nat} (hr : r < 4) : wd_is wd_all (96 + r) (0, 90, []) := by
  rcases (show r = 0 ∨ r = 1 ∨ r = 2 ∨ r = 3 by omega) with rfl | rfl | rfl | rfl <;> exact ⟨by decide +kernel, rfl⟩
theorem is_25 {r : Nat} (hr : r < 4) : wd_is wd_all (100 + r) (4, 7, [(2, 5), (3, 26), (3, 27), (0, 0)]) := by
  rcases (show r = 0 ∨ r = 1 ∨ r = 2 ∨ r = 3 by omega) with rfl | rfl | rfl | rfl <;> exact ⟨by decide +kernel, rfl⟩
theorem is_26 {r : Nat} (hr : r < 4) : wd_is wd_all (104 + r) (0, 64, []) := by
  rcases (show r = 0 ∨ r = 1 ∨ r = 2 ∨ r = 3 by omega) with rfl | rfl | rfl | rfl <;> exact ⟨by decide +kernel, rfl⟩
theorem is_27 {r : Nat} (hr : r < 4) : wd_is wd_all (108 + r) (0, 16, []) := by
  rcases (show r = 0 ∨ r = 1 ∨ r = 2 ∨ r = 3 by omega) with rfl | rfl | rfl | rfl <;> exact ⟨by decide +kernel, rfl⟩
theorem is_28 {r : Nat} (hr : r < 4) : wd_is wd_all (112 + r) (4, 8, [(2, 1), (3, 29), (0, 0), (1, 0), (3, 30)]) := by
  rcases (show r = 0 ∨ r = 1 ∨ r = 2 ∨ r = 3 by omega) with rfl | rfl | rfl | rfl <;> exact ⟨by decide +kernel, rfl⟩
theorem is_29 {r : Nat} (hr : r < 4) : wd_is wd_all (116 + r) (0, 40, []) := by
  rcases (show r = 0 ∨ r = 1 ∨ r = 2 ∨ r = 3 by omega) with rfl | rfl | rfl | rfl <;> exact ⟨by decide +kernel, rfl⟩
theorem is_30 {r : Nat} (hr : r < 4) : wd_is wd_all (120 + r) (0, 4, []) := by
  rcases (show r = 0 ∨ r = 1 ∨ r = 2 ∨ r = 3 by omega) with rfl | rfl | rfl | rfl <;> exact ⟨by decide +kernel, rfl⟩
theorem is_31 {r : Nat} (hr : r < 4) : wd_is wd_all (124 + r) (4, 9, [(2, 5), (3, 25), (3, 28), (3, 32), (3, 33), (0, 0)]) := by
  rcases (show r = 0 ∨ r = 1 ∨ r = 2 ∨ r = 3 by omega) with rfl | rfl | rfl | rfl <;> exact ⟨by decide +kernel, rfl⟩
theorem is_32 {r : Nat} (hr : r < 4) : wd_is wd_all (128 + r) (0, 15, []) := by
  rcases (show r = 0 ∨ r = 1 ∨ r = 2 ∨ r = 3 by omega) with rfl | rfl | rfl | rfl <;> exact ⟨by decide +kernel, rfl⟩
theorem is_33 {r : Nat} (hr : r < 4) : wd_is wd_all (132 + r) (0, 15, []) := by
  rcases (show r = 0 ∨ r = 1 ∨ r = 2 ∨ r = 3 by omega) with rfl | rfl | rfl | rfl <;> exact ⟨by decide +kernel, rfl⟩
theorem is_34 : wd_is wd_all 136 (4, 10, [(0, 0), (0, 0), (2, 35), (2, 36), (2, 37), (2, 38), (2, 39), (0, 0), (2, 40), (2, 41), (2, 42), (2, 43), (2, 44), (0, 0), (2, 45), (2, 46), (2, 47), (2, 48), (2, 49), (2, 50), (2, 51), (2, 52), (2, 53), (2, 54), (2, 55), (2, 56), (2, 57), (2, 58), (2, 59), (2, 60), (2, 61), (2, 62), (2, 63), (2, 64), (0, 0)]) := ⟨by decide +kernel, rfl⟩
theorem is_35 : wd_is wd_all 140 (0, 40, []) := ⟨by decide +kernel, rfl⟩
theorem is_36 : wd_is wd_all 144 (0, 40, []) := ⟨by decide +kernel, rfl⟩
theorem is_37 : wd_is wd_all 148 (0, 40, []) := ⟨by decide +kernel, rfl⟩
theorem is_38 : wd_is wd_all 152 (0, 40, []) := ⟨by decide +kernel, rfl⟩
theorem is_39 : wd_is wd_all 156 (1, 40, []) := ⟨by decide +kernel, rfl⟩
theorem is_40 : wd_is wd_all 160 (0, 90, []) := ⟨by decide +kernel, rfl⟩
theorem is_41 : wd_is wd_all 164 (0, 90, []) := ⟨by decide +kernel, rfl⟩
theorem is_42 : wd_is wd_all 168 (0, 90, []) := ⟨by decide +kernel, rfl⟩
theorem is_43 : wd_is wd_all 172 (0, 90, []) := ⟨by decide +kernel, rfl⟩
theorem is_44 : wd_is wd_all 176 (0, 90, []) := ⟨by decide +kernel, rfl⟩
theorem is_45 : wd_is wd_all 180 (0, 840, []) := ⟨by decide +kernel, rfl⟩
theorem is_46 : wd_is wd_all 184 (0, 840, []) := ⟨by decide +kernel, rfl⟩
theorem is_47 : wd_is wd_all 188 (0, 840, []) := ⟨by decide +kernel, rfl⟩
theorem is_48 : wd_is wd_all 192 (0, 4, []) := ⟨by decide +kernel, rfl⟩
theorem is_49 : wd_is wd_all 196 (0, 4, []) := ⟨by decide +kernel, rfl⟩
theorem is_50 : wd_is wd_all 200 (0, 4, []) := ⟨by decide +kernel, rfl⟩
theorem is_51 : wd_is wd_all 204 (0, 4, []) := ⟨by decide +kernel, rfl⟩
theorem is_52 : wd_is wd_all 208 (1, 240, []) := ⟨by decide +kernel, rfl⟩
theorem is_53 : wd_is wd_all 212 (1, 240, []) := ⟨by decide +kernel, rfl⟩
theorem is_54 : wd_is wd_all 216 (0, 4, []) := ⟨by decide +kernel, rfl⟩
theorem is_55 : wd_is wd_all 220 (0, 4, []) := ⟨by decide +kernel, rfl⟩
theorem is_56 : wd_is wd_all 224 (0, 4, []) := ⟨by decide +kernel, rfl⟩
theorem is_57 : wd_is wd_all 228 (0, 240, []) := ⟨by decide +kernel, rfl⟩
theorem is_58 : wd_is wd_all 232 (0, 360, []) := ⟨by decide +kernel, rfl⟩
theorem is_59 : wd_is wd_all 236 (0, 360, []) := ⟨by decide +kernel, rfl⟩
theorem is_60 : wd_is wd_all 240 (1, 360, []) := ⟨by decide +kernel, rfl⟩
theorem is_61 : wd_is wd_all 244 (0, 160, []) := ⟨by decide +kernel, rfl⟩
theorem is_62 : wd_is wd_all 248 (0, 4, []) := ⟨by decide +kernel, rfl⟩
theorem is_63 : wd_is wd_all 252 (0, 16, []) := ⟨by decide +kernel, rfl⟩
theorem is_64 : wd_is wd_all 256 (0, 16, []) := ⟨by decide +kernel, rfl⟩
theorem is_65 : wd_is wd_all 260 (2, 1, []) := ⟨by decide +kernel, rfl⟩
theorem kF_Le_12 : cw_kF "DagLedger" 12 tt_Le 0 := tw_295
theorem kF_Le_19 : cw_kF "DagLedger" 19 tt_Le 1 := tw_296
theorem kF_Le_26 : cw_kF "DagLedger" 26 tt_Le 2 := tw_297
theorem kF_Le_32 : cw_kF "DagLedger" 32 tt_Le 3 := tw_298
theorem kF_Le_39 : cw_kF "DagLedger" 39 tt_Le 4 := tw_299
theorem kF_Le_62 : cw_kF "DagLedger" 62 tt_Re 3 := tw_252
theorem kF_Le_85 : cw_kF "DagLedger" 85 tt_Re 9 := tw_263
theorem kF_Le_94 : cw_kF "DagLedger" 94 tt_Re 8 := tw_261
theorem kF_Le_117 : cw_kF "DagLedger" 117 tt_Bo 0 := tw_96
theorem kF_Le_121 : cw_kF "DagLedger" 121 tt_Bo 1 := tw_99
theorem kF_Le_124 : cw_kF "DagLedger" 124 tt_Bo 2 := tw_102
theorem kF_Le_127 : cw_kF "DagLedger" 127 tt_Ve 0 := tw_60
theorem kF_Le_130 : cw_kF "DagLedger" 130 tt_Ve 1 := tw_64
theorem kF_Le_133 : cw_kF "DagLedger" 133 tt_Ve 2 := tw_67
theorem kF_Le_136 : cw_kF "DagLedger" 136 tt_Ve 3 := tw_70
theorem kF_Le_139 : cw_kF "DagLedger" 139 tt_Ve 4 := tw_73
theorem kF_Le_142 : cw_kF "DagLedger" 142 tt_Di 5 := tw_133
theorem kF_Le_145 : cw_kF "DagLedger" 145 tt_Re 10 := tw_265
theorem kF_Le_148 : cw_kF "DagLedger" 148 tt_Re 7 := tw_259
theorem kF_Le_152 : cw_kF "DagLedger" 152 tt_Co 5 := tw_234
theorem kF_Le_157 : cw_kF "DagLedger" 157 tt_Re 5 := tw_255
theorem kF_Le_161 : cw_kF "DagLedger" 161 tt_Dg 3 := tw_186
theorem kF_Le_166 : cw_kF "DagLedger" 166 tt_Re 6 := tw_257
theorem kF_Le_170 : cw_kF "DagLedger" 170 tt_Bk 2 := tw_207
theorem kF_Le_177 : cw_kF "DagLedger" 177 tt_Di 6 := tw_136
theorem kF_Le_184 : cw_kF "DagLedger" 184 tt_Bk 1 := tw_205
theorem kF_Le_187 : cw_kF "DagLedger" 187 tt_Bk 4 := tw_210
theorem kF_Bo_9 : cw_kF "DagLedger$Board" 9 tt_Bo 0 := tw_94
theorem kF_Bo_15 : cw_kF "DagLedger$Board" 15 tt_Bo 1 := tw_97
theorem kF_Bo_18 : cw_kF "DagLedger$Board" 18 tt_Bo 2 := tw_100
theorem kF_Bo_21 : cw_kF "DagLedger$Board" 21 tt_Bo 3 := tw_103
theorem kF_Bk_9 : cw_kF "DagLedger$Book" 9 tt_Bk 1 := tw_204
theorem kF_Bk_15 : cw_kF "DagLedger$Book" 15 tt_Bk 4 := tw_209
theorem kF_Bk_18 : cw_kF "DagLedger$Book" 18 tt_Bk 0 := tw_203
theorem kF_Bk_28 : cw_kF "DagLedger$Book" 28 tt_Bk 3 := tw_208
theorem kF_Bk_32 : cw_kF "DagLedger$Book" 32 tt_Bk 2 := tw_206
theorem kF_Bk_36 : cw_kF "DagLedger$Book" 36 tt_Tr 2 := tw_39
theorem kF_Bk_41 : cw_kF "DagLedger$Book" 41 tt_Tr 0 := tw_35
theorem kF_Bk_44 : cw_kF "DagLedger$Book" 44 tt_Tr 1 := tw_37
theorem kF_Co_9 : cw_kF "DagLedger$Commits" 9 tt_Co 3 := tw_231
theorem kF_Co_15 : cw_kF "DagLedger$Commits" 15 tt_Co 4 := tw_232
theorem kF_Co_18 : cw_kF "DagLedger$Commits" 18 tt_Co 0 := tw_228
theorem kF_Co_22 : cw_kF "DagLedger$Commits" 22 tt_Co 1 := tw_229
theorem kF_Co_26 : cw_kF "DagLedger$Commits" 26 tt_Co 2 := tw_230
theorem kF_Co_38 : cw_kF "DagLedger$Commits" 38 tt_Co 5 := tw_233
theorem kF_Co_71 : cw_kF "DagLedger$Commits" 71 tt_Ve 3 := tw_69
theorem kF_Co_82 : cw_kF "DagLedger$Commits" 82 tt_Ve 4 := tw_72
theorem kF_Dg_9 : cw_kF "DagLedger$Dag" 9 tt_Dg 1 := tw_183
theorem kF_Dg_15 : cw_kF "DagLedger$Dag" 15 tt_Dg 2 := tw_184
theorem kF_Dg_18 : cw_kF "DagLedger$Dag" 18 tt_Dg 0 := tw_182
theorem kF_Dg_28 : cw_kF "DagLedger$Dag" 28 tt_Ve 1 := tw_62
theorem kF_Dg_37 : cw_kF "DagLedger$Dag" 37 tt_Ve 0 := tw_58
theorem kF_Dg_44 : cw_kF "DagLedger$Dag" 44 tt_Ve 2 := tw_66
theorem kF_Dg_47 : cw_kF "DagLedger$Dag" 47 tt_Dg 3 := tw_185
theorem kF_Di_9 : cw_kF "DagLedger$Disk" 9 tt_Di 0 := tw_126
theorem kF_Di_15 : cw_kF "DagLedger$Disk" 15 tt_Di 3 := tw_129
theorem kF_Di_18 : cw_kF "DagLedger$Disk" 18 tt_Di 4 := tw_131
theorem kF_Di_21 : cw_kF "DagLedger$Disk" 21 tt_Di 1 := tw_127
theorem kF_Di_25 : cw_kF "DagLedger$Disk" 25 tt_Di 2 := tw_128
theorem kF_No_9 : cw_kF "DagLedger$Notes" 9 tt_No 0 := tw_158
theorem kF_No_15 : cw_kF "DagLedger$Notes" 15 tt_No 1 := tw_159
theorem kF_No_18 : cw_kF "DagLedger$Notes" 18 tt_No 2 := tw_160
theorem kF_No_27 : cw_kF "DagLedger$Notes" 27 tt_No 3 := tw_162
theorem kF_Re_12 : cw_kF "DagLedger$Replica" 12 tt_Re 3 := tw_251
theorem kF_Re_21 : cw_kF "DagLedger$Replica" 21 tt_Re 4 := tw_253
theorem kF_Re_25 : cw_kF "DagLedger$Replica" 25 tt_Re 8 := tw_260
theorem kF_Re_29 : cw_kF "DagLedger$Replica" 29 tt_Re 0 := tw_248
theorem kF_Re_32 : cw_kF "DagLedger$Replica" 32 tt_Re 1 := tw_249
theorem kF_Re_36 : cw_kF "DagLedger$Replica" 36 tt_Re 2 := tw_250
theorem kF_Re_45 : cw_kF "DagLedger$Replica" 45 tt_Re 5 := tw_254
theorem kF_Re_54 : cw_kF "DagLedger$Replica" 54 tt_Re 6 := tw_256
theorem kF_Re_63 : cw_kF "DagLedger$Replica" 63 tt_Re 7 := tw_258
theorem kF_Re_67 : cw_kF "DagLedger$Replica" 67 tt_Re 11 := tw_266
theorem kF_Re_71 : cw_kF "DagLedger$Replica" 71 tt_Re 9 := tw_262
theorem kF_Re_74 : cw_kF "DagLedger$Replica" 74 tt_Re 10 := tw_264
theorem kF_Re_86 : cw_kF "DagLedger$Replica" 86 tt_Re 12 := tw_267
theorem kF_Re_92 : cw_kF "DagLedger$Replica" 92 tt_Di 6 := tw_135
theorem kF_Re_104 : cw_kF "DagLedger$Replica" 104 tt_Bo 2 := tw_101
theorem kF_Re_110 : cw_kF "DagLedger$Replica" 110 tt_Bo 1 := tw_98
theorem kF_Re_113 : cw_kF "DagLedger$Replica" 113 tt_Bo 0 := tw_95
theorem kF_Re_126 : cw_kF "DagLedger$Replica" 126 tt_Ve 0 := tw_59
theorem kF_Re_131 : cw_kF "DagLedger$Replica" 131 tt_Ve 1 := tw_63
theorem kF_Re_138 : cw_kF "DagLedger$Replica" 138 tt_Di 3 := tw_130
theorem kF_Re_163 : cw_kF "DagLedger$Replica" 163 tt_Di 4 := tw_132
theorem kF_Re_178 : cw_kF "DagLedger$Replica" 178 tt_No 3 := tw_163
theorem kF_Re_181 : cw_kF "DagLedger$Replica" 181 tt_No 2 := tw_161
theorem kF_Re_199 : cw_kF "DagLedger$Replica" 199 tt_Di 5 := tw_134
theorem kF_Tr_9 : cw_kF "DagLedger$Transfers" 9 tt_Tr 0 := tw_34
theorem kF_Tr_15 : cw_kF "DagLedger$Transfers" 15 tt_Tr 1 := tw_36
theorem kF_Tr_18 : cw_kF "DagLedger$Transfers" 18 tt_Tr 2 := tw_38
theorem kF_Tr_21 : cw_kF "DagLedger$Transfers" 21 tt_Tr 3 := tw_40
theorem kF_Ve_9 : cw_kF "DagLedger$Vertices" 9 tt_Ve 0 := tw_57
theorem kF_Ve_15 : cw_kF "DagLedger$Vertices" 15 tt_Ve 1 := tw_61
theorem kF_Ve_18 : cw_kF "DagLedger$Vertices" 18 tt_Ve 2 := tw_65
theorem kF_Ve_21 : cw_kF "DagLedger$Vertices" 21 tt_Ve 3 := tw_68
theorem kF_Ve_24 : cw_kF "DagLedger$Vertices" 24 tt_Ve 4 := tw_71
theorem kF_Ve_27 : cw_kF "DagLedger$Vertices" 27 tt_Ve 5 := tw_74
theorem kF_Mo_7 : cw_kF "DagLedgerModel" 7 tt_Mo 2 := tw_756
theorem kF_Mo_13 : cw_kF "DagLedgerModel" 13 tt_Mo 3 := tw_757
theorem kF_Mo_16 : cw_kF "DagLedgerModel" 16 tt_Mo 4 := tw_758
theorem kF_Mo_19 : cw_kF "DagLedgerModel" 19 tt_Mo 5 := tw_759
theorem kF_Mo_22 : cw_kF "DagLedgerModel" 22 tt_Mo 6 := tw_760
theorem kF_Mo_26 : cw_kF "DagLedgerModel" 26 tt_Mo 8 := tw_762
theorem kF_Mo_29 : cw_kF "DagLedgerModel" 29 tt_Mo 9 := tw_763
theorem kF_Mo_32 : cw_kF "DagLedgerModel" 32 tt_Mo 10 := tw_764
theorem kF_Mo_35 : cw_kF "DagLedgerModel" 35 tt_Mo 11 := tw_765
theorem kF_Mo_38 : cw_kF "DagLedgerModel" 38 tt_Mo 12 := tw_766
theorem kF_Mo_41 : cw_kF "DagLedgerModel" 41 tt_Mo 14 := tw_768
theorem kF_Mo_44 : cw_kF "DagLedgerModel" 44 tt_Mo 15 := tw_769
theorem kF_Mo_47 : cw_kF "DagLedgerModel" 47 tt_Mo 16 := tw_770
theorem kF_Mo_50 : cw_kF "DagLedgerModel" 50 tt_Mo 17 := tw_771
theorem kF_Mo_53 : cw_kF "DagLedgerModel" 53 tt_Mo 18 := tw_772
theorem kF_Mo_56 : cw_kF "DagLedgerModel" 56 tt_Mo 19 := tw_773
theorem kF_Mo_59 : cw_kF "DagLedgerModel" 59 tt_Mo 20 := tw_774
theorem kF_Mo_62 : cw_kF "DagLedgerModel" 62 tt_Mo 21 := tw_775
theorem kF_Mo_65 : cw_kF "DagLedgerModel" 65 tt_Mo 22 := tw_776
theorem kF_Mo_68 : cw_kF "DagLedgerModel" 68 tt_Mo 23 := tw_777
theorem kF_Mo_71 : cw_kF "DagLedgerModel" 71 tt_Mo 24 := tw_778
theorem kF_Mo_74 : cw_kF "DagLedgerModel" 74 tt_Mo 25 := tw_779
theorem kF_Mo_77 : cw_kF "DagLedgerModel" 77 tt_Mo 26 := tw_780
theorem kF_Mo_80 : cw_kF "DagLedgerModel" 80 tt_Mo 27 := tw_781
theorem kF_Mo_83 : cw_kF "DagLedgerModel" 83 tt_Mo 28 := tw_782
theorem kF_Mo_86 : cw_kF "DagLedgerModel" 86 tt_Mo 29 := tw_783
theorem kF_Mo_89 : cw_kF "DagLedgerModel" 89 tt_Mo 30 := tw_784
theorem kF_Mo_92 : cw_kF "DagLedgerModel" 92 tt_Mo 31 := tw_785
theorem kF_Mo_95 : cw_kF "DagLedgerModel" 95 tt_Mo 32 := tw_786
theorem kF_Mo_98 : cw_kF "DagLedgerModel" 98 tt_Mo 33 := tw_787
theorem kF_Mo_105 : cw_kF "DagLedgerModel" 105 tt_Mo 0 := tw_754
theorem kF_Mo_112 : cw_kF "DagLedgerModel" 112 tt_Mo 13 := tw_767
theorem kF_Mo_153 : cw_kF "DagLedgerModel" 153 tt_Mo 7 := tw_761
theorem kF_Mo_176 : cw_kF "DagLedgerModel" 176 tt_Mo 1 := tw_755
theorem kF_Mo_207 : cw_kF "DagLedgerModel" 207 tt_Mo 34 := tw_788
theorem kV_Le_43 : cw_kV "DagLedger" 43 yy_Le_upReplica cc_Le_upReplica 3 (some (.object "DagLedger$Replica")) 1 := ⟨tw_368, tw_370, ts_1, tw_1, tw_371, ⟨by decide, by decide, by decide +kernel⟩⟩
theorem kV_Le_47 : cw_kV "DagLedger" 47 yy_Tr_isFull cc_Tr_isFull 1 (some .boolean) 0 := ⟨tw_463, tw_464, tw_465, tw_2, tw_466, ⟨by decide, by decide, by decide +kernel⟩⟩
theorem kS_Le_51 : cw_kS "DagLedger" 51 yy_Le_isAccount cc_Le_isAccount 1 (some .boolean) 1 := ⟨tw_467, tw_468, tw_1, tw_469, ⟨by decide, by decide, by decide +kernel⟩⟩
theorem kV_Le_55 : cw_kV "DagLedger" 55 yy_Re_writeRecord cc_Re_writeRecord 1 (some .boolean) 0 := ⟨tw_470, tw_471, tw_472, tw_5, tw_473, ⟨by decide, by decide, by decide +kernel⟩⟩
theorem kV_Le_58 : cw_kV "DagLedger" 58 yy_Tr_add cc_Tr_add 4 (some .int) 3 := ⟨tw_496, tw_497, tw_498, tw_2, tw_499, ⟨by decide, by decide, by decide +kernel⟩⟩
theorem kV_Le_66 : cw_kV "DagLedger" 66 yy_Di_keepTransfer cc_Di_keepTransfer 2 none 1 := ⟨tw_500, tw_501, tw_502, tw_6, tw_503, ⟨by decide, by decide, by decide +kernel⟩⟩
theorem kV_Le_72 : cw_kV "DagLedger" 72 yy_Le_replicaOf cc_Le_replicaOf 2 (some (.object "DagLedger$Replica")) 1 := ⟨tw_372, tw_374, ts_2, tw_1, tw_375, ⟨by decide, by decide, by decide +kernel⟩⟩
theorem kV_Le_75 : cw_kV "DagLedger" 75 yy_Bo_has cc_Bo_has 2 (some .boolean) 1 := ⟨tw_351, tw_352, tw_353, tw_4, tw_354, ⟨by decide, by decide, by decide +kernel⟩⟩
theorem kV_Le_78 : cw_kV "DagLedger" 78 yy_Re_isUp cc_Re_isUp 1 (some .boolean) 0 := ⟨tw_443, tw_444, tw_445, tw_5, tw_446, ⟨by decide, by decide, by decide +kernel⟩⟩
theorem kV_Le_81 : cw_kV "DagLedger" 81 yy_Bo_isFull cc_Bo_isFull 1 (some .boolean) 0 := ⟨tw_327, tw_328, tw_329, tw_4, tw_330, ⟨by decide, by decide, by decide +kernel⟩⟩
theorem kV_Le_82 : cw_kV "DagLedger" 82 yy_Re_take cc_Re_take 4 none 1 := ⟨tw_511, tw_512, tw_513, tw_5, tw_514, ⟨by decide, by decide, by decide +kernel⟩⟩
theorem kV_Le_88 : cw_kV "DagLedger" 88 yy_Re_passTime cc_Re_passTime 1 none 0 := ⟨tw_662, tw_663, tw_664, tw_5, tw_665, ⟨by decide, by decide, by decide +kernel⟩⟩
theorem kV_Le_91 : cw_kV "DagLedger" 91 yy_Re_goDown cc_Re_goDown 1 none 0 := ⟨tw_676, tw_475, tw_476, tw_5, tw_477, ⟨by decide, by decide, by decide +kernel⟩⟩
theorem kV_Le_97 : cw_kV "DagLedger" 97 yy_Re_comeUp cc_Re_comeUp 1 none 0 := ⟨tw_684, tw_685, tw_686, tw_5, tw_687, ⟨by decide, by decide, by decide +kernel⟩⟩
theorem kV_Le_100 : cw_kV "DagLedger" 100 yy_Re_act cc_Re_act 2 none 0 := ⟨tw_692, tw_556, tw_557, tw_5, tw_558, ⟨by decide, by decide, by decide +kernel⟩⟩
theorem kV_Le_103 : cw_kV "DagLedger" 103 yy_Re_setCut cc_Re_setCut 2 none 1 := ⟨tw_700, tw_701, tw_702, tw_5, tw_703, ⟨by decide, by decide, by decide +kernel⟩⟩
theorem kV_Le_106 : cw_kV "DagLedger" 106 yy_Le_isTransferOrNone cc_Le_isTransferOrNone 2 (some .boolean) 1 := ⟨tw_315, tw_317, ts_0, tw_1, tw_318, ⟨by decide, by decide, by decide +kernel⟩⟩
theorem kV_Le_109 : cw_kV "DagLedger" 109 yy_Ve_isFull cc_Ve_isFull 1 (some .boolean) 0 := ⟨tw_323, tw_324, tw_325, tw_3, tw_326, ⟨by decide, by decide, by decide +kernel⟩⟩
theorem kV_Le_110 : cw_kV "DagLedger" 110 yy_Ve_add cc_Ve_add 6 (some .int) 5 := ⟨tw_331, tw_332, tw_333, tw_3, tw_334, ⟨by decide, by decide, by decide +kernel⟩⟩
theorem kV_Le_113 : cw_kV "DagLedger" 113 yy_Bo_post cc_Bo_post 4 (some .int) 3 := ⟨tw_335, tw_336, tw_337, tw_4, tw_338, ⟨by decide, by decide, by decide +kernel⟩⟩
theorem kV_Le_116 : cw_kV "DagLedger" 116 yy_Ve_has cc_Ve_has 2 (some .boolean) 1 := ⟨tw_343, tw_344, tw_345, tw_3, tw_346, ⟨by decide, by decide, by decide +kernel⟩⟩
theorem kV_Le_173 : cw_kV "DagLedger" 173 yy_Di_queueLength cc_Di_queueLength 1 (some .int) 0 := ⟨tw_718, tw_719, tw_720, tw_6, tw_721, ⟨by decide, by decide, by decide +kernel⟩⟩
theorem kV_Le_180 : cw_kV "DagLedger" 180 yy_Dg_find cc_Dg_find 3 (some .int) 2 := ⟨tw_729, tw_620, tw_621, tw_8, tw_622, ⟨by decide, by decide, by decide +kernel⟩⟩
theorem kV_Le_202 : cw_kV "DagLedger" 202 yy_Tr_has cc_Tr_has 2 (some .boolean) 1 := ⟨tw_319, tw_320, tw_321, tw_2, tw_322, ⟨by decide, by decide, by decide +kernel⟩⟩
theorem kS_Bk_22 : cw_kS "DagLedger$Book" 22 yy_Ar_fill cc_Ar_fill 4 none 2 := ⟨tw_202, tw_180, tw_9, tw_181, ⟨by decide, by decide, by decide +kernel⟩⟩
theorem kV_Co_30 : cw_kV "DagLedger$Commits" 30 yy_Co_nextRound cc_Co_nextRound 3 (some .int) 0 := ⟨tw_589, tw_591, ts_9, tw_11, tw_592, ⟨by decide, by decide, by decide +kernel⟩⟩
theorem kV_Co_34 : cw_kV "DagLedger$Commits" 34 yy_Co_leadersUnder cc_Co_leadersUnder 5 (some .int) 1 := ⟨tw_602, tw_604, ts_10, tw_11, tw_605, ⟨by decide, by decide, by decide +kernel⟩⟩
theorem kV_Co_49 : cw_kV "DagLedger$Commits" 49 yy_Co_emit cc_Co_emit 4 none 2 := ⟨tw_611, tw_613, ts_11, tw_11, tw_614, ⟨by decide, by decide, by decide +kernel⟩⟩
theorem kV_Co_53 : cw_kV "DagLedger$Commits" 53 yy_Dg_holds cc_Dg_holds 3 (some .boolean) 2 := ⟨tw_596, tw_570, tw_571, tw_8, tw_572, ⟨by decide, by decide, by decide +kernel⟩⟩
theorem kV_Co_58 : cw_kV "DagLedger$Commits" 58 yy_Dg_countStandingOn cc_Dg_countStandingOn 6 (some .int) 2 := ⟨tw_597, tw_598, tw_599, tw_8, tw_600, ⟨by decide, by decide, by decide +kernel⟩⟩
theorem kV_Co_62 : cw_kV "DagLedger$Commits" 62 yy_Dg_parentsOf cc_Dg_parentsOf 6 (some .int) 2 := ⟨tw_606, tw_607, tw_608, tw_8, tw_609, ⟨by decide, by decide, by decide +kernel⟩⟩
theorem kV_Co_65 : cw_kV "DagLedger$Commits" 65 yy_Co_emitRound cc_Co_emitRound 5 none 2 := ⟨tw_615, tw_617, ts_12, tw_11, tw_618, ⟨by decide, by decide, by decide +kernel⟩⟩
theorem kV_Co_68 : cw_kV "DagLedger$Commits" 68 yy_Dg_find cc_Dg_find 3 (some .int) 2 := ⟨tw_619, tw_620, tw_621, tw_8, tw_622, ⟨by decide, by decide, by decide +kernel⟩⟩
theorem kV_Co_76 : cw_kV "DagLedger$Commits" 76 yy_Bk_place cc_Bk_place 3 none 1 := ⟨tw_623, tw_624, tw_625, tw_10, tw_626, ⟨by decide, by decide, by decide +kernel⟩⟩
theorem kS_Co_85 : cw_kS "DagLedger$Commits" 85 yy_Ar_fill cc_Ar_fill 4 none 2 := ⟨tw_491, tw_180, tw_9, tw_181, ⟨by decide, by decide, by decide +kernel⟩⟩
theorem kS_Dg_22 : cw_kS "DagLedger$Dag" 22 yy_Ar_fill cc_Ar_fill 4 none 2 := ⟨tw_179, tw_180, tw_9, tw_181, ⟨by decide, by decide, by decide +kernel⟩⟩
theorem kV_Dg_33 : cw_kV "DagLedger$Dag" 33 yy_Ve_isWellFormed cc_Ve_isWellFormed 2 (some .boolean) 1 := ⟨tw_568, tw_520, tw_521, tw_3, tw_522, ⟨by decide, by decide, by decide +kernel⟩⟩
theorem kV_Dg_40 : cw_kV "DagLedger$Dag" 40 yy_Dg_holds cc_Dg_holds 3 (some .boolean) 2 := ⟨tw_569, tw_570, tw_571, tw_8, tw_572, ⟨by decide, by decide, by decide +kernel⟩⟩
theorem kS_No_21 : cw_kS "DagLedger$Notes" 21 yy_In_bitCount cc_In_bitCount 1 (some .int) 1 := ⟨tw_542, tw_524, tw_18, tw_525, ⟨by decide, by decide, by decide +kernel⟩⟩
theorem kS_No_31 : cw_kS "DagLedger$Notes" 31 yy_Ar_fill cc_Ar_fill 4 none 2 := ⟨tw_482, tw_180, tw_9, tw_181, ⟨by decide, by decide, by decide +kernel⟩⟩
theorem kV_Re_77 : cw_kV "DagLedger$Replica" 77 yy_No_clear cc_No_clear 1 none 0 := ⟨tw_478, tw_479, tw_480, tw_7, tw_481, ⟨by decide, by decide, by decide +kernel⟩⟩
theorem kV_Re_80 : cw_kV "DagLedger$Replica" 80 yy_Dg_clear cc_Dg_clear 1 none 0 := ⟨tw_483, tw_484, tw_485, tw_8, tw_486, ⟨by decide, by decide, by decide +kernel⟩⟩
theorem kV_Re_81 : cw_kV "DagLedger$Replica" 81 yy_Co_clear cc_Co_clear 1 none 0 := ⟨tw_487, tw_488, tw_489, tw_11, tw_490, ⟨by decide, by decide, by decide +kernel⟩⟩
theorem kV_Re_82 : cw_kV "DagLedger$Replica" 82 yy_Bk_clear cc_Bk_clear 1 none 0 := ⟨tw_492, tw_493, tw_494, tw_10, tw_495, ⟨by decide, by decide, by decide +kernel⟩⟩
theorem kV_Re_83 : cw_kV "DagLedger$Replica" 83 yy_Bk_open cc_Bk_open 1 none 0 := ⟨tw_688, tw_689, tw_690, tw_10, tw_691, ⟨by decide, by decide, by decide +kernel⟩⟩
theorem kV_Re_89 : cw_kV "DagLedger$Replica" 89 yy_Re_goDown cc_Re_goDown 1 none 0 := ⟨tw_474, tw_475, tw_476, tw_5, tw_477, ⟨by decide, by decide, by decide +kernel⟩⟩
theorem kS_Re_95 : cw_kS "DagLedger$Replica" 95 yy_Ma_min cc_Ma_min 2 (some .int) 2 := ⟨tw_666, tw_667, tw_19, tw_668, ⟨by decide, by decide, by decide +kernel⟩⟩
theorem kV_Re_101 : cw_kV "DagLedger$Replica" 101 yy_Re_act cc_Re_act 2 none 0 := ⟨tw_555, tw_556, tw_557, tw_5, tw_558, ⟨by decide, by decide, by decide +kernel⟩⟩
theorem kV_Re_116 : cw_kV "DagLedger$Replica" 116 yy_Re_takeSend cc_Re_takeSend 5 none 2 := ⟨tw_515, tw_517, ts_4, tw_5, tw_518, ⟨by decide, by decide, by decide +kernel⟩⟩
theorem kV_Re_120 : cw_kV "DagLedger$Replica" 120 yy_Re_takeEcho cc_Re_takeEcho 3 none 2 := ⟨tw_534, tw_536, ts_5, tw_5, tw_537, ⟨by decide, by decide, by decide +kernel⟩⟩
theorem kV_Re_123 : cw_kV "DagLedger$Replica" 123 yy_Re_takeReady cc_Re_takeReady 3 none 2 := ⟨tw_547, tw_549, ts_7, tw_5, tw_550, ⟨by decide, by decide, by decide +kernel⟩⟩
theorem kV_Re_134 : cw_kV "DagLedger$Replica" 134 yy_Ve_isWellFormed cc_Ve_isWellFormed 2 (some .boolean) 1 := ⟨tw_519, tw_520, tw_521, tw_3, tw_522, ⟨by decide, by decide, by decide +kernel⟩⟩
theorem kV_Re_145 : cw_kV "DagLedger$Replica" 145 yy_Re_writeRecord cc_Re_writeRecord 1 (some .boolean) 0 := ⟨tw_532, tw_471, tw_472, tw_5, tw_473, ⟨by decide, by decide, by decide +kernel⟩⟩
theorem kV_Re_149 : cw_kV "DagLedger$Replica" 149 yy_Bo_post cc_Bo_post 4 (some .int) 3 := ⟨tw_533, tw_336, tw_337, tw_4, tw_338, ⟨by decide, by decide, by decide +kernel⟩⟩
theorem kV_Re_153 : cw_kV "DagLedger$Replica" 153 yy_No_noteEcho cc_No_noteEcho 3 (some .int) 2 := ⟨tw_538, tw_539, tw_540, tw_7, tw_541, ⟨by decide, by decide, by decide +kernel⟩⟩
theorem kV_Re_156 : cw_kV "DagLedger$Replica" 156 yy_Re_becomeReady cc_Re_becomeReady 4 none 1 := ⟨tw_543, tw_545, ts_6, tw_5, tw_546, ⟨by decide, by decide, by decide +kernel⟩⟩
theorem kV_Re_160 : cw_kV "DagLedger$Replica" 160 yy_No_noteReady cc_No_noteReady 5 (some .int) 2 := ⟨tw_551, tw_552, tw_553, tw_7, tw_554, ⟨by decide, by decide, by decide +kernel⟩⟩
theorem kV_Re_166 : cw_kV "DagLedger$Replica" 166 yy_Re_isUp cc_Re_isUp 1 (some .boolean) 0 := ⟨tw_559, tw_444, tw_445, tw_5, tw_446, ⟨by decide, by decide, by decide +kernel⟩⟩
theorem kV_Re_169 : cw_kV "DagLedger$Replica" 169 yy_Re_insertNext cc_Re_insertNext 4 (some .boolean) 0 := ⟨tw_560, tw_562, ts_8, tw_5, tw_563, ⟨by decide, by decide, by decide +kernel⟩⟩
theorem kV_Re_172 : cw_kV "DagLedger$Replica" 172 yy_Co_commitNext cc_Co_commitNext 4 (some .boolean) 0 := ⟨tw_585, tw_586, tw_587, tw_11, tw_588, ⟨by decide, by decide, by decide +kernel⟩⟩
theorem kV_Re_175 : cw_kV "DagLedger$Replica" 175 yy_Re_advance cc_Re_advance 4 (some .boolean) 0 := ⟨tw_627, tw_629, ts_13, tw_5, tw_630, ⟨by decide, by decide, by decide +kernel⟩⟩
theorem kV_Re_184 : cw_kV "DagLedger$Replica" 184 yy_Dg_canTake cc_Dg_canTake 3 (some .boolean) 1 := ⟨tw_564, tw_565, tw_566, tw_8, tw_567, ⟨by decide, by decide, by decide +kernel⟩⟩
theorem kV_Re_187 : cw_kV "DagLedger$Replica" 187 yy_Ve_comesBefore cc_Ve_comesBefore 3 (some .boolean) 2 := ⟨tw_573, tw_574, tw_575, tw_3, tw_576, ⟨by decide, by decide, by decide +kernel⟩⟩
theorem kV_Re_190 : cw_kV "DagLedger$Replica" 190 yy_Dg_insert cc_Dg_insert 4 none 1 := ⟨tw_577, tw_578, tw_579, tw_8, tw_580, ⟨by decide, by decide, by decide +kernel⟩⟩
theorem kV_Re_193 : cw_kV "DagLedger$Replica" 193 yy_No_stopWaiting cc_No_stopWaiting 2 none 1 := ⟨tw_581, tw_582, tw_583, tw_7, tw_584, ⟨by decide, by decide, by decide +kernel⟩⟩
theorem kV_Re_196 : cw_kV "DagLedger$Replica" 196 yy_Re_mayAdvance cc_Re_mayAdvance 2 (some .boolean) 0 := ⟨tw_631, tw_633, ts_14, tw_5, tw_634, ⟨by decide, by decide, by decide +kernel⟩⟩
theorem kV_Re_202 : cw_kV "DagLedger$Replica" 202 yy_Dg_authorsOf cc_Dg_authorsOf 2 (some .int) 1 := ⟨tw_637, tw_638, tw_639, tw_8, tw_640, ⟨by decide, by decide, by decide +kernel⟩⟩
theorem kV_Re_206 : cw_kV "DagLedger$Replica" 206 yy_Di_nextOfQueue cc_Di_nextOfQueue 1 (some .int) 0 := ⟨tw_643, tw_644, tw_645, tw_6, tw_646, ⟨by decide, by decide, by decide +kernel⟩⟩
theorem kV_Re_210 : cw_kV "DagLedger$Replica" 210 yy_Ve_add cc_Ve_add 6 (some .int) 5 := ⟨tw_647, tw_332, tw_333, tw_3, tw_334, ⟨by decide, by decide, by decide +kernel⟩⟩
theorem kV_Re_214 : cw_kV "DagLedger$Replica" 214 yy_Ve_isFull cc_Ve_isFull 1 (some .boolean) 0 := ⟨tw_635, tw_324, tw_325, tw_3, tw_326, ⟨by decide, by decide, by decide +kernel⟩⟩
theorem kV_Re_217 : cw_kV "DagLedger$Replica" 217 yy_Dg_holds cc_Dg_holds 3 (some .boolean) 2 := ⟨tw_636, tw_570, tw_571, tw_8, tw_572, ⟨by decide, by decide, by decide +kernel⟩⟩
theorem kS_Re_220 : cw_kS "DagLedger$Replica" 220 yy_In_bitCount cc_In_bitCount 1 (some .int) 1 := ⟨tw_641, tw_524, tw_18, tw_525, ⟨by decide, by decide, by decide +kernel⟩⟩
theorem kS_Ve_31 : cw_kS "DagLedger$Vertices" 31 yy_In_bitCount cc_In_bitCount 1 (some .int) 1 := ⟨tw_523, tw_524, tw_18, tw_525, ⟨by decide, by decide, by decide +kernel⟩⟩
theorem kV_La_7 : cw_kV "DagLedgerLaw" 7 yy_Le_submit cc_Le_submit 7 (some .int) 4 := ⟨tw_364, tw_365, tw_366, tw_1, tw_367, ⟨by decide, by decide, by decide +kernel⟩⟩
theorem kV_La_17 : cw_kV "DagLedgerLaw" 17 yy_Le_deliver cc_Le_deliver 4 (some .boolean) 2 := ⟨tw_507, tw_508, tw_509, tw_1, tw_510, ⟨by decide, by decide, by decide +kernel⟩⟩
theorem kV_La_21 : cw_kV "DagLedgerLaw" 21 yy_Le_pump cc_Le_pump 5 (some .int) 2 := ⟨tw_651, tw_652, tw_653, tw_1, tw_654, ⟨by decide, by decide, by decide +kernel⟩⟩
theorem kV_La_25 : cw_kV "DagLedgerLaw" 25 yy_Le_tick cc_Le_tick 3 (some .boolean) 1 := ⟨tw_658, tw_659, tw_660, tw_1, tw_661, ⟨by decide, by decide, by decide +kernel⟩⟩
theorem kV_La_29 : cw_kV "DagLedgerLaw" 29 yy_Le_crash cc_Le_crash 3 (some .boolean) 1 := ⟨tw_672, tw_673, tw_674, tw_1, tw_675, ⟨by decide, by decide, by decide +kernel⟩⟩
theorem kV_La_32 : cw_kV "DagLedgerLaw" 32 yy_Le_restart cc_Le_restart 3 (some .boolean) 1 := ⟨tw_680, tw_681, tw_682, tw_1, tw_683, ⟨by decide, by decide, by decide +kernel⟩⟩
theorem kV_La_35 : cw_kV "DagLedgerLaw" 35 yy_Le_cut cc_Le_cut 4 (some .boolean) 2 := ⟨tw_696, tw_697, tw_698, tw_1, tw_699, ⟨by decide, by decide, by decide +kernel⟩⟩
theorem kV_La_38 : cw_kV "DagLedgerLaw" 38 yy_Le_corrupt cc_Le_corrupt 3 (some .boolean) 1 := ⟨tw_707, tw_708, tw_709, tw_1, tw_710, ⟨by decide, by decide, by decide +kernel⟩⟩
theorem kV_La_41 : cw_kV "DagLedgerLaw" 41 yy_Le_node cc_Le_node 4 (some .int) 2 := ⟨tw_714, tw_715, tw_716, tw_1, tw_717, ⟨by decide, by decide, by decide +kernel⟩⟩
theorem kV_La_44 : cw_kV "DagLedgerLaw" 44 yy_Le_dag cc_Le_dag 5 (some .int) 3 := ⟨tw_725, tw_726, tw_727, tw_1, tw_728, ⟨by decide, by decide, by decide +kernel⟩⟩
theorem kV_La_48 : cw_kV "DagLedgerLaw" 48 yy_Le_at cc_Le_at 4 (some .int) 2 := ⟨tw_733, tw_734, tw_735, tw_1, tw_736, ⟨by decide, by decide, by decide +kernel⟩⟩
theorem kV_La_51 : cw_kV "DagLedgerLaw" 51 yy_Le_balance cc_Le_balance 4 (some .int) 2 := ⟨tw_740, tw_741, tw_742, tw_1, tw_743, ⟨by decide, by decide, by decide +kernel⟩⟩
theorem kV_La_63 : cw_kV "DagLedgerLaw" 63 yy_Mo_submit cc_Mo_submit 5 (some .int) 4 := ⟨tw_865, tw_866, tw_867, tw_12, tw_868, ⟨by decide, by decide, by decide +kernel⟩⟩
theorem kV_La_64 : cw_kV "DagLedgerLaw" 64 yy_Mo_thrown cc_Mo_thrown 1 (some .int) 0 := ⟨tw_861, tw_862, tw_863, tw_12, tw_864, ⟨by decide, by decide, by decide +kernel⟩⟩
theorem kV_La_71 : cw_kV "DagLedgerLaw" 71 yy_Mo_deliver cc_Mo_deliver 3 (some .boolean) 2 := ⟨tw_884, tw_885, tw_886, tw_12, tw_887, ⟨by decide, by decide, by decide +kernel⟩⟩
theorem kV_La_74 : cw_kV "DagLedgerLaw" 74 yy_Mo_pump cc_Mo_pump 4 (some .int) 2 := ⟨tw_970, tw_971, tw_972, tw_12, tw_973, ⟨by decide, by decide, by decide +kernel⟩⟩
theorem kV_La_78 : cw_kV "DagLedgerLaw" 78 yy_Mo_tick cc_Mo_tick 2 (some .boolean) 1 := ⟨tw_974, tw_975, tw_976, tw_12, tw_977, ⟨by decide, by decide, by decide +kernel⟩⟩
theorem kV_La_81 : cw_kV "DagLedgerLaw" 81 yy_Mo_crash cc_Mo_crash 2 (some .boolean) 1 := ⟨tw_978, tw_979, tw_980, tw_12, tw_981, ⟨by decide, by decide, by decide +kernel⟩⟩
theorem kV_La_84 : cw_kV "DagLedgerLaw" 84 yy_Mo_restart cc_Mo_restart 2 (some .boolean) 1 := ⟨tw_982, tw_983, tw_984, tw_12, tw_985, ⟨by decide, by decide, by decide +kernel⟩⟩
theorem kV_La_87 : cw_kV "DagLedgerLaw" 87 yy_Mo_cut cc_Mo_cut 3 (some .boolean) 2 := ⟨tw_986, tw_987, tw_988, tw_12, tw_989, ⟨by decide, by decide, by decide +kernel⟩⟩
theorem kV_La_90 : cw_kV "DagLedgerLaw" 90 yy_Mo_corrupt cc_Mo_corrupt 2 (some .boolean) 1 := ⟨tw_990, tw_991, tw_992, tw_12, tw_993, ⟨by decide, by decide, by decide +kernel⟩⟩
theorem kV_La_91 : cw_kV "DagLedgerLaw" 91 yy_Le_forge cc_Le_forge 6 (some .int) 4 := ⟨tw_311, tw_312, tw_313, tw_1, tw_314, ⟨by decide, by decide, by decide +kernel⟩⟩
theorem kV_La_94 : cw_kV "DagLedgerLaw" 94 yy_Mo_forge cc_Mo_forge 6 (some .int) 4 := ⟨tw_998, tw_999, tw_1000, tw_12, tw_1001, ⟨by decide, by decide, by decide +kernel⟩⟩
theorem kV_La_95 : cw_kV "DagLedgerLaw" 95 yy_Le_send cc_Le_send 3 (some .int) 2 := ⟨tw_339, tw_340, tw_341, tw_1, tw_342, ⟨by decide, by decide, by decide +kernel⟩⟩
theorem kV_La_98 : cw_kV "DagLedgerLaw" 98 yy_Mo_send cc_Mo_send 3 (some .int) 2 := ⟨tw_1006, tw_1007, tw_1008, tw_12, tw_1009, ⟨by decide, by decide, by decide +kernel⟩⟩
theorem kV_La_99 : cw_kV "DagLedgerLaw" 99 yy_Le_message cc_Le_message 3 (some .int) 2 := ⟨tw_347, tw_348, tw_349, tw_1, tw_350, ⟨by decide, by decide, by decide +kernel⟩⟩
theorem kV_La_102 : cw_kV "DagLedgerLaw" 102 yy_Mo_message cc_Mo_message 3 (some .int) 2 := ⟨tw_1010, tw_1011, tw_1012, tw_12, tw_1013, ⟨by decide, by decide, by decide +kernel⟩⟩
theorem kV_La_103 : cw_kV "DagLedgerLaw" 103 yy_Le_vertex cc_Le_vertex 3 (some .int) 2 := ⟨tw_355, tw_356, tw_357, tw_1, tw_358, ⟨by decide, by decide, by decide +kernel⟩⟩
theorem kV_La_106 : cw_kV "DagLedgerLaw" 106 yy_Mo_vertex cc_Mo_vertex 3 (some .int) 2 := ⟨tw_1014, tw_1015, tw_1016, tw_12, tw_1017, ⟨by decide, by decide, by decide +kernel⟩⟩
theorem kV_La_109 : cw_kV "DagLedgerLaw" 109 yy_Mo_node cc_Mo_node 5 (some .int) 2 := ⟨tw_1018, tw_1019, tw_1020, tw_12, tw_1021, ⟨by decide, by decide, by decide +kernel⟩⟩
theorem kV_La_113 : cw_kV "DagLedgerLaw" 113 yy_Mo_dag cc_Mo_dag 4 (some .int) 3 := ⟨tw_1022, tw_1023, tw_1024, tw_12, tw_1025, ⟨by decide, by decide, by decide +kernel⟩⟩
theorem kV_La_116 : cw_kV "DagLedgerLaw" 116 yy_Mo_at cc_Mo_at 3 (some .int) 2 := ⟨tw_1026, tw_1027, tw_1028, tw_12, tw_1029, ⟨by decide, by decide, by decide +kernel⟩⟩
theorem kV_La_119 : cw_kV "DagLedgerLaw" 119 yy_Mo_balance cc_Mo_balance 3 (some .int) 2 := ⟨tw_1030, tw_1031, tw_1032, tw_12, tw_1033, ⟨by decide, by decide, by decide +kernel⟩⟩
theorem kV_Mo_101 : cw_kV "DagLedgerModel" 101 yy_Mo_fresh cc_Mo_fresh 3 none 1 := ⟨tw_750, tw_752, ts_15, tw_12, tw_753, ⟨by decide, by decide, by decide +kernel⟩⟩
theorem kV_Mo_109 : cw_kV "DagLedgerModel" 109 yy_Mo_fall cc_Mo_fall 2 none 1 := ⟨tw_880, tw_882, ts_18, tw_12, tw_883, ⟨by decide, by decide, by decide +kernel⟩⟩
theorem kS_Mo_115 : cw_kS "DagLedgerModel" 115 yy_Mo_ones cc_Mo_ones 1 (some .int) 1 := ⟨tw_904, tw_905, tw_12, tw_906, ⟨by decide, by decide, by decide +kernel⟩⟩
theorem kV_Mo_119 : cw_kV "DagLedgerModel" 119 yy_Mo_formed cc_Mo_formed 2 (some .boolean) 1 := ⟨tw_900, tw_902, ts_22, tw_12, tw_903, ⟨by decide, by decide, by decide +kernel⟩⟩
theorem kV_Mo_123 : cw_kV "DagLedgerModel" 123 yy_Mo_spot cc_Mo_spot 3 (some .int) 2 := ⟨tw_907, tw_909, ts_23, tw_12, tw_910, ⟨by decide, by decide, by decide +kernel⟩⟩
theorem kV_Mo_127 : cw_kV "DagLedgerModel" 127 yy_Mo_record cc_Mo_record 2 (some .boolean) 1 := ⟨tw_876, tw_878, ts_17, tw_12, tw_879, ⟨by decide, by decide, by decide +kernel⟩⟩
theorem kV_Mo_130 : cw_kV "DagLedgerModel" 130 yy_Mo_say cc_Mo_say 4 (some .int) 3 := ⟨tw_911, tw_913, ts_24, tw_12, tw_914, ⟨by decide, by decide, by decide +kernel⟩⟩
theorem kV_Mo_134 : cw_kV "DagLedgerModel" 134 yy_Mo_act cc_Mo_act 5 none 1 := ⟨tw_915, tw_917, ts_25, tw_12, tw_918, ⟨by decide, by decide, by decide +kernel⟩⟩
theorem kV_Mo_137 : cw_kV "DagLedgerModel" 137 yy_Mo_insertable cc_Mo_insertable 5 (some .int) 1 := ⟨tw_919, tw_921, ts_26, tw_12, tw_922, ⟨by decide, by decide, by decide +kernel⟩⟩
theorem kV_Mo_140 : cw_kV "DagLedgerModel" 140 yy_Mo_committable cc_Mo_committable 6 (some .int) 1 := ⟨tw_927, tw_929, ts_28, tw_12, tw_930, ⟨by decide, by decide, by decide +kernel⟩⟩
theorem kV_Mo_143 : cw_kV "DagLedgerModel" 143 yy_Mo_commit cc_Mo_commit 6 none 2 := ⟨tw_938, tw_940, ts_30, tw_12, tw_941, ⟨by decide, by decide, by decide +kernel⟩⟩
theorem kV_Mo_147 : cw_kV "DagLedgerModel" 147 yy_Mo_advances cc_Mo_advances 4 (some .boolean) 1 := ⟨tw_954, tw_956, ts_34, tw_12, tw_957, ⟨by decide, by decide, by decide +kernel⟩⟩
theorem kV_Mo_150 : cw_kV "DagLedgerModel" 150 yy_Mo_advance cc_Mo_advance 5 none 1 := ⟨tw_958, tw_960, ts_35, tw_12, tw_961, ⟨by decide, by decide, by decide +kernel⟩⟩
theorem kV_Mo_156 : cw_kV "DagLedgerModel" 156 yy_Mo_there cc_Mo_there 5 (some .int) 2 := ⟨tw_923, tw_925, ts_27, tw_12, tw_926, ⟨by decide, by decide, by decide +kernel⟩⟩
theorem kS_Mo_159 : cw_kS "DagLedgerModel" 159 yy_Mo_leader cc_Mo_leader 1 (some .int) 1 := ⟨tw_931, tw_932, tw_12, tw_933, ⟨by decide, by decide, by decide +kernel⟩⟩
theorem kV_Mo_162 : cw_kV "DagLedgerModel" 162 yy_Mo_hasLeader cc_Mo_hasLeader 3 (some .boolean) 2 := ⟨tw_934, tw_936, ts_29, tw_12, tw_937, ⟨by decide, by decide, by decide +kernel⟩⟩
theorem kV_Mo_166 : cw_kV "DagLedgerModel" 166 yy_Mo_spread cc_Mo_spread 6 none 3 := ⟨tw_942, tw_944, ts_31, tw_12, tw_945, ⟨by decide, by decide, by decide +kernel⟩⟩
theorem kV_Mo_170 : cw_kV "DagLedgerModel" 170 yy_Mo_emit cc_Mo_emit 6 none 2 := ⟨tw_946, tw_948, ts_32, tw_12, tw_949, ⟨by decide, by decide, by decide +kernel⟩⟩
theorem kV_Mo_173 : cw_kV "DagLedgerModel" 173 yy_Mo_place cc_Mo_place 5 none 2 := ⟨tw_950, tw_952, ts_33, tw_12, tw_953, ⟨by decide, by decide, by decide +kernel⟩⟩
theorem kV_Mo_179 : cw_kV "DagLedgerModel" 179 yy_Mo_queued cc_Mo_queued 4 (some .int) 2 := ⟨tw_962, tw_964, ts_36, tw_12, tw_965, ⟨by decide, by decide, by decide +kernel⟩⟩
theorem kV_Mo_182 : cw_kV "DagLedgerModel" 182 yy_Mo_make cc_Mo_make 6 (some .int) 5 := ⟨tw_966, tw_968, ts_37, tw_12, tw_969, ⟨by decide, by decide, by decide +kernel⟩⟩
theorem kS_Mo_186 : cw_kS "DagLedgerModel" 186 yy_Mo_in cc_Mo_in 3 (some .boolean) 3 := ⟨tw_873, tw_874, tw_12, tw_875, ⟨by decide, by decide, by decide +kernel⟩⟩
theorem kV_Mo_190 : cw_kV "DagLedgerModel" 190 yy_Mo_isNode cc_Mo_isNode 2 (some .boolean) 1 := ⟨tw_869, tw_871, ts_16, tw_12, tw_872, ⟨by decide, by decide, by decide +kernel⟩⟩
theorem kV_Mo_193 : cw_kV "DagLedgerModel" 193 yy_Mo_works cc_Mo_works 2 (some .boolean) 1 := ⟨tw_888, tw_890, ts_19, tw_12, tw_891, ⟨by decide, by decide, by decide +kernel⟩⟩
theorem kV_Mo_196 : cw_kV "DagLedgerModel" 196 yy_Mo_full cc_Mo_full 1 (some .boolean) 0 := ⟨tw_892, tw_894, ts_20, tw_12, tw_895, ⟨by decide, by decide, by decide +kernel⟩⟩
theorem kV_Mo_200 : cw_kV "DagLedgerModel" 200 yy_Mo_take cc_Mo_take 6 none 2 := ⟨tw_896, tw_898, ts_21, tw_12, tw_899, ⟨by decide, by decide, by decide +kernel⟩⟩
theorem kV_Mo_203 : cw_kV "DagLedgerModel" 203 yy_Mo_faulty cc_Mo_faulty 2 (some .int) 0 := ⟨tw_994, tw_996, ts_38, tw_12, tw_997, ⟨by decide, by decide, by decide +kernel⟩⟩
theorem kV_Mo_211 : cw_kV "DagLedgerModel" 211 yy_Mo_isTransfer cc_Mo_isTransfer 2 (some .boolean) 1 := ⟨tw_1002, tw_1004, ts_39, tw_12, tw_1005, ⟨by decide, by decide, by decide +kernel⟩⟩
theorem kS_Co_42 : cw_kSN "DagLedger$Commits" 42 yy_Le_contains cc_Le_contains 2 (some .boolean) 2 "DagLedger" := ⟨List.mem_of_getElem? (i := 8) rfl, tw_530, tw_1, tw_531, ⟨by decide, by decide, by decide +kernel⟩⟩
theorem kS_Co_46 : cw_kSN "DagLedger$Commits" 46 yy_Le_leaderOf cc_Le_leaderOf 1 (some .int) 1 "DagLedger" := ⟨List.mem_of_getElem? (i := 6) rfl, tw_594, tw_1, tw_595, ⟨by decide, by decide, by decide +kernel⟩⟩
theorem kS_Dg_51 : cw_kSN "DagLedger$Dag" 51 yy_Le_contains cc_Le_contains 2 (some .boolean) 2 "DagLedger" := ⟨List.mem_of_getElem? (i := 7) rfl, tw_530, tw_1, tw_531, ⟨by decide, by decide, by decide +kernel⟩⟩
theorem kS_Re_141 : cw_kSN "DagLedger$Replica" 141 yy_Le_contains cc_Le_contains 2 (some .boolean) 2 "DagLedger" := ⟨List.mem_of_getElem? (i := 5) rfl, tw_530, tw_1, tw_531, ⟨by decide, by decide, by decide +kernel⟩⟩
theorem kS_Re_225 : cw_kSN "DagLedger$Replica" 225 yy_Le_leaderOf cc_Le_leaderOf 1 (some .int) 1 "DagLedger" := ⟨List.mem_of_getElem? (i := 9) rfl, tw_594, tw_1, tw_595, ⟨by decide, by decide, by decide +kernel⟩⟩
theorem kC_In_265 : Cond.constant "java/lang/Integer" 265 1431655765 ∈ wd_tb := tw_526
theorem kC_In_266 : Cond.constant "java/lang/Integer" 266 858993459 ∈ wd_tb := tw_527
theorem kC_In_267 : Cond.constant "java/lang/Integer" 267 252645135 ∈ wd_tb := tw_528
end
section
/-! decode rows (written by wip/whole/gen02.py) -/
theorem dd_Tr_init_0 : decode cc_Tr_init 0 = .ok (.aload_n 0, 1) := by decide +kernel
theorem dd_Tr_init_1 : decode cc_Tr_init 1 = .ok (.invokespecial 3, 3) := by decide +kernel
theorem dd_Tr_init_4 : decode cc_Tr_init 4 = .ok (.aload_n 0, 1) := by decide +kernel
theorem dd_Tr_init_5 : decode cc_Tr_init 5 = .ok (.bipush 40, 2) := by decide +kernel
theorem dd_Tr_init_7 : decode cc_Tr_init 7 = .ok (.newarray .int, 2) := by decide +kernel
theorem dd_Tr_init_9 : decode cc_Tr_init 9 = .ok (.putfield 9, 3) := by decide +kernel
theorem dd_Tr_init_12 : decode cc_Tr_init 12 = .ok (.aload_n 0, 1) := by decide +kernel
theorem dd_Tr_init_13 : decode cc_Tr_init 13 = .ok (.bipush 40, 2) := by decide +kernel
theorem dd_Tr_init_15 : decode cc_Tr_init 15 = .ok (.newarray .int, 2) := by decide +kernel
theorem dd_Tr_init_17 : decode cc_Tr_init 17 = .ok (.putfield 15, 3) := by decide +kernel
theorem dd_Tr_init_20 : decode cc_Tr_init 20 = .ok (.aload_n 0, 1) := by decide +kernel
theorem dd_Tr_init_21 : decode cc_Tr_init 21 = .ok (.bipush 40, 2) := by decide +kernel
theorem dd_Tr_init_23 : decode cc_Tr_init 23 = .ok (.newarray .int, 2) := by decide +kernel
theorem dd_Tr_init_25 : decode cc_Tr_init 25 = .ok (.putfield 18, 3) := by decide +kernel
theorem dd_Tr_init_28 : decode cc_Tr_init 28 = .ok (.return_, 1) := by decide +kernel
theorem dd_Ve_init_0 : decode cc_Ve_init 0 = .ok (.aload_n 0, 1) := by decide +kernel
theorem dd_Ve_init_1 : decode cc_Ve_init 1 = .ok (.invokespecial 3, 3) := by decide +kernel
theorem dd_Ve_init_4 : decode cc_Ve_init 4 = .ok (.aload_n 0, 1) := by decide +kernel
theorem dd_Ve_init_5 : decode cc_Ve_init 5 = .ok (.bipush 90, 2) := by decide +kernel
theorem dd_Ve_init_7 : decode cc_Ve_init 7 = .ok (.newarray .int, 2) := by decide +kernel
theorem dd_Ve_init_9 : decode cc_Ve_init 9 = .ok (.putfield 9, 3) := by decide +kernel
theorem dd_Ve_init_12 : decode cc_Ve_init 12 = .ok (.aload_n 0, 1) := by decide +kernel
theorem dd_Ve_init_13 : decode cc_Ve_init 13 = .ok (.bipush 90, 2) := by decide +kernel
theorem dd_Ve_init_15 : decode cc_Ve_init 15 = .ok (.newarray .int, 2) := by decide +kernel
theorem dd_Ve_init_17 : decode cc_Ve_init 17 = .ok (.putfield 15, 3) := by decide +kernel
theorem dd_Ve_init_20 : decode cc_Ve_init 20 = .ok (.aload_n 0, 1) := by decide +kernel
theorem dd_Ve_init_21 : decode cc_Ve_init 21 = .ok (.bipush 90, 2) := by decide +kernel
theorem dd_Ve_init_23 : decode cc_Ve_init 23 = .ok (.newarray .int, 2) := by decide +kernel
theorem dd_Ve_init_25 : decode cc_Ve_init 25 = .ok (.putfield 18, 3) := by decide +kernel
theorem dd_Ve_init_28 : decode cc_Ve_init 28 = .ok (.aload_n 0, 1) := by decide +kernel
theorem dd_Ve_init_29 : decode cc_Ve_init 29 = .ok (.bipush 90, 2) := by decide +kernel
theorem dd_Ve_init_31 : decode cc_Ve_init 31 = .ok (.newarray .int, 2) := by decide +kernel
theorem dd_Ve_init_33 : decode cc_Ve_init 33 = .ok (.putfield 21, 3) := by decide +kernel
theorem dd_Ve_init_36 : decode cc_Ve_init 36 = .ok (.aload_n 0, 1) := by decide +kernel
theorem dd_Ve_init_37 : decode cc_Ve_init 37 = .ok (.bipush 90, 2) := by decide +kernel
theorem dd_Ve_init_39 : decode cc_Ve_init 39 = .ok (.newarray .int, 2) := by decide +kernel
theorem dd_Ve_init_41 : decode cc_Ve_init 41 = .ok (.putfield 24, 3) := by decide +kernel
theorem dd_Ve_init_44 : decode cc_Ve_init 44 = .ok (.return_, 1) := by decide +kernel
theorem dd_Bo_init_0 : decode cc_Bo_init 0 = .ok (.aload_n 0, 1) := by decide +kernel
theorem dd_Bo_init_1 : decode cc_Bo_init 1 = .ok (.invokespecial 3, 3) := by decide +kernel
theorem dd_Bo_init_4 : decode cc_Bo_init 4 = .ok (.aload_n 0, 1) := by decide +kernel
theorem dd_Bo_init_5 : decode cc_Bo_init 5 = .ok (.sipush 802, 3) := by decide +kernel
theorem dd_Bo_init_8 : decode cc_Bo_init 8 = .ok (.newarray .int, 2) := by decide +kernel
theorem dd_Bo_init_10 : decode cc_Bo_init 10 = .ok (.putfield 9, 3) := by decide +kernel
theorem dd_Bo_init_13 : decode cc_Bo_init 13 = .ok (.aload_n 0, 1) := by decide +kernel
theorem dd_Bo_init_14 : decode cc_Bo_init 14 = .ok (.sipush 802, 3) := by decide +kernel
theorem dd_Bo_init_17 : decode cc_Bo_init 17 = .ok (.newarray .int, 2) := by decide +kernel
theorem dd_Bo_init_19 : decode cc_Bo_init 19 = .ok (.putfield 15, 3) := by decide +kernel
theorem dd_Bo_init_22 : decode cc_Bo_init 22 = .ok (.aload_n 0, 1) := by decide +kernel
theorem dd_Bo_init_23 : decode cc_Bo_init 23 = .ok (.sipush 802, 3) := by decide +kernel
theorem dd_Bo_init_26 : decode cc_Bo_init 26 = .ok (.newarray .int, 2) := by decide +kernel
theorem dd_Bo_init_28 : decode cc_Bo_init 28 = .ok (.putfield 18, 3) := by decide +kernel
theorem dd_Bo_init_31 : decode cc_Bo_init 31 = .ok (.return_, 1) := by decide +kernel
theorem dd_Di_init_0 : decode cc_Di_init 0 = .ok (.aload_n 0, 1) := by decide +kernel
theorem dd_Di_init_1 : decode cc_Di_init 1 = .ok (.invokespecial 3, 3) := by decide +kernel
theorem dd_Di_init_4 : decode cc_Di_init 4 = .ok (.aload_n 0, 1) := by decide +kernel
theorem dd_Di_init_5 : decode cc_Di_init 5 = .ok (.bipush 40, 2) := by decide +kernel
theorem dd_Di_init_7 : decode cc_Di_init 7 = .ok (.newarray .int, 2) := by decide +kernel
theorem dd_Di_init_9 : decode cc_Di_init 9 = .ok (.putfield 9, 3) := by decide +kernel
theorem dd_Di_init_12 : decode cc_Di_init 12 = .ok (.aload_n 0, 1) := by decide +kernel
theorem dd_Di_init_13 : decode cc_Di_init 13 = .ok (.iconst 4, 1) := by decide +kernel
theorem dd_Di_init_14 : decode cc_Di_init 14 = .ok (.newarray .int, 2) := by decide +kernel
theorem dd_Di_init_16 : decode cc_Di_init 16 = .ok (.putfield 15, 3) := by decide +kernel
theorem dd_Di_init_19 : decode cc_Di_init 19 = .ok (.aload_n 0, 1) := by decide +kernel
theorem dd_Di_init_20 : decode cc_Di_init 20 = .ok (.iconst 4, 1) := by decide +kernel
theorem dd_Di_init_21 : decode cc_Di_init 21 = .ok (.newarray .int, 2) := by decide +kernel
theorem dd_Di_init_23 : decode cc_Di_init 23 = .ok (.putfield 18, 3) := by decide +kernel
theorem dd_Di_init_26 : decode cc_Di_init 26 = .ok (.return_, 1) := by decide +kernel
theorem dd_No_init_0 : decode cc_No_init 0 = .ok (.aload_n 0, 1) := by decide +kernel
theorem dd_No_init_1 : decode cc_No_init 1 = .ok (.invokespecial 3, 3) := by decide +kernel
theorem dd_No_init_4 : decode cc_No_init 4 = .ok (.aload_n 0, 1) := by decide +kernel
theorem dd_No_init_5 : decode cc_No_init 5 = .ok (.bipush 90, 2) := by decide +kernel
theorem dd_No_init_7 : decode cc_No_init 7 = .ok (.newarray .int, 2) := by decide +kernel
theorem dd_No_init_9 : decode cc_No_init 9 = .ok (.putfield 9, 3) := by decide +kernel
theorem dd_No_init_12 : decode cc_No_init 12 = .ok (.aload_n 0, 1) := by decide +kernel
theorem dd_No_init_13 : decode cc_No_init 13 = .ok (.bipush 90, 2) := by decide +kernel
theorem dd_No_init_15 : decode cc_No_init 15 = .ok (.newarray .int, 2) := by decide +kernel
theorem dd_No_init_17 : decode cc_No_init 17 = .ok (.putfield 15, 3) := by decide +kernel
theorem dd_No_init_20 : decode cc_No_init 20 = .ok (.aload_n 0, 1) := by decide +kernel
theorem dd_No_init_21 : decode cc_No_init 21 = .ok (.bipush 90, 2) := by decide +kernel
theorem dd_No_init_23 : decode cc_No_init 23 = .ok (.newarray .int, 2) := by decide +kernel
theorem dd_No_init_25 : decode cc_No_init 25 = .ok (.putfield 18, 3) := by decide +kernel
theorem dd_No_init_28 : decode cc_No_init 28 = .ok (.return_, 1) := by decide +kernel
theorem dd_Dg_init_0 : decode cc_Dg_init 0 = .ok (.aload_n 0, 1) := by decide +kernel
theorem dd_Dg_init_1 : decode cc_Dg_init 1 = .ok (.invokespecial 3, 3) := by decide +kernel
theorem dd_Dg_init_4 : decode cc_Dg_init 4 = .ok (.aload_n 0, 1) := by decide +kernel
theorem dd_Dg_init_5 : decode cc_Dg_init 5 = .ok (.bipush 64, 2) := by decide +kernel
theorem dd_Dg_init_7 : decode cc_Dg_init 7 = .ok (.newarray .int, 2) := by decide +kernel
theorem dd_Dg_init_9 : decode cc_Dg_init 9 = .ok (.putfield 9, 3) := by decide +kernel
theorem dd_Dg_init_12 : decode cc_Dg_init 12 = .ok (.aload_n 0, 1) := by decide +kernel
theorem dd_Dg_init_13 : decode cc_Dg_init 13 = .ok (.bipush 16, 2) := by decide +kernel
theorem dd_Dg_init_15 : decode cc_Dg_init 15 = .ok (.newarray .int, 2) := by decide +kernel
theorem dd_Dg_init_17 : decode cc_Dg_init 17 = .ok (.putfield 15, 3) := by decide +kernel
theorem dd_Dg_init_20 : decode cc_Dg_init 20 = .ok (.aload_n 0, 1) := by decide +kernel
theorem dd_Dg_init_21 : decode cc_Dg_init 21 = .ok (.aload_n 1, 1) := by decide +kernel
theorem dd_Dg_init_22 : decode cc_Dg_init 22 = .ok (.putfield 18, 3) := by decide +kernel
theorem dd_Dg_init_25 : decode cc_Dg_init 25 = .ok (.aload_n 0, 1) := by decide +kernel
theorem dd_Dg_init_26 : decode cc_Dg_init 26 = .ok (.getfield 9, 3) := by decide +kernel
theorem dd_Dg_init_29 : decode cc_Dg_init 29 = .ok (.iconst (-1), 1) := by decide +kernel
theorem dd_Dg_init_30 : decode cc_Dg_init 30 = .ok (.invokestatic 22, 3) := by decide +kernel
theorem dd_Dg_init_33 : decode cc_Dg_init 33 = .ok (.return_, 1) := by decide +kernel
theorem dd_Ar_fill_0 : decode cc_Ar_fill 0 = .ok (.iconst 0, 1) := by decide +kernel
theorem dd_Ar_fill_1 : decode cc_Ar_fill 1 = .ok (.istore_n 2, 1) := by decide +kernel
theorem dd_Ar_fill_2 : decode cc_Ar_fill 2 = .ok (.aload_n 0, 1) := by decide +kernel
theorem dd_Ar_fill_3 : decode cc_Ar_fill 3 = .ok (.arraylength, 1) := by decide +kernel
theorem dd_Ar_fill_4 : decode cc_Ar_fill 4 = .ok (.istore_n 3, 1) := by decide +kernel
theorem dd_Ar_fill_5 : decode cc_Ar_fill 5 = .ok (.iload_n 2, 1) := by decide +kernel
theorem dd_Ar_fill_6 : decode cc_Ar_fill 6 = .ok (.iload_n 3, 1) := by decide +kernel
theorem dd_Ar_fill_7 : decode cc_Ar_fill 7 = .ok (.if_icmp .ge 13, 3) := by decide +kernel
theorem dd_Ar_fill_10 : decode cc_Ar_fill 10 = .ok (.aload_n 0, 1) := by decide +kernel
theorem dd_Ar_fill_11 : decode cc_Ar_fill 11 = .ok (.iload_n 2, 1) := by decide +kernel
theorem dd_Ar_fill_12 : decode cc_Ar_fill 12 = .ok (.iload_n 1, 1) := by decide +kernel
theorem dd_Ar_fill_13 : decode cc_Ar_fill 13 = .ok (.iastore, 1) := by decide +kernel
theorem dd_Ar_fill_14 : decode cc_Ar_fill 14 = .ok (.iinc 2 1, 3) := by decide +kernel
theorem dd_Ar_fill_17 : decode cc_Ar_fill 17 = .ok (.goto (-12), 3) := by decide +kernel
theorem dd_Ar_fill_20 : decode cc_Ar_fill 20 = .ok (.return_, 1) := by decide +kernel
theorem dd_Bk_init_0 : decode cc_Bk_init 0 = .ok (.aload_n 0, 1) := by decide +kernel
theorem dd_Bk_init_1 : decode cc_Bk_init 1 = .ok (.invokespecial 3, 3) := by decide +kernel
theorem dd_Bk_init_4 : decode cc_Bk_init 4 = .ok (.aload_n 0, 1) := by decide +kernel
theorem dd_Bk_init_5 : decode cc_Bk_init 5 = .ok (.bipush 40, 2) := by decide +kernel
theorem dd_Bk_init_7 : decode cc_Bk_init 7 = .ok (.newarray .int, 2) := by decide +kernel
theorem dd_Bk_init_9 : decode cc_Bk_init 9 = .ok (.putfield 9, 3) := by decide +kernel
theorem dd_Bk_init_12 : decode cc_Bk_init 12 = .ok (.aload_n 0, 1) := by decide +kernel
theorem dd_Bk_init_13 : decode cc_Bk_init 13 = .ok (.iconst 4, 1) := by decide +kernel
theorem dd_Bk_init_14 : decode cc_Bk_init 14 = .ok (.newarray .int, 2) := by decide +kernel
theorem dd_Bk_init_16 : decode cc_Bk_init 16 = .ok (.putfield 15, 3) := by decide +kernel
theorem dd_Bk_init_19 : decode cc_Bk_init 19 = .ok (.aload_n 0, 1) := by decide +kernel
theorem dd_Bk_init_20 : decode cc_Bk_init 20 = .ok (.aload_n 1, 1) := by decide +kernel
theorem dd_Bk_init_21 : decode cc_Bk_init 21 = .ok (.putfield 18, 3) := by decide +kernel
theorem dd_Bk_init_24 : decode cc_Bk_init 24 = .ok (.aload_n 0, 1) := by decide +kernel
theorem dd_Bk_init_25 : decode cc_Bk_init 25 = .ok (.getfield 15, 3) := by decide +kernel
theorem dd_Bk_init_28 : decode cc_Bk_init 28 = .ok (.bipush 100, 2) := by decide +kernel
theorem dd_Bk_init_30 : decode cc_Bk_init 30 = .ok (.invokestatic 22, 3) := by decide +kernel
theorem dd_Bk_init_33 : decode cc_Bk_init 33 = .ok (.return_, 1) := by decide +kernel
theorem dd_Co_init_0 : decode cc_Co_init 0 = .ok (.aload_n 0, 1) := by decide +kernel
theorem dd_Co_init_1 : decode cc_Co_init 1 = .ok (.invokespecial 3, 3) := by decide +kernel
theorem dd_Co_init_4 : decode cc_Co_init 4 = .ok (.aload_n 0, 1) := by decide +kernel
theorem dd_Co_init_5 : decode cc_Co_init 5 = .ok (.bipush 15, 2) := by decide +kernel
theorem dd_Co_init_7 : decode cc_Co_init 7 = .ok (.newarray .int, 2) := by decide +kernel
theorem dd_Co_init_9 : decode cc_Co_init 9 = .ok (.putfield 9, 3) := by decide +kernel
theorem dd_Co_init_12 : decode cc_Co_init 12 = .ok (.aload_n 0, 1) := by decide +kernel
theorem dd_Co_init_13 : decode cc_Co_init 13 = .ok (.bipush 15, 2) := by decide +kernel
theorem dd_Co_init_15 : decode cc_Co_init 15 = .ok (.newarray .int, 2) := by decide +kernel
theorem dd_Co_init_17 : decode cc_Co_init 17 = .ok (.putfield 15, 3) := by decide +kernel
theorem dd_Co_init_20 : decode cc_Co_init 20 = .ok (.aload_n 0, 1) := by decide +kernel
theorem dd_Co_init_21 : decode cc_Co_init 21 = .ok (.aload_n 1, 1) := by decide +kernel
theorem dd_Co_init_22 : decode cc_Co_init 22 = .ok (.putfield 18, 3) := by decide +kernel
theorem dd_Co_init_25 : decode cc_Co_init 25 = .ok (.aload_n 0, 1) := by decide +kernel
theorem dd_Co_init_26 : decode cc_Co_init 26 = .ok (.aload_n 2, 1) := by decide +kernel
theorem dd_Co_init_27 : decode cc_Co_init 27 = .ok (.putfield 22, 3) := by decide +kernel
theorem dd_Co_init_30 : decode cc_Co_init 30 = .ok (.aload_n 0, 1) := by decide +kernel
theorem dd_Co_init_31 : decode cc_Co_init 31 = .ok (.aload_n 3, 1) := by decide +kernel
theorem dd_Co_init_32 : decode cc_Co_init 32 = .ok (.putfield 26, 3) := by decide +kernel
theorem dd_Co_init_35 : decode cc_Co_init 35 = .ok (.return_, 1) := by decide +kernel
theorem dd_Tr_has_0 : decode cc_Tr_has 0 = .ok (.iload_n 1, 1) := by decide +kernel
theorem dd_Tr_has_1 : decode cc_Tr_has 1 = .ok (.ifCond .lt 15, 3) := by decide +kernel
theorem dd_Tr_has_4 : decode cc_Tr_has 4 = .ok (.iload_n 1, 1) := by decide +kernel
theorem dd_Tr_has_5 : decode cc_Tr_has 5 = .ok (.aload_n 0, 1) := by decide +kernel
theorem dd_Tr_has_6 : decode cc_Tr_has 6 = .ok (.getfield 21, 3) := by decide +kernel
theorem dd_Tr_has_9 : decode cc_Tr_has 9 = .ok (.if_icmp .ge 7, 3) := by decide +kernel
theorem dd_Tr_has_12 : decode cc_Tr_has 12 = .ok (.iconst 1, 1) := by decide +kernel
theorem dd_Tr_has_13 : decode cc_Tr_has 13 = .ok (.goto 4, 3) := by decide +kernel
theorem dd_Tr_has_16 : decode cc_Tr_has 16 = .ok (.iconst 0, 1) := by decide +kernel
theorem dd_Tr_has_17 : decode cc_Tr_has 17 = .ok (.ireturn, 1) := by decide +kernel
theorem dd_Ve_isFull_0 : decode cc_Ve_isFull 0 = .ok (.aload_n 0, 1) := by decide +kernel
theorem dd_Ve_isFull_1 : decode cc_Ve_isFull 1 = .ok (.getfield 27, 3) := by decide +kernel
theorem dd_Ve_isFull_4 : decode cc_Ve_isFull 4 = .ok (.bipush 90, 2) := by decide +kernel
theorem dd_Ve_isFull_6 : decode cc_Ve_isFull 6 = .ok (.if_icmp .lt 7, 3) := by decide +kernel
theorem dd_Ve_isFull_9 : decode cc_Ve_isFull 9 = .ok (.iconst 1, 1) := by decide +kernel
theorem dd_Ve_isFull_10 : decode cc_Ve_isFull 10 = .ok (.goto 4, 3) := by decide +kernel
theorem dd_Ve_isFull_13 : decode cc_Ve_isFull 13 = .ok (.iconst 0, 1) := by decide +kernel
theorem dd_Ve_isFull_14 : decode cc_Ve_isFull 14 = .ok (.ireturn, 1) := by decide +kernel
theorem dd_Bo_isFull_0 : decode cc_Bo_isFull 0 = .ok (.aload_n 0, 1) := by decide +kernel
theorem dd_Bo_isFull_1 : decode cc_Bo_isFull 1 = .ok (.getfield 21, 3) := by decide +kernel
theorem dd_Bo_isFull_4 : decode cc_Bo_isFull 4 = .ok (.sipush 800, 3) := by decide +kernel
theorem dd_Bo_isFull_7 : decode cc_Bo_isFull 7 = .ok (.if_icmp .lt 7, 3) := by decide +kernel
theorem dd_Bo_isFull_10 : decode cc_Bo_isFull 10 = .ok (.iconst 1, 1) := by decide +kernel
theorem dd_Bo_isFull_11 : decode cc_Bo_isFull 11 = .ok (.goto 4, 3) := by decide +kernel
theorem dd_Bo_isFull_14 : decode cc_Bo_isFull 14 = .ok (.iconst 0, 1) := by decide +kernel
theorem dd_Bo_isFull_15 : decode cc_Bo_isFull 15 = .ok (.ireturn, 1) := by decide +kernel
theorem dd_Ve_add_0 : decode cc_Ve_add 0 = .ok (.aload_n 0, 1) := by decide +kernel
theorem dd_Ve_add_1 : decode cc_Ve_add 1 = .ok (.getfield 9, 3) := by decide +kernel
theorem dd_Ve_add_4 : decode cc_Ve_add 4 = .ok (.aload_n 0, 1) := by decide +kernel
theorem dd_Ve_add_5 : decode cc_Ve_add 5 = .ok (.getfield 27, 3) := by decide +kernel
theorem dd_Ve_add_8 : decode cc_Ve_add 8 = .ok (.iload_n 1, 1) := by decide +kernel
theorem dd_Ve_add_9 : decode cc_Ve_add 9 = .ok (.iastore, 1) := by decide +kernel
theorem dd_Ve_add_10 : decode cc_Ve_add 10 = .ok (.aload_n 0, 1) := by decide +kernel
theorem dd_Ve_add_11 : decode cc_Ve_add 11 = .ok (.getfield 15, 3) := by decide +kernel
theorem dd_Ve_add_14 : decode cc_Ve_add 14 = .ok (.aload_n 0, 1) := by decide +kernel
theorem dd_Ve_add_15 : decode cc_Ve_add 15 = .ok (.getfield 27, 3) := by decide +kernel
theorem dd_Ve_add_18 : decode cc_Ve_add 18 = .ok (.iload_n 2, 1) := by decide +kernel
theorem dd_Ve_add_19 : decode cc_Ve_add 19 = .ok (.iastore, 1) := by decide +kernel
theorem dd_Ve_add_20 : decode cc_Ve_add 20 = .ok (.aload_n 0, 1) := by decide +kernel
theorem dd_Ve_add_21 : decode cc_Ve_add 21 = .ok (.getfield 18, 3) := by decide +kernel
theorem dd_Ve_add_24 : decode cc_Ve_add 24 = .ok (.aload_n 0, 1) := by decide +kernel
theorem dd_Ve_add_25 : decode cc_Ve_add 25 = .ok (.getfield 27, 3) := by decide +kernel
theorem dd_Ve_add_28 : decode cc_Ve_add 28 = .ok (.iload_n 3, 1) := by decide +kernel
theorem dd_Ve_add_29 : decode cc_Ve_add 29 = .ok (.iastore, 1) := by decide +kernel
theorem dd_Ve_add_30 : decode cc_Ve_add 30 = .ok (.aload_n 0, 1) := by decide +kernel
theorem dd_Ve_add_31 : decode cc_Ve_add 31 = .ok (.getfield 21, 3) := by decide +kernel
theorem dd_Ve_add_34 : decode cc_Ve_add 34 = .ok (.aload_n 0, 1) := by decide +kernel
theorem dd_Ve_add_35 : decode cc_Ve_add 35 = .ok (.getfield 27, 3) := by decide +kernel
theorem dd_Ve_add_38 : decode cc_Ve_add 38 = .ok (.iload 4, 2) := by decide +kernel
theorem dd_Ve_add_40 : decode cc_Ve_add 40 = .ok (.iastore, 1) := by decide +kernel
theorem dd_Ve_add_41 : decode cc_Ve_add 41 = .ok (.aload_n 0, 1) := by decide +kernel
theorem dd_Ve_add_42 : decode cc_Ve_add 42 = .ok (.getfield 24, 3) := by decide +kernel
theorem dd_Ve_add_45 : decode cc_Ve_add 45 = .ok (.aload_n 0, 1) := by decide +kernel
theorem dd_Ve_add_46 : decode cc_Ve_add 46 = .ok (.getfield 27, 3) := by decide +kernel
theorem dd_Ve_add_49 : decode cc_Ve_add 49 = .ok (.iload 5, 2) := by decide +kernel
theorem dd_Ve_add_51 : decode cc_Ve_add 51 = .ok (.iastore, 1) := by decide +kernel
theorem dd_Ve_add_52 : decode cc_Ve_add 52 = .ok (.aload_n 0, 1) := by decide +kernel
theorem dd_Ve_add_53 : decode cc_Ve_add 53 = .ok (.dup, 1) := by decide +kernel
theorem dd_Ve_add_54 : decode cc_Ve_add 54 = .ok (.getfield 27, 3) := by decide +kernel
theorem dd_Ve_add_57 : decode cc_Ve_add 57 = .ok (.iconst 1, 1) := by decide +kernel
theorem dd_Ve_add_58 : decode cc_Ve_add 58 = .ok (.iadd, 1) := by decide +kernel
theorem dd_Ve_add_59 : decode cc_Ve_add 59 = .ok (.putfield 27, 3) := by decide +kernel
theorem dd_Ve_add_62 : decode cc_Ve_add 62 = .ok (.aload_n 0, 1) := by decide +kernel
theorem dd_Ve_add_63 : decode cc_Ve_add 63 = .ok (.getfield 27, 3) := by decide +kernel
theorem dd_Ve_add_66 : decode cc_Ve_add 66 = .ok (.iconst 1, 1) := by decide +kernel
theorem dd_Ve_add_67 : decode cc_Ve_add 67 = .ok (.isub, 1) := by decide +kernel
theorem dd_Ve_add_68 : decode cc_Ve_add 68 = .ok (.ireturn, 1) := by decide +kernel
theorem dd_Bo_post_0 : decode cc_Bo_post 0 = .ok (.aload_n 0, 1) := by decide +kernel
theorem dd_Bo_post_1 : decode cc_Bo_post 1 = .ok (.getfield 9, 3) := by decide +kernel
theorem dd_Bo_post_4 : decode cc_Bo_post 4 = .ok (.aload_n 0, 1) := by decide +kernel
theorem dd_Bo_post_5 : decode cc_Bo_post 5 = .ok (.getfield 21, 3) := by decide +kernel
theorem dd_Bo_post_8 : decode cc_Bo_post 8 = .ok (.iload_n 1, 1) := by decide +kernel
theorem dd_Bo_post_9 : decode cc_Bo_post 9 = .ok (.iastore, 1) := by decide +kernel
theorem dd_Bo_post_10 : decode cc_Bo_post 10 = .ok (.aload_n 0, 1) := by decide +kernel
theorem dd_Bo_post_11 : decode cc_Bo_post 11 = .ok (.getfield 15, 3) := by decide +kernel
theorem dd_Bo_post_14 : decode cc_Bo_post 14 = .ok (.aload_n 0, 1) := by decide +kernel
theorem dd_Bo_post_15 : decode cc_Bo_post 15 = .ok (.getfield 21, 3) := by decide +kernel
theorem dd_Bo_post_18 : decode cc_Bo_post 18 = .ok (.iload_n 2, 1) := by decide +kernel
theorem dd_Bo_post_19 : decode cc_Bo_post 19 = .ok (.iastore, 1) := by decide +kernel
theorem dd_Bo_post_20 : decode cc_Bo_post 20 = .ok (.aload_n 0, 1) := by decide +kernel
theorem dd_Bo_post_21 : decode cc_Bo_post 21 = .ok (.getfield 18, 3) := by decide +kernel
theorem dd_Bo_post_24 : decode cc_Bo_post 24 = .ok (.aload_n 0, 1) := by decide +kernel
theorem dd_Bo_post_25 : decode cc_Bo_post 25 = .ok (.getfield 21, 3) := by decide +kernel
theorem dd_Bo_post_28 : decode cc_Bo_post 28 = .ok (.iload_n 3, 1) := by decide +kernel
theorem dd_Bo_post_29 : decode cc_Bo_post 29 = .ok (.iastore, 1) := by decide +kernel
theorem dd_Bo_post_30 : decode cc_Bo_post 30 = .ok (.aload_n 0, 1) := by decide +kernel
theorem dd_Bo_post_31 : decode cc_Bo_post 31 = .ok (.dup, 1) := by decide +kernel
theorem dd_Bo_post_32 : decode cc_Bo_post 32 = .ok (.getfield 21, 3) := by decide +kernel
theorem dd_Bo_post_35 : decode cc_Bo_post 35 = .ok (.iconst 1, 1) := by decide +kernel
theorem dd_Bo_post_36 : decode cc_Bo_post 36 = .ok (.iadd, 1) := by decide +kernel
theorem dd_Bo_post_37 : decode cc_Bo_post 37 = .ok (.putfield 21, 3) := by decide +kernel
theorem dd_Bo_post_40 : decode cc_Bo_post 40 = .ok (.aload_n 0, 1) := by decide +kernel
theorem dd_Bo_post_41 : decode cc_Bo_post 41 = .ok (.getfield 21, 3) := by decide +kernel
theorem dd_Bo_post_44 : decode cc_Bo_post 44 = .ok (.iconst 1, 1) := by decide +kernel
theorem dd_Bo_post_45 : decode cc_Bo_post 45 = .ok (.isub, 1) := by decide +kernel
theorem dd_Bo_post_46 : decode cc_Bo_post 46 = .ok (.ireturn, 1) := by decide +kernel
theorem dd_Ve_has_0 : decode cc_Ve_has 0 = .ok (.iload_n 1, 1) := by decide +kernel
theorem dd_Ve_has_1 : decode cc_Ve_has 1 = .ok (.ifCond .lt 15, 3) := by decide +kernel
theorem dd_Ve_has_4 : decode cc_Ve_has 4 = .ok (.iload_n 1, 1) := by decide +kernel
theorem dd_Ve_has_5 : decode cc_Ve_has 5 = .ok (.aload_n 0, 1) := by decide +kernel
theorem dd_Ve_has_6 : decode cc_Ve_has 6 = .ok (.getfield 27, 3) := by decide +kernel
theorem dd_Ve_has_9 : decode cc_Ve_has 9 = .ok (.if_icmp .ge 7, 3) := by decide +kernel
theorem dd_Ve_has_12 : decode cc_Ve_has 12 = .ok (.iconst 1, 1) := by decide +kernel
theorem dd_Ve_has_13 : decode cc_Ve_has 13 = .ok (.goto 4, 3) := by decide +kernel
theorem dd_Ve_has_16 : decode cc_Ve_has 16 = .ok (.iconst 0, 1) := by decide +kernel
theorem dd_Ve_has_17 : decode cc_Ve_has 17 = .ok (.ireturn, 1) := by decide +kernel
theorem dd_Bo_has_0 : decode cc_Bo_has 0 = .ok (.iload_n 1, 1) := by decide +kernel
theorem dd_Bo_has_1 : decode cc_Bo_has 1 = .ok (.ifCond .lt 15, 3) := by decide +kernel
theorem dd_Bo_has_4 : decode cc_Bo_has 4 = .ok (.iload_n 1, 1) := by decide +kernel
theorem dd_Bo_has_5 : decode cc_Bo_has 5 = .ok (.aload_n 0, 1) := by decide +kernel
theorem dd_Bo_has_6 : decode cc_Bo_has 6 = .ok (.getfield 21, 3) := by decide +kernel
theorem dd_Bo_has_9 : decode cc_Bo_has 9 = .ok (.if_icmp .ge 7, 3) := by decide +kernel
theorem dd_Bo_has_12 : decode cc_Bo_has 12 = .ok (.iconst 1, 1) := by decide +kernel
theorem dd_Bo_has_13 : decode cc_Bo_has 13 = .ok (.goto 4, 3) := by decide +kernel
theorem dd_Bo_has_16 : decode cc_Bo_has 16 = .ok (.iconst 0, 1) := by decide +kernel
theorem dd_Bo_has_17 : decode cc_Bo_has 17 = .ok (.ireturn, 1) := by decide +kernel
theorem dd_Tr_isFull_0 : decode cc_Tr_isFull 0 = .ok (.aload_n 0, 1) := by decide +kernel
theorem dd_Tr_isFull_1 : decode cc_Tr_isFull 1 = .ok (.getfield 21, 3) := by decide +kernel
theorem dd_Tr_isFull_4 : decode cc_Tr_isFull 4 = .ok (.bipush 40, 2) := by decide +kernel
theorem dd_Tr_isFull_6 : decode cc_Tr_isFull 6 = .ok (.if_icmp .lt 7, 3) := by decide +kernel
theorem dd_Tr_isFull_9 : decode cc_Tr_isFull 9 = .ok (.iconst 1, 1) := by decide +kernel
theorem dd_Tr_isFull_10 : decode cc_Tr_isFull 10 = .ok (.goto 4, 3) := by decide +kernel
theorem dd_Tr_isFull_13 : decode cc_Tr_isFull 13 = .ok (.iconst 0, 1) := by decide +kernel
theorem dd_Tr_isFull_14 : decode cc_Tr_isFull 14 = .ok (.ireturn, 1) := by decide +kernel
theorem dd_No_clear_0 : decode cc_No_clear 0 = .ok (.aload_n 0, 1) := by decide +kernel
theorem dd_No_clear_1 : decode cc_No_clear 1 = .ok (.getfield 9, 3) := by decide +kernel
theorem dd_No_clear_4 : decode cc_No_clear 4 = .ok (.iconst 0, 1) := by decide +kernel
theorem dd_No_clear_5 : decode cc_No_clear 5 = .ok (.invokestatic 31, 3) := by decide +kernel
theorem dd_No_clear_8 : decode cc_No_clear 8 = .ok (.aload_n 0, 1) := by decide +kernel
theorem dd_No_clear_9 : decode cc_No_clear 9 = .ok (.getfield 15, 3) := by decide +kernel
theorem dd_No_clear_12 : decode cc_No_clear 12 = .ok (.iconst 0, 1) := by decide +kernel
theorem dd_No_clear_13 : decode cc_No_clear 13 = .ok (.invokestatic 31, 3) := by decide +kernel
theorem dd_No_clear_16 : decode cc_No_clear 16 = .ok (.aload_n 0, 1) := by decide +kernel
theorem dd_No_clear_17 : decode cc_No_clear 17 = .ok (.iconst 0, 1) := by decide +kernel
theorem dd_No_clear_18 : decode cc_No_clear 18 = .ok (.putfield 27, 3) := by decide +kernel
theorem dd_No_clear_21 : decode cc_No_clear 21 = .ok (.return_, 1) := by decide +kernel
theorem dd_Dg_clear_0 : decode cc_Dg_clear 0 = .ok (.aload_n 0, 1) := by decide +kernel
theorem dd_Dg_clear_1 : decode cc_Dg_clear 1 = .ok (.getfield 9, 3) := by decide +kernel
theorem dd_Dg_clear_4 : decode cc_Dg_clear 4 = .ok (.iconst (-1), 1) := by decide +kernel
theorem dd_Dg_clear_5 : decode cc_Dg_clear 5 = .ok (.invokestatic 22, 3) := by decide +kernel
theorem dd_Dg_clear_8 : decode cc_Dg_clear 8 = .ok (.aload_n 0, 1) := by decide +kernel
theorem dd_Dg_clear_9 : decode cc_Dg_clear 9 = .ok (.getfield 15, 3) := by decide +kernel
theorem dd_Dg_clear_12 : decode cc_Dg_clear 12 = .ok (.iconst 0, 1) := by decide +kernel
theorem dd_Dg_clear_13 : decode cc_Dg_clear 13 = .ok (.invokestatic 22, 3) := by decide +kernel
theorem dd_Dg_clear_16 : decode cc_Dg_clear 16 = .ok (.aload_n 0, 1) := by decide +kernel
theorem dd_Dg_clear_17 : decode cc_Dg_clear 17 = .ok (.iconst 0, 1) := by decide +kernel
theorem dd_Dg_clear_18 : decode cc_Dg_clear 18 = .ok (.putfield 47, 3) := by decide +kernel
theorem dd_Dg_clear_21 : decode cc_Dg_clear 21 = .ok (.return_, 1) := by decide +kernel
theorem dd_Co_clear_0 : decode cc_Co_clear 0 = .ok (.aload_n 0, 1) := by decide +kernel
theorem dd_Co_clear_1 : decode cc_Co_clear 1 = .ok (.getfield 9, 3) := by decide +kernel
theorem dd_Co_clear_4 : decode cc_Co_clear 4 = .ok (.iconst 0, 1) := by decide +kernel
theorem dd_Co_clear_5 : decode cc_Co_clear 5 = .ok (.invokestatic 85, 3) := by decide +kernel
theorem dd_Co_clear_8 : decode cc_Co_clear 8 = .ok (.aload_n 0, 1) := by decide +kernel
theorem dd_Co_clear_9 : decode cc_Co_clear 9 = .ok (.iconst 0, 1) := by decide +kernel
theorem dd_Co_clear_10 : decode cc_Co_clear 10 = .ok (.putfield 38, 3) := by decide +kernel
theorem dd_Co_clear_13 : decode cc_Co_clear 13 = .ok (.return_, 1) := by decide +kernel
theorem dd_Bk_clear_0 : decode cc_Bk_clear 0 = .ok (.aload_n 0, 1) := by decide +kernel
theorem dd_Bk_clear_1 : decode cc_Bk_clear 1 = .ok (.getfield 15, 3) := by decide +kernel
theorem dd_Bk_clear_4 : decode cc_Bk_clear 4 = .ok (.iconst 0, 1) := by decide +kernel
theorem dd_Bk_clear_5 : decode cc_Bk_clear 5 = .ok (.invokestatic 22, 3) := by decide +kernel
theorem dd_Bk_clear_8 : decode cc_Bk_clear 8 = .ok (.aload_n 0, 1) := by decide +kernel
theorem dd_Bk_clear_9 : decode cc_Bk_clear 9 = .ok (.iconst 0, 1) := by decide +kernel
theorem dd_Bk_clear_10 : decode cc_Bk_clear 10 = .ok (.putfield 32, 3) := by decide +kernel
theorem dd_Bk_clear_13 : decode cc_Bk_clear 13 = .ok (.aload_n 0, 1) := by decide +kernel
theorem dd_Bk_clear_14 : decode cc_Bk_clear 14 = .ok (.lconst 0, 1) := by decide +kernel
theorem dd_Bk_clear_15 : decode cc_Bk_clear 15 = .ok (.putfield 28, 3) := by decide +kernel
theorem dd_Bk_clear_18 : decode cc_Bk_clear 18 = .ok (.return_, 1) := by decide +kernel
theorem dd_Tr_add_0 : decode cc_Tr_add 0 = .ok (.aload_n 0, 1) := by decide +kernel
theorem dd_Tr_add_1 : decode cc_Tr_add 1 = .ok (.getfield 9, 3) := by decide +kernel
theorem dd_Tr_add_4 : decode cc_Tr_add 4 = .ok (.aload_n 0, 1) := by decide +kernel
theorem dd_Tr_add_5 : decode cc_Tr_add 5 = .ok (.getfield 21, 3) := by decide +kernel
theorem dd_Tr_add_8 : decode cc_Tr_add 8 = .ok (.iload_n 1, 1) := by decide +kernel
theorem dd_Tr_add_9 : decode cc_Tr_add 9 = .ok (.iastore, 1) := by decide +kernel
theorem dd_Tr_add_10 : decode cc_Tr_add 10 = .ok (.aload_n 0, 1) := by decide +kernel
theorem dd_Tr_add_11 : decode cc_Tr_add 11 = .ok (.getfield 15, 3) := by decide +kernel
theorem dd_Tr_add_14 : decode cc_Tr_add 14 = .ok (.aload_n 0, 1) := by decide +kernel
theorem dd_Tr_add_15 : decode cc_Tr_add 15 = .ok (.getfield 21, 3) := by decide +kernel
theorem dd_Tr_add_18 : decode cc_Tr_add 18 = .ok (.iload_n 2, 1) := by decide +kernel
theorem dd_Tr_add_19 : decode cc_Tr_add 19 = .ok (.iastore, 1) := by decide +kernel
theorem dd_Tr_add_20 : decode cc_Tr_add 20 = .ok (.aload_n 0, 1) := by decide +kernel
theorem dd_Tr_add_21 : decode cc_Tr_add 21 = .ok (.getfield 18, 3) := by decide +kernel
theorem dd_Tr_add_24 : decode cc_Tr_add 24 = .ok (.aload_n 0, 1) := by decide +kernel
theorem dd_Tr_add_25 : decode cc_Tr_add 25 = .ok (.getfield 21, 3) := by decide +kernel
theorem dd_Tr_add_28 : decode cc_Tr_add 28 = .ok (.iload_n 3, 1) := by decide +kernel
theorem dd_Tr_add_29 : decode cc_Tr_add 29 = .ok (.iastore, 1) := by decide +kernel
theorem dd_Tr_add_30 : decode cc_Tr_add 30 = .ok (.aload_n 0, 1) := by decide +kernel
theorem dd_Tr_add_31 : decode cc_Tr_add 31 = .ok (.dup, 1) := by decide +kernel
theorem dd_Tr_add_32 : decode cc_Tr_add 32 = .ok (.getfield 21, 3) := by decide +kernel
theorem dd_Tr_add_35 : decode cc_Tr_add 35 = .ok (.iconst 1, 1) := by decide +kernel
theorem dd_Tr_add_36 : decode cc_Tr_add 36 = .ok (.iadd, 1) := by decide +kernel
theorem dd_Tr_add_37 : decode cc_Tr_add 37 = .ok (.putfield 21, 3) := by decide +kernel
theorem dd_Tr_add_40 : decode cc_Tr_add 40 = .ok (.aload_n 0, 1) := by decide +kernel
theorem dd_Tr_add_41 : decode cc_Tr_add 41 = .ok (.getfield 21, 3) := by decide +kernel
theorem dd_Tr_add_44 : decode cc_Tr_add 44 = .ok (.iconst 1, 1) := by decide +kernel
theorem dd_Tr_add_45 : decode cc_Tr_add 45 = .ok (.isub, 1) := by decide +kernel
theorem dd_Tr_add_46 : decode cc_Tr_add 46 = .ok (.ireturn, 1) := by decide +kernel
theorem dd_Di_keepTransfer_0 : decode cc_Di_keepTransfer 0 = .ok (.aload_n 0, 1) := by decide +kernel
theorem dd_Di_keepTransfer_1 : decode cc_Di_keepTransfer 1 = .ok (.getfield 9, 3) := by decide +kernel
theorem dd_Di_keepTransfer_4 : decode cc_Di_keepTransfer 4 = .ok (.aload_n 0, 1) := by decide +kernel
theorem dd_Di_keepTransfer_5 : decode cc_Di_keepTransfer 5 = .ok (.getfield 21, 3) := by decide +kernel
theorem dd_Di_keepTransfer_8 : decode cc_Di_keepTransfer 8 = .ok (.iload_n 1, 1) := by decide +kernel
theorem dd_Di_keepTransfer_9 : decode cc_Di_keepTransfer 9 = .ok (.iastore, 1) := by decide +kernel
theorem dd_Di_keepTransfer_10 : decode cc_Di_keepTransfer 10 = .ok (.aload_n 0, 1) := by decide +kernel
theorem dd_Di_keepTransfer_11 : decode cc_Di_keepTransfer 11 = .ok (.dup, 1) := by decide +kernel
theorem dd_Di_keepTransfer_12 : decode cc_Di_keepTransfer 12 = .ok (.getfield 21, 3) := by decide +kernel
theorem dd_Di_keepTransfer_15 : decode cc_Di_keepTransfer 15 = .ok (.iconst 1, 1) := by decide +kernel
theorem dd_Di_keepTransfer_16 : decode cc_Di_keepTransfer 16 = .ok (.iadd, 1) := by decide +kernel
theorem dd_Di_keepTransfer_17 : decode cc_Di_keepTransfer 17 = .ok (.putfield 21, 3) := by decide +kernel
theorem dd_Di_keepTransfer_20 : decode cc_Di_keepTransfer 20 = .ok (.return_, 1) := by decide +kernel
theorem dd_Ve_isWellFormed_0 : decode cc_Ve_isWellFormed 0 = .ok (.aload_n 0, 1) := by decide +kernel
theorem dd_Ve_isWellFormed_1 : decode cc_Ve_isWellFormed 1 = .ok (.getfield 15, 3) := by decide +kernel
theorem dd_Ve_isWellFormed_4 : decode cc_Ve_isWellFormed 4 = .ok (.iload_n 1, 1) := by decide +kernel
theorem dd_Ve_isWellFormed_5 : decode cc_Ve_isWellFormed 5 = .ok (.iaload, 1) := by decide +kernel
theorem dd_Ve_isWellFormed_6 : decode cc_Ve_isWellFormed 6 = .ok (.iconst 1, 1) := by decide +kernel
theorem dd_Ve_isWellFormed_7 : decode cc_Ve_isWellFormed 7 = .ok (.if_icmp .ne 18, 3) := by decide +kernel
theorem dd_Ve_isWellFormed_10 : decode cc_Ve_isWellFormed 10 = .ok (.aload_n 0, 1) := by decide +kernel
theorem dd_Ve_isWellFormed_11 : decode cc_Ve_isWellFormed 11 = .ok (.getfield 18, 3) := by decide +kernel
theorem dd_Ve_isWellFormed_14 : decode cc_Ve_isWellFormed 14 = .ok (.iload_n 1, 1) := by decide +kernel
theorem dd_Ve_isWellFormed_15 : decode cc_Ve_isWellFormed 15 = .ok (.iaload, 1) := by decide +kernel
theorem dd_Ve_isWellFormed_16 : decode cc_Ve_isWellFormed 16 = .ok (.ifCond .ne 7, 3) := by decide +kernel
theorem dd_Ve_isWellFormed_19 : decode cc_Ve_isWellFormed 19 = .ok (.iconst 1, 1) := by decide +kernel
theorem dd_Ve_isWellFormed_20 : decode cc_Ve_isWellFormed 20 = .ok (.goto 4, 3) := by decide +kernel
theorem dd_Ve_isWellFormed_23 : decode cc_Ve_isWellFormed 23 = .ok (.iconst 0, 1) := by decide +kernel
theorem dd_Ve_isWellFormed_24 : decode cc_Ve_isWellFormed 24 = .ok (.ireturn, 1) := by decide +kernel
theorem dd_Ve_isWellFormed_25 : decode cc_Ve_isWellFormed 25 = .ok (.aload_n 0, 1) := by decide +kernel
theorem dd_Ve_isWellFormed_26 : decode cc_Ve_isWellFormed 26 = .ok (.getfield 18, 3) := by decide +kernel
theorem dd_Ve_isWellFormed_29 : decode cc_Ve_isWellFormed 29 = .ok (.iload_n 1, 1) := by decide +kernel
theorem dd_Ve_isWellFormed_30 : decode cc_Ve_isWellFormed 30 = .ok (.iaload, 1) := by decide +kernel
theorem dd_Ve_isWellFormed_31 : decode cc_Ve_isWellFormed 31 = .ok (.invokestatic 31, 3) := by decide +kernel
theorem dd_Ve_isWellFormed_34 : decode cc_Ve_isWellFormed 34 = .ok (.iconst 3, 1) := by decide +kernel
theorem dd_Ve_isWellFormed_35 : decode cc_Ve_isWellFormed 35 = .ok (.if_icmp .lt 7, 3) := by decide +kernel
theorem dd_Ve_isWellFormed_38 : decode cc_Ve_isWellFormed 38 = .ok (.iconst 1, 1) := by decide +kernel
theorem dd_Ve_isWellFormed_39 : decode cc_Ve_isWellFormed 39 = .ok (.goto 4, 3) := by decide +kernel
theorem dd_Ve_isWellFormed_42 : decode cc_Ve_isWellFormed 42 = .ok (.iconst 0, 1) := by decide +kernel
theorem dd_Ve_isWellFormed_43 : decode cc_Ve_isWellFormed 43 = .ok (.ireturn, 1) := by decide +kernel
theorem dd_In_bitCount_0 : decode cc_In_bitCount 0 = .ok (.iload_n 0, 1) := by decide +kernel
theorem dd_In_bitCount_1 : decode cc_In_bitCount 1 = .ok (.iload_n 0, 1) := by decide +kernel
theorem dd_In_bitCount_2 : decode cc_In_bitCount 2 = .ok (.iconst 1, 1) := by decide +kernel
theorem dd_In_bitCount_3 : decode cc_In_bitCount 3 = .ok (.iushr, 1) := by decide +kernel
theorem dd_In_bitCount_4 : decode cc_In_bitCount 4 = .ok (.ldc_w 265, 3) := by decide +kernel
theorem dd_In_bitCount_7 : decode cc_In_bitCount 7 = .ok (.iand, 1) := by decide +kernel
theorem dd_In_bitCount_8 : decode cc_In_bitCount 8 = .ok (.isub, 1) := by decide +kernel
theorem dd_In_bitCount_9 : decode cc_In_bitCount 9 = .ok (.istore_n 0, 1) := by decide +kernel
theorem dd_In_bitCount_10 : decode cc_In_bitCount 10 = .ok (.iload_n 0, 1) := by decide +kernel
theorem dd_In_bitCount_11 : decode cc_In_bitCount 11 = .ok (.ldc_w 266, 3) := by decide +kernel
theorem dd_In_bitCount_14 : decode cc_In_bitCount 14 = .ok (.iand, 1) := by decide +kernel
theorem dd_In_bitCount_15 : decode cc_In_bitCount 15 = .ok (.iload_n 0, 1) := by decide +kernel
theorem dd_In_bitCount_16 : decode cc_In_bitCount 16 = .ok (.iconst 2, 1) := by decide +kernel
theorem dd_In_bitCount_17 : decode cc_In_bitCount 17 = .ok (.iushr, 1) := by decide +kernel
theorem dd_In_bitCount_18 : decode cc_In_bitCount 18 = .ok (.ldc_w 266, 3) := by decide +kernel
theorem dd_In_bitCount_21 : decode cc_In_bitCount 21 = .ok (.iand, 1) := by decide +kernel
theorem dd_In_bitCount_22 : decode cc_In_bitCount 22 = .ok (.iadd, 1) := by decide +kernel
theorem dd_In_bitCount_23 : decode cc_In_bitCount 23 = .ok (.istore_n 0, 1) := by decide +kernel
theorem dd_In_bitCount_24 : decode cc_In_bitCount 24 = .ok (.iload_n 0, 1) := by decide +kernel
theorem dd_In_bitCount_25 : decode cc_In_bitCount 25 = .ok (.iload_n 0, 1) := by decide +kernel
theorem dd_In_bitCount_26 : decode cc_In_bitCount 26 = .ok (.iconst 4, 1) := by decide +kernel
theorem dd_In_bitCount_27 : decode cc_In_bitCount 27 = .ok (.iushr, 1) := by decide +kernel
theorem dd_In_bitCount_28 : decode cc_In_bitCount 28 = .ok (.iadd, 1) := by decide +kernel
theorem dd_In_bitCount_29 : decode cc_In_bitCount 29 = .ok (.ldc_w 267, 3) := by decide +kernel
theorem dd_In_bitCount_32 : decode cc_In_bitCount 32 = .ok (.iand, 1) := by decide +kernel
theorem dd_In_bitCount_33 : decode cc_In_bitCount 33 = .ok (.istore_n 0, 1) := by decide +kernel
theorem dd_In_bitCount_34 : decode cc_In_bitCount 34 = .ok (.iload_n 0, 1) := by decide +kernel
theorem dd_In_bitCount_35 : decode cc_In_bitCount 35 = .ok (.iload_n 0, 1) := by decide +kernel
theorem dd_In_bitCount_36 : decode cc_In_bitCount 36 = .ok (.bipush 8, 2) := by decide +kernel
theorem dd_In_bitCount_38 : decode cc_In_bitCount 38 = .ok (.iushr, 1) := by decide +kernel
theorem dd_In_bitCount_39 : decode cc_In_bitCount 39 = .ok (.iadd, 1) := by decide +kernel
theorem dd_In_bitCount_40 : decode cc_In_bitCount 40 = .ok (.istore_n 0, 1) := by decide +kernel
theorem dd_In_bitCount_41 : decode cc_In_bitCount 41 = .ok (.iload_n 0, 1) := by decide +kernel
theorem dd_In_bitCount_42 : decode cc_In_bitCount 42 = .ok (.iload_n 0, 1) := by decide +kernel
theorem dd_In_bitCount_43 : decode cc_In_bitCount 43 = .ok (.bipush 16, 2) := by decide +kernel
theorem dd_In_bitCount_45 : decode cc_In_bitCount 45 = .ok (.iushr, 1) := by decide +kernel
theorem dd_In_bitCount_46 : decode cc_In_bitCount 46 = .ok (.iadd, 1) := by decide +kernel
theorem dd_In_bitCount_47 : decode cc_In_bitCount 47 = .ok (.istore_n 0, 1) := by decide +kernel
theorem dd_In_bitCount_48 : decode cc_In_bitCount 48 = .ok (.iload_n 0, 1) := by decide +kernel
theorem dd_In_bitCount_49 : decode cc_In_bitCount 49 = .ok (.bipush 63, 2) := by decide +kernel
theorem dd_In_bitCount_51 : decode cc_In_bitCount 51 = .ok (.iand, 1) := by decide +kernel
theorem dd_In_bitCount_52 : decode cc_In_bitCount 52 = .ok (.ireturn, 1) := by decide +kernel
theorem dd_No_noteEcho_0 : decode cc_No_noteEcho 0 = .ok (.aload_n 0, 1) := by decide +kernel
theorem dd_No_noteEcho_1 : decode cc_No_noteEcho 1 = .ok (.getfield 9, 3) := by decide +kernel
theorem dd_No_noteEcho_4 : decode cc_No_noteEcho 4 = .ok (.iload_n 1, 1) := by decide +kernel
theorem dd_No_noteEcho_5 : decode cc_No_noteEcho 5 = .ok (.dup2, 1) := by decide +kernel
theorem dd_No_noteEcho_6 : decode cc_No_noteEcho 6 = .ok (.iaload, 1) := by decide +kernel
theorem dd_No_noteEcho_7 : decode cc_No_noteEcho 7 = .ok (.iconst 1, 1) := by decide +kernel
theorem dd_No_noteEcho_8 : decode cc_No_noteEcho 8 = .ok (.iload_n 2, 1) := by decide +kernel
theorem dd_No_noteEcho_9 : decode cc_No_noteEcho 9 = .ok (.ishl, 1) := by decide +kernel
theorem dd_No_noteEcho_10 : decode cc_No_noteEcho 10 = .ok (.ior, 1) := by decide +kernel
theorem dd_No_noteEcho_11 : decode cc_No_noteEcho 11 = .ok (.iastore, 1) := by decide +kernel
theorem dd_No_noteEcho_12 : decode cc_No_noteEcho 12 = .ok (.aload_n 0, 1) := by decide +kernel
theorem dd_No_noteEcho_13 : decode cc_No_noteEcho 13 = .ok (.getfield 9, 3) := by decide +kernel
theorem dd_No_noteEcho_16 : decode cc_No_noteEcho 16 = .ok (.iload_n 1, 1) := by decide +kernel
theorem dd_No_noteEcho_17 : decode cc_No_noteEcho 17 = .ok (.iaload, 1) := by decide +kernel
theorem dd_No_noteEcho_18 : decode cc_No_noteEcho 18 = .ok (.invokestatic 21, 3) := by decide +kernel
theorem dd_No_noteEcho_21 : decode cc_No_noteEcho 21 = .ok (.ireturn, 1) := by decide +kernel
theorem dd_No_noteReady_0 : decode cc_No_noteReady 0 = .ok (.aload_n 0, 1) := by decide +kernel
theorem dd_No_noteReady_1 : decode cc_No_noteReady 1 = .ok (.getfield 15, 3) := by decide +kernel
theorem dd_No_noteReady_4 : decode cc_No_noteReady 4 = .ok (.iload_n 1, 1) := by decide +kernel
theorem dd_No_noteReady_5 : decode cc_No_noteReady 5 = .ok (.iaload, 1) := by decide +kernel
theorem dd_No_noteReady_6 : decode cc_No_noteReady 6 = .ok (.invokestatic 21, 3) := by decide +kernel
theorem dd_No_noteReady_9 : decode cc_No_noteReady 9 = .ok (.istore_n 3, 1) := by decide +kernel
theorem dd_No_noteReady_10 : decode cc_No_noteReady 10 = .ok (.aload_n 0, 1) := by decide +kernel
theorem dd_No_noteReady_11 : decode cc_No_noteReady 11 = .ok (.getfield 15, 3) := by decide +kernel
theorem dd_No_noteReady_14 : decode cc_No_noteReady 14 = .ok (.iload_n 1, 1) := by decide +kernel
theorem dd_No_noteReady_15 : decode cc_No_noteReady 15 = .ok (.dup2, 1) := by decide +kernel
theorem dd_No_noteReady_16 : decode cc_No_noteReady 16 = .ok (.iaload, 1) := by decide +kernel
theorem dd_No_noteReady_17 : decode cc_No_noteReady 17 = .ok (.iconst 1, 1) := by decide +kernel
theorem dd_No_noteReady_18 : decode cc_No_noteReady 18 = .ok (.iload_n 2, 1) := by decide +kernel
theorem dd_No_noteReady_19 : decode cc_No_noteReady 19 = .ok (.ishl, 1) := by decide +kernel
theorem dd_No_noteReady_20 : decode cc_No_noteReady 20 = .ok (.ior, 1) := by decide +kernel
theorem dd_No_noteReady_21 : decode cc_No_noteReady 21 = .ok (.iastore, 1) := by decide +kernel
theorem dd_No_noteReady_22 : decode cc_No_noteReady 22 = .ok (.aload_n 0, 1) := by decide +kernel
theorem dd_No_noteReady_23 : decode cc_No_noteReady 23 = .ok (.getfield 15, 3) := by decide +kernel
theorem dd_No_noteReady_26 : decode cc_No_noteReady 26 = .ok (.iload_n 1, 1) := by decide +kernel
theorem dd_No_noteReady_27 : decode cc_No_noteReady 27 = .ok (.iaload, 1) := by decide +kernel
theorem dd_No_noteReady_28 : decode cc_No_noteReady 28 = .ok (.invokestatic 21, 3) := by decide +kernel
theorem dd_No_noteReady_31 : decode cc_No_noteReady 31 = .ok (.istore 4, 2) := by decide +kernel
theorem dd_No_noteReady_33 : decode cc_No_noteReady 33 = .ok (.iload_n 3, 1) := by decide +kernel
theorem dd_No_noteReady_34 : decode cc_No_noteReady 34 = .ok (.iconst 3, 1) := by decide +kernel
theorem dd_No_noteReady_35 : decode cc_No_noteReady 35 = .ok (.if_icmp .ge 29, 3) := by decide +kernel
theorem dd_No_noteReady_38 : decode cc_No_noteReady 38 = .ok (.iload 4, 2) := by decide +kernel
theorem dd_No_noteReady_40 : decode cc_No_noteReady 40 = .ok (.iconst 3, 1) := by decide +kernel
theorem dd_No_noteReady_41 : decode cc_No_noteReady 41 = .ok (.if_icmp .lt 23, 3) := by decide +kernel
theorem dd_No_noteReady_44 : decode cc_No_noteReady 44 = .ok (.aload_n 0, 1) := by decide +kernel
theorem dd_No_noteReady_45 : decode cc_No_noteReady 45 = .ok (.getfield 18, 3) := by decide +kernel
theorem dd_No_noteReady_48 : decode cc_No_noteReady 48 = .ok (.aload_n 0, 1) := by decide +kernel
theorem dd_No_noteReady_49 : decode cc_No_noteReady 49 = .ok (.getfield 27, 3) := by decide +kernel
theorem dd_No_noteReady_52 : decode cc_No_noteReady 52 = .ok (.iload_n 1, 1) := by decide +kernel
theorem dd_No_noteReady_53 : decode cc_No_noteReady 53 = .ok (.iastore, 1) := by decide +kernel
theorem dd_No_noteReady_54 : decode cc_No_noteReady 54 = .ok (.aload_n 0, 1) := by decide +kernel
theorem dd_No_noteReady_55 : decode cc_No_noteReady 55 = .ok (.dup, 1) := by decide +kernel
theorem dd_No_noteReady_56 : decode cc_No_noteReady 56 = .ok (.getfield 27, 3) := by decide +kernel
theorem dd_No_noteReady_59 : decode cc_No_noteReady 59 = .ok (.iconst 1, 1) := by decide +kernel
theorem dd_No_noteReady_60 : decode cc_No_noteReady 60 = .ok (.iadd, 1) := by decide +kernel
theorem dd_No_noteReady_61 : decode cc_No_noteReady 61 = .ok (.putfield 27, 3) := by decide +kernel
theorem dd_No_noteReady_64 : decode cc_No_noteReady 64 = .ok (.iload 4, 2) := by decide +kernel
theorem dd_No_noteReady_66 : decode cc_No_noteReady 66 = .ok (.ireturn, 1) := by decide +kernel
theorem dd_Dg_canTake_0 : decode cc_Dg_canTake 0 = .ok (.aload_n 0, 1) := by decide +kernel
theorem dd_Dg_canTake_1 : decode cc_Dg_canTake 1 = .ok (.getfield 18, 3) := by decide +kernel
theorem dd_Dg_canTake_4 : decode cc_Dg_canTake 4 = .ok (.getfield 28, 3) := by decide +kernel
theorem dd_Dg_canTake_7 : decode cc_Dg_canTake 7 = .ok (.iload_n 1, 1) := by decide +kernel
theorem dd_Dg_canTake_8 : decode cc_Dg_canTake 8 = .ok (.iaload, 1) := by decide +kernel
theorem dd_Dg_canTake_9 : decode cc_Dg_canTake 9 = .ok (.istore_n 2, 1) := by decide +kernel
theorem dd_Dg_canTake_10 : decode cc_Dg_canTake 10 = .ok (.aload_n 0, 1) := by decide +kernel
theorem dd_Dg_canTake_11 : decode cc_Dg_canTake 11 = .ok (.getfield 18, 3) := by decide +kernel
theorem dd_Dg_canTake_14 : decode cc_Dg_canTake 14 = .ok (.iload_n 1, 1) := by decide +kernel
theorem dd_Dg_canTake_15 : decode cc_Dg_canTake 15 = .ok (.invokevirtual 33, 3) := by decide +kernel
theorem dd_Dg_canTake_18 : decode cc_Dg_canTake 18 = .ok (.ifCond .eq 47, 3) := by decide +kernel
theorem dd_Dg_canTake_21 : decode cc_Dg_canTake 21 = .ok (.aload_n 0, 1) := by decide +kernel
theorem dd_Dg_canTake_22 : decode cc_Dg_canTake 22 = .ok (.aload_n 0, 1) := by decide +kernel
theorem dd_Dg_canTake_23 : decode cc_Dg_canTake 23 = .ok (.getfield 18, 3) := by decide +kernel
theorem dd_Dg_canTake_26 : decode cc_Dg_canTake 26 = .ok (.getfield 37, 3) := by decide +kernel
theorem dd_Dg_canTake_29 : decode cc_Dg_canTake 29 = .ok (.iload_n 1, 1) := by decide +kernel
theorem dd_Dg_canTake_30 : decode cc_Dg_canTake 30 = .ok (.iaload, 1) := by decide +kernel
theorem dd_Dg_canTake_31 : decode cc_Dg_canTake 31 = .ok (.iload_n 2, 1) := by decide +kernel
theorem dd_Dg_canTake_32 : decode cc_Dg_canTake 32 = .ok (.invokevirtual 40, 3) := by decide +kernel
theorem dd_Dg_canTake_35 : decode cc_Dg_canTake 35 = .ok (.ifCond .ne 30, 3) := by decide +kernel
theorem dd_Dg_canTake_38 : decode cc_Dg_canTake 38 = .ok (.aload_n 0, 1) := by decide +kernel
theorem dd_Dg_canTake_39 : decode cc_Dg_canTake 39 = .ok (.getfield 18, 3) := by decide +kernel
theorem dd_Dg_canTake_42 : decode cc_Dg_canTake 42 = .ok (.getfield 44, 3) := by decide +kernel
theorem dd_Dg_canTake_45 : decode cc_Dg_canTake 45 = .ok (.iload_n 1, 1) := by decide +kernel
theorem dd_Dg_canTake_46 : decode cc_Dg_canTake 46 = .ok (.iaload, 1) := by decide +kernel
theorem dd_Dg_canTake_47 : decode cc_Dg_canTake 47 = .ok (.aload_n 0, 1) := by decide +kernel
theorem dd_Dg_canTake_48 : decode cc_Dg_canTake 48 = .ok (.getfield 15, 3) := by decide +kernel
theorem dd_Dg_canTake_51 : decode cc_Dg_canTake 51 = .ok (.iload_n 2, 1) := by decide +kernel
theorem dd_Dg_canTake_52 : decode cc_Dg_canTake 52 = .ok (.iconst 1, 1) := by decide +kernel
theorem dd_Dg_canTake_53 : decode cc_Dg_canTake 53 = .ok (.isub, 1) := by decide +kernel
theorem dd_Dg_canTake_54 : decode cc_Dg_canTake 54 = .ok (.iaload, 1) := by decide +kernel
theorem dd_Dg_canTake_55 : decode cc_Dg_canTake 55 = .ok (.iconst (-1), 1) := by decide +kernel
theorem dd_Dg_canTake_56 : decode cc_Dg_canTake 56 = .ok (.ixor, 1) := by decide +kernel
theorem dd_Dg_canTake_57 : decode cc_Dg_canTake 57 = .ok (.iand, 1) := by decide +kernel
theorem dd_Dg_canTake_58 : decode cc_Dg_canTake 58 = .ok (.ifCond .ne 7, 3) := by decide +kernel
theorem dd_Dg_canTake_61 : decode cc_Dg_canTake 61 = .ok (.iconst 1, 1) := by decide +kernel
theorem dd_Dg_canTake_62 : decode cc_Dg_canTake 62 = .ok (.goto 4, 3) := by decide +kernel
theorem dd_Dg_canTake_65 : decode cc_Dg_canTake 65 = .ok (.iconst 0, 1) := by decide +kernel
theorem dd_Dg_canTake_66 : decode cc_Dg_canTake 66 = .ok (.ireturn, 1) := by decide +kernel
theorem dd_Dg_holds_0 : decode cc_Dg_holds 0 = .ok (.aload_n 0, 1) := by decide +kernel
theorem dd_Dg_holds_1 : decode cc_Dg_holds 1 = .ok (.getfield 9, 3) := by decide +kernel
theorem dd_Dg_holds_4 : decode cc_Dg_holds 4 = .ok (.iload_n 2, 1) := by decide +kernel
theorem dd_Dg_holds_5 : decode cc_Dg_holds 5 = .ok (.iconst 4, 1) := by decide +kernel
theorem dd_Dg_holds_6 : decode cc_Dg_holds 6 = .ok (.imul, 1) := by decide +kernel
theorem dd_Dg_holds_7 : decode cc_Dg_holds 7 = .ok (.iload_n 1, 1) := by decide +kernel
theorem dd_Dg_holds_8 : decode cc_Dg_holds 8 = .ok (.iadd, 1) := by decide +kernel
theorem dd_Dg_holds_9 : decode cc_Dg_holds 9 = .ok (.iaload, 1) := by decide +kernel
theorem dd_Dg_holds_10 : decode cc_Dg_holds 10 = .ok (.iconst (-1), 1) := by decide +kernel
theorem dd_Dg_holds_11 : decode cc_Dg_holds 11 = .ok (.if_icmp .eq 7, 3) := by decide +kernel
theorem dd_Dg_holds_14 : decode cc_Dg_holds 14 = .ok (.iconst 1, 1) := by decide +kernel
theorem dd_Dg_holds_15 : decode cc_Dg_holds 15 = .ok (.goto 4, 3) := by decide +kernel
theorem dd_Dg_holds_18 : decode cc_Dg_holds 18 = .ok (.iconst 0, 1) := by decide +kernel
theorem dd_Dg_holds_19 : decode cc_Dg_holds 19 = .ok (.ireturn, 1) := by decide +kernel
theorem dd_Ve_comesBefore_0 : decode cc_Ve_comesBefore 0 = .ok (.aload_n 0, 1) := by decide +kernel
theorem dd_Ve_comesBefore_1 : decode cc_Ve_comesBefore 1 = .ok (.getfield 15, 3) := by decide +kernel
theorem dd_Ve_comesBefore_4 : decode cc_Ve_comesBefore 4 = .ok (.iload_n 1, 1) := by decide +kernel
theorem dd_Ve_comesBefore_5 : decode cc_Ve_comesBefore 5 = .ok (.iaload, 1) := by decide +kernel
theorem dd_Ve_comesBefore_6 : decode cc_Ve_comesBefore 6 = .ok (.aload_n 0, 1) := by decide +kernel
theorem dd_Ve_comesBefore_7 : decode cc_Ve_comesBefore 7 = .ok (.getfield 15, 3) := by decide +kernel
theorem dd_Ve_comesBefore_10 : decode cc_Ve_comesBefore 10 = .ok (.iload_n 2, 1) := by decide +kernel
theorem dd_Ve_comesBefore_11 : decode cc_Ve_comesBefore 11 = .ok (.iaload, 1) := by decide +kernel
theorem dd_Ve_comesBefore_12 : decode cc_Ve_comesBefore 12 = .ok (.if_icmp .eq 24, 3) := by decide +kernel
theorem dd_Ve_comesBefore_15 : decode cc_Ve_comesBefore 15 = .ok (.aload_n 0, 1) := by decide +kernel
theorem dd_Ve_comesBefore_16 : decode cc_Ve_comesBefore 16 = .ok (.getfield 15, 3) := by decide +kernel
theorem dd_Ve_comesBefore_19 : decode cc_Ve_comesBefore 19 = .ok (.iload_n 1, 1) := by decide +kernel
theorem dd_Ve_comesBefore_20 : decode cc_Ve_comesBefore 20 = .ok (.iaload, 1) := by decide +kernel
theorem dd_Ve_comesBefore_21 : decode cc_Ve_comesBefore 21 = .ok (.aload_n 0, 1) := by decide +kernel
theorem dd_Ve_comesBefore_22 : decode cc_Ve_comesBefore 22 = .ok (.getfield 15, 3) := by decide +kernel
theorem dd_Ve_comesBefore_25 : decode cc_Ve_comesBefore 25 = .ok (.iload_n 2, 1) := by decide +kernel
theorem dd_Ve_comesBefore_26 : decode cc_Ve_comesBefore 26 = .ok (.iaload, 1) := by decide +kernel
theorem dd_Ve_comesBefore_27 : decode cc_Ve_comesBefore 27 = .ok (.if_icmp .ge 7, 3) := by decide +kernel
theorem dd_Ve_comesBefore_30 : decode cc_Ve_comesBefore 30 = .ok (.iconst 1, 1) := by decide +kernel
theorem dd_Ve_comesBefore_31 : decode cc_Ve_comesBefore 31 = .ok (.goto 4, 3) := by decide +kernel
theorem dd_Ve_comesBefore_34 : decode cc_Ve_comesBefore 34 = .ok (.iconst 0, 1) := by decide +kernel
theorem dd_Ve_comesBefore_35 : decode cc_Ve_comesBefore 35 = .ok (.ireturn, 1) := by decide +kernel
theorem dd_Ve_comesBefore_36 : decode cc_Ve_comesBefore 36 = .ok (.aload_n 0, 1) := by decide +kernel
theorem dd_Ve_comesBefore_37 : decode cc_Ve_comesBefore 37 = .ok (.getfield 9, 3) := by decide +kernel
theorem dd_Ve_comesBefore_40 : decode cc_Ve_comesBefore 40 = .ok (.iload_n 1, 1) := by decide +kernel
theorem dd_Ve_comesBefore_41 : decode cc_Ve_comesBefore 41 = .ok (.iaload, 1) := by decide +kernel
theorem dd_Ve_comesBefore_42 : decode cc_Ve_comesBefore 42 = .ok (.aload_n 0, 1) := by decide +kernel
theorem dd_Ve_comesBefore_43 : decode cc_Ve_comesBefore 43 = .ok (.getfield 9, 3) := by decide +kernel
theorem dd_Ve_comesBefore_46 : decode cc_Ve_comesBefore 46 = .ok (.iload_n 2, 1) := by decide +kernel
theorem dd_Ve_comesBefore_47 : decode cc_Ve_comesBefore 47 = .ok (.iaload, 1) := by decide +kernel
theorem dd_Ve_comesBefore_48 : decode cc_Ve_comesBefore 48 = .ok (.if_icmp .ge 7, 3) := by decide +kernel
theorem dd_Ve_comesBefore_51 : decode cc_Ve_comesBefore 51 = .ok (.iconst 1, 1) := by decide +kernel
theorem dd_Ve_comesBefore_52 : decode cc_Ve_comesBefore 52 = .ok (.goto 4, 3) := by decide +kernel
theorem dd_Ve_comesBefore_55 : decode cc_Ve_comesBefore 55 = .ok (.iconst 0, 1) := by decide +kernel
theorem dd_Ve_comesBefore_56 : decode cc_Ve_comesBefore 56 = .ok (.ireturn, 1) := by decide +kernel
theorem dd_Dg_insert_0 : decode cc_Dg_insert 0 = .ok (.aload_n 0, 1) := by decide +kernel
theorem dd_Dg_insert_1 : decode cc_Dg_insert 1 = .ok (.getfield 18, 3) := by decide +kernel
theorem dd_Dg_insert_4 : decode cc_Dg_insert 4 = .ok (.getfield 37, 3) := by decide +kernel
theorem dd_Dg_insert_7 : decode cc_Dg_insert 7 = .ok (.iload_n 1, 1) := by decide +kernel
theorem dd_Dg_insert_8 : decode cc_Dg_insert 8 = .ok (.iaload, 1) := by decide +kernel
theorem dd_Dg_insert_9 : decode cc_Dg_insert 9 = .ok (.istore_n 2, 1) := by decide +kernel
theorem dd_Dg_insert_10 : decode cc_Dg_insert 10 = .ok (.aload_n 0, 1) := by decide +kernel
theorem dd_Dg_insert_11 : decode cc_Dg_insert 11 = .ok (.getfield 18, 3) := by decide +kernel
theorem dd_Dg_insert_14 : decode cc_Dg_insert 14 = .ok (.getfield 28, 3) := by decide +kernel
theorem dd_Dg_insert_17 : decode cc_Dg_insert 17 = .ok (.iload_n 1, 1) := by decide +kernel
theorem dd_Dg_insert_18 : decode cc_Dg_insert 18 = .ok (.iaload, 1) := by decide +kernel
theorem dd_Dg_insert_19 : decode cc_Dg_insert 19 = .ok (.istore_n 3, 1) := by decide +kernel
theorem dd_Dg_insert_20 : decode cc_Dg_insert 20 = .ok (.aload_n 0, 1) := by decide +kernel
theorem dd_Dg_insert_21 : decode cc_Dg_insert 21 = .ok (.getfield 9, 3) := by decide +kernel
theorem dd_Dg_insert_24 : decode cc_Dg_insert 24 = .ok (.iload_n 3, 1) := by decide +kernel
theorem dd_Dg_insert_25 : decode cc_Dg_insert 25 = .ok (.iconst 4, 1) := by decide +kernel
theorem dd_Dg_insert_26 : decode cc_Dg_insert 26 = .ok (.imul, 1) := by decide +kernel
theorem dd_Dg_insert_27 : decode cc_Dg_insert 27 = .ok (.iload_n 2, 1) := by decide +kernel
theorem dd_Dg_insert_28 : decode cc_Dg_insert 28 = .ok (.iadd, 1) := by decide +kernel
theorem dd_Dg_insert_29 : decode cc_Dg_insert 29 = .ok (.iload_n 1, 1) := by decide +kernel
theorem dd_Dg_insert_30 : decode cc_Dg_insert 30 = .ok (.iastore, 1) := by decide +kernel
theorem dd_Dg_insert_31 : decode cc_Dg_insert 31 = .ok (.aload_n 0, 1) := by decide +kernel
theorem dd_Dg_insert_32 : decode cc_Dg_insert 32 = .ok (.getfield 15, 3) := by decide +kernel
theorem dd_Dg_insert_35 : decode cc_Dg_insert 35 = .ok (.iload_n 3, 1) := by decide +kernel
theorem dd_Dg_insert_36 : decode cc_Dg_insert 36 = .ok (.dup2, 1) := by decide +kernel
theorem dd_Dg_insert_37 : decode cc_Dg_insert 37 = .ok (.iaload, 1) := by decide +kernel
theorem dd_Dg_insert_38 : decode cc_Dg_insert 38 = .ok (.iconst 1, 1) := by decide +kernel
theorem dd_Dg_insert_39 : decode cc_Dg_insert 39 = .ok (.iload_n 2, 1) := by decide +kernel
theorem dd_Dg_insert_40 : decode cc_Dg_insert 40 = .ok (.ishl, 1) := by decide +kernel
theorem dd_Dg_insert_41 : decode cc_Dg_insert 41 = .ok (.ior, 1) := by decide +kernel
theorem dd_Dg_insert_42 : decode cc_Dg_insert 42 = .ok (.iastore, 1) := by decide +kernel
theorem dd_Dg_insert_43 : decode cc_Dg_insert 43 = .ok (.aload_n 0, 1) := by decide +kernel
theorem dd_Dg_insert_44 : decode cc_Dg_insert 44 = .ok (.dup, 1) := by decide +kernel
theorem dd_Dg_insert_45 : decode cc_Dg_insert 45 = .ok (.getfield 47, 3) := by decide +kernel
theorem dd_Dg_insert_48 : decode cc_Dg_insert 48 = .ok (.iconst 1, 1) := by decide +kernel
theorem dd_Dg_insert_49 : decode cc_Dg_insert 49 = .ok (.iadd, 1) := by decide +kernel
theorem dd_Dg_insert_50 : decode cc_Dg_insert 50 = .ok (.putfield 47, 3) := by decide +kernel
theorem dd_Dg_insert_53 : decode cc_Dg_insert 53 = .ok (.return_, 1) := by decide +kernel
theorem dd_No_stopWaiting_0 : decode cc_No_stopWaiting 0 = .ok (.aload_n 0, 1) := by decide +kernel
theorem dd_No_stopWaiting_1 : decode cc_No_stopWaiting 1 = .ok (.dup, 1) := by decide +kernel
theorem dd_No_stopWaiting_2 : decode cc_No_stopWaiting 2 = .ok (.getfield 27, 3) := by decide +kernel
theorem dd_No_stopWaiting_5 : decode cc_No_stopWaiting 5 = .ok (.iconst 1, 1) := by decide +kernel
theorem dd_No_stopWaiting_6 : decode cc_No_stopWaiting 6 = .ok (.isub, 1) := by decide +kernel
theorem dd_No_stopWaiting_7 : decode cc_No_stopWaiting 7 = .ok (.putfield 27, 3) := by decide +kernel
theorem dd_No_stopWaiting_10 : decode cc_No_stopWaiting 10 = .ok (.aload_n 0, 1) := by decide +kernel
theorem dd_No_stopWaiting_11 : decode cc_No_stopWaiting 11 = .ok (.getfield 18, 3) := by decide +kernel
theorem dd_No_stopWaiting_14 : decode cc_No_stopWaiting 14 = .ok (.iload_n 1, 1) := by decide +kernel
theorem dd_No_stopWaiting_15 : decode cc_No_stopWaiting 15 = .ok (.aload_n 0, 1) := by decide +kernel
theorem dd_No_stopWaiting_16 : decode cc_No_stopWaiting 16 = .ok (.getfield 18, 3) := by decide +kernel
theorem dd_No_stopWaiting_19 : decode cc_No_stopWaiting 19 = .ok (.aload_n 0, 1) := by decide +kernel
theorem dd_No_stopWaiting_20 : decode cc_No_stopWaiting 20 = .ok (.getfield 27, 3) := by decide +kernel
theorem dd_No_stopWaiting_23 : decode cc_No_stopWaiting 23 = .ok (.iaload, 1) := by decide +kernel
theorem dd_No_stopWaiting_24 : decode cc_No_stopWaiting 24 = .ok (.iastore, 1) := by decide +kernel
theorem dd_No_stopWaiting_25 : decode cc_No_stopWaiting 25 = .ok (.return_, 1) := by decide +kernel
theorem dd_Co_commitNext_0 : decode cc_Co_commitNext 0 = .ok (.aload_n 0, 1) := by decide +kernel
theorem dd_Co_commitNext_1 : decode cc_Co_commitNext 1 = .ok (.invokevirtual 30, 3) := by decide +kernel
theorem dd_Co_commitNext_4 : decode cc_Co_commitNext 4 = .ok (.istore_n 1, 1) := by decide +kernel
theorem dd_Co_commitNext_5 : decode cc_Co_commitNext 5 = .ok (.iload_n 1, 1) := by decide +kernel
theorem dd_Co_commitNext_6 : decode cc_Co_commitNext 6 = .ok (.iconst (-1), 1) := by decide +kernel
theorem dd_Co_commitNext_7 : decode cc_Co_commitNext 7 = .ok (.if_icmp .ne 5, 3) := by decide +kernel
theorem dd_Co_commitNext_10 : decode cc_Co_commitNext 10 = .ok (.iconst 0, 1) := by decide +kernel
theorem dd_Co_commitNext_11 : decode cc_Co_commitNext 11 = .ok (.ireturn, 1) := by decide +kernel
theorem dd_Co_commitNext_12 : decode cc_Co_commitNext 12 = .ok (.aload_n 0, 1) := by decide +kernel
theorem dd_Co_commitNext_13 : decode cc_Co_commitNext 13 = .ok (.iload_n 1, 1) := by decide +kernel
theorem dd_Co_commitNext_14 : decode cc_Co_commitNext 14 = .ok (.invokevirtual 34, 3) := by decide +kernel
theorem dd_Co_commitNext_17 : decode cc_Co_commitNext 17 = .ok (.istore_n 2, 1) := by decide +kernel
theorem dd_Co_commitNext_18 : decode cc_Co_commitNext 18 = .ok (.aload_n 0, 1) := by decide +kernel
theorem dd_Co_commitNext_19 : decode cc_Co_commitNext 19 = .ok (.getfield 38, 3) := by decide +kernel
theorem dd_Co_commitNext_22 : decode cc_Co_commitNext 22 = .ok (.iconst 2, 1) := by decide +kernel
theorem dd_Co_commitNext_23 : decode cc_Co_commitNext 23 = .ok (.iadd, 1) := by decide +kernel
theorem dd_Co_commitNext_24 : decode cc_Co_commitNext 24 = .ok (.istore_n 3, 1) := by decide +kernel
theorem dd_Co_commitNext_25 : decode cc_Co_commitNext 25 = .ok (.iload_n 3, 1) := by decide +kernel
theorem dd_Co_commitNext_26 : decode cc_Co_commitNext 26 = .ok (.iload_n 1, 1) := by decide +kernel
theorem dd_Co_commitNext_27 : decode cc_Co_commitNext 27 = .ok (.if_icmp .gt 26, 3) := by decide +kernel
theorem dd_Co_commitNext_30 : decode cc_Co_commitNext 30 = .ok (.iload_n 2, 1) := by decide +kernel
theorem dd_Co_commitNext_31 : decode cc_Co_commitNext 31 = .ok (.iload_n 3, 1) := by decide +kernel
theorem dd_Co_commitNext_32 : decode cc_Co_commitNext 32 = .ok (.invokestatic 42, 3) := by decide +kernel
theorem dd_Co_commitNext_35 : decode cc_Co_commitNext 35 = .ok (.ifCond .eq 12, 3) := by decide +kernel
theorem dd_Co_commitNext_38 : decode cc_Co_commitNext 38 = .ok (.aload_n 0, 1) := by decide +kernel
theorem dd_Co_commitNext_39 : decode cc_Co_commitNext 39 = .ok (.iload_n 3, 1) := by decide +kernel
theorem dd_Co_commitNext_40 : decode cc_Co_commitNext 40 = .ok (.invokestatic 46, 3) := by decide +kernel
theorem dd_Co_commitNext_43 : decode cc_Co_commitNext 43 = .ok (.iload_n 3, 1) := by decide +kernel
theorem dd_Co_commitNext_44 : decode cc_Co_commitNext 44 = .ok (.invokevirtual 49, 3) := by decide +kernel
theorem dd_Co_commitNext_47 : decode cc_Co_commitNext 47 = .ok (.iinc 3 2, 3) := by decide +kernel
theorem dd_Co_commitNext_50 : decode cc_Co_commitNext 50 = .ok (.goto (-25), 3) := by decide +kernel
theorem dd_Co_commitNext_53 : decode cc_Co_commitNext 53 = .ok (.aload_n 0, 1) := by decide +kernel
theorem dd_Co_commitNext_54 : decode cc_Co_commitNext 54 = .ok (.iload_n 1, 1) := by decide +kernel
theorem dd_Co_commitNext_55 : decode cc_Co_commitNext 55 = .ok (.putfield 38, 3) := by decide +kernel
theorem dd_Co_commitNext_58 : decode cc_Co_commitNext 58 = .ok (.iconst 1, 1) := by decide +kernel
theorem dd_Co_commitNext_59 : decode cc_Co_commitNext 59 = .ok (.ireturn, 1) := by decide +kernel
theorem dd_Co_nextRound_0 : decode cc_Co_nextRound 0 = .ok (.aload_n 0, 1) := by decide +kernel
theorem dd_Co_nextRound_1 : decode cc_Co_nextRound 1 = .ok (.getfield 38, 3) := by decide +kernel
theorem dd_Co_nextRound_4 : decode cc_Co_nextRound 4 = .ok (.iconst 2, 1) := by decide +kernel
theorem dd_Co_nextRound_5 : decode cc_Co_nextRound 5 = .ok (.iadd, 1) := by decide +kernel
theorem dd_Co_nextRound_6 : decode cc_Co_nextRound 6 = .ok (.istore_n 1, 1) := by decide +kernel
theorem dd_Co_nextRound_7 : decode cc_Co_nextRound 7 = .ok (.iload_n 1, 1) := by decide +kernel
theorem dd_Co_nextRound_8 : decode cc_Co_nextRound 8 = .ok (.bipush 14, 2) := by decide +kernel
theorem dd_Co_nextRound_10 : decode cc_Co_nextRound 10 = .ok (.if_icmp .gt 41, 3) := by decide +kernel
theorem dd_Co_nextRound_13 : decode cc_Co_nextRound 13 = .ok (.iload_n 1, 1) := by decide +kernel
theorem dd_Co_nextRound_14 : decode cc_Co_nextRound 14 = .ok (.invokestatic 46, 3) := by decide +kernel
theorem dd_Co_nextRound_17 : decode cc_Co_nextRound 17 = .ok (.istore_n 2, 1) := by decide +kernel
theorem dd_Co_nextRound_18 : decode cc_Co_nextRound 18 = .ok (.aload_n 0, 1) := by decide +kernel
theorem dd_Co_nextRound_19 : decode cc_Co_nextRound 19 = .ok (.getfield 22, 3) := by decide +kernel
theorem dd_Co_nextRound_22 : decode cc_Co_nextRound 22 = .ok (.iload_n 2, 1) := by decide +kernel
theorem dd_Co_nextRound_23 : decode cc_Co_nextRound 23 = .ok (.iload_n 1, 1) := by decide +kernel
theorem dd_Co_nextRound_24 : decode cc_Co_nextRound 24 = .ok (.invokevirtual 53, 3) := by decide +kernel
theorem dd_Co_nextRound_27 : decode cc_Co_nextRound 27 = .ok (.ifCond .eq 18, 3) := by decide +kernel
theorem dd_Co_nextRound_30 : decode cc_Co_nextRound 30 = .ok (.aload_n 0, 1) := by decide +kernel
theorem dd_Co_nextRound_31 : decode cc_Co_nextRound 31 = .ok (.getfield 22, 3) := by decide +kernel
theorem dd_Co_nextRound_34 : decode cc_Co_nextRound 34 = .ok (.iload_n 2, 1) := by decide +kernel
theorem dd_Co_nextRound_35 : decode cc_Co_nextRound 35 = .ok (.iload_n 1, 1) := by decide +kernel
theorem dd_Co_nextRound_36 : decode cc_Co_nextRound 36 = .ok (.invokevirtual 58, 3) := by decide +kernel
theorem dd_Co_nextRound_39 : decode cc_Co_nextRound 39 = .ok (.iconst 2, 1) := by decide +kernel
theorem dd_Co_nextRound_40 : decode cc_Co_nextRound 40 = .ok (.if_icmp .lt 5, 3) := by decide +kernel
theorem dd_Co_nextRound_43 : decode cc_Co_nextRound 43 = .ok (.iload_n 1, 1) := by decide +kernel
theorem dd_Co_nextRound_44 : decode cc_Co_nextRound 44 = .ok (.ireturn, 1) := by decide +kernel
theorem dd_Co_nextRound_45 : decode cc_Co_nextRound 45 = .ok (.iinc 1 2, 3) := by decide +kernel
theorem dd_Co_nextRound_48 : decode cc_Co_nextRound 48 = .ok (.goto (-41), 3) := by decide +kernel
theorem dd_Co_nextRound_51 : decode cc_Co_nextRound 51 = .ok (.iconst (-1), 1) := by decide +kernel
theorem dd_Co_nextRound_52 : decode cc_Co_nextRound 52 = .ok (.ireturn, 1) := by decide +kernel
theorem dd_Dg_countStandingOn_0 : decode cc_Dg_countStandingOn 0 = .ok (.iconst 0, 1) := by decide +kernel
theorem dd_Dg_countStandingOn_1 : decode cc_Dg_countStandingOn 1 = .ok (.istore_n 3, 1) := by decide +kernel
theorem dd_Dg_countStandingOn_2 : decode cc_Dg_countStandingOn 2 = .ok (.iconst 0, 1) := by decide +kernel
theorem dd_Dg_countStandingOn_3 : decode cc_Dg_countStandingOn 3 = .ok (.istore 4, 2) := by decide +kernel
theorem dd_Dg_countStandingOn_5 : decode cc_Dg_countStandingOn 5 = .ok (.iload 4, 2) := by decide +kernel
theorem dd_Dg_countStandingOn_7 : decode cc_Dg_countStandingOn 7 = .ok (.iconst 4, 1) := by decide +kernel
theorem dd_Dg_countStandingOn_8 : decode cc_Dg_countStandingOn 8 = .ok (.if_icmp .ge 50, 3) := by decide +kernel
theorem dd_Dg_countStandingOn_11 : decode cc_Dg_countStandingOn 11 = .ok (.aload_n 0, 1) := by decide +kernel
theorem dd_Dg_countStandingOn_12 : decode cc_Dg_countStandingOn 12 = .ok (.getfield 9, 3) := by decide +kernel
theorem dd_Dg_countStandingOn_15 : decode cc_Dg_countStandingOn 15 = .ok (.iload_n 2, 1) := by decide +kernel
theorem dd_Dg_countStandingOn_16 : decode cc_Dg_countStandingOn 16 = .ok (.iconst 1, 1) := by decide +kernel
theorem dd_Dg_countStandingOn_17 : decode cc_Dg_countStandingOn 17 = .ok (.iadd, 1) := by decide +kernel
theorem dd_Dg_countStandingOn_18 : decode cc_Dg_countStandingOn 18 = .ok (.iconst 4, 1) := by decide +kernel
theorem dd_Dg_countStandingOn_19 : decode cc_Dg_countStandingOn 19 = .ok (.imul, 1) := by decide +kernel
theorem dd_Dg_countStandingOn_20 : decode cc_Dg_countStandingOn 20 = .ok (.iload 4, 2) := by decide +kernel
theorem dd_Dg_countStandingOn_22 : decode cc_Dg_countStandingOn 22 = .ok (.iadd, 1) := by decide +kernel
theorem dd_Dg_countStandingOn_23 : decode cc_Dg_countStandingOn 23 = .ok (.iaload, 1) := by decide +kernel
theorem dd_Dg_countStandingOn_24 : decode cc_Dg_countStandingOn 24 = .ok (.istore 5, 2) := by decide +kernel
theorem dd_Dg_countStandingOn_26 : decode cc_Dg_countStandingOn 26 = .ok (.iload 5, 2) := by decide +kernel
theorem dd_Dg_countStandingOn_28 : decode cc_Dg_countStandingOn 28 = .ok (.iconst (-1), 1) := by decide +kernel
theorem dd_Dg_countStandingOn_29 : decode cc_Dg_countStandingOn 29 = .ok (.if_icmp .eq 23, 3) := by decide +kernel
theorem dd_Dg_countStandingOn_32 : decode cc_Dg_countStandingOn 32 = .ok (.aload_n 0, 1) := by decide +kernel
theorem dd_Dg_countStandingOn_33 : decode cc_Dg_countStandingOn 33 = .ok (.getfield 18, 3) := by decide +kernel
theorem dd_Dg_countStandingOn_36 : decode cc_Dg_countStandingOn 36 = .ok (.getfield 44, 3) := by decide +kernel
theorem dd_Dg_countStandingOn_39 : decode cc_Dg_countStandingOn 39 = .ok (.iload 5, 2) := by decide +kernel
theorem dd_Dg_countStandingOn_41 : decode cc_Dg_countStandingOn 41 = .ok (.iaload, 1) := by decide +kernel
theorem dd_Dg_countStandingOn_42 : decode cc_Dg_countStandingOn 42 = .ok (.iload_n 1, 1) := by decide +kernel
theorem dd_Dg_countStandingOn_43 : decode cc_Dg_countStandingOn 43 = .ok (.invokestatic 51, 3) := by decide +kernel
theorem dd_Dg_countStandingOn_46 : decode cc_Dg_countStandingOn 46 = .ok (.ifCond .eq 6, 3) := by decide +kernel
theorem dd_Dg_countStandingOn_49 : decode cc_Dg_countStandingOn 49 = .ok (.iinc 3 1, 3) := by decide +kernel
theorem dd_Dg_countStandingOn_52 : decode cc_Dg_countStandingOn 52 = .ok (.iinc 4 1, 3) := by decide +kernel
theorem dd_Dg_countStandingOn_55 : decode cc_Dg_countStandingOn 55 = .ok (.goto (-50), 3) := by decide +kernel
theorem dd_Dg_countStandingOn_58 : decode cc_Dg_countStandingOn 58 = .ok (.iload_n 3, 1) := by decide +kernel
theorem dd_Dg_countStandingOn_59 : decode cc_Dg_countStandingOn 59 = .ok (.ireturn, 1) := by decide +kernel
theorem dd_Co_leadersUnder_0 : decode cc_Co_leadersUnder 0 = .ok (.iconst 1, 1) := by decide +kernel
theorem dd_Co_leadersUnder_1 : decode cc_Co_leadersUnder 1 = .ok (.iload_n 1, 1) := by decide +kernel
theorem dd_Co_leadersUnder_2 : decode cc_Co_leadersUnder 2 = .ok (.ishl, 1) := by decide +kernel
theorem dd_Co_leadersUnder_3 : decode cc_Co_leadersUnder 3 = .ok (.istore_n 2, 1) := by decide +kernel
theorem dd_Co_leadersUnder_4 : decode cc_Co_leadersUnder 4 = .ok (.iconst 1, 1) := by decide +kernel
theorem dd_Co_leadersUnder_5 : decode cc_Co_leadersUnder 5 = .ok (.iload_n 1, 1) := by decide +kernel
theorem dd_Co_leadersUnder_6 : decode cc_Co_leadersUnder 6 = .ok (.invokestatic 46, 3) := by decide +kernel
theorem dd_Co_leadersUnder_9 : decode cc_Co_leadersUnder 9 = .ok (.ishl, 1) := by decide +kernel
theorem dd_Co_leadersUnder_10 : decode cc_Co_leadersUnder 10 = .ok (.istore_n 3, 1) := by decide +kernel
theorem dd_Co_leadersUnder_11 : decode cc_Co_leadersUnder 11 = .ok (.iload_n 1, 1) := by decide +kernel
theorem dd_Co_leadersUnder_12 : decode cc_Co_leadersUnder 12 = .ok (.iconst 1, 1) := by decide +kernel
theorem dd_Co_leadersUnder_13 : decode cc_Co_leadersUnder 13 = .ok (.isub, 1) := by decide +kernel
theorem dd_Co_leadersUnder_14 : decode cc_Co_leadersUnder 14 = .ok (.istore 4, 2) := by decide +kernel
theorem dd_Co_leadersUnder_16 : decode cc_Co_leadersUnder 16 = .ok (.iload 4, 2) := by decide +kernel
theorem dd_Co_leadersUnder_18 : decode cc_Co_leadersUnder 18 = .ok (.aload_n 0, 1) := by decide +kernel
theorem dd_Co_leadersUnder_19 : decode cc_Co_leadersUnder 19 = .ok (.getfield 38, 3) := by decide +kernel
theorem dd_Co_leadersUnder_22 : decode cc_Co_leadersUnder 22 = .ok (.if_icmp .le 56, 3) := by decide +kernel
theorem dd_Co_leadersUnder_25 : decode cc_Co_leadersUnder 25 = .ok (.aload_n 0, 1) := by decide +kernel
theorem dd_Co_leadersUnder_26 : decode cc_Co_leadersUnder 26 = .ok (.getfield 22, 3) := by decide +kernel
theorem dd_Co_leadersUnder_29 : decode cc_Co_leadersUnder 29 = .ok (.iload_n 3, 1) := by decide +kernel
theorem dd_Co_leadersUnder_30 : decode cc_Co_leadersUnder 30 = .ok (.iload 4, 2) := by decide +kernel
theorem dd_Co_leadersUnder_32 : decode cc_Co_leadersUnder 32 = .ok (.iconst 1, 1) := by decide +kernel
theorem dd_Co_leadersUnder_33 : decode cc_Co_leadersUnder 33 = .ok (.iadd, 1) := by decide +kernel
theorem dd_Co_leadersUnder_34 : decode cc_Co_leadersUnder 34 = .ok (.invokevirtual 62, 3) := by decide +kernel
theorem dd_Co_leadersUnder_37 : decode cc_Co_leadersUnder 37 = .ok (.istore_n 3, 1) := by decide +kernel
theorem dd_Co_leadersUnder_38 : decode cc_Co_leadersUnder 38 = .ok (.iload 4, 2) := by decide +kernel
theorem dd_Co_leadersUnder_40 : decode cc_Co_leadersUnder 40 = .ok (.iconst 2, 1) := by decide +kernel
theorem dd_Co_leadersUnder_41 : decode cc_Co_leadersUnder 41 = .ok (.irem, 1) := by decide +kernel
theorem dd_Co_leadersUnder_42 : decode cc_Co_leadersUnder 42 = .ok (.ifCond .ne 30, 3) := by decide +kernel
theorem dd_Co_leadersUnder_45 : decode cc_Co_leadersUnder 45 = .ok (.iload_n 3, 1) := by decide +kernel
theorem dd_Co_leadersUnder_46 : decode cc_Co_leadersUnder 46 = .ok (.iload 4, 2) := by decide +kernel
theorem dd_Co_leadersUnder_48 : decode cc_Co_leadersUnder 48 = .ok (.invokestatic 46, 3) := by decide +kernel
theorem dd_Co_leadersUnder_51 : decode cc_Co_leadersUnder 51 = .ok (.invokestatic 42, 3) := by decide +kernel
theorem dd_Co_leadersUnder_54 : decode cc_Co_leadersUnder 54 = .ok (.ifCond .eq 18, 3) := by decide +kernel
theorem dd_Co_leadersUnder_57 : decode cc_Co_leadersUnder 57 = .ok (.iload_n 2, 1) := by decide +kernel
theorem dd_Co_leadersUnder_58 : decode cc_Co_leadersUnder 58 = .ok (.iconst 1, 1) := by decide +kernel
theorem dd_Co_leadersUnder_59 : decode cc_Co_leadersUnder 59 = .ok (.iload 4, 2) := by decide +kernel
theorem dd_Co_leadersUnder_61 : decode cc_Co_leadersUnder 61 = .ok (.ishl, 1) := by decide +kernel
theorem dd_Co_leadersUnder_62 : decode cc_Co_leadersUnder 62 = .ok (.ior, 1) := by decide +kernel
theorem dd_Co_leadersUnder_63 : decode cc_Co_leadersUnder 63 = .ok (.istore_n 2, 1) := by decide +kernel
theorem dd_Co_leadersUnder_64 : decode cc_Co_leadersUnder 64 = .ok (.iconst 1, 1) := by decide +kernel
theorem dd_Co_leadersUnder_65 : decode cc_Co_leadersUnder 65 = .ok (.iload 4, 2) := by decide +kernel
theorem dd_Co_leadersUnder_67 : decode cc_Co_leadersUnder 67 = .ok (.invokestatic 46, 3) := by decide +kernel
theorem dd_Co_leadersUnder_70 : decode cc_Co_leadersUnder 70 = .ok (.ishl, 1) := by decide +kernel
theorem dd_Co_leadersUnder_71 : decode cc_Co_leadersUnder 71 = .ok (.istore_n 3, 1) := by decide +kernel
theorem dd_Co_leadersUnder_72 : decode cc_Co_leadersUnder 72 = .ok (.iinc 4 (-1), 3) := by decide +kernel
theorem dd_Co_leadersUnder_75 : decode cc_Co_leadersUnder 75 = .ok (.goto (-59), 3) := by decide +kernel
theorem dd_Co_leadersUnder_78 : decode cc_Co_leadersUnder 78 = .ok (.iload_n 2, 1) := by decide +kernel
theorem dd_Co_leadersUnder_79 : decode cc_Co_leadersUnder 79 = .ok (.ireturn, 1) := by decide +kernel
theorem dd_Dg_parentsOf_0 : decode cc_Dg_parentsOf 0 = .ok (.iconst 0, 1) := by decide +kernel
theorem dd_Dg_parentsOf_1 : decode cc_Dg_parentsOf 1 = .ok (.istore_n 3, 1) := by decide +kernel
theorem dd_Dg_parentsOf_2 : decode cc_Dg_parentsOf 2 = .ok (.iconst 0, 1) := by decide +kernel
theorem dd_Dg_parentsOf_3 : decode cc_Dg_parentsOf 3 = .ok (.istore 4, 2) := by decide +kernel
theorem dd_Dg_parentsOf_5 : decode cc_Dg_parentsOf 5 = .ok (.iload 4, 2) := by decide +kernel
theorem dd_Dg_parentsOf_7 : decode cc_Dg_parentsOf 7 = .ok (.iconst 4, 1) := by decide +kernel
theorem dd_Dg_parentsOf_8 : decode cc_Dg_parentsOf 8 = .ok (.if_icmp .ge 50, 3) := by decide +kernel
theorem dd_Dg_parentsOf_11 : decode cc_Dg_parentsOf 11 = .ok (.aload_n 0, 1) := by decide +kernel
theorem dd_Dg_parentsOf_12 : decode cc_Dg_parentsOf 12 = .ok (.getfield 9, 3) := by decide +kernel
theorem dd_Dg_parentsOf_15 : decode cc_Dg_parentsOf 15 = .ok (.iload_n 2, 1) := by decide +kernel
theorem dd_Dg_parentsOf_16 : decode cc_Dg_parentsOf 16 = .ok (.iconst 4, 1) := by decide +kernel
theorem dd_Dg_parentsOf_17 : decode cc_Dg_parentsOf 17 = .ok (.imul, 1) := by decide +kernel
theorem dd_Dg_parentsOf_18 : decode cc_Dg_parentsOf 18 = .ok (.iload 4, 2) := by decide +kernel
theorem dd_Dg_parentsOf_20 : decode cc_Dg_parentsOf 20 = .ok (.iadd, 1) := by decide +kernel
theorem dd_Dg_parentsOf_21 : decode cc_Dg_parentsOf 21 = .ok (.iaload, 1) := by decide +kernel
theorem dd_Dg_parentsOf_22 : decode cc_Dg_parentsOf 22 = .ok (.istore 5, 2) := by decide +kernel
theorem dd_Dg_parentsOf_24 : decode cc_Dg_parentsOf 24 = .ok (.iload 5, 2) := by decide +kernel
theorem dd_Dg_parentsOf_26 : decode cc_Dg_parentsOf 26 = .ok (.iconst (-1), 1) := by decide +kernel
theorem dd_Dg_parentsOf_27 : decode cc_Dg_parentsOf 27 = .ok (.if_icmp .eq 25, 3) := by decide +kernel
theorem dd_Dg_parentsOf_30 : decode cc_Dg_parentsOf 30 = .ok (.iload_n 1, 1) := by decide +kernel
theorem dd_Dg_parentsOf_31 : decode cc_Dg_parentsOf 31 = .ok (.iload 4, 2) := by decide +kernel
theorem dd_Dg_parentsOf_33 : decode cc_Dg_parentsOf 33 = .ok (.invokestatic 51, 3) := by decide +kernel
theorem dd_Dg_parentsOf_36 : decode cc_Dg_parentsOf 36 = .ok (.ifCond .eq 16, 3) := by decide +kernel
theorem dd_Dg_parentsOf_39 : decode cc_Dg_parentsOf 39 = .ok (.iload_n 3, 1) := by decide +kernel
theorem dd_Dg_parentsOf_40 : decode cc_Dg_parentsOf 40 = .ok (.aload_n 0, 1) := by decide +kernel
theorem dd_Dg_parentsOf_41 : decode cc_Dg_parentsOf 41 = .ok (.getfield 18, 3) := by decide +kernel
theorem dd_Dg_parentsOf_44 : decode cc_Dg_parentsOf 44 = .ok (.getfield 44, 3) := by decide +kernel
theorem dd_Dg_parentsOf_47 : decode cc_Dg_parentsOf 47 = .ok (.iload 5, 2) := by decide +kernel
theorem dd_Dg_parentsOf_49 : decode cc_Dg_parentsOf 49 = .ok (.iaload, 1) := by decide +kernel
theorem dd_Dg_parentsOf_50 : decode cc_Dg_parentsOf 50 = .ok (.ior, 1) := by decide +kernel
theorem dd_Dg_parentsOf_51 : decode cc_Dg_parentsOf 51 = .ok (.istore_n 3, 1) := by decide +kernel
theorem dd_Dg_parentsOf_52 : decode cc_Dg_parentsOf 52 = .ok (.iinc 4 1, 3) := by decide +kernel
theorem dd_Dg_parentsOf_55 : decode cc_Dg_parentsOf 55 = .ok (.goto (-50), 3) := by decide +kernel
theorem dd_Dg_parentsOf_58 : decode cc_Dg_parentsOf 58 = .ok (.iload_n 3, 1) := by decide +kernel
theorem dd_Dg_parentsOf_59 : decode cc_Dg_parentsOf 59 = .ok (.ireturn, 1) := by decide +kernel
theorem dd_Co_emit_0 : decode cc_Co_emit 0 = .ok (.aload_n 0, 1) := by decide +kernel
theorem dd_Co_emit_1 : decode cc_Co_emit 1 = .ok (.getfield 15, 3) := by decide +kernel
theorem dd_Co_emit_4 : decode cc_Co_emit 4 = .ok (.iload_n 2, 1) := by decide +kernel
theorem dd_Co_emit_5 : decode cc_Co_emit 5 = .ok (.iconst 1, 1) := by decide +kernel
theorem dd_Co_emit_6 : decode cc_Co_emit 6 = .ok (.iload_n 1, 1) := by decide +kernel
theorem dd_Co_emit_7 : decode cc_Co_emit 7 = .ok (.ishl, 1) := by decide +kernel
theorem dd_Co_emit_8 : decode cc_Co_emit 8 = .ok (.iastore, 1) := by decide +kernel
theorem dd_Co_emit_9 : decode cc_Co_emit 9 = .ok (.iload_n 2, 1) := by decide +kernel
theorem dd_Co_emit_10 : decode cc_Co_emit 10 = .ok (.iconst 1, 1) := by decide +kernel
theorem dd_Co_emit_11 : decode cc_Co_emit 11 = .ok (.isub, 1) := by decide +kernel
theorem dd_Co_emit_12 : decode cc_Co_emit 12 = .ok (.istore_n 3, 1) := by decide +kernel
theorem dd_Co_emit_13 : decode cc_Co_emit 13 = .ok (.iload_n 3, 1) := by decide +kernel
theorem dd_Co_emit_14 : decode cc_Co_emit 14 = .ok (.iconst 1, 1) := by decide +kernel
theorem dd_Co_emit_15 : decode cc_Co_emit 15 = .ok (.if_icmp .lt 33, 3) := by decide +kernel
theorem dd_Co_emit_18 : decode cc_Co_emit 18 = .ok (.aload_n 0, 1) := by decide +kernel
theorem dd_Co_emit_19 : decode cc_Co_emit 19 = .ok (.getfield 15, 3) := by decide +kernel
theorem dd_Co_emit_22 : decode cc_Co_emit 22 = .ok (.iload_n 3, 1) := by decide +kernel
theorem dd_Co_emit_23 : decode cc_Co_emit 23 = .ok (.aload_n 0, 1) := by decide +kernel
theorem dd_Co_emit_24 : decode cc_Co_emit 24 = .ok (.getfield 22, 3) := by decide +kernel
theorem dd_Co_emit_27 : decode cc_Co_emit 27 = .ok (.aload_n 0, 1) := by decide +kernel
theorem dd_Co_emit_28 : decode cc_Co_emit 28 = .ok (.getfield 15, 3) := by decide +kernel
theorem dd_Co_emit_31 : decode cc_Co_emit 31 = .ok (.iload_n 3, 1) := by decide +kernel
theorem dd_Co_emit_32 : decode cc_Co_emit 32 = .ok (.iconst 1, 1) := by decide +kernel
theorem dd_Co_emit_33 : decode cc_Co_emit 33 = .ok (.iadd, 1) := by decide +kernel
theorem dd_Co_emit_34 : decode cc_Co_emit 34 = .ok (.iaload, 1) := by decide +kernel
theorem dd_Co_emit_35 : decode cc_Co_emit 35 = .ok (.iload_n 3, 1) := by decide +kernel
theorem dd_Co_emit_36 : decode cc_Co_emit 36 = .ok (.iconst 1, 1) := by decide +kernel
theorem dd_Co_emit_37 : decode cc_Co_emit 37 = .ok (.iadd, 1) := by decide +kernel
theorem dd_Co_emit_38 : decode cc_Co_emit 38 = .ok (.invokevirtual 62, 3) := by decide +kernel
theorem dd_Co_emit_41 : decode cc_Co_emit 41 = .ok (.iastore, 1) := by decide +kernel
theorem dd_Co_emit_42 : decode cc_Co_emit 42 = .ok (.iinc 3 (-1), 3) := by decide +kernel
theorem dd_Co_emit_45 : decode cc_Co_emit 45 = .ok (.goto (-32), 3) := by decide +kernel
theorem dd_Co_emit_48 : decode cc_Co_emit 48 = .ok (.iconst 1, 1) := by decide +kernel
theorem dd_Co_emit_49 : decode cc_Co_emit 49 = .ok (.istore_n 3, 1) := by decide +kernel
theorem dd_Co_emit_50 : decode cc_Co_emit 50 = .ok (.iload_n 3, 1) := by decide +kernel
theorem dd_Co_emit_51 : decode cc_Co_emit 51 = .ok (.iload_n 2, 1) := by decide +kernel
theorem dd_Co_emit_52 : decode cc_Co_emit 52 = .ok (.if_icmp .gt 44, 3) := by decide +kernel
theorem dd_Co_emit_55 : decode cc_Co_emit 55 = .ok (.aload_n 0, 1) := by decide +kernel
theorem dd_Co_emit_56 : decode cc_Co_emit 56 = .ok (.iload_n 3, 1) := by decide +kernel
theorem dd_Co_emit_57 : decode cc_Co_emit 57 = .ok (.aload_n 0, 1) := by decide +kernel
theorem dd_Co_emit_58 : decode cc_Co_emit 58 = .ok (.getfield 15, 3) := by decide +kernel
theorem dd_Co_emit_61 : decode cc_Co_emit 61 = .ok (.iload_n 3, 1) := by decide +kernel
theorem dd_Co_emit_62 : decode cc_Co_emit 62 = .ok (.iaload, 1) := by decide +kernel
theorem dd_Co_emit_63 : decode cc_Co_emit 63 = .ok (.aload_n 0, 1) := by decide +kernel
theorem dd_Co_emit_64 : decode cc_Co_emit 64 = .ok (.getfield 9, 3) := by decide +kernel
theorem dd_Co_emit_67 : decode cc_Co_emit 67 = .ok (.iload_n 3, 1) := by decide +kernel
theorem dd_Co_emit_68 : decode cc_Co_emit 68 = .ok (.iaload, 1) := by decide +kernel
theorem dd_Co_emit_69 : decode cc_Co_emit 69 = .ok (.iconst (-1), 1) := by decide +kernel
theorem dd_Co_emit_70 : decode cc_Co_emit 70 = .ok (.ixor, 1) := by decide +kernel
theorem dd_Co_emit_71 : decode cc_Co_emit 71 = .ok (.iand, 1) := by decide +kernel
theorem dd_Co_emit_72 : decode cc_Co_emit 72 = .ok (.invokevirtual 65, 3) := by decide +kernel
theorem dd_Co_emit_75 : decode cc_Co_emit 75 = .ok (.aload_n 0, 1) := by decide +kernel
theorem dd_Co_emit_76 : decode cc_Co_emit 76 = .ok (.getfield 9, 3) := by decide +kernel
theorem dd_Co_emit_79 : decode cc_Co_emit 79 = .ok (.iload_n 3, 1) := by decide +kernel
theorem dd_Co_emit_80 : decode cc_Co_emit 80 = .ok (.dup2, 1) := by decide +kernel
theorem dd_Co_emit_81 : decode cc_Co_emit 81 = .ok (.iaload, 1) := by decide +kernel
theorem dd_Co_emit_82 : decode cc_Co_emit 82 = .ok (.aload_n 0, 1) := by decide +kernel
theorem dd_Co_emit_83 : decode cc_Co_emit 83 = .ok (.getfield 15, 3) := by decide +kernel
theorem dd_Co_emit_86 : decode cc_Co_emit 86 = .ok (.iload_n 3, 1) := by decide +kernel
theorem dd_Co_emit_87 : decode cc_Co_emit 87 = .ok (.iaload, 1) := by decide +kernel
theorem dd_Co_emit_88 : decode cc_Co_emit 88 = .ok (.ior, 1) := by decide +kernel
theorem dd_Co_emit_89 : decode cc_Co_emit 89 = .ok (.iastore, 1) := by decide +kernel
theorem dd_Co_emit_90 : decode cc_Co_emit 90 = .ok (.iinc 3 1, 3) := by decide +kernel
theorem dd_Co_emit_93 : decode cc_Co_emit 93 = .ok (.goto (-43), 3) := by decide +kernel
theorem dd_Co_emit_96 : decode cc_Co_emit 96 = .ok (.return_, 1) := by decide +kernel
theorem dd_Co_emitRound_0 : decode cc_Co_emitRound 0 = .ok (.iconst 0, 1) := by decide +kernel
theorem dd_Co_emitRound_1 : decode cc_Co_emitRound 1 = .ok (.istore_n 3, 1) := by decide +kernel
theorem dd_Co_emitRound_2 : decode cc_Co_emitRound 2 = .ok (.iload_n 3, 1) := by decide +kernel
theorem dd_Co_emitRound_3 : decode cc_Co_emitRound 3 = .ok (.iconst 4, 1) := by decide +kernel
theorem dd_Co_emitRound_4 : decode cc_Co_emitRound 4 = .ok (.if_icmp .ge 68, 3) := by decide +kernel
theorem dd_Co_emitRound_7 : decode cc_Co_emitRound 7 = .ok (.aload_n 0, 1) := by decide +kernel
theorem dd_Co_emitRound_8 : decode cc_Co_emitRound 8 = .ok (.getfield 22, 3) := by decide +kernel
theorem dd_Co_emitRound_11 : decode cc_Co_emitRound 11 = .ok (.iload_n 3, 1) := by decide +kernel
theorem dd_Co_emitRound_12 : decode cc_Co_emitRound 12 = .ok (.iload_n 1, 1) := by decide +kernel
theorem dd_Co_emitRound_13 : decode cc_Co_emitRound 13 = .ok (.invokevirtual 68, 3) := by decide +kernel
theorem dd_Co_emitRound_16 : decode cc_Co_emitRound 16 = .ok (.istore 4, 2) := by decide +kernel
theorem dd_Co_emitRound_18 : decode cc_Co_emitRound 18 = .ok (.iload 4, 2) := by decide +kernel
theorem dd_Co_emitRound_20 : decode cc_Co_emitRound 20 = .ok (.iconst (-1), 1) := by decide +kernel
theorem dd_Co_emitRound_21 : decode cc_Co_emitRound 21 = .ok (.if_icmp .eq 45, 3) := by decide +kernel
theorem dd_Co_emitRound_24 : decode cc_Co_emitRound 24 = .ok (.iload_n 2, 1) := by decide +kernel
theorem dd_Co_emitRound_25 : decode cc_Co_emitRound 25 = .ok (.iload_n 3, 1) := by decide +kernel
theorem dd_Co_emitRound_26 : decode cc_Co_emitRound 26 = .ok (.invokestatic 42, 3) := by decide +kernel
theorem dd_Co_emitRound_29 : decode cc_Co_emitRound 29 = .ok (.ifCond .eq 37, 3) := by decide +kernel
theorem dd_Co_emitRound_32 : decode cc_Co_emitRound 32 = .ok (.aload_n 0, 1) := by decide +kernel
theorem dd_Co_emitRound_33 : decode cc_Co_emitRound 33 = .ok (.getfield 26, 3) := by decide +kernel
theorem dd_Co_emitRound_36 : decode cc_Co_emitRound 36 = .ok (.aload_n 0, 1) := by decide +kernel
theorem dd_Co_emitRound_37 : decode cc_Co_emitRound 37 = .ok (.getfield 18, 3) := by decide +kernel
theorem dd_Co_emitRound_40 : decode cc_Co_emitRound 40 = .ok (.getfield 71, 3) := by decide +kernel
theorem dd_Co_emitRound_43 : decode cc_Co_emitRound 43 = .ok (.iload 4, 2) := by decide +kernel
theorem dd_Co_emitRound_45 : decode cc_Co_emitRound 45 = .ok (.iaload, 1) := by decide +kernel
theorem dd_Co_emitRound_46 : decode cc_Co_emitRound 46 = .ok (.invokevirtual 76, 3) := by decide +kernel
theorem dd_Co_emitRound_49 : decode cc_Co_emitRound 49 = .ok (.aload_n 0, 1) := by decide +kernel
theorem dd_Co_emitRound_50 : decode cc_Co_emitRound 50 = .ok (.getfield 26, 3) := by decide +kernel
theorem dd_Co_emitRound_53 : decode cc_Co_emitRound 53 = .ok (.aload_n 0, 1) := by decide +kernel
theorem dd_Co_emitRound_54 : decode cc_Co_emitRound 54 = .ok (.getfield 18, 3) := by decide +kernel
theorem dd_Co_emitRound_57 : decode cc_Co_emitRound 57 = .ok (.getfield 82, 3) := by decide +kernel
theorem dd_Co_emitRound_60 : decode cc_Co_emitRound 60 = .ok (.iload 4, 2) := by decide +kernel
theorem dd_Co_emitRound_62 : decode cc_Co_emitRound 62 = .ok (.iaload, 1) := by decide +kernel
theorem dd_Co_emitRound_63 : decode cc_Co_emitRound 63 = .ok (.invokevirtual 76, 3) := by decide +kernel
theorem dd_Co_emitRound_66 : decode cc_Co_emitRound 66 = .ok (.iinc 3 1, 3) := by decide +kernel
theorem dd_Co_emitRound_69 : decode cc_Co_emitRound 69 = .ok (.goto (-67), 3) := by decide +kernel
theorem dd_Co_emitRound_72 : decode cc_Co_emitRound 72 = .ok (.return_, 1) := by decide +kernel
theorem dd_Dg_find_0 : decode cc_Dg_find 0 = .ok (.aload_n 0, 1) := by decide +kernel
theorem dd_Dg_find_1 : decode cc_Dg_find 1 = .ok (.getfield 9, 3) := by decide +kernel
theorem dd_Dg_find_4 : decode cc_Dg_find 4 = .ok (.iload_n 2, 1) := by decide +kernel
theorem dd_Dg_find_5 : decode cc_Dg_find 5 = .ok (.iconst 4, 1) := by decide +kernel
theorem dd_Dg_find_6 : decode cc_Dg_find 6 = .ok (.imul, 1) := by decide +kernel
theorem dd_Dg_find_7 : decode cc_Dg_find 7 = .ok (.iload_n 1, 1) := by decide +kernel
theorem dd_Dg_find_8 : decode cc_Dg_find 8 = .ok (.iadd, 1) := by decide +kernel
theorem dd_Dg_find_9 : decode cc_Dg_find 9 = .ok (.iaload, 1) := by decide +kernel
theorem dd_Dg_find_10 : decode cc_Dg_find 10 = .ok (.ireturn, 1) := by decide +kernel
theorem dd_Bk_place_0 : decode cc_Bk_place 0 = .ok (.iload_n 1, 1) := by decide +kernel
theorem dd_Bk_place_1 : decode cc_Bk_place 1 = .ok (.iconst (-1), 1) := by decide +kernel
theorem dd_Bk_place_2 : decode cc_Bk_place 2 = .ok (.if_icmp .eq 16, 3) := by decide +kernel
theorem dd_Bk_place_5 : decode cc_Bk_place 5 = .ok (.aload_n 0, 1) := by decide +kernel
theorem dd_Bk_place_6 : decode cc_Bk_place 6 = .ok (.getfield 28, 3) := by decide +kernel
theorem dd_Bk_place_9 : decode cc_Bk_place 9 = .ok (.iload_n 1, 1) := by decide +kernel
theorem dd_Bk_place_10 : decode cc_Bk_place 10 = .ok (.lshr, 1) := by decide +kernel
theorem dd_Bk_place_11 : decode cc_Bk_place 11 = .ok (.lconst 1, 1) := by decide +kernel
theorem dd_Bk_place_12 : decode cc_Bk_place 12 = .ok (.land, 1) := by decide +kernel
theorem dd_Bk_place_13 : decode cc_Bk_place 13 = .ok (.lconst 1, 1) := by decide +kernel
theorem dd_Bk_place_14 : decode cc_Bk_place 14 = .ok (.lcmp, 1) := by decide +kernel
theorem dd_Bk_place_15 : decode cc_Bk_place 15 = .ok (.ifCond .ne 4, 3) := by decide +kernel
theorem dd_Bk_place_18 : decode cc_Bk_place 18 = .ok (.return_, 1) := by decide +kernel
theorem dd_Bk_place_19 : decode cc_Bk_place 19 = .ok (.aload_n 0, 1) := by decide +kernel
theorem dd_Bk_place_20 : decode cc_Bk_place 20 = .ok (.dup, 1) := by decide +kernel
theorem dd_Bk_place_21 : decode cc_Bk_place 21 = .ok (.getfield 28, 3) := by decide +kernel
theorem dd_Bk_place_24 : decode cc_Bk_place 24 = .ok (.lconst 1, 1) := by decide +kernel
theorem dd_Bk_place_25 : decode cc_Bk_place 25 = .ok (.iload_n 1, 1) := by decide +kernel
theorem dd_Bk_place_26 : decode cc_Bk_place 26 = .ok (.lshl, 1) := by decide +kernel
theorem dd_Bk_place_27 : decode cc_Bk_place 27 = .ok (.lor, 1) := by decide +kernel
theorem dd_Bk_place_28 : decode cc_Bk_place 28 = .ok (.putfield 28, 3) := by decide +kernel
theorem dd_Bk_place_31 : decode cc_Bk_place 31 = .ok (.aload_n 0, 1) := by decide +kernel
theorem dd_Bk_place_32 : decode cc_Bk_place 32 = .ok (.getfield 9, 3) := by decide +kernel
theorem dd_Bk_place_35 : decode cc_Bk_place 35 = .ok (.aload_n 0, 1) := by decide +kernel
theorem dd_Bk_place_36 : decode cc_Bk_place 36 = .ok (.getfield 32, 3) := by decide +kernel
theorem dd_Bk_place_39 : decode cc_Bk_place 39 = .ok (.iload_n 1, 1) := by decide +kernel
theorem dd_Bk_place_40 : decode cc_Bk_place 40 = .ok (.iastore, 1) := by decide +kernel
theorem dd_Bk_place_41 : decode cc_Bk_place 41 = .ok (.aload_n 0, 1) := by decide +kernel
theorem dd_Bk_place_42 : decode cc_Bk_place 42 = .ok (.dup, 1) := by decide +kernel
theorem dd_Bk_place_43 : decode cc_Bk_place 43 = .ok (.getfield 32, 3) := by decide +kernel
theorem dd_Bk_place_46 : decode cc_Bk_place 46 = .ok (.iconst 1, 1) := by decide +kernel
theorem dd_Bk_place_47 : decode cc_Bk_place 47 = .ok (.iadd, 1) := by decide +kernel
theorem dd_Bk_place_48 : decode cc_Bk_place 48 = .ok (.putfield 32, 3) := by decide +kernel
theorem dd_Bk_place_51 : decode cc_Bk_place 51 = .ok (.aload_n 0, 1) := by decide +kernel
theorem dd_Bk_place_52 : decode cc_Bk_place 52 = .ok (.getfield 18, 3) := by decide +kernel
theorem dd_Bk_place_55 : decode cc_Bk_place 55 = .ok (.getfield 36, 3) := by decide +kernel
theorem dd_Bk_place_58 : decode cc_Bk_place 58 = .ok (.iload_n 1, 1) := by decide +kernel
theorem dd_Bk_place_59 : decode cc_Bk_place 59 = .ok (.iaload, 1) := by decide +kernel
theorem dd_Bk_place_60 : decode cc_Bk_place 60 = .ok (.istore_n 2, 1) := by decide +kernel
theorem dd_Bk_place_61 : decode cc_Bk_place 61 = .ok (.aload_n 0, 1) := by decide +kernel
theorem dd_Bk_place_62 : decode cc_Bk_place 62 = .ok (.getfield 15, 3) := by decide +kernel
theorem dd_Bk_place_65 : decode cc_Bk_place 65 = .ok (.aload_n 0, 1) := by decide +kernel
theorem dd_Bk_place_66 : decode cc_Bk_place 66 = .ok (.getfield 18, 3) := by decide +kernel
theorem dd_Bk_place_69 : decode cc_Bk_place 69 = .ok (.getfield 41, 3) := by decide +kernel
theorem dd_Bk_place_72 : decode cc_Bk_place 72 = .ok (.iload_n 1, 1) := by decide +kernel
theorem dd_Bk_place_73 : decode cc_Bk_place 73 = .ok (.iaload, 1) := by decide +kernel
theorem dd_Bk_place_74 : decode cc_Bk_place 74 = .ok (.iaload, 1) := by decide +kernel
theorem dd_Bk_place_75 : decode cc_Bk_place 75 = .ok (.iload_n 2, 1) := by decide +kernel
theorem dd_Bk_place_76 : decode cc_Bk_place 76 = .ok (.if_icmp .lt 39, 3) := by decide +kernel
theorem dd_Bk_place_79 : decode cc_Bk_place 79 = .ok (.aload_n 0, 1) := by decide +kernel
theorem dd_Bk_place_80 : decode cc_Bk_place 80 = .ok (.getfield 15, 3) := by decide +kernel
theorem dd_Bk_place_83 : decode cc_Bk_place 83 = .ok (.aload_n 0, 1) := by decide +kernel
theorem dd_Bk_place_84 : decode cc_Bk_place 84 = .ok (.getfield 18, 3) := by decide +kernel
theorem dd_Bk_place_87 : decode cc_Bk_place 87 = .ok (.getfield 41, 3) := by decide +kernel
theorem dd_Bk_place_90 : decode cc_Bk_place 90 = .ok (.iload_n 1, 1) := by decide +kernel
theorem dd_Bk_place_91 : decode cc_Bk_place 91 = .ok (.iaload, 1) := by decide +kernel
theorem dd_Bk_place_92 : decode cc_Bk_place 92 = .ok (.dup2, 1) := by decide +kernel
theorem dd_Bk_place_93 : decode cc_Bk_place 93 = .ok (.iaload, 1) := by decide +kernel
theorem dd_Bk_place_94 : decode cc_Bk_place 94 = .ok (.iload_n 2, 1) := by decide +kernel
theorem dd_Bk_place_95 : decode cc_Bk_place 95 = .ok (.isub, 1) := by decide +kernel
theorem dd_Bk_place_96 : decode cc_Bk_place 96 = .ok (.iastore, 1) := by decide +kernel
theorem dd_Bk_place_97 : decode cc_Bk_place 97 = .ok (.aload_n 0, 1) := by decide +kernel
theorem dd_Bk_place_98 : decode cc_Bk_place 98 = .ok (.getfield 15, 3) := by decide +kernel
theorem dd_Bk_place_101 : decode cc_Bk_place 101 = .ok (.aload_n 0, 1) := by decide +kernel
theorem dd_Bk_place_102 : decode cc_Bk_place 102 = .ok (.getfield 18, 3) := by decide +kernel
theorem dd_Bk_place_105 : decode cc_Bk_place 105 = .ok (.getfield 44, 3) := by decide +kernel
theorem dd_Bk_place_108 : decode cc_Bk_place 108 = .ok (.iload_n 1, 1) := by decide +kernel
theorem dd_Bk_place_109 : decode cc_Bk_place 109 = .ok (.iaload, 1) := by decide +kernel
theorem dd_Bk_place_110 : decode cc_Bk_place 110 = .ok (.dup2, 1) := by decide +kernel
theorem dd_Bk_place_111 : decode cc_Bk_place 111 = .ok (.iaload, 1) := by decide +kernel
theorem dd_Bk_place_112 : decode cc_Bk_place 112 = .ok (.iload_n 2, 1) := by decide +kernel
theorem dd_Bk_place_113 : decode cc_Bk_place 113 = .ok (.iadd, 1) := by decide +kernel
theorem dd_Bk_place_114 : decode cc_Bk_place 114 = .ok (.iastore, 1) := by decide +kernel
theorem dd_Bk_place_115 : decode cc_Bk_place 115 = .ok (.return_, 1) := by decide +kernel
theorem dd_Dg_authorsOf_0 : decode cc_Dg_authorsOf 0 = .ok (.aload_n 0, 1) := by decide +kernel
theorem dd_Dg_authorsOf_1 : decode cc_Dg_authorsOf 1 = .ok (.getfield 15, 3) := by decide +kernel
theorem dd_Dg_authorsOf_4 : decode cc_Dg_authorsOf 4 = .ok (.iload_n 1, 1) := by decide +kernel
theorem dd_Dg_authorsOf_5 : decode cc_Dg_authorsOf 5 = .ok (.iaload, 1) := by decide +kernel
theorem dd_Dg_authorsOf_6 : decode cc_Dg_authorsOf 6 = .ok (.ireturn, 1) := by decide +kernel
theorem dd_Di_nextOfQueue_0 : decode cc_Di_nextOfQueue 0 = .ok (.aload_n 0, 1) := by decide +kernel
theorem dd_Di_nextOfQueue_1 : decode cc_Di_nextOfQueue 1 = .ok (.getfield 25, 3) := by decide +kernel
theorem dd_Di_nextOfQueue_4 : decode cc_Di_nextOfQueue 4 = .ok (.aload_n 0, 1) := by decide +kernel
theorem dd_Di_nextOfQueue_5 : decode cc_Di_nextOfQueue 5 = .ok (.getfield 21, 3) := by decide +kernel
theorem dd_Di_nextOfQueue_8 : decode cc_Di_nextOfQueue 8 = .ok (.if_icmp .lt 5, 3) := by decide +kernel
theorem dd_Di_nextOfQueue_11 : decode cc_Di_nextOfQueue 11 = .ok (.iconst (-1), 1) := by decide +kernel
theorem dd_Di_nextOfQueue_12 : decode cc_Di_nextOfQueue 12 = .ok (.ireturn, 1) := by decide +kernel
theorem dd_Di_nextOfQueue_13 : decode cc_Di_nextOfQueue 13 = .ok (.aload_n 0, 1) := by decide +kernel
theorem dd_Di_nextOfQueue_14 : decode cc_Di_nextOfQueue 14 = .ok (.dup, 1) := by decide +kernel
theorem dd_Di_nextOfQueue_15 : decode cc_Di_nextOfQueue 15 = .ok (.getfield 25, 3) := by decide +kernel
theorem dd_Di_nextOfQueue_18 : decode cc_Di_nextOfQueue 18 = .ok (.iconst 1, 1) := by decide +kernel
theorem dd_Di_nextOfQueue_19 : decode cc_Di_nextOfQueue 19 = .ok (.iadd, 1) := by decide +kernel
theorem dd_Di_nextOfQueue_20 : decode cc_Di_nextOfQueue 20 = .ok (.putfield 25, 3) := by decide +kernel
theorem dd_Di_nextOfQueue_23 : decode cc_Di_nextOfQueue 23 = .ok (.aload_n 0, 1) := by decide +kernel
theorem dd_Di_nextOfQueue_24 : decode cc_Di_nextOfQueue 24 = .ok (.getfield 9, 3) := by decide +kernel
theorem dd_Di_nextOfQueue_27 : decode cc_Di_nextOfQueue 27 = .ok (.aload_n 0, 1) := by decide +kernel
theorem dd_Di_nextOfQueue_28 : decode cc_Di_nextOfQueue 28 = .ok (.getfield 25, 3) := by decide +kernel
theorem dd_Di_nextOfQueue_31 : decode cc_Di_nextOfQueue 31 = .ok (.iconst 1, 1) := by decide +kernel
theorem dd_Di_nextOfQueue_32 : decode cc_Di_nextOfQueue 32 = .ok (.isub, 1) := by decide +kernel
theorem dd_Di_nextOfQueue_33 : decode cc_Di_nextOfQueue 33 = .ok (.iaload, 1) := by decide +kernel
theorem dd_Di_nextOfQueue_34 : decode cc_Di_nextOfQueue 34 = .ok (.ireturn, 1) := by decide +kernel
theorem dd_Ma_min_0 : decode cc_Ma_min 0 = .ok (.iload_n 0, 1) := by decide +kernel
theorem dd_Ma_min_1 : decode cc_Ma_min 1 = .ok (.iload_n 1, 1) := by decide +kernel
theorem dd_Ma_min_2 : decode cc_Ma_min 2 = .ok (.if_icmp .gt 7, 3) := by decide +kernel
theorem dd_Ma_min_5 : decode cc_Ma_min 5 = .ok (.iload_n 0, 1) := by decide +kernel
theorem dd_Ma_min_6 : decode cc_Ma_min 6 = .ok (.goto 4, 3) := by decide +kernel
theorem dd_Ma_min_9 : decode cc_Ma_min 9 = .ok (.iload_n 1, 1) := by decide +kernel
theorem dd_Ma_min_10 : decode cc_Ma_min 10 = .ok (.ireturn, 1) := by decide +kernel
theorem dd_Bk_open_0 : decode cc_Bk_open 0 = .ok (.aload_n 0, 1) := by decide +kernel
theorem dd_Bk_open_1 : decode cc_Bk_open 1 = .ok (.getfield 15, 3) := by decide +kernel
theorem dd_Bk_open_4 : decode cc_Bk_open 4 = .ok (.bipush 100, 2) := by decide +kernel
theorem dd_Bk_open_6 : decode cc_Bk_open 6 = .ok (.invokestatic 22, 3) := by decide +kernel
theorem dd_Bk_open_9 : decode cc_Bk_open 9 = .ok (.return_, 1) := by decide +kernel
theorem dd_Di_queueLength_0 : decode cc_Di_queueLength 0 = .ok (.aload_n 0, 1) := by decide +kernel
theorem dd_Di_queueLength_1 : decode cc_Di_queueLength 1 = .ok (.getfield 21, 3) := by decide +kernel
theorem dd_Di_queueLength_4 : decode cc_Di_queueLength 4 = .ok (.aload_n 0, 1) := by decide +kernel
theorem dd_Di_queueLength_5 : decode cc_Di_queueLength 5 = .ok (.getfield 25, 3) := by decide +kernel
theorem dd_Di_queueLength_8 : decode cc_Di_queueLength 8 = .ok (.isub, 1) := by decide +kernel
theorem dd_Di_queueLength_9 : decode cc_Di_queueLength 9 = .ok (.ireturn, 1) := by decide +kernel
end
section
/-! decode rows (written by wip/whole/gen02.py) -/
theorem dd_Le_init_0 : decode cc_Le_init 0 = .ok (.aload_n 0, 1) := by decide +kernel
theorem dd_Le_init_1 : decode cc_Le_init 1 = .ok (.invokespecial 3, 3) := by decide +kernel
theorem dd_Le_init_4 : decode cc_Le_init 4 = .ok (.aload_n 0, 1) := by decide +kernel
theorem dd_Le_init_5 : decode cc_Le_init 5 = .ok (.new 9, 3) := by decide +kernel
theorem dd_Le_init_8 : decode cc_Le_init 8 = .ok (.dup, 1) := by decide +kernel
theorem dd_Le_init_9 : decode cc_Le_init 9 = .ok (.invokespecial 11, 3) := by decide +kernel
theorem dd_Le_init_12 : decode cc_Le_init 12 = .ok (.putfield 12, 3) := by decide +kernel
theorem dd_Le_init_15 : decode cc_Le_init 15 = .ok (.aload_n 0, 1) := by decide +kernel
theorem dd_Le_init_16 : decode cc_Le_init 16 = .ok (.new 16, 3) := by decide +kernel
theorem dd_Le_init_19 : decode cc_Le_init 19 = .ok (.dup, 1) := by decide +kernel
theorem dd_Le_init_20 : decode cc_Le_init 20 = .ok (.invokespecial 18, 3) := by decide +kernel
theorem dd_Le_init_23 : decode cc_Le_init 23 = .ok (.putfield 19, 3) := by decide +kernel
theorem dd_Le_init_26 : decode cc_Le_init 26 = .ok (.aload_n 0, 1) := by decide +kernel
theorem dd_Le_init_27 : decode cc_Le_init 27 = .ok (.new 23, 3) := by decide +kernel
theorem dd_Le_init_30 : decode cc_Le_init 30 = .ok (.dup, 1) := by decide +kernel
theorem dd_Le_init_31 : decode cc_Le_init 31 = .ok (.invokespecial 25, 3) := by decide +kernel
theorem dd_Le_init_34 : decode cc_Le_init 34 = .ok (.putfield 26, 3) := by decide +kernel
theorem dd_Le_init_37 : decode cc_Le_init 37 = .ok (.aload_n 0, 1) := by decide +kernel
theorem dd_Le_init_38 : decode cc_Le_init 38 = .ok (.iconst 4, 1) := by decide +kernel
theorem dd_Le_init_39 : decode cc_Le_init 39 = .ok (.anewarray 30, 3) := by decide +kernel
theorem dd_Le_init_42 : decode cc_Le_init 42 = .ok (.putfield 32, 3) := by decide +kernel
theorem dd_Le_init_45 : decode cc_Le_init 45 = .ok (.iconst 0, 1) := by decide +kernel
theorem dd_Le_init_46 : decode cc_Le_init 46 = .ok (.istore_n 1, 1) := by decide +kernel
theorem dd_Le_init_47 : decode cc_Le_init 47 = .ok (.iload_n 1, 1) := by decide +kernel
theorem dd_Le_init_48 : decode cc_Le_init 48 = .ok (.iconst 4, 1) := by decide +kernel
theorem dd_Le_init_49 : decode cc_Le_init 49 = .ok (.if_icmp .ge 35, 3) := by decide +kernel
theorem dd_Le_init_52 : decode cc_Le_init 52 = .ok (.aload_n 0, 1) := by decide +kernel
theorem dd_Le_init_53 : decode cc_Le_init 53 = .ok (.getfield 32, 3) := by decide +kernel
theorem dd_Le_init_56 : decode cc_Le_init 56 = .ok (.iload_n 1, 1) := by decide +kernel
theorem dd_Le_init_57 : decode cc_Le_init 57 = .ok (.new 30, 3) := by decide +kernel
theorem dd_Le_init_60 : decode cc_Le_init 60 = .ok (.dup, 1) := by decide +kernel
theorem dd_Le_init_61 : decode cc_Le_init 61 = .ok (.iload_n 1, 1) := by decide +kernel
theorem dd_Le_init_62 : decode cc_Le_init 62 = .ok (.aload_n 0, 1) := by decide +kernel
theorem dd_Le_init_63 : decode cc_Le_init 63 = .ok (.getfield 26, 3) := by decide +kernel
theorem dd_Le_init_66 : decode cc_Le_init 66 = .ok (.aload_n 0, 1) := by decide +kernel
theorem dd_Le_init_67 : decode cc_Le_init 67 = .ok (.getfield 19, 3) := by decide +kernel
theorem dd_Le_init_70 : decode cc_Le_init 70 = .ok (.aload_n 0, 1) := by decide +kernel
theorem dd_Le_init_71 : decode cc_Le_init 71 = .ok (.getfield 12, 3) := by decide +kernel
theorem dd_Le_init_74 : decode cc_Le_init 74 = .ok (.invokespecial 36, 3) := by decide +kernel
theorem dd_Le_init_77 : decode cc_Le_init 77 = .ok (.aastore, 1) := by decide +kernel
theorem dd_Le_init_78 : decode cc_Le_init 78 = .ok (.iinc 1 1, 3) := by decide +kernel
theorem dd_Le_init_81 : decode cc_Le_init 81 = .ok (.goto (-34), 3) := by decide +kernel
theorem dd_Le_init_84 : decode cc_Le_init 84 = .ok (.aload_n 0, 1) := by decide +kernel
theorem dd_Le_init_85 : decode cc_Le_init 85 = .ok (.iconst (-1), 1) := by decide +kernel
theorem dd_Le_init_86 : decode cc_Le_init 86 = .ok (.putfield 39, 3) := by decide +kernel
theorem dd_Le_init_89 : decode cc_Le_init 89 = .ok (.return_, 1) := by decide +kernel
theorem dd_Re_init_0 : decode cc_Re_init 0 = .ok (.aload_n 0, 1) := by decide +kernel
theorem dd_Re_init_1 : decode cc_Re_init 1 = .ok (.invokespecial 3, 3) := by decide +kernel
theorem dd_Re_init_4 : decode cc_Re_init 4 = .ok (.aload_n 0, 1) := by decide +kernel
theorem dd_Re_init_5 : decode cc_Re_init 5 = .ok (.new 9, 3) := by decide +kernel
theorem dd_Re_init_8 : decode cc_Re_init 8 = .ok (.dup, 1) := by decide +kernel
theorem dd_Re_init_9 : decode cc_Re_init 9 = .ok (.invokespecial 11, 3) := by decide +kernel
theorem dd_Re_init_12 : decode cc_Re_init 12 = .ok (.putfield 12, 3) := by decide +kernel
theorem dd_Re_init_15 : decode cc_Re_init 15 = .ok (.aload_n 0, 1) := by decide +kernel
theorem dd_Re_init_16 : decode cc_Re_init 16 = .ok (.new 18, 3) := by decide +kernel
theorem dd_Re_init_19 : decode cc_Re_init 19 = .ok (.dup, 1) := by decide +kernel
theorem dd_Re_init_20 : decode cc_Re_init 20 = .ok (.invokespecial 20, 3) := by decide +kernel
theorem dd_Re_init_23 : decode cc_Re_init 23 = .ok (.putfield 21, 3) := by decide +kernel
theorem dd_Re_init_26 : decode cc_Re_init 26 = .ok (.aload_n 0, 1) := by decide +kernel
theorem dd_Re_init_27 : decode cc_Re_init 27 = .ok (.iconst 1, 1) := by decide +kernel
theorem dd_Re_init_28 : decode cc_Re_init 28 = .ok (.putfield 25, 3) := by decide +kernel
theorem dd_Re_init_31 : decode cc_Re_init 31 = .ok (.aload_n 0, 1) := by decide +kernel
theorem dd_Re_init_32 : decode cc_Re_init 32 = .ok (.iload_n 1, 1) := by decide +kernel
theorem dd_Re_init_33 : decode cc_Re_init 33 = .ok (.putfield 29, 3) := by decide +kernel
theorem dd_Re_init_36 : decode cc_Re_init 36 = .ok (.aload_n 0, 1) := by decide +kernel
theorem dd_Re_init_37 : decode cc_Re_init 37 = .ok (.aload_n 2, 1) := by decide +kernel
theorem dd_Re_init_38 : decode cc_Re_init 38 = .ok (.putfield 32, 3) := by decide +kernel
theorem dd_Re_init_41 : decode cc_Re_init 41 = .ok (.aload_n 0, 1) := by decide +kernel
theorem dd_Re_init_42 : decode cc_Re_init 42 = .ok (.aload_n 3, 1) := by decide +kernel
theorem dd_Re_init_43 : decode cc_Re_init 43 = .ok (.putfield 36, 3) := by decide +kernel
theorem dd_Re_init_46 : decode cc_Re_init 46 = .ok (.aload_n 0, 1) := by decide +kernel
theorem dd_Re_init_47 : decode cc_Re_init 47 = .ok (.new 40, 3) := by decide +kernel
theorem dd_Re_init_50 : decode cc_Re_init 50 = .ok (.dup, 1) := by decide +kernel
theorem dd_Re_init_51 : decode cc_Re_init 51 = .ok (.aload_n 3, 1) := by decide +kernel
theorem dd_Re_init_52 : decode cc_Re_init 52 = .ok (.invokespecial 42, 3) := by decide +kernel
theorem dd_Re_init_55 : decode cc_Re_init 55 = .ok (.putfield 45, 3) := by decide +kernel
theorem dd_Re_init_58 : decode cc_Re_init 58 = .ok (.aload_n 0, 1) := by decide +kernel
theorem dd_Re_init_59 : decode cc_Re_init 59 = .ok (.new 49, 3) := by decide +kernel
theorem dd_Re_init_62 : decode cc_Re_init 62 = .ok (.dup, 1) := by decide +kernel
theorem dd_Re_init_63 : decode cc_Re_init 63 = .ok (.aload 4, 2) := by decide +kernel
theorem dd_Re_init_65 : decode cc_Re_init 65 = .ok (.invokespecial 51, 3) := by decide +kernel
theorem dd_Re_init_68 : decode cc_Re_init 68 = .ok (.putfield 54, 3) := by decide +kernel
theorem dd_Re_init_71 : decode cc_Re_init 71 = .ok (.aload_n 0, 1) := by decide +kernel
theorem dd_Re_init_72 : decode cc_Re_init 72 = .ok (.new 58, 3) := by decide +kernel
theorem dd_Re_init_75 : decode cc_Re_init 75 = .ok (.dup, 1) := by decide +kernel
theorem dd_Re_init_76 : decode cc_Re_init 76 = .ok (.aload_n 3, 1) := by decide +kernel
theorem dd_Re_init_77 : decode cc_Re_init 77 = .ok (.aload_n 0, 1) := by decide +kernel
theorem dd_Re_init_78 : decode cc_Re_init 78 = .ok (.getfield 45, 3) := by decide +kernel
theorem dd_Re_init_81 : decode cc_Re_init 81 = .ok (.aload_n 0, 1) := by decide +kernel
theorem dd_Re_init_82 : decode cc_Re_init 82 = .ok (.getfield 54, 3) := by decide +kernel
theorem dd_Re_init_85 : decode cc_Re_init 85 = .ok (.invokespecial 60, 3) := by decide +kernel
theorem dd_Re_init_88 : decode cc_Re_init 88 = .ok (.putfield 63, 3) := by decide +kernel
theorem dd_Re_init_91 : decode cc_Re_init 91 = .ok (.return_, 1) := by decide +kernel
theorem dd_Le_forge_0 : decode cc_Le_forge 0 = .ok (.aload_n 0, 1) := by decide +kernel
theorem dd_Le_forge_1 : decode cc_Le_forge 1 = .ok (.getfield 39, 3) := by decide +kernel
theorem dd_Le_forge_4 : decode cc_Le_forge 4 = .ok (.iconst (-1), 1) := by decide +kernel
theorem dd_Le_forge_5 : decode cc_Le_forge 5 = .ok (.if_icmp .eq 61, 3) := by decide +kernel
theorem dd_Le_forge_8 : decode cc_Le_forge 8 = .ok (.iload_n 1, 1) := by decide +kernel
theorem dd_Le_forge_9 : decode cc_Le_forge 9 = .ok (.iconst 1, 1) := by decide +kernel
theorem dd_Le_forge_10 : decode cc_Le_forge 10 = .ok (.if_icmp .lt 56, 3) := by decide +kernel
theorem dd_Le_forge_13 : decode cc_Le_forge 13 = .ok (.iload_n 1, 1) := by decide +kernel
theorem dd_Le_forge_14 : decode cc_Le_forge 14 = .ok (.bipush 14, 2) := by decide +kernel
theorem dd_Le_forge_16 : decode cc_Le_forge 16 = .ok (.if_icmp .gt 50, 3) := by decide +kernel
theorem dd_Le_forge_19 : decode cc_Le_forge 19 = .ok (.iload_n 2, 1) := by decide +kernel
theorem dd_Le_forge_20 : decode cc_Le_forge 20 = .ok (.ifCond .lt 46, 3) := by decide +kernel
theorem dd_Le_forge_23 : decode cc_Le_forge 23 = .ok (.iload_n 2, 1) := by decide +kernel
theorem dd_Le_forge_24 : decode cc_Le_forge 24 = .ok (.bipush 15, 2) := by decide +kernel
theorem dd_Le_forge_26 : decode cc_Le_forge 26 = .ok (.if_icmp .gt 40, 3) := by decide +kernel
theorem dd_Le_forge_29 : decode cc_Le_forge 29 = .ok (.aload_n 0, 1) := by decide +kernel
theorem dd_Le_forge_30 : decode cc_Le_forge 30 = .ok (.iload_n 3, 1) := by decide +kernel
theorem dd_Le_forge_31 : decode cc_Le_forge 31 = .ok (.invokevirtual 106, 3) := by decide +kernel
theorem dd_Le_forge_34 : decode cc_Le_forge 34 = .ok (.ifCond .eq 32, 3) := by decide +kernel
theorem dd_Le_forge_37 : decode cc_Le_forge 37 = .ok (.aload_n 0, 1) := by decide +kernel
theorem dd_Le_forge_38 : decode cc_Le_forge 38 = .ok (.iload 4, 2) := by decide +kernel
theorem dd_Le_forge_40 : decode cc_Le_forge 40 = .ok (.invokevirtual 106, 3) := by decide +kernel
theorem dd_Le_forge_43 : decode cc_Le_forge 43 = .ok (.ifCond .eq 23, 3) := by decide +kernel
theorem dd_Le_forge_46 : decode cc_Le_forge 46 = .ok (.aload_n 0, 1) := by decide +kernel
theorem dd_Le_forge_47 : decode cc_Le_forge 47 = .ok (.getfield 19, 3) := by decide +kernel
theorem dd_Le_forge_50 : decode cc_Le_forge 50 = .ok (.invokevirtual 109, 3) := by decide +kernel
theorem dd_Le_forge_53 : decode cc_Le_forge 53 = .ok (.ifCond .ne 13, 3) := by decide +kernel
theorem dd_Le_forge_56 : decode cc_Le_forge 56 = .ok (.aload_n 0, 1) := by decide +kernel
theorem dd_Le_forge_57 : decode cc_Le_forge 57 = .ok (.getfield 26, 3) := by decide +kernel
theorem dd_Le_forge_60 : decode cc_Le_forge 60 = .ok (.invokevirtual 81, 3) := by decide +kernel
theorem dd_Le_forge_63 : decode cc_Le_forge 63 = .ok (.ifCond .eq 5, 3) := by decide +kernel
theorem dd_Le_forge_66 : decode cc_Le_forge 66 = .ok (.iconst (-1), 1) := by decide +kernel
theorem dd_Le_forge_67 : decode cc_Le_forge 67 = .ok (.ireturn, 1) := by decide +kernel
theorem dd_Le_forge_68 : decode cc_Le_forge 68 = .ok (.aload_n 0, 1) := by decide +kernel
theorem dd_Le_forge_69 : decode cc_Le_forge 69 = .ok (.getfield 19, 3) := by decide +kernel
theorem dd_Le_forge_72 : decode cc_Le_forge 72 = .ok (.aload_n 0, 1) := by decide +kernel
theorem dd_Le_forge_73 : decode cc_Le_forge 73 = .ok (.getfield 39, 3) := by decide +kernel
theorem dd_Le_forge_76 : decode cc_Le_forge 76 = .ok (.iload_n 1, 1) := by decide +kernel
theorem dd_Le_forge_77 : decode cc_Le_forge 77 = .ok (.iload_n 2, 1) := by decide +kernel
theorem dd_Le_forge_78 : decode cc_Le_forge 78 = .ok (.iload_n 3, 1) := by decide +kernel
theorem dd_Le_forge_79 : decode cc_Le_forge 79 = .ok (.iload 4, 2) := by decide +kernel
theorem dd_Le_forge_81 : decode cc_Le_forge 81 = .ok (.invokevirtual 110, 3) := by decide +kernel
theorem dd_Le_forge_84 : decode cc_Le_forge 84 = .ok (.istore 5, 2) := by decide +kernel
theorem dd_Le_forge_86 : decode cc_Le_forge 86 = .ok (.aload_n 0, 1) := by decide +kernel
theorem dd_Le_forge_87 : decode cc_Le_forge 87 = .ok (.getfield 26, 3) := by decide +kernel
theorem dd_Le_forge_90 : decode cc_Le_forge 90 = .ok (.iconst 0, 1) := by decide +kernel
theorem dd_Le_forge_91 : decode cc_Le_forge 91 = .ok (.aload_n 0, 1) := by decide +kernel
theorem dd_Le_forge_92 : decode cc_Le_forge 92 = .ok (.getfield 39, 3) := by decide +kernel
theorem dd_Le_forge_95 : decode cc_Le_forge 95 = .ok (.iload 5, 2) := by decide +kernel
theorem dd_Le_forge_97 : decode cc_Le_forge 97 = .ok (.invokevirtual 113, 3) := by decide +kernel
theorem dd_Le_forge_100 : decode cc_Le_forge 100 = .ok (.pop, 1) := by decide +kernel
theorem dd_Le_forge_101 : decode cc_Le_forge 101 = .ok (.iload 5, 2) := by decide +kernel
theorem dd_Le_forge_103 : decode cc_Le_forge 103 = .ok (.ireturn, 1) := by decide +kernel
theorem dd_Le_isTransferOrNone_0 : decode cc_Le_isTransferOrNone 0 = .ok (.iload_n 1, 1) := by decide +kernel
theorem dd_Le_isTransferOrNone_1 : decode cc_Le_isTransferOrNone 1 = .ok (.iconst (-1), 1) := by decide +kernel
theorem dd_Le_isTransferOrNone_2 : decode cc_Le_isTransferOrNone 2 = .ok (.if_icmp .eq 14, 3) := by decide +kernel
theorem dd_Le_isTransferOrNone_5 : decode cc_Le_isTransferOrNone 5 = .ok (.aload_n 0, 1) := by decide +kernel
theorem dd_Le_isTransferOrNone_6 : decode cc_Le_isTransferOrNone 6 = .ok (.getfield 12, 3) := by decide +kernel
theorem dd_Le_isTransferOrNone_9 : decode cc_Le_isTransferOrNone 9 = .ok (.iload_n 1, 1) := by decide +kernel
theorem dd_Le_isTransferOrNone_10 : decode cc_Le_isTransferOrNone 10 = .ok (.invokevirtual 202, 3) := by decide +kernel
theorem dd_Le_isTransferOrNone_13 : decode cc_Le_isTransferOrNone 13 = .ok (.ifCond .eq 7, 3) := by decide +kernel
theorem dd_Le_isTransferOrNone_16 : decode cc_Le_isTransferOrNone 16 = .ok (.iconst 1, 1) := by decide +kernel
theorem dd_Le_isTransferOrNone_17 : decode cc_Le_isTransferOrNone 17 = .ok (.goto 4, 3) := by decide +kernel
theorem dd_Le_isTransferOrNone_20 : decode cc_Le_isTransferOrNone 20 = .ok (.iconst 0, 1) := by decide +kernel
theorem dd_Le_isTransferOrNone_21 : decode cc_Le_isTransferOrNone 21 = .ok (.ireturn, 1) := by decide +kernel
theorem dd_Le_send_0 : decode cc_Le_send 0 = .ok (.aload_n 0, 1) := by decide +kernel
theorem dd_Le_send_1 : decode cc_Le_send 1 = .ok (.getfield 39, 3) := by decide +kernel
theorem dd_Le_send_4 : decode cc_Le_send 4 = .ok (.iconst (-1), 1) := by decide +kernel
theorem dd_Le_send_5 : decode cc_Le_send 5 = .ok (.if_icmp .eq 33, 3) := by decide +kernel
theorem dd_Le_send_8 : decode cc_Le_send 8 = .ok (.iload_n 1, 1) := by decide +kernel
theorem dd_Le_send_9 : decode cc_Le_send 9 = .ok (.ifCond .lt 29, 3) := by decide +kernel
theorem dd_Le_send_12 : decode cc_Le_send 12 = .ok (.iload_n 1, 1) := by decide +kernel
theorem dd_Le_send_13 : decode cc_Le_send 13 = .ok (.iconst 2, 1) := by decide +kernel
theorem dd_Le_send_14 : decode cc_Le_send 14 = .ok (.if_icmp .gt 24, 3) := by decide +kernel
theorem dd_Le_send_17 : decode cc_Le_send 17 = .ok (.aload_n 0, 1) := by decide +kernel
theorem dd_Le_send_18 : decode cc_Le_send 18 = .ok (.getfield 19, 3) := by decide +kernel
theorem dd_Le_send_21 : decode cc_Le_send 21 = .ok (.iload_n 2, 1) := by decide +kernel
theorem dd_Le_send_22 : decode cc_Le_send 22 = .ok (.invokevirtual 116, 3) := by decide +kernel
theorem dd_Le_send_25 : decode cc_Le_send 25 = .ok (.ifCond .eq 13, 3) := by decide +kernel
theorem dd_Le_send_28 : decode cc_Le_send 28 = .ok (.aload_n 0, 1) := by decide +kernel
theorem dd_Le_send_29 : decode cc_Le_send 29 = .ok (.getfield 26, 3) := by decide +kernel
theorem dd_Le_send_32 : decode cc_Le_send 32 = .ok (.invokevirtual 81, 3) := by decide +kernel
theorem dd_Le_send_35 : decode cc_Le_send 35 = .ok (.ifCond .eq 5, 3) := by decide +kernel
theorem dd_Le_send_38 : decode cc_Le_send 38 = .ok (.iconst (-1), 1) := by decide +kernel
theorem dd_Le_send_39 : decode cc_Le_send 39 = .ok (.ireturn, 1) := by decide +kernel
theorem dd_Le_send_40 : decode cc_Le_send 40 = .ok (.aload_n 0, 1) := by decide +kernel
theorem dd_Le_send_41 : decode cc_Le_send 41 = .ok (.getfield 26, 3) := by decide +kernel
theorem dd_Le_send_44 : decode cc_Le_send 44 = .ok (.iload_n 1, 1) := by decide +kernel
theorem dd_Le_send_45 : decode cc_Le_send 45 = .ok (.aload_n 0, 1) := by decide +kernel
theorem dd_Le_send_46 : decode cc_Le_send 46 = .ok (.getfield 39, 3) := by decide +kernel
theorem dd_Le_send_49 : decode cc_Le_send 49 = .ok (.iload_n 2, 1) := by decide +kernel
theorem dd_Le_send_50 : decode cc_Le_send 50 = .ok (.invokevirtual 113, 3) := by decide +kernel
theorem dd_Le_send_53 : decode cc_Le_send 53 = .ok (.ireturn, 1) := by decide +kernel
theorem dd_Le_message_0 : decode cc_Le_message 0 = .ok (.aload_n 0, 1) := by decide +kernel
theorem dd_Le_message_1 : decode cc_Le_message 1 = .ok (.getfield 26, 3) := by decide +kernel
theorem dd_Le_message_4 : decode cc_Le_message 4 = .ok (.iload_n 1, 1) := by decide +kernel
theorem dd_Le_message_5 : decode cc_Le_message 5 = .ok (.invokevirtual 75, 3) := by decide +kernel
theorem dd_Le_message_8 : decode cc_Le_message 8 = .ok (.ifCond .ne 5, 3) := by decide +kernel
theorem dd_Le_message_11 : decode cc_Le_message 11 = .ok (.iconst (-1), 1) := by decide +kernel
theorem dd_Le_message_12 : decode cc_Le_message 12 = .ok (.ireturn, 1) := by decide +kernel
theorem dd_Le_message_13 : decode cc_Le_message 13 = .ok (.iload_n 2, 1) := by decide +kernel
theorem dd_Le_message_14 : decode cc_Le_message 14 = .ok (.tableswitch 56 0 2 #[26, 36, 46], 26) := by decide +kernel
theorem dd_Le_message_40 : decode cc_Le_message 40 = .ok (.aload_n 0, 1) := by decide +kernel
theorem dd_Le_message_41 : decode cc_Le_message 41 = .ok (.getfield 26, 3) := by decide +kernel
theorem dd_Le_message_44 : decode cc_Le_message 44 = .ok (.getfield 117, 3) := by decide +kernel
theorem dd_Le_message_47 : decode cc_Le_message 47 = .ok (.iload_n 1, 1) := by decide +kernel
theorem dd_Le_message_48 : decode cc_Le_message 48 = .ok (.iaload, 1) := by decide +kernel
theorem dd_Le_message_49 : decode cc_Le_message 49 = .ok (.ireturn, 1) := by decide +kernel
theorem dd_Le_message_50 : decode cc_Le_message 50 = .ok (.aload_n 0, 1) := by decide +kernel
theorem dd_Le_message_51 : decode cc_Le_message 51 = .ok (.getfield 26, 3) := by decide +kernel
theorem dd_Le_message_54 : decode cc_Le_message 54 = .ok (.getfield 121, 3) := by decide +kernel
theorem dd_Le_message_57 : decode cc_Le_message 57 = .ok (.iload_n 1, 1) := by decide +kernel
theorem dd_Le_message_58 : decode cc_Le_message 58 = .ok (.iaload, 1) := by decide +kernel
theorem dd_Le_message_59 : decode cc_Le_message 59 = .ok (.ireturn, 1) := by decide +kernel
theorem dd_Le_message_60 : decode cc_Le_message 60 = .ok (.aload_n 0, 1) := by decide +kernel
theorem dd_Le_message_61 : decode cc_Le_message 61 = .ok (.getfield 26, 3) := by decide +kernel
theorem dd_Le_message_64 : decode cc_Le_message 64 = .ok (.getfield 124, 3) := by decide +kernel
theorem dd_Le_message_67 : decode cc_Le_message 67 = .ok (.iload_n 1, 1) := by decide +kernel
theorem dd_Le_message_68 : decode cc_Le_message 68 = .ok (.iaload, 1) := by decide +kernel
theorem dd_Le_message_69 : decode cc_Le_message 69 = .ok (.ireturn, 1) := by decide +kernel
theorem dd_Le_message_70 : decode cc_Le_message 70 = .ok (.iconst (-1), 1) := by decide +kernel
theorem dd_Le_message_71 : decode cc_Le_message 71 = .ok (.ireturn, 1) := by decide +kernel
theorem dd_Le_vertex_0 : decode cc_Le_vertex 0 = .ok (.aload_n 0, 1) := by decide +kernel
theorem dd_Le_vertex_1 : decode cc_Le_vertex 1 = .ok (.getfield 19, 3) := by decide +kernel
theorem dd_Le_vertex_4 : decode cc_Le_vertex 4 = .ok (.iload_n 1, 1) := by decide +kernel
theorem dd_Le_vertex_5 : decode cc_Le_vertex 5 = .ok (.invokevirtual 116, 3) := by decide +kernel
theorem dd_Le_vertex_8 : decode cc_Le_vertex 8 = .ok (.ifCond .ne 5, 3) := by decide +kernel
theorem dd_Le_vertex_11 : decode cc_Le_vertex 11 = .ok (.iconst (-1), 1) := by decide +kernel
theorem dd_Le_vertex_12 : decode cc_Le_vertex 12 = .ok (.ireturn, 1) := by decide +kernel
theorem dd_Le_vertex_13 : decode cc_Le_vertex 13 = .ok (.iload_n 2, 1) := by decide +kernel
theorem dd_Le_vertex_14 : decode cc_Le_vertex 14 = .ok (.tableswitch 84 0 4 #[34, 44, 54, 64, 74], 34) := by decide +kernel
theorem dd_Le_vertex_48 : decode cc_Le_vertex 48 = .ok (.aload_n 0, 1) := by decide +kernel
theorem dd_Le_vertex_49 : decode cc_Le_vertex 49 = .ok (.getfield 19, 3) := by decide +kernel
theorem dd_Le_vertex_52 : decode cc_Le_vertex 52 = .ok (.getfield 127, 3) := by decide +kernel
theorem dd_Le_vertex_55 : decode cc_Le_vertex 55 = .ok (.iload_n 1, 1) := by decide +kernel
theorem dd_Le_vertex_56 : decode cc_Le_vertex 56 = .ok (.iaload, 1) := by decide +kernel
theorem dd_Le_vertex_57 : decode cc_Le_vertex 57 = .ok (.ireturn, 1) := by decide +kernel
theorem dd_Le_vertex_58 : decode cc_Le_vertex 58 = .ok (.aload_n 0, 1) := by decide +kernel
theorem dd_Le_vertex_59 : decode cc_Le_vertex 59 = .ok (.getfield 19, 3) := by decide +kernel
theorem dd_Le_vertex_62 : decode cc_Le_vertex 62 = .ok (.getfield 130, 3) := by decide +kernel
theorem dd_Le_vertex_65 : decode cc_Le_vertex 65 = .ok (.iload_n 1, 1) := by decide +kernel
theorem dd_Le_vertex_66 : decode cc_Le_vertex 66 = .ok (.iaload, 1) := by decide +kernel
theorem dd_Le_vertex_67 : decode cc_Le_vertex 67 = .ok (.ireturn, 1) := by decide +kernel
theorem dd_Le_vertex_68 : decode cc_Le_vertex 68 = .ok (.aload_n 0, 1) := by decide +kernel
theorem dd_Le_vertex_69 : decode cc_Le_vertex 69 = .ok (.getfield 19, 3) := by decide +kernel
theorem dd_Le_vertex_72 : decode cc_Le_vertex 72 = .ok (.getfield 133, 3) := by decide +kernel
theorem dd_Le_vertex_75 : decode cc_Le_vertex 75 = .ok (.iload_n 1, 1) := by decide +kernel
theorem dd_Le_vertex_76 : decode cc_Le_vertex 76 = .ok (.iaload, 1) := by decide +kernel
theorem dd_Le_vertex_77 : decode cc_Le_vertex 77 = .ok (.ireturn, 1) := by decide +kernel
theorem dd_Le_vertex_78 : decode cc_Le_vertex 78 = .ok (.aload_n 0, 1) := by decide +kernel
theorem dd_Le_vertex_79 : decode cc_Le_vertex 79 = .ok (.getfield 19, 3) := by decide +kernel
theorem dd_Le_vertex_82 : decode cc_Le_vertex 82 = .ok (.getfield 136, 3) := by decide +kernel
theorem dd_Le_vertex_85 : decode cc_Le_vertex 85 = .ok (.iload_n 1, 1) := by decide +kernel
theorem dd_Le_vertex_86 : decode cc_Le_vertex 86 = .ok (.iaload, 1) := by decide +kernel
theorem dd_Le_vertex_87 : decode cc_Le_vertex 87 = .ok (.ireturn, 1) := by decide +kernel
theorem dd_Le_vertex_88 : decode cc_Le_vertex 88 = .ok (.aload_n 0, 1) := by decide +kernel
theorem dd_Le_vertex_89 : decode cc_Le_vertex 89 = .ok (.getfield 19, 3) := by decide +kernel
theorem dd_Le_vertex_92 : decode cc_Le_vertex 92 = .ok (.getfield 139, 3) := by decide +kernel
theorem dd_Le_vertex_95 : decode cc_Le_vertex 95 = .ok (.iload_n 1, 1) := by decide +kernel
theorem dd_Le_vertex_96 : decode cc_Le_vertex 96 = .ok (.iaload, 1) := by decide +kernel
theorem dd_Le_vertex_97 : decode cc_Le_vertex 97 = .ok (.ireturn, 1) := by decide +kernel
theorem dd_Le_vertex_98 : decode cc_Le_vertex 98 = .ok (.iconst (-1), 1) := by decide +kernel
theorem dd_Le_vertex_99 : decode cc_Le_vertex 99 = .ok (.ireturn, 1) := by decide +kernel
theorem dd_Le_submit_0 : decode cc_Le_submit 0 = .ok (.aload_n 0, 1) := by decide +kernel
theorem dd_Le_submit_1 : decode cc_Le_submit 1 = .ok (.iload_n 1, 1) := by decide +kernel
theorem dd_Le_submit_2 : decode cc_Le_submit 2 = .ok (.invokevirtual 43, 3) := by decide +kernel
theorem dd_Le_submit_5 : decode cc_Le_submit 5 = .ok (.astore 5, 2) := by decide +kernel
theorem dd_Le_submit_7 : decode cc_Le_submit 7 = .ok (.aload_n 0, 1) := by decide +kernel
theorem dd_Le_submit_8 : decode cc_Le_submit 8 = .ok (.getfield 12, 3) := by decide +kernel
theorem dd_Le_submit_11 : decode cc_Le_submit 11 = .ok (.invokevirtual 47, 3) := by decide +kernel
theorem dd_Le_submit_14 : decode cc_Le_submit 14 = .ok (.ifCond .ne 36, 3) := by decide +kernel
theorem dd_Le_submit_17 : decode cc_Le_submit 17 = .ok (.iload_n 2, 1) := by decide +kernel
theorem dd_Le_submit_18 : decode cc_Le_submit 18 = .ok (.invokestatic 51, 3) := by decide +kernel
theorem dd_Le_submit_21 : decode cc_Le_submit 21 = .ok (.ifCond .eq 29, 3) := by decide +kernel
theorem dd_Le_submit_24 : decode cc_Le_submit 24 = .ok (.iload_n 3, 1) := by decide +kernel
theorem dd_Le_submit_25 : decode cc_Le_submit 25 = .ok (.invokestatic 51, 3) := by decide +kernel
theorem dd_Le_submit_28 : decode cc_Le_submit 28 = .ok (.ifCond .eq 22, 3) := by decide +kernel
theorem dd_Le_submit_31 : decode cc_Le_submit 31 = .ok (.iload_n 2, 1) := by decide +kernel
theorem dd_Le_submit_32 : decode cc_Le_submit 32 = .ok (.iload_n 3, 1) := by decide +kernel
theorem dd_Le_submit_33 : decode cc_Le_submit 33 = .ok (.if_icmp .eq 17, 3) := by decide +kernel
theorem dd_Le_submit_36 : decode cc_Le_submit 36 = .ok (.iload 4, 2) := by decide +kernel
theorem dd_Le_submit_38 : decode cc_Le_submit 38 = .ok (.iconst 1, 1) := by decide +kernel
theorem dd_Le_submit_39 : decode cc_Le_submit 39 = .ok (.if_icmp .lt 11, 3) := by decide +kernel
theorem dd_Le_submit_42 : decode cc_Le_submit 42 = .ok (.iload 4, 2) := by decide +kernel
theorem dd_Le_submit_44 : decode cc_Le_submit 44 = .ok (.sipush 1000, 3) := by decide +kernel
theorem dd_Le_submit_47 : decode cc_Le_submit 47 = .ok (.if_icmp .le 5, 3) := by decide +kernel
theorem dd_Le_submit_50 : decode cc_Le_submit 50 = .ok (.iconst (-1), 1) := by decide +kernel
theorem dd_Le_submit_51 : decode cc_Le_submit 51 = .ok (.ireturn, 1) := by decide +kernel
theorem dd_Le_submit_52 : decode cc_Le_submit 52 = .ok (.aload 5, 2) := by decide +kernel
theorem dd_Le_submit_54 : decode cc_Le_submit 54 = .ok (.invokevirtual 55, 3) := by decide +kernel
theorem dd_Le_submit_57 : decode cc_Le_submit 57 = .ok (.ifCond .ne 6, 3) := by decide +kernel
theorem dd_Le_submit_60 : decode cc_Le_submit 60 = .ok (.bipush (-2), 2) := by decide +kernel
theorem dd_Le_submit_62 : decode cc_Le_submit 62 = .ok (.ireturn, 1) := by decide +kernel
theorem dd_Le_submit_63 : decode cc_Le_submit 63 = .ok (.aload_n 0, 1) := by decide +kernel
theorem dd_Le_submit_64 : decode cc_Le_submit 64 = .ok (.getfield 12, 3) := by decide +kernel
theorem dd_Le_submit_67 : decode cc_Le_submit 67 = .ok (.iload_n 2, 1) := by decide +kernel
theorem dd_Le_submit_68 : decode cc_Le_submit 68 = .ok (.iload_n 3, 1) := by decide +kernel
theorem dd_Le_submit_69 : decode cc_Le_submit 69 = .ok (.iload 4, 2) := by decide +kernel
theorem dd_Le_submit_71 : decode cc_Le_submit 71 = .ok (.invokevirtual 58, 3) := by decide +kernel
theorem dd_Le_submit_74 : decode cc_Le_submit 74 = .ok (.istore 6, 2) := by decide +kernel
theorem dd_Le_submit_76 : decode cc_Le_submit 76 = .ok (.aload 5, 2) := by decide +kernel
theorem dd_Le_submit_78 : decode cc_Le_submit 78 = .ok (.getfield 62, 3) := by decide +kernel
theorem dd_Le_submit_81 : decode cc_Le_submit 81 = .ok (.iload 6, 2) := by decide +kernel
theorem dd_Le_submit_83 : decode cc_Le_submit 83 = .ok (.invokevirtual 66, 3) := by decide +kernel
theorem dd_Le_submit_86 : decode cc_Le_submit 86 = .ok (.iload 6, 2) := by decide +kernel
theorem dd_Le_submit_88 : decode cc_Le_submit 88 = .ok (.ireturn, 1) := by decide +kernel
theorem dd_Le_upReplica_0 : decode cc_Le_upReplica 0 = .ok (.aload_n 0, 1) := by decide +kernel
theorem dd_Le_upReplica_1 : decode cc_Le_upReplica 1 = .ok (.iload_n 1, 1) := by decide +kernel
theorem dd_Le_upReplica_2 : decode cc_Le_upReplica 2 = .ok (.invokevirtual 72, 3) := by decide +kernel
theorem dd_Le_upReplica_5 : decode cc_Le_upReplica 5 = .ok (.astore_n 2, 1) := by decide +kernel
theorem dd_Le_upReplica_6 : decode cc_Le_upReplica 6 = .ok (.aload_n 2, 1) := by decide +kernel
theorem dd_Le_upReplica_7 : decode cc_Le_upReplica 7 = .ok (.invokevirtual 78, 3) := by decide +kernel
theorem dd_Le_upReplica_10 : decode cc_Le_upReplica 10 = .ok (.ifCond .ne 13, 3) := by decide +kernel
theorem dd_Le_upReplica_13 : decode cc_Le_upReplica 13 = .ok (.new 197, 3) := by decide +kernel
theorem dd_Le_upReplica_16 : decode cc_Le_upReplica 16 = .ok (.dup, 1) := by decide +kernel
theorem dd_Le_upReplica_17 : decode cc_Le_upReplica 17 = .ok (.ldc 199, 2) := by decide +kernel
theorem dd_Le_upReplica_19 : decode cc_Le_upReplica 19 = .ok (.invokespecial 201, 3) := by decide +kernel
theorem dd_Le_upReplica_22 : decode cc_Le_upReplica 22 = .ok (.athrow, 1) := by decide +kernel
theorem dd_Le_upReplica_23 : decode cc_Le_upReplica 23 = .ok (.aload_n 2, 1) := by decide +kernel
theorem dd_Le_upReplica_24 : decode cc_Le_upReplica 24 = .ok (.areturn, 1) := by decide +kernel
theorem dd_Le_replicaOf_0 : decode cc_Le_replicaOf 0 = .ok (.iload_n 1, 1) := by decide +kernel
theorem dd_Le_replicaOf_1 : decode cc_Le_replicaOf 1 = .ok (.ifCond .lt 8, 3) := by decide +kernel
theorem dd_Le_replicaOf_4 : decode cc_Le_replicaOf 4 = .ok (.iload_n 1, 1) := by decide +kernel
theorem dd_Le_replicaOf_5 : decode cc_Le_replicaOf 5 = .ok (.iconst 4, 1) := by decide +kernel
theorem dd_Le_replicaOf_6 : decode cc_Le_replicaOf 6 = .ok (.if_icmp .lt 13, 3) := by decide +kernel
theorem dd_Le_replicaOf_9 : decode cc_Le_replicaOf 9 = .ok (.new 190, 3) := by decide +kernel
theorem dd_Le_replicaOf_12 : decode cc_Le_replicaOf 12 = .ok (.dup, 1) := by decide +kernel
theorem dd_Le_replicaOf_13 : decode cc_Le_replicaOf 13 = .ok (.ldc 192, 2) := by decide +kernel
theorem dd_Le_replicaOf_15 : decode cc_Le_replicaOf 15 = .ok (.invokespecial 194, 3) := by decide +kernel
theorem dd_Le_replicaOf_18 : decode cc_Le_replicaOf 18 = .ok (.athrow, 1) := by decide +kernel
theorem dd_Le_replicaOf_19 : decode cc_Le_replicaOf 19 = .ok (.aload_n 0, 1) := by decide +kernel
theorem dd_Le_replicaOf_20 : decode cc_Le_replicaOf 20 = .ok (.getfield 32, 3) := by decide +kernel
theorem dd_Le_replicaOf_23 : decode cc_Le_replicaOf 23 = .ok (.iload_n 1, 1) := by decide +kernel
theorem dd_Le_replicaOf_24 : decode cc_Le_replicaOf 24 = .ok (.aaload, 1) := by decide +kernel
theorem dd_Le_replicaOf_25 : decode cc_Le_replicaOf 25 = .ok (.areturn, 1) := by decide +kernel
theorem dd_Re_isUp_0 : decode cc_Re_isUp 0 = .ok (.aload_n 0, 1) := by decide +kernel
theorem dd_Re_isUp_1 : decode cc_Re_isUp 1 = .ok (.getfield 25, 3) := by decide +kernel
theorem dd_Re_isUp_4 : decode cc_Re_isUp 4 = .ok (.iconst 1, 1) := by decide +kernel
theorem dd_Re_isUp_5 : decode cc_Re_isUp 5 = .ok (.if_icmp .ne 7, 3) := by decide +kernel
theorem dd_Re_isUp_8 : decode cc_Re_isUp 8 = .ok (.iconst 1, 1) := by decide +kernel
theorem dd_Re_isUp_9 : decode cc_Re_isUp 9 = .ok (.goto 4, 3) := by decide +kernel
theorem dd_Re_isUp_12 : decode cc_Re_isUp 12 = .ok (.iconst 0, 1) := by decide +kernel
theorem dd_Re_isUp_13 : decode cc_Re_isUp 13 = .ok (.ireturn, 1) := by decide +kernel
theorem dd_Le_isAccount_0 : decode cc_Le_isAccount 0 = .ok (.iload_n 0, 1) := by decide +kernel
theorem dd_Le_isAccount_1 : decode cc_Le_isAccount 1 = .ok (.ifCond .lt 12, 3) := by decide +kernel
theorem dd_Le_isAccount_4 : decode cc_Le_isAccount 4 = .ok (.iload_n 0, 1) := by decide +kernel
theorem dd_Le_isAccount_5 : decode cc_Le_isAccount 5 = .ok (.iconst 4, 1) := by decide +kernel
theorem dd_Le_isAccount_6 : decode cc_Le_isAccount 6 = .ok (.if_icmp .ge 7, 3) := by decide +kernel
theorem dd_Le_isAccount_9 : decode cc_Le_isAccount 9 = .ok (.iconst 1, 1) := by decide +kernel
theorem dd_Le_isAccount_10 : decode cc_Le_isAccount 10 = .ok (.goto 4, 3) := by decide +kernel
theorem dd_Le_isAccount_13 : decode cc_Le_isAccount 13 = .ok (.iconst 0, 1) := by decide +kernel
theorem dd_Le_isAccount_14 : decode cc_Le_isAccount 14 = .ok (.ireturn, 1) := by decide +kernel
theorem dd_Re_writeRecord_0 : decode cc_Re_writeRecord 0 = .ok (.aload_n 0, 1) := by decide +kernel
theorem dd_Re_writeRecord_1 : decode cc_Re_writeRecord 1 = .ok (.getfield 67, 3) := by decide +kernel
theorem dd_Re_writeRecord_4 : decode cc_Re_writeRecord 4 = .ok (.ifCond .eq 16, 3) := by decide +kernel
theorem dd_Re_writeRecord_7 : decode cc_Re_writeRecord 7 = .ok (.aload_n 0, 1) := by decide +kernel
theorem dd_Re_writeRecord_8 : decode cc_Re_writeRecord 8 = .ok (.getfield 86, 3) := by decide +kernel
theorem dd_Re_writeRecord_11 : decode cc_Re_writeRecord 11 = .ok (.ifCond .ne 9, 3) := by decide +kernel
theorem dd_Re_writeRecord_14 : decode cc_Re_writeRecord 14 = .ok (.aload_n 0, 1) := by decide +kernel
theorem dd_Re_writeRecord_15 : decode cc_Re_writeRecord 15 = .ok (.invokevirtual 89, 3) := by decide +kernel
theorem dd_Re_writeRecord_18 : decode cc_Re_writeRecord 18 = .ok (.iconst 0, 1) := by decide +kernel
theorem dd_Re_writeRecord_19 : decode cc_Re_writeRecord 19 = .ok (.ireturn, 1) := by decide +kernel
theorem dd_Re_writeRecord_20 : decode cc_Re_writeRecord 20 = .ok (.aload_n 0, 1) := by decide +kernel
theorem dd_Re_writeRecord_21 : decode cc_Re_writeRecord 21 = .ok (.getfield 67, 3) := by decide +kernel
theorem dd_Re_writeRecord_24 : decode cc_Re_writeRecord 24 = .ok (.ifCond .eq 13, 3) := by decide +kernel
theorem dd_Re_writeRecord_27 : decode cc_Re_writeRecord 27 = .ok (.aload_n 0, 1) := by decide +kernel
theorem dd_Re_writeRecord_28 : decode cc_Re_writeRecord 28 = .ok (.dup, 1) := by decide +kernel
theorem dd_Re_writeRecord_29 : decode cc_Re_writeRecord 29 = .ok (.getfield 86, 3) := by decide +kernel
theorem dd_Re_writeRecord_32 : decode cc_Re_writeRecord 32 = .ok (.iconst 1, 1) := by decide +kernel
theorem dd_Re_writeRecord_33 : decode cc_Re_writeRecord 33 = .ok (.isub, 1) := by decide +kernel
theorem dd_Re_writeRecord_34 : decode cc_Re_writeRecord 34 = .ok (.putfield 86, 3) := by decide +kernel
theorem dd_Re_writeRecord_37 : decode cc_Re_writeRecord 37 = .ok (.aload_n 0, 1) := by decide +kernel
theorem dd_Re_writeRecord_38 : decode cc_Re_writeRecord 38 = .ok (.getfield 12, 3) := by decide +kernel
theorem dd_Re_writeRecord_41 : decode cc_Re_writeRecord 41 = .ok (.dup, 1) := by decide +kernel
theorem dd_Re_writeRecord_42 : decode cc_Re_writeRecord 42 = .ok (.getfield 92, 3) := by decide +kernel
theorem dd_Re_writeRecord_45 : decode cc_Re_writeRecord 45 = .ok (.iconst 1, 1) := by decide +kernel
theorem dd_Re_writeRecord_46 : decode cc_Re_writeRecord 46 = .ok (.iadd, 1) := by decide +kernel
theorem dd_Re_writeRecord_47 : decode cc_Re_writeRecord 47 = .ok (.putfield 92, 3) := by decide +kernel
theorem dd_Re_writeRecord_50 : decode cc_Re_writeRecord 50 = .ok (.iconst 1, 1) := by decide +kernel
theorem dd_Re_writeRecord_51 : decode cc_Re_writeRecord 51 = .ok (.ireturn, 1) := by decide +kernel
theorem dd_Re_goDown_0 : decode cc_Re_goDown 0 = .ok (.aload_n 0, 1) := by decide +kernel
theorem dd_Re_goDown_1 : decode cc_Re_goDown 1 = .ok (.iconst 0, 1) := by decide +kernel
theorem dd_Re_goDown_2 : decode cc_Re_goDown 2 = .ok (.putfield 25, 3) := by decide +kernel
theorem dd_Re_goDown_5 : decode cc_Re_goDown 5 = .ok (.aload_n 0, 1) := by decide +kernel
theorem dd_Re_goDown_6 : decode cc_Re_goDown 6 = .ok (.iconst 0, 1) := by decide +kernel
theorem dd_Re_goDown_7 : decode cc_Re_goDown 7 = .ok (.putfield 67, 3) := by decide +kernel
theorem dd_Re_goDown_10 : decode cc_Re_goDown 10 = .ok (.aload_n 0, 1) := by decide +kernel
theorem dd_Re_goDown_11 : decode cc_Re_goDown 11 = .ok (.iconst 0, 1) := by decide +kernel
theorem dd_Re_goDown_12 : decode cc_Re_goDown 12 = .ok (.putfield 71, 3) := by decide +kernel
theorem dd_Re_goDown_15 : decode cc_Re_goDown 15 = .ok (.aload_n 0, 1) := by decide +kernel
theorem dd_Re_goDown_16 : decode cc_Re_goDown 16 = .ok (.iconst 0, 1) := by decide +kernel
theorem dd_Re_goDown_17 : decode cc_Re_goDown 17 = .ok (.putfield 74, 3) := by decide +kernel
theorem dd_Re_goDown_20 : decode cc_Re_goDown 20 = .ok (.aload_n 0, 1) := by decide +kernel
theorem dd_Re_goDown_21 : decode cc_Re_goDown 21 = .ok (.getfield 21, 3) := by decide +kernel
theorem dd_Re_goDown_24 : decode cc_Re_goDown 24 = .ok (.invokevirtual 77, 3) := by decide +kernel
theorem dd_Re_goDown_27 : decode cc_Re_goDown 27 = .ok (.aload_n 0, 1) := by decide +kernel
theorem dd_Re_goDown_28 : decode cc_Re_goDown 28 = .ok (.getfield 45, 3) := by decide +kernel
theorem dd_Re_goDown_31 : decode cc_Re_goDown 31 = .ok (.invokevirtual 80, 3) := by decide +kernel
theorem dd_Re_goDown_34 : decode cc_Re_goDown 34 = .ok (.aload_n 0, 1) := by decide +kernel
theorem dd_Re_goDown_35 : decode cc_Re_goDown 35 = .ok (.getfield 63, 3) := by decide +kernel
theorem dd_Re_goDown_38 : decode cc_Re_goDown 38 = .ok (.invokevirtual 81, 3) := by decide +kernel
theorem dd_Re_goDown_41 : decode cc_Re_goDown 41 = .ok (.aload_n 0, 1) := by decide +kernel
theorem dd_Re_goDown_42 : decode cc_Re_goDown 42 = .ok (.getfield 54, 3) := by decide +kernel
theorem dd_Re_goDown_45 : decode cc_Re_goDown 45 = .ok (.invokevirtual 82, 3) := by decide +kernel
theorem dd_Re_goDown_48 : decode cc_Re_goDown 48 = .ok (.return_, 1) := by decide +kernel
theorem dd_Le_deliver_0 : decode cc_Le_deliver 0 = .ok (.aload_n 0, 1) := by decide +kernel
theorem dd_Le_deliver_1 : decode cc_Le_deliver 1 = .ok (.iload_n 2, 1) := by decide +kernel
theorem dd_Le_deliver_2 : decode cc_Le_deliver 2 = .ok (.invokevirtual 72, 3) := by decide +kernel
theorem dd_Le_deliver_5 : decode cc_Le_deliver 5 = .ok (.astore_n 3, 1) := by decide +kernel
theorem dd_Le_deliver_6 : decode cc_Le_deliver 6 = .ok (.aload_n 0, 1) := by decide +kernel
theorem dd_Le_deliver_7 : decode cc_Le_deliver 7 = .ok (.getfield 26, 3) := by decide +kernel
theorem dd_Le_deliver_10 : decode cc_Le_deliver 10 = .ok (.iload_n 1, 1) := by decide +kernel
theorem dd_Le_deliver_11 : decode cc_Le_deliver 11 = .ok (.invokevirtual 75, 3) := by decide +kernel
theorem dd_Le_deliver_14 : decode cc_Le_deliver 14 = .ok (.ifCond .eq 20, 3) := by decide +kernel
theorem dd_Le_deliver_17 : decode cc_Le_deliver 17 = .ok (.aload_n 3, 1) := by decide +kernel
theorem dd_Le_deliver_18 : decode cc_Le_deliver 18 = .ok (.invokevirtual 78, 3) := by decide +kernel
theorem dd_Le_deliver_21 : decode cc_Le_deliver 21 = .ok (.ifCond .eq 13, 3) := by decide +kernel
theorem dd_Le_deliver_24 : decode cc_Le_deliver 24 = .ok (.aload_n 0, 1) := by decide +kernel
theorem dd_Le_deliver_25 : decode cc_Le_deliver 25 = .ok (.getfield 26, 3) := by decide +kernel
theorem dd_Le_deliver_28 : decode cc_Le_deliver 28 = .ok (.invokevirtual 81, 3) := by decide +kernel
theorem dd_Le_deliver_31 : decode cc_Le_deliver 31 = .ok (.ifCond .eq 5, 3) := by decide +kernel
theorem dd_Le_deliver_34 : decode cc_Le_deliver 34 = .ok (.iconst 0, 1) := by decide +kernel
theorem dd_Le_deliver_35 : decode cc_Le_deliver 35 = .ok (.ireturn, 1) := by decide +kernel
theorem dd_Le_deliver_36 : decode cc_Le_deliver 36 = .ok (.aload_n 3, 1) := by decide +kernel
theorem dd_Le_deliver_37 : decode cc_Le_deliver 37 = .ok (.iload_n 1, 1) := by decide +kernel
theorem dd_Le_deliver_38 : decode cc_Le_deliver 38 = .ok (.invokevirtual 82, 3) := by decide +kernel
theorem dd_Le_deliver_41 : decode cc_Le_deliver 41 = .ok (.iconst 1, 1) := by decide +kernel
theorem dd_Le_deliver_42 : decode cc_Le_deliver 42 = .ok (.ireturn, 1) := by decide +kernel
theorem dd_Re_take_0 : decode cc_Re_take 0 = .ok (.aload_n 0, 1) := by decide +kernel
theorem dd_Re_take_1 : decode cc_Re_take 1 = .ok (.getfield 32, 3) := by decide +kernel
theorem dd_Re_take_4 : decode cc_Re_take 4 = .ok (.getfield 104, 3) := by decide +kernel
theorem dd_Re_take_7 : decode cc_Re_take 7 = .ok (.iload_n 1, 1) := by decide +kernel
theorem dd_Re_take_8 : decode cc_Re_take 8 = .ok (.iaload, 1) := by decide +kernel
theorem dd_Re_take_9 : decode cc_Re_take 9 = .ok (.istore_n 2, 1) := by decide +kernel
theorem dd_Re_take_10 : decode cc_Re_take 10 = .ok (.aload_n 0, 1) := by decide +kernel
theorem dd_Re_take_11 : decode cc_Re_take 11 = .ok (.getfield 32, 3) := by decide +kernel
theorem dd_Re_take_14 : decode cc_Re_take 14 = .ok (.getfield 110, 3) := by decide +kernel
theorem dd_Re_take_17 : decode cc_Re_take 17 = .ok (.iload_n 1, 1) := by decide +kernel
theorem dd_Re_take_18 : decode cc_Re_take 18 = .ok (.iaload, 1) := by decide +kernel
theorem dd_Re_take_19 : decode cc_Re_take 19 = .ok (.istore_n 3, 1) := by decide +kernel
theorem dd_Re_take_20 : decode cc_Re_take 20 = .ok (.aload_n 0, 1) := by decide +kernel
theorem dd_Re_take_21 : decode cc_Re_take 21 = .ok (.getfield 32, 3) := by decide +kernel
theorem dd_Re_take_24 : decode cc_Re_take 24 = .ok (.getfield 113, 3) := by decide +kernel
theorem dd_Re_take_27 : decode cc_Re_take 27 = .ok (.iload_n 1, 1) := by decide +kernel
theorem dd_Re_take_28 : decode cc_Re_take 28 = .ok (.iaload, 1) := by decide +kernel
theorem dd_Re_take_29 : decode cc_Re_take 29 = .ok (.lookupswitch 45 #[(0, 27), (1, 36)], 27) := by decide +kernel
theorem dd_Re_take_56 : decode cc_Re_take 56 = .ok (.aload_n 0, 1) := by decide +kernel
theorem dd_Re_take_57 : decode cc_Re_take 57 = .ok (.iload_n 2, 1) := by decide +kernel
theorem dd_Re_take_58 : decode cc_Re_take 58 = .ok (.iload_n 3, 1) := by decide +kernel
theorem dd_Re_take_59 : decode cc_Re_take 59 = .ok (.invokevirtual 116, 3) := by decide +kernel
theorem dd_Re_take_62 : decode cc_Re_take 62 = .ok (.goto 18, 3) := by decide +kernel
theorem dd_Re_take_65 : decode cc_Re_take 65 = .ok (.aload_n 0, 1) := by decide +kernel
theorem dd_Re_take_66 : decode cc_Re_take 66 = .ok (.iload_n 2, 1) := by decide +kernel
theorem dd_Re_take_67 : decode cc_Re_take 67 = .ok (.iload_n 3, 1) := by decide +kernel
theorem dd_Re_take_68 : decode cc_Re_take 68 = .ok (.invokevirtual 120, 3) := by decide +kernel
theorem dd_Re_take_71 : decode cc_Re_take 71 = .ok (.goto 9, 3) := by decide +kernel
theorem dd_Re_take_74 : decode cc_Re_take 74 = .ok (.aload_n 0, 1) := by decide +kernel
theorem dd_Re_take_75 : decode cc_Re_take 75 = .ok (.iload_n 2, 1) := by decide +kernel
theorem dd_Re_take_76 : decode cc_Re_take 76 = .ok (.iload_n 3, 1) := by decide +kernel
theorem dd_Re_take_77 : decode cc_Re_take 77 = .ok (.invokevirtual 123, 3) := by decide +kernel
theorem dd_Re_take_80 : decode cc_Re_take 80 = .ok (.aload_n 0, 1) := by decide +kernel
theorem dd_Re_take_81 : decode cc_Re_take 81 = .ok (.invokevirtual 101, 3) := by decide +kernel
theorem dd_Re_take_84 : decode cc_Re_take 84 = .ok (.return_, 1) := by decide +kernel
theorem dd_Re_takeSend_0 : decode cc_Re_takeSend 0 = .ok (.aload_n 0, 1) := by decide +kernel
theorem dd_Re_takeSend_1 : decode cc_Re_takeSend 1 = .ok (.getfield 36, 3) := by decide +kernel
theorem dd_Re_takeSend_4 : decode cc_Re_takeSend 4 = .ok (.getfield 126, 3) := by decide +kernel
theorem dd_Re_takeSend_7 : decode cc_Re_takeSend 7 = .ok (.iload_n 1, 1) := by decide +kernel
theorem dd_Re_takeSend_8 : decode cc_Re_takeSend 8 = .ok (.iaload, 1) := by decide +kernel
theorem dd_Re_takeSend_9 : decode cc_Re_takeSend 9 = .ok (.istore_n 3, 1) := by decide +kernel
theorem dd_Re_takeSend_10 : decode cc_Re_takeSend 10 = .ok (.aload_n 0, 1) := by decide +kernel
theorem dd_Re_takeSend_11 : decode cc_Re_takeSend 11 = .ok (.getfield 36, 3) := by decide +kernel
theorem dd_Re_takeSend_14 : decode cc_Re_takeSend 14 = .ok (.getfield 131, 3) := by decide +kernel
theorem dd_Re_takeSend_17 : decode cc_Re_takeSend 17 = .ok (.iload_n 1, 1) := by decide +kernel
theorem dd_Re_takeSend_18 : decode cc_Re_takeSend 18 = .ok (.iaload, 1) := by decide +kernel
theorem dd_Re_takeSend_19 : decode cc_Re_takeSend 19 = .ok (.istore 4, 2) := by decide +kernel
theorem dd_Re_takeSend_21 : decode cc_Re_takeSend 21 = .ok (.iload_n 2, 1) := by decide +kernel
theorem dd_Re_takeSend_22 : decode cc_Re_takeSend 22 = .ok (.iload_n 3, 1) := by decide +kernel
theorem dd_Re_takeSend_23 : decode cc_Re_takeSend 23 = .ok (.if_icmp .ne 31, 3) := by decide +kernel
theorem dd_Re_takeSend_26 : decode cc_Re_takeSend 26 = .ok (.aload_n 0, 1) := by decide +kernel
theorem dd_Re_takeSend_27 : decode cc_Re_takeSend 27 = .ok (.getfield 36, 3) := by decide +kernel
theorem dd_Re_takeSend_30 : decode cc_Re_takeSend 30 = .ok (.iload_n 1, 1) := by decide +kernel
theorem dd_Re_takeSend_31 : decode cc_Re_takeSend 31 = .ok (.invokevirtual 134, 3) := by decide +kernel
theorem dd_Re_takeSend_34 : decode cc_Re_takeSend 34 = .ok (.ifCond .eq 20, 3) := by decide +kernel
theorem dd_Re_takeSend_37 : decode cc_Re_takeSend 37 = .ok (.aload_n 0, 1) := by decide +kernel
theorem dd_Re_takeSend_38 : decode cc_Re_takeSend 38 = .ok (.getfield 12, 3) := by decide +kernel
theorem dd_Re_takeSend_41 : decode cc_Re_takeSend 41 = .ok (.getfield 138, 3) := by decide +kernel
theorem dd_Re_takeSend_44 : decode cc_Re_takeSend 44 = .ok (.iload_n 3, 1) := by decide +kernel
theorem dd_Re_takeSend_45 : decode cc_Re_takeSend 45 = .ok (.iaload, 1) := by decide +kernel
theorem dd_Re_takeSend_46 : decode cc_Re_takeSend 46 = .ok (.iload 4, 2) := by decide +kernel
theorem dd_Re_takeSend_48 : decode cc_Re_takeSend 48 = .ok (.invokestatic 141, 3) := by decide +kernel
theorem dd_Re_takeSend_51 : decode cc_Re_takeSend 51 = .ok (.ifCond .eq 4, 3) := by decide +kernel
theorem dd_Re_takeSend_54 : decode cc_Re_takeSend 54 = .ok (.return_, 1) := by decide +kernel
theorem dd_Re_takeSend_55 : decode cc_Re_takeSend 55 = .ok (.aload_n 0, 1) := by decide +kernel
theorem dd_Re_takeSend_56 : decode cc_Re_takeSend 56 = .ok (.invokevirtual 145, 3) := by decide +kernel
theorem dd_Re_takeSend_59 : decode cc_Re_takeSend 59 = .ok (.ifCond .eq 33, 3) := by decide +kernel
theorem dd_Re_takeSend_62 : decode cc_Re_takeSend 62 = .ok (.aload_n 0, 1) := by decide +kernel
theorem dd_Re_takeSend_63 : decode cc_Re_takeSend 63 = .ok (.getfield 12, 3) := by decide +kernel
theorem dd_Re_takeSend_66 : decode cc_Re_takeSend 66 = .ok (.getfield 138, 3) := by decide +kernel
theorem dd_Re_takeSend_69 : decode cc_Re_takeSend 69 = .ok (.iload_n 3, 1) := by decide +kernel
theorem dd_Re_takeSend_70 : decode cc_Re_takeSend 70 = .ok (.dup2, 1) := by decide +kernel
theorem dd_Re_takeSend_71 : decode cc_Re_takeSend 71 = .ok (.iaload, 1) := by decide +kernel
theorem dd_Re_takeSend_72 : decode cc_Re_takeSend 72 = .ok (.iconst 1, 1) := by decide +kernel
theorem dd_Re_takeSend_73 : decode cc_Re_takeSend 73 = .ok (.iload 4, 2) := by decide +kernel
theorem dd_Re_takeSend_75 : decode cc_Re_takeSend 75 = .ok (.ishl, 1) := by decide +kernel
theorem dd_Re_takeSend_76 : decode cc_Re_takeSend 76 = .ok (.ior, 1) := by decide +kernel
theorem dd_Re_takeSend_77 : decode cc_Re_takeSend 77 = .ok (.iastore, 1) := by decide +kernel
theorem dd_Re_takeSend_78 : decode cc_Re_takeSend 78 = .ok (.aload_n 0, 1) := by decide +kernel
theorem dd_Re_takeSend_79 : decode cc_Re_takeSend 79 = .ok (.getfield 32, 3) := by decide +kernel
theorem dd_Re_takeSend_82 : decode cc_Re_takeSend 82 = .ok (.iconst 1, 1) := by decide +kernel
theorem dd_Re_takeSend_83 : decode cc_Re_takeSend 83 = .ok (.aload_n 0, 1) := by decide +kernel
theorem dd_Re_takeSend_84 : decode cc_Re_takeSend 84 = .ok (.getfield 29, 3) := by decide +kernel
theorem dd_Re_takeSend_87 : decode cc_Re_takeSend 87 = .ok (.iload_n 1, 1) := by decide +kernel
theorem dd_Re_takeSend_88 : decode cc_Re_takeSend 88 = .ok (.invokevirtual 149, 3) := by decide +kernel
theorem dd_Re_takeSend_91 : decode cc_Re_takeSend 91 = .ok (.pop, 1) := by decide +kernel
theorem dd_Re_takeSend_92 : decode cc_Re_takeSend 92 = .ok (.return_, 1) := by decide +kernel
theorem dd_Le_contains_0 : decode cc_Le_contains 0 = .ok (.iload_n 0, 1) := by decide +kernel
theorem dd_Le_contains_1 : decode cc_Le_contains 1 = .ok (.iload_n 1, 1) := by decide +kernel
theorem dd_Le_contains_2 : decode cc_Le_contains 2 = .ok (.ishr, 1) := by decide +kernel
theorem dd_Le_contains_3 : decode cc_Le_contains 3 = .ok (.iconst 1, 1) := by decide +kernel
theorem dd_Le_contains_4 : decode cc_Le_contains 4 = .ok (.iand, 1) := by decide +kernel
theorem dd_Le_contains_5 : decode cc_Le_contains 5 = .ok (.iconst 1, 1) := by decide +kernel
theorem dd_Le_contains_6 : decode cc_Le_contains 6 = .ok (.if_icmp .ne 7, 3) := by decide +kernel
theorem dd_Le_contains_9 : decode cc_Le_contains 9 = .ok (.iconst 1, 1) := by decide +kernel
theorem dd_Le_contains_10 : decode cc_Le_contains 10 = .ok (.goto 4, 3) := by decide +kernel
theorem dd_Le_contains_13 : decode cc_Le_contains 13 = .ok (.iconst 0, 1) := by decide +kernel
theorem dd_Le_contains_14 : decode cc_Le_contains 14 = .ok (.ireturn, 1) := by decide +kernel
theorem dd_Re_takeEcho_0 : decode cc_Re_takeEcho 0 = .ok (.aload_n 0, 1) := by decide +kernel
theorem dd_Re_takeEcho_1 : decode cc_Re_takeEcho 1 = .ok (.getfield 21, 3) := by decide +kernel
theorem dd_Re_takeEcho_4 : decode cc_Re_takeEcho 4 = .ok (.iload_n 1, 1) := by decide +kernel
theorem dd_Re_takeEcho_5 : decode cc_Re_takeEcho 5 = .ok (.iload_n 2, 1) := by decide +kernel
theorem dd_Re_takeEcho_6 : decode cc_Re_takeEcho 6 = .ok (.invokevirtual 153, 3) := by decide +kernel
theorem dd_Re_takeEcho_9 : decode cc_Re_takeEcho 9 = .ok (.iconst 3, 1) := by decide +kernel
theorem dd_Re_takeEcho_10 : decode cc_Re_takeEcho 10 = .ok (.if_icmp .lt 8, 3) := by decide +kernel
theorem dd_Re_takeEcho_13 : decode cc_Re_takeEcho 13 = .ok (.aload_n 0, 1) := by decide +kernel
theorem dd_Re_takeEcho_14 : decode cc_Re_takeEcho 14 = .ok (.iload_n 1, 1) := by decide +kernel
theorem dd_Re_takeEcho_15 : decode cc_Re_takeEcho 15 = .ok (.invokevirtual 156, 3) := by decide +kernel
theorem dd_Re_takeEcho_18 : decode cc_Re_takeEcho 18 = .ok (.return_, 1) := by decide +kernel
theorem dd_Re_becomeReady_0 : decode cc_Re_becomeReady 0 = .ok (.aload_n 0, 1) := by decide +kernel
theorem dd_Re_becomeReady_1 : decode cc_Re_becomeReady 1 = .ok (.getfield 36, 3) := by decide +kernel
theorem dd_Re_becomeReady_4 : decode cc_Re_becomeReady 4 = .ok (.getfield 126, 3) := by decide +kernel
theorem dd_Re_becomeReady_7 : decode cc_Re_becomeReady 7 = .ok (.iload_n 1, 1) := by decide +kernel
theorem dd_Re_becomeReady_8 : decode cc_Re_becomeReady 8 = .ok (.iaload, 1) := by decide +kernel
theorem dd_Re_becomeReady_9 : decode cc_Re_becomeReady 9 = .ok (.istore_n 2, 1) := by decide +kernel
theorem dd_Re_becomeReady_10 : decode cc_Re_becomeReady 10 = .ok (.aload_n 0, 1) := by decide +kernel
theorem dd_Re_becomeReady_11 : decode cc_Re_becomeReady 11 = .ok (.getfield 36, 3) := by decide +kernel
theorem dd_Re_becomeReady_14 : decode cc_Re_becomeReady 14 = .ok (.getfield 131, 3) := by decide +kernel
theorem dd_Re_becomeReady_17 : decode cc_Re_becomeReady 17 = .ok (.iload_n 1, 1) := by decide +kernel
theorem dd_Re_becomeReady_18 : decode cc_Re_becomeReady 18 = .ok (.iaload, 1) := by decide +kernel
theorem dd_Re_becomeReady_19 : decode cc_Re_becomeReady 19 = .ok (.istore_n 3, 1) := by decide +kernel
theorem dd_Re_becomeReady_20 : decode cc_Re_becomeReady 20 = .ok (.aload_n 0, 1) := by decide +kernel
theorem dd_Re_becomeReady_21 : decode cc_Re_becomeReady 21 = .ok (.getfield 12, 3) := by decide +kernel
theorem dd_Re_becomeReady_24 : decode cc_Re_becomeReady 24 = .ok (.getfield 163, 3) := by decide +kernel
theorem dd_Re_becomeReady_27 : decode cc_Re_becomeReady 27 = .ok (.iload_n 2, 1) := by decide +kernel
theorem dd_Re_becomeReady_28 : decode cc_Re_becomeReady 28 = .ok (.iaload, 1) := by decide +kernel
theorem dd_Re_becomeReady_29 : decode cc_Re_becomeReady 29 = .ok (.iload_n 3, 1) := by decide +kernel
theorem dd_Re_becomeReady_30 : decode cc_Re_becomeReady 30 = .ok (.invokestatic 141, 3) := by decide +kernel
theorem dd_Re_becomeReady_33 : decode cc_Re_becomeReady 33 = .ok (.ifCond .eq 4, 3) := by decide +kernel
theorem dd_Re_becomeReady_36 : decode cc_Re_becomeReady 36 = .ok (.return_, 1) := by decide +kernel
theorem dd_Re_becomeReady_37 : decode cc_Re_becomeReady 37 = .ok (.aload_n 0, 1) := by decide +kernel
theorem dd_Re_becomeReady_38 : decode cc_Re_becomeReady 38 = .ok (.invokevirtual 145, 3) := by decide +kernel
theorem dd_Re_becomeReady_41 : decode cc_Re_becomeReady 41 = .ok (.ifCond .eq 32, 3) := by decide +kernel
theorem dd_Re_becomeReady_44 : decode cc_Re_becomeReady 44 = .ok (.aload_n 0, 1) := by decide +kernel
theorem dd_Re_becomeReady_45 : decode cc_Re_becomeReady 45 = .ok (.getfield 12, 3) := by decide +kernel
theorem dd_Re_becomeReady_48 : decode cc_Re_becomeReady 48 = .ok (.getfield 163, 3) := by decide +kernel
theorem dd_Re_becomeReady_51 : decode cc_Re_becomeReady 51 = .ok (.iload_n 2, 1) := by decide +kernel
theorem dd_Re_becomeReady_52 : decode cc_Re_becomeReady 52 = .ok (.dup2, 1) := by decide +kernel
theorem dd_Re_becomeReady_53 : decode cc_Re_becomeReady 53 = .ok (.iaload, 1) := by decide +kernel
theorem dd_Re_becomeReady_54 : decode cc_Re_becomeReady 54 = .ok (.iconst 1, 1) := by decide +kernel
theorem dd_Re_becomeReady_55 : decode cc_Re_becomeReady 55 = .ok (.iload_n 3, 1) := by decide +kernel
theorem dd_Re_becomeReady_56 : decode cc_Re_becomeReady 56 = .ok (.ishl, 1) := by decide +kernel
theorem dd_Re_becomeReady_57 : decode cc_Re_becomeReady 57 = .ok (.ior, 1) := by decide +kernel
theorem dd_Re_becomeReady_58 : decode cc_Re_becomeReady 58 = .ok (.iastore, 1) := by decide +kernel
theorem dd_Re_becomeReady_59 : decode cc_Re_becomeReady 59 = .ok (.aload_n 0, 1) := by decide +kernel
theorem dd_Re_becomeReady_60 : decode cc_Re_becomeReady 60 = .ok (.getfield 32, 3) := by decide +kernel
theorem dd_Re_becomeReady_63 : decode cc_Re_becomeReady 63 = .ok (.iconst 2, 1) := by decide +kernel
theorem dd_Re_becomeReady_64 : decode cc_Re_becomeReady 64 = .ok (.aload_n 0, 1) := by decide +kernel
theorem dd_Re_becomeReady_65 : decode cc_Re_becomeReady 65 = .ok (.getfield 29, 3) := by decide +kernel
theorem dd_Re_becomeReady_68 : decode cc_Re_becomeReady 68 = .ok (.iload_n 1, 1) := by decide +kernel
theorem dd_Re_becomeReady_69 : decode cc_Re_becomeReady 69 = .ok (.invokevirtual 149, 3) := by decide +kernel
theorem dd_Re_becomeReady_72 : decode cc_Re_becomeReady 72 = .ok (.pop, 1) := by decide +kernel
theorem dd_Re_becomeReady_73 : decode cc_Re_becomeReady 73 = .ok (.return_, 1) := by decide +kernel
theorem dd_Re_takeReady_0 : decode cc_Re_takeReady 0 = .ok (.aload_n 0, 1) := by decide +kernel
theorem dd_Re_takeReady_1 : decode cc_Re_takeReady 1 = .ok (.getfield 21, 3) := by decide +kernel
theorem dd_Re_takeReady_4 : decode cc_Re_takeReady 4 = .ok (.iload_n 1, 1) := by decide +kernel
theorem dd_Re_takeReady_5 : decode cc_Re_takeReady 5 = .ok (.iload_n 2, 1) := by decide +kernel
theorem dd_Re_takeReady_6 : decode cc_Re_takeReady 6 = .ok (.invokevirtual 160, 3) := by decide +kernel
theorem dd_Re_takeReady_9 : decode cc_Re_takeReady 9 = .ok (.iconst 2, 1) := by decide +kernel
theorem dd_Re_takeReady_10 : decode cc_Re_takeReady 10 = .ok (.if_icmp .lt 8, 3) := by decide +kernel
theorem dd_Re_takeReady_13 : decode cc_Re_takeReady 13 = .ok (.aload_n 0, 1) := by decide +kernel
theorem dd_Re_takeReady_14 : decode cc_Re_takeReady 14 = .ok (.iload_n 1, 1) := by decide +kernel
theorem dd_Re_takeReady_15 : decode cc_Re_takeReady 15 = .ok (.invokevirtual 156, 3) := by decide +kernel
theorem dd_Re_takeReady_18 : decode cc_Re_takeReady 18 = .ok (.return_, 1) := by decide +kernel
theorem dd_Re_act_0 : decode cc_Re_act 0 = .ok (.iconst 0, 1) := by decide +kernel
theorem dd_Re_act_1 : decode cc_Re_act 1 = .ok (.istore_n 1, 1) := by decide +kernel
theorem dd_Re_act_2 : decode cc_Re_act 2 = .ok (.iload_n 1, 1) := by decide +kernel
theorem dd_Re_act_3 : decode cc_Re_act 3 = .ok (.sipush 1000, 3) := by decide +kernel
theorem dd_Re_act_6 : decode cc_Re_act 6 = .ok (.if_icmp .ge 41, 3) := by decide +kernel
theorem dd_Re_act_9 : decode cc_Re_act 9 = .ok (.aload_n 0, 1) := by decide +kernel
theorem dd_Re_act_10 : decode cc_Re_act 10 = .ok (.invokevirtual 166, 3) := by decide +kernel
theorem dd_Re_act_13 : decode cc_Re_act 13 = .ok (.ifCond .eq 34, 3) := by decide +kernel
theorem dd_Re_act_16 : decode cc_Re_act 16 = .ok (.aload_n 0, 1) := by decide +kernel
theorem dd_Re_act_17 : decode cc_Re_act 17 = .ok (.invokevirtual 169, 3) := by decide +kernel
theorem dd_Re_act_20 : decode cc_Re_act 20 = .ok (.ifCond .ne 21, 3) := by decide +kernel
theorem dd_Re_act_23 : decode cc_Re_act 23 = .ok (.aload_n 0, 1) := by decide +kernel
theorem dd_Re_act_24 : decode cc_Re_act 24 = .ok (.getfield 63, 3) := by decide +kernel
theorem dd_Re_act_27 : decode cc_Re_act 27 = .ok (.invokevirtual 172, 3) := by decide +kernel
theorem dd_Re_act_30 : decode cc_Re_act 30 = .ok (.ifCond .ne 11, 3) := by decide +kernel
theorem dd_Re_act_33 : decode cc_Re_act 33 = .ok (.aload_n 0, 1) := by decide +kernel
theorem dd_Re_act_34 : decode cc_Re_act 34 = .ok (.invokevirtual 175, 3) := by decide +kernel
theorem dd_Re_act_37 : decode cc_Re_act 37 = .ok (.ifCond .ne 4, 3) := by decide +kernel
theorem dd_Re_act_40 : decode cc_Re_act 40 = .ok (.return_, 1) := by decide +kernel
theorem dd_Re_act_41 : decode cc_Re_act 41 = .ok (.iinc 1 1, 3) := by decide +kernel
theorem dd_Re_act_44 : decode cc_Re_act 44 = .ok (.goto (-42), 3) := by decide +kernel
theorem dd_Re_act_47 : decode cc_Re_act 47 = .ok (.return_, 1) := by decide +kernel
theorem dd_Re_insertNext_0 : decode cc_Re_insertNext 0 = .ok (.iconst (-1), 1) := by decide +kernel
theorem dd_Re_insertNext_1 : decode cc_Re_insertNext 1 = .ok (.istore_n 1, 1) := by decide +kernel
theorem dd_Re_insertNext_2 : decode cc_Re_insertNext 2 = .ok (.iconst 0, 1) := by decide +kernel
theorem dd_Re_insertNext_3 : decode cc_Re_insertNext 3 = .ok (.istore_n 2, 1) := by decide +kernel
theorem dd_Re_insertNext_4 : decode cc_Re_insertNext 4 = .ok (.iload_n 2, 1) := by decide +kernel
theorem dd_Re_insertNext_5 : decode cc_Re_insertNext 5 = .ok (.aload_n 0, 1) := by decide +kernel
theorem dd_Re_insertNext_6 : decode cc_Re_insertNext 6 = .ok (.getfield 21, 3) := by decide +kernel
theorem dd_Re_insertNext_9 : decode cc_Re_insertNext 9 = .ok (.getfield 178, 3) := by decide +kernel
theorem dd_Re_insertNext_12 : decode cc_Re_insertNext 12 = .ok (.if_icmp .ge 57, 3) := by decide +kernel
theorem dd_Re_insertNext_15 : decode cc_Re_insertNext 15 = .ok (.aload_n 0, 1) := by decide +kernel
theorem dd_Re_insertNext_16 : decode cc_Re_insertNext 16 = .ok (.getfield 21, 3) := by decide +kernel
theorem dd_Re_insertNext_19 : decode cc_Re_insertNext 19 = .ok (.getfield 181, 3) := by decide +kernel
theorem dd_Re_insertNext_22 : decode cc_Re_insertNext 22 = .ok (.iload_n 2, 1) := by decide +kernel
theorem dd_Re_insertNext_23 : decode cc_Re_insertNext 23 = .ok (.iaload, 1) := by decide +kernel
theorem dd_Re_insertNext_24 : decode cc_Re_insertNext 24 = .ok (.istore_n 3, 1) := by decide +kernel
theorem dd_Re_insertNext_25 : decode cc_Re_insertNext 25 = .ok (.aload_n 0, 1) := by decide +kernel
theorem dd_Re_insertNext_26 : decode cc_Re_insertNext 26 = .ok (.getfield 45, 3) := by decide +kernel
theorem dd_Re_insertNext_29 : decode cc_Re_insertNext 29 = .ok (.iload_n 3, 1) := by decide +kernel
theorem dd_Re_insertNext_30 : decode cc_Re_insertNext 30 = .ok (.invokevirtual 184, 3) := by decide +kernel
theorem dd_Re_insertNext_33 : decode cc_Re_insertNext 33 = .ok (.ifCond .eq 30, 3) := by decide +kernel
theorem dd_Re_insertNext_36 : decode cc_Re_insertNext 36 = .ok (.iload_n 1, 1) := by decide +kernel
theorem dd_Re_insertNext_37 : decode cc_Re_insertNext 37 = .ok (.iconst (-1), 1) := by decide +kernel
theorem dd_Re_insertNext_38 : decode cc_Re_insertNext 38 = .ok (.if_icmp .eq 23, 3) := by decide +kernel
theorem dd_Re_insertNext_41 : decode cc_Re_insertNext 41 = .ok (.aload_n 0, 1) := by decide +kernel
theorem dd_Re_insertNext_42 : decode cc_Re_insertNext 42 = .ok (.getfield 36, 3) := by decide +kernel
theorem dd_Re_insertNext_45 : decode cc_Re_insertNext 45 = .ok (.iload_n 3, 1) := by decide +kernel
theorem dd_Re_insertNext_46 : decode cc_Re_insertNext 46 = .ok (.aload_n 0, 1) := by decide +kernel
theorem dd_Re_insertNext_47 : decode cc_Re_insertNext 47 = .ok (.getfield 21, 3) := by decide +kernel
theorem dd_Re_insertNext_50 : decode cc_Re_insertNext 50 = .ok (.getfield 181, 3) := by decide +kernel
theorem dd_Re_insertNext_53 : decode cc_Re_insertNext 53 = .ok (.iload_n 1, 1) := by decide +kernel
theorem dd_Re_insertNext_54 : decode cc_Re_insertNext 54 = .ok (.iaload, 1) := by decide +kernel
theorem dd_Re_insertNext_55 : decode cc_Re_insertNext 55 = .ok (.invokevirtual 187, 3) := by decide +kernel
theorem dd_Re_insertNext_58 : decode cc_Re_insertNext 58 = .ok (.ifCond .eq 5, 3) := by decide +kernel
theorem dd_Re_insertNext_61 : decode cc_Re_insertNext 61 = .ok (.iload_n 2, 1) := by decide +kernel
theorem dd_Re_insertNext_62 : decode cc_Re_insertNext 62 = .ok (.istore_n 1, 1) := by decide +kernel
theorem dd_Re_insertNext_63 : decode cc_Re_insertNext 63 = .ok (.iinc 2 1, 3) := by decide +kernel
theorem dd_Re_insertNext_66 : decode cc_Re_insertNext 66 = .ok (.goto (-62), 3) := by decide +kernel
theorem dd_Re_insertNext_69 : decode cc_Re_insertNext 69 = .ok (.iload_n 1, 1) := by decide +kernel
theorem dd_Re_insertNext_70 : decode cc_Re_insertNext 70 = .ok (.iconst (-1), 1) := by decide +kernel
theorem dd_Re_insertNext_71 : decode cc_Re_insertNext 71 = .ok (.if_icmp .ne 5, 3) := by decide +kernel
theorem dd_Re_insertNext_74 : decode cc_Re_insertNext 74 = .ok (.iconst 0, 1) := by decide +kernel
theorem dd_Re_insertNext_75 : decode cc_Re_insertNext 75 = .ok (.ireturn, 1) := by decide +kernel
theorem dd_Re_insertNext_76 : decode cc_Re_insertNext 76 = .ok (.aload_n 0, 1) := by decide +kernel
theorem dd_Re_insertNext_77 : decode cc_Re_insertNext 77 = .ok (.getfield 45, 3) := by decide +kernel
theorem dd_Re_insertNext_80 : decode cc_Re_insertNext 80 = .ok (.aload_n 0, 1) := by decide +kernel
theorem dd_Re_insertNext_81 : decode cc_Re_insertNext 81 = .ok (.getfield 21, 3) := by decide +kernel
theorem dd_Re_insertNext_84 : decode cc_Re_insertNext 84 = .ok (.getfield 181, 3) := by decide +kernel
theorem dd_Re_insertNext_87 : decode cc_Re_insertNext 87 = .ok (.iload_n 1, 1) := by decide +kernel
theorem dd_Re_insertNext_88 : decode cc_Re_insertNext 88 = .ok (.iaload, 1) := by decide +kernel
theorem dd_Re_insertNext_89 : decode cc_Re_insertNext 89 = .ok (.invokevirtual 190, 3) := by decide +kernel
theorem dd_Re_insertNext_92 : decode cc_Re_insertNext 92 = .ok (.aload_n 0, 1) := by decide +kernel
theorem dd_Re_insertNext_93 : decode cc_Re_insertNext 93 = .ok (.getfield 21, 3) := by decide +kernel
theorem dd_Re_insertNext_96 : decode cc_Re_insertNext 96 = .ok (.iload_n 1, 1) := by decide +kernel
theorem dd_Re_insertNext_97 : decode cc_Re_insertNext 97 = .ok (.invokevirtual 193, 3) := by decide +kernel
theorem dd_Re_insertNext_100 : decode cc_Re_insertNext 100 = .ok (.iconst 1, 1) := by decide +kernel
theorem dd_Re_insertNext_101 : decode cc_Re_insertNext 101 = .ok (.ireturn, 1) := by decide +kernel
theorem dd_Le_leaderOf_0 : decode cc_Le_leaderOf 0 = .ok (.iload_n 0, 1) := by decide +kernel
theorem dd_Le_leaderOf_1 : decode cc_Le_leaderOf 1 = .ok (.iconst 2, 1) := by decide +kernel
theorem dd_Le_leaderOf_2 : decode cc_Le_leaderOf 2 = .ok (.idiv, 1) := by decide +kernel
theorem dd_Le_leaderOf_3 : decode cc_Le_leaderOf 3 = .ok (.iconst 4, 1) := by decide +kernel
theorem dd_Le_leaderOf_4 : decode cc_Le_leaderOf 4 = .ok (.irem, 1) := by decide +kernel
theorem dd_Le_leaderOf_5 : decode cc_Le_leaderOf 5 = .ok (.ireturn, 1) := by decide +kernel
theorem dd_Re_advance_0 : decode cc_Re_advance 0 = .ok (.aload_n 0, 1) := by decide +kernel
theorem dd_Re_advance_1 : decode cc_Re_advance 1 = .ok (.invokevirtual 196, 3) := by decide +kernel
theorem dd_Re_advance_4 : decode cc_Re_advance 4 = .ok (.ifCond .ne 5, 3) := by decide +kernel
theorem dd_Re_advance_7 : decode cc_Re_advance 7 = .ok (.iconst 0, 1) := by decide +kernel
theorem dd_Re_advance_8 : decode cc_Re_advance 8 = .ok (.ireturn, 1) := by decide +kernel
theorem dd_Re_advance_9 : decode cc_Re_advance 9 = .ok (.aload_n 0, 1) := by decide +kernel
theorem dd_Re_advance_10 : decode cc_Re_advance 10 = .ok (.invokevirtual 145, 3) := by decide +kernel
theorem dd_Re_advance_13 : decode cc_Re_advance 13 = .ok (.ifCond .eq 86, 3) := by decide +kernel
theorem dd_Re_advance_16 : decode cc_Re_advance 16 = .ok (.aload_n 0, 1) := by decide +kernel
theorem dd_Re_advance_17 : decode cc_Re_advance 17 = .ok (.getfield 45, 3) := by decide +kernel
theorem dd_Re_advance_20 : decode cc_Re_advance 20 = .ok (.aload_n 0, 1) := by decide +kernel
theorem dd_Re_advance_21 : decode cc_Re_advance 21 = .ok (.getfield 12, 3) := by decide +kernel
theorem dd_Re_advance_24 : decode cc_Re_advance 24 = .ok (.getfield 199, 3) := by decide +kernel
theorem dd_Re_advance_27 : decode cc_Re_advance 27 = .ok (.invokevirtual 202, 3) := by decide +kernel
theorem dd_Re_advance_30 : decode cc_Re_advance 30 = .ok (.istore_n 1, 1) := by decide +kernel
theorem dd_Re_advance_31 : decode cc_Re_advance 31 = .ok (.aload_n 0, 1) := by decide +kernel
theorem dd_Re_advance_32 : decode cc_Re_advance 32 = .ok (.getfield 12, 3) := by decide +kernel
theorem dd_Re_advance_35 : decode cc_Re_advance 35 = .ok (.invokevirtual 206, 3) := by decide +kernel
theorem dd_Re_advance_38 : decode cc_Re_advance 38 = .ok (.istore_n 2, 1) := by decide +kernel
theorem dd_Re_advance_39 : decode cc_Re_advance 39 = .ok (.aload_n 0, 1) := by decide +kernel
theorem dd_Re_advance_40 : decode cc_Re_advance 40 = .ok (.getfield 12, 3) := by decide +kernel
theorem dd_Re_advance_43 : decode cc_Re_advance 43 = .ok (.invokevirtual 206, 3) := by decide +kernel
theorem dd_Re_advance_46 : decode cc_Re_advance 46 = .ok (.istore_n 3, 1) := by decide +kernel
theorem dd_Re_advance_47 : decode cc_Re_advance 47 = .ok (.aload_n 0, 1) := by decide +kernel
theorem dd_Re_advance_48 : decode cc_Re_advance 48 = .ok (.getfield 12, 3) := by decide +kernel
theorem dd_Re_advance_51 : decode cc_Re_advance 51 = .ok (.dup, 1) := by decide +kernel
theorem dd_Re_advance_52 : decode cc_Re_advance 52 = .ok (.getfield 199, 3) := by decide +kernel
theorem dd_Re_advance_55 : decode cc_Re_advance 55 = .ok (.iconst 1, 1) := by decide +kernel
theorem dd_Re_advance_56 : decode cc_Re_advance 56 = .ok (.iadd, 1) := by decide +kernel
theorem dd_Re_advance_57 : decode cc_Re_advance 57 = .ok (.putfield 199, 3) := by decide +kernel
theorem dd_Re_advance_60 : decode cc_Re_advance 60 = .ok (.aload_n 0, 1) := by decide +kernel
theorem dd_Re_advance_61 : decode cc_Re_advance 61 = .ok (.getfield 32, 3) := by decide +kernel
theorem dd_Re_advance_64 : decode cc_Re_advance 64 = .ok (.iconst 0, 1) := by decide +kernel
theorem dd_Re_advance_65 : decode cc_Re_advance 65 = .ok (.aload_n 0, 1) := by decide +kernel
theorem dd_Re_advance_66 : decode cc_Re_advance 66 = .ok (.getfield 29, 3) := by decide +kernel
theorem dd_Re_advance_69 : decode cc_Re_advance 69 = .ok (.aload_n 0, 1) := by decide +kernel
theorem dd_Re_advance_70 : decode cc_Re_advance 70 = .ok (.getfield 36, 3) := by decide +kernel
theorem dd_Re_advance_73 : decode cc_Re_advance 73 = .ok (.aload_n 0, 1) := by decide +kernel
theorem dd_Re_advance_74 : decode cc_Re_advance 74 = .ok (.getfield 29, 3) := by decide +kernel
theorem dd_Re_advance_77 : decode cc_Re_advance 77 = .ok (.aload_n 0, 1) := by decide +kernel
theorem dd_Re_advance_78 : decode cc_Re_advance 78 = .ok (.getfield 12, 3) := by decide +kernel
theorem dd_Re_advance_81 : decode cc_Re_advance 81 = .ok (.getfield 199, 3) := by decide +kernel
theorem dd_Re_advance_84 : decode cc_Re_advance 84 = .ok (.iload_n 1, 1) := by decide +kernel
theorem dd_Re_advance_85 : decode cc_Re_advance 85 = .ok (.iload_n 2, 1) := by decide +kernel
theorem dd_Re_advance_86 : decode cc_Re_advance 86 = .ok (.iload_n 3, 1) := by decide +kernel
theorem dd_Re_advance_87 : decode cc_Re_advance 87 = .ok (.invokevirtual 210, 3) := by decide +kernel
theorem dd_Re_advance_90 : decode cc_Re_advance 90 = .ok (.invokevirtual 149, 3) := by decide +kernel
theorem dd_Re_advance_93 : decode cc_Re_advance 93 = .ok (.pop, 1) := by decide +kernel
theorem dd_Re_advance_94 : decode cc_Re_advance 94 = .ok (.aload_n 0, 1) := by decide +kernel
theorem dd_Re_advance_95 : decode cc_Re_advance 95 = .ok (.iconst 0, 1) := by decide +kernel
theorem dd_Re_advance_96 : decode cc_Re_advance 96 = .ok (.putfield 74, 3) := by decide +kernel
theorem dd_Re_advance_99 : decode cc_Re_advance 99 = .ok (.iconst 1, 1) := by decide +kernel
theorem dd_Re_advance_100 : decode cc_Re_advance 100 = .ok (.ireturn, 1) := by decide +kernel
theorem dd_Re_mayAdvance_0 : decode cc_Re_mayAdvance 0 = .ok (.aload_n 0, 1) := by decide +kernel
theorem dd_Re_mayAdvance_1 : decode cc_Re_mayAdvance 1 = .ok (.getfield 12, 3) := by decide +kernel
theorem dd_Re_mayAdvance_4 : decode cc_Re_mayAdvance 4 = .ok (.getfield 199, 3) := by decide +kernel
theorem dd_Re_mayAdvance_7 : decode cc_Re_mayAdvance 7 = .ok (.istore_n 1, 1) := by decide +kernel
theorem dd_Re_mayAdvance_8 : decode cc_Re_mayAdvance 8 = .ok (.aload_n 0, 1) := by decide +kernel
theorem dd_Re_mayAdvance_9 : decode cc_Re_mayAdvance 9 = .ok (.getfield 36, 3) := by decide +kernel
theorem dd_Re_mayAdvance_12 : decode cc_Re_mayAdvance 12 = .ok (.invokevirtual 214, 3) := by decide +kernel
theorem dd_Re_mayAdvance_15 : decode cc_Re_mayAdvance 15 = .ok (.ifCond .ne 9, 3) := by decide +kernel
theorem dd_Re_mayAdvance_18 : decode cc_Re_mayAdvance 18 = .ok (.iload_n 1, 1) := by decide +kernel
theorem dd_Re_mayAdvance_19 : decode cc_Re_mayAdvance 19 = .ok (.bipush 14, 2) := by decide +kernel
theorem dd_Re_mayAdvance_21 : decode cc_Re_mayAdvance 21 = .ok (.if_icmp .lt 5, 3) := by decide +kernel
theorem dd_Re_mayAdvance_24 : decode cc_Re_mayAdvance 24 = .ok (.iconst 0, 1) := by decide +kernel
theorem dd_Re_mayAdvance_25 : decode cc_Re_mayAdvance 25 = .ok (.ireturn, 1) := by decide +kernel
theorem dd_Re_mayAdvance_26 : decode cc_Re_mayAdvance 26 = .ok (.iload_n 1, 1) := by decide +kernel
theorem dd_Re_mayAdvance_27 : decode cc_Re_mayAdvance 27 = .ok (.ifCond .ne 16, 3) := by decide +kernel
theorem dd_Re_mayAdvance_30 : decode cc_Re_mayAdvance 30 = .ok (.aload_n 0, 1) := by decide +kernel
theorem dd_Re_mayAdvance_31 : decode cc_Re_mayAdvance 31 = .ok (.getfield 74, 3) := by decide +kernel
theorem dd_Re_mayAdvance_34 : decode cc_Re_mayAdvance 34 = .ok (.ifCond .eq 7, 3) := by decide +kernel
theorem dd_Re_mayAdvance_37 : decode cc_Re_mayAdvance 37 = .ok (.iconst 1, 1) := by decide +kernel
theorem dd_Re_mayAdvance_38 : decode cc_Re_mayAdvance 38 = .ok (.goto 4, 3) := by decide +kernel
theorem dd_Re_mayAdvance_41 : decode cc_Re_mayAdvance 41 = .ok (.iconst 0, 1) := by decide +kernel
theorem dd_Re_mayAdvance_42 : decode cc_Re_mayAdvance 42 = .ok (.ireturn, 1) := by decide +kernel
theorem dd_Re_mayAdvance_43 : decode cc_Re_mayAdvance 43 = .ok (.aload_n 0, 1) := by decide +kernel
theorem dd_Re_mayAdvance_44 : decode cc_Re_mayAdvance 44 = .ok (.getfield 45, 3) := by decide +kernel
theorem dd_Re_mayAdvance_47 : decode cc_Re_mayAdvance 47 = .ok (.aload_n 0, 1) := by decide +kernel
theorem dd_Re_mayAdvance_48 : decode cc_Re_mayAdvance 48 = .ok (.getfield 29, 3) := by decide +kernel
theorem dd_Re_mayAdvance_51 : decode cc_Re_mayAdvance 51 = .ok (.iload_n 1, 1) := by decide +kernel
theorem dd_Re_mayAdvance_52 : decode cc_Re_mayAdvance 52 = .ok (.invokevirtual 217, 3) := by decide +kernel
theorem dd_Re_mayAdvance_55 : decode cc_Re_mayAdvance 55 = .ok (.ifCond .eq 18, 3) := by decide +kernel
theorem dd_Re_mayAdvance_58 : decode cc_Re_mayAdvance 58 = .ok (.aload_n 0, 1) := by decide +kernel
theorem dd_Re_mayAdvance_59 : decode cc_Re_mayAdvance 59 = .ok (.getfield 45, 3) := by decide +kernel
theorem dd_Re_mayAdvance_62 : decode cc_Re_mayAdvance 62 = .ok (.iload_n 1, 1) := by decide +kernel
theorem dd_Re_mayAdvance_63 : decode cc_Re_mayAdvance 63 = .ok (.invokevirtual 202, 3) := by decide +kernel
theorem dd_Re_mayAdvance_66 : decode cc_Re_mayAdvance 66 = .ok (.invokestatic 220, 3) := by decide +kernel
theorem dd_Re_mayAdvance_69 : decode cc_Re_mayAdvance 69 = .ok (.iconst 3, 1) := by decide +kernel
theorem dd_Re_mayAdvance_70 : decode cc_Re_mayAdvance 70 = .ok (.if_icmp .ge 5, 3) := by decide +kernel
theorem dd_Re_mayAdvance_73 : decode cc_Re_mayAdvance 73 = .ok (.iconst 0, 1) := by decide +kernel
theorem dd_Re_mayAdvance_74 : decode cc_Re_mayAdvance 74 = .ok (.ireturn, 1) := by decide +kernel
theorem dd_Re_mayAdvance_75 : decode cc_Re_mayAdvance 75 = .ok (.iload_n 1, 1) := by decide +kernel
theorem dd_Re_mayAdvance_76 : decode cc_Re_mayAdvance 76 = .ok (.iconst 2, 1) := by decide +kernel
theorem dd_Re_mayAdvance_77 : decode cc_Re_mayAdvance 77 = .ok (.irem, 1) := by decide +kernel
theorem dd_Re_mayAdvance_78 : decode cc_Re_mayAdvance 78 = .ok (.iconst 1, 1) := by decide +kernel
theorem dd_Re_mayAdvance_79 : decode cc_Re_mayAdvance 79 = .ok (.if_icmp .eq 26, 3) := by decide +kernel
theorem dd_Re_mayAdvance_82 : decode cc_Re_mayAdvance 82 = .ok (.aload_n 0, 1) := by decide +kernel
theorem dd_Re_mayAdvance_83 : decode cc_Re_mayAdvance 83 = .ok (.getfield 45, 3) := by decide +kernel
theorem dd_Re_mayAdvance_86 : decode cc_Re_mayAdvance 86 = .ok (.iload_n 1, 1) := by decide +kernel
theorem dd_Re_mayAdvance_87 : decode cc_Re_mayAdvance 87 = .ok (.invokestatic 225, 3) := by decide +kernel
theorem dd_Re_mayAdvance_90 : decode cc_Re_mayAdvance 90 = .ok (.iload_n 1, 1) := by decide +kernel
theorem dd_Re_mayAdvance_91 : decode cc_Re_mayAdvance 91 = .ok (.invokevirtual 217, 3) := by decide +kernel
theorem dd_Re_mayAdvance_94 : decode cc_Re_mayAdvance 94 = .ok (.ifCond .ne 11, 3) := by decide +kernel
theorem dd_Re_mayAdvance_97 : decode cc_Re_mayAdvance 97 = .ok (.aload_n 0, 1) := by decide +kernel
theorem dd_Re_mayAdvance_98 : decode cc_Re_mayAdvance 98 = .ok (.getfield 74, 3) := by decide +kernel
theorem dd_Re_mayAdvance_101 : decode cc_Re_mayAdvance 101 = .ok (.iconst 3, 1) := by decide +kernel
theorem dd_Re_mayAdvance_102 : decode cc_Re_mayAdvance 102 = .ok (.if_icmp .lt 7, 3) := by decide +kernel
theorem dd_Re_mayAdvance_105 : decode cc_Re_mayAdvance 105 = .ok (.iconst 1, 1) := by decide +kernel
theorem dd_Re_mayAdvance_106 : decode cc_Re_mayAdvance 106 = .ok (.goto 4, 3) := by decide +kernel
theorem dd_Re_mayAdvance_109 : decode cc_Re_mayAdvance 109 = .ok (.iconst 0, 1) := by decide +kernel
theorem dd_Re_mayAdvance_110 : decode cc_Re_mayAdvance 110 = .ok (.ireturn, 1) := by decide +kernel
theorem dd_Le_pump_0 : decode cc_Le_pump 0 = .ok (.aload_n 0, 1) := by decide +kernel
theorem dd_Le_pump_1 : decode cc_Le_pump 1 = .ok (.iload_n 1, 1) := by decide +kernel
theorem dd_Le_pump_2 : decode cc_Le_pump 2 = .ok (.invokevirtual 43, 3) := by decide +kernel
theorem dd_Le_pump_5 : decode cc_Le_pump 5 = .ok (.astore_n 3, 1) := by decide +kernel
theorem dd_Le_pump_6 : decode cc_Le_pump 6 = .ok (.iload_n 2, 1) := by decide +kernel
theorem dd_Le_pump_7 : decode cc_Le_pump 7 = .ok (.iconst 1, 1) := by decide +kernel
theorem dd_Le_pump_8 : decode cc_Le_pump 8 = .ok (.if_icmp .lt 9, 3) := by decide +kernel
theorem dd_Le_pump_11 : decode cc_Le_pump 11 = .ok (.iload_n 2, 1) := by decide +kernel
theorem dd_Le_pump_12 : decode cc_Le_pump 12 = .ok (.bipush 50, 2) := by decide +kernel
theorem dd_Le_pump_14 : decode cc_Le_pump 14 = .ok (.if_icmp .le 5, 3) := by decide +kernel
theorem dd_Le_pump_17 : decode cc_Le_pump 17 = .ok (.iconst (-1), 1) := by decide +kernel
theorem dd_Le_pump_18 : decode cc_Le_pump 18 = .ok (.ireturn, 1) := by decide +kernel
theorem dd_Le_pump_19 : decode cc_Le_pump 19 = .ok (.iconst 0, 1) := by decide +kernel
theorem dd_Le_pump_20 : decode cc_Le_pump 20 = .ok (.istore 4, 2) := by decide +kernel
theorem dd_Le_pump_22 : decode cc_Le_pump 22 = .ok (.iload 4, 2) := by decide +kernel
theorem dd_Le_pump_24 : decode cc_Le_pump 24 = .ok (.iload_n 2, 1) := by decide +kernel
theorem dd_Le_pump_25 : decode cc_Le_pump 25 = .ok (.if_icmp .ge 60, 3) := by decide +kernel
theorem dd_Le_pump_28 : decode cc_Le_pump 28 = .ok (.aload_n 3, 1) := by decide +kernel
theorem dd_Le_pump_29 : decode cc_Le_pump 29 = .ok (.invokevirtual 78, 3) := by decide +kernel
theorem dd_Le_pump_32 : decode cc_Le_pump 32 = .ok (.ifCond .eq 53, 3) := by decide +kernel
theorem dd_Le_pump_35 : decode cc_Le_pump 35 = .ok (.aload_n 0, 1) := by decide +kernel
theorem dd_Le_pump_36 : decode cc_Le_pump 36 = .ok (.getfield 26, 3) := by decide +kernel
theorem dd_Le_pump_39 : decode cc_Le_pump 39 = .ok (.invokevirtual 81, 3) := by decide +kernel
theorem dd_Le_pump_42 : decode cc_Le_pump 42 = .ok (.ifCond .ne 43, 3) := by decide +kernel
theorem dd_Le_pump_45 : decode cc_Le_pump 45 = .ok (.aload_n 0, 1) := by decide +kernel
theorem dd_Le_pump_46 : decode cc_Le_pump 46 = .ok (.getfield 26, 3) := by decide +kernel
theorem dd_Le_pump_49 : decode cc_Le_pump 49 = .ok (.aload_n 3, 1) := by decide +kernel
theorem dd_Le_pump_50 : decode cc_Le_pump 50 = .ok (.getfield 85, 3) := by decide +kernel
theorem dd_Le_pump_53 : decode cc_Le_pump 53 = .ok (.invokevirtual 75, 3) := by decide +kernel
theorem dd_Le_pump_56 : decode cc_Le_pump 56 = .ok (.ifCond .eq 29, 3) := by decide +kernel
theorem dd_Le_pump_59 : decode cc_Le_pump 59 = .ok (.aload_n 3, 1) := by decide +kernel
theorem dd_Le_pump_60 : decode cc_Le_pump 60 = .ok (.dup, 1) := by decide +kernel
theorem dd_Le_pump_61 : decode cc_Le_pump 61 = .ok (.getfield 85, 3) := by decide +kernel
theorem dd_Le_pump_64 : decode cc_Le_pump 64 = .ok (.iconst 1, 1) := by decide +kernel
theorem dd_Le_pump_65 : decode cc_Le_pump 65 = .ok (.iadd, 1) := by decide +kernel
theorem dd_Le_pump_66 : decode cc_Le_pump 66 = .ok (.putfield 85, 3) := by decide +kernel
theorem dd_Le_pump_69 : decode cc_Le_pump 69 = .ok (.aload_n 3, 1) := by decide +kernel
theorem dd_Le_pump_70 : decode cc_Le_pump 70 = .ok (.aload_n 3, 1) := by decide +kernel
theorem dd_Le_pump_71 : decode cc_Le_pump 71 = .ok (.getfield 85, 3) := by decide +kernel
theorem dd_Le_pump_74 : decode cc_Le_pump 74 = .ok (.iconst 1, 1) := by decide +kernel
theorem dd_Le_pump_75 : decode cc_Le_pump 75 = .ok (.isub, 1) := by decide +kernel
theorem dd_Le_pump_76 : decode cc_Le_pump 76 = .ok (.invokevirtual 82, 3) := by decide +kernel
theorem dd_Le_pump_79 : decode cc_Le_pump 79 = .ok (.iinc 4 1, 3) := by decide +kernel
theorem dd_Le_pump_82 : decode cc_Le_pump 82 = .ok (.goto (-60), 3) := by decide +kernel
theorem dd_Le_pump_85 : decode cc_Le_pump 85 = .ok (.iload 4, 2) := by decide +kernel
theorem dd_Le_pump_87 : decode cc_Le_pump 87 = .ok (.ireturn, 1) := by decide +kernel
theorem dd_Le_tick_0 : decode cc_Le_tick 0 = .ok (.aload_n 0, 1) := by decide +kernel
theorem dd_Le_tick_1 : decode cc_Le_tick 1 = .ok (.iload_n 1, 1) := by decide +kernel
theorem dd_Le_tick_2 : decode cc_Le_tick 2 = .ok (.invokevirtual 72, 3) := by decide +kernel
theorem dd_Le_tick_5 : decode cc_Le_tick 5 = .ok (.astore_n 2, 1) := by decide +kernel
theorem dd_Le_tick_6 : decode cc_Le_tick 6 = .ok (.aload_n 2, 1) := by decide +kernel
theorem dd_Le_tick_7 : decode cc_Le_tick 7 = .ok (.invokevirtual 78, 3) := by decide +kernel
theorem dd_Le_tick_10 : decode cc_Le_tick 10 = .ok (.ifCond .eq 13, 3) := by decide +kernel
theorem dd_Le_tick_13 : decode cc_Le_tick 13 = .ok (.aload_n 0, 1) := by decide +kernel
theorem dd_Le_tick_14 : decode cc_Le_tick 14 = .ok (.getfield 26, 3) := by decide +kernel
theorem dd_Le_tick_17 : decode cc_Le_tick 17 = .ok (.invokevirtual 81, 3) := by decide +kernel
theorem dd_Le_tick_20 : decode cc_Le_tick 20 = .ok (.ifCond .eq 5, 3) := by decide +kernel
theorem dd_Le_tick_23 : decode cc_Le_tick 23 = .ok (.iconst 0, 1) := by decide +kernel
theorem dd_Le_tick_24 : decode cc_Le_tick 24 = .ok (.ireturn, 1) := by decide +kernel
theorem dd_Le_tick_25 : decode cc_Le_tick 25 = .ok (.aload_n 2, 1) := by decide +kernel
theorem dd_Le_tick_26 : decode cc_Le_tick 26 = .ok (.invokevirtual 88, 3) := by decide +kernel
theorem dd_Le_tick_29 : decode cc_Le_tick 29 = .ok (.iconst 1, 1) := by decide +kernel
theorem dd_Le_tick_30 : decode cc_Le_tick 30 = .ok (.ireturn, 1) := by decide +kernel
theorem dd_Re_passTime_0 : decode cc_Re_passTime 0 = .ok (.aload_n 0, 1) := by decide +kernel
theorem dd_Re_passTime_1 : decode cc_Re_passTime 1 = .ok (.aload_n 0, 1) := by decide +kernel
theorem dd_Re_passTime_2 : decode cc_Re_passTime 2 = .ok (.getfield 74, 3) := by decide +kernel
theorem dd_Re_passTime_5 : decode cc_Re_passTime 5 = .ok (.iconst 1, 1) := by decide +kernel
theorem dd_Re_passTime_6 : decode cc_Re_passTime 6 = .ok (.iadd, 1) := by decide +kernel
theorem dd_Re_passTime_7 : decode cc_Re_passTime 7 = .ok (.iconst 3, 1) := by decide +kernel
theorem dd_Re_passTime_8 : decode cc_Re_passTime 8 = .ok (.invokestatic 95, 3) := by decide +kernel
theorem dd_Re_passTime_11 : decode cc_Re_passTime 11 = .ok (.putfield 74, 3) := by decide +kernel
theorem dd_Re_passTime_14 : decode cc_Re_passTime 14 = .ok (.aload_n 0, 1) := by decide +kernel
theorem dd_Re_passTime_15 : decode cc_Re_passTime 15 = .ok (.invokevirtual 101, 3) := by decide +kernel
theorem dd_Re_passTime_18 : decode cc_Re_passTime 18 = .ok (.return_, 1) := by decide +kernel
theorem dd_Le_crash_0 : decode cc_Le_crash 0 = .ok (.aload_n 0, 1) := by decide +kernel
theorem dd_Le_crash_1 : decode cc_Le_crash 1 = .ok (.iload_n 1, 1) := by decide +kernel
theorem dd_Le_crash_2 : decode cc_Le_crash 2 = .ok (.invokevirtual 72, 3) := by decide +kernel
theorem dd_Le_crash_5 : decode cc_Le_crash 5 = .ok (.astore_n 2, 1) := by decide +kernel
theorem dd_Le_crash_6 : decode cc_Le_crash 6 = .ok (.aload_n 2, 1) := by decide +kernel
theorem dd_Le_crash_7 : decode cc_Le_crash 7 = .ok (.invokevirtual 78, 3) := by decide +kernel
theorem dd_Le_crash_10 : decode cc_Le_crash 10 = .ok (.ifCond .ne 5, 3) := by decide +kernel
theorem dd_Le_crash_13 : decode cc_Le_crash 13 = .ok (.iconst 0, 1) := by decide +kernel
theorem dd_Le_crash_14 : decode cc_Le_crash 14 = .ok (.ireturn, 1) := by decide +kernel
theorem dd_Le_crash_15 : decode cc_Le_crash 15 = .ok (.aload_n 2, 1) := by decide +kernel
theorem dd_Le_crash_16 : decode cc_Le_crash 16 = .ok (.invokevirtual 91, 3) := by decide +kernel
theorem dd_Le_crash_19 : decode cc_Le_crash 19 = .ok (.iconst 1, 1) := by decide +kernel
theorem dd_Le_crash_20 : decode cc_Le_crash 20 = .ok (.ireturn, 1) := by decide +kernel
theorem dd_Le_restart_0 : decode cc_Le_restart 0 = .ok (.aload_n 0, 1) := by decide +kernel
theorem dd_Le_restart_1 : decode cc_Le_restart 1 = .ok (.iload_n 1, 1) := by decide +kernel
theorem dd_Le_restart_2 : decode cc_Le_restart 2 = .ok (.invokevirtual 72, 3) := by decide +kernel
theorem dd_Le_restart_5 : decode cc_Le_restart 5 = .ok (.astore_n 2, 1) := by decide +kernel
theorem dd_Le_restart_6 : decode cc_Le_restart 6 = .ok (.aload_n 2, 1) := by decide +kernel
theorem dd_Le_restart_7 : decode cc_Le_restart 7 = .ok (.getfield 94, 3) := by decide +kernel
theorem dd_Le_restart_10 : decode cc_Le_restart 10 = .ok (.ifCond .eq 5, 3) := by decide +kernel
theorem dd_Le_restart_13 : decode cc_Le_restart 13 = .ok (.iconst 0, 1) := by decide +kernel
theorem dd_Le_restart_14 : decode cc_Le_restart 14 = .ok (.ireturn, 1) := by decide +kernel
theorem dd_Le_restart_15 : decode cc_Le_restart 15 = .ok (.aload_n 2, 1) := by decide +kernel
theorem dd_Le_restart_16 : decode cc_Le_restart 16 = .ok (.invokevirtual 97, 3) := by decide +kernel
theorem dd_Le_restart_19 : decode cc_Le_restart 19 = .ok (.aload_n 0, 1) := by decide +kernel
theorem dd_Le_restart_20 : decode cc_Le_restart 20 = .ok (.getfield 26, 3) := by decide +kernel
theorem dd_Le_restart_23 : decode cc_Le_restart 23 = .ok (.invokevirtual 81, 3) := by decide +kernel
theorem dd_Le_restart_26 : decode cc_Le_restart 26 = .ok (.ifCond .ne 7, 3) := by decide +kernel
theorem dd_Le_restart_29 : decode cc_Le_restart 29 = .ok (.aload_n 2, 1) := by decide +kernel
theorem dd_Le_restart_30 : decode cc_Le_restart 30 = .ok (.invokevirtual 100, 3) := by decide +kernel
theorem dd_Le_restart_33 : decode cc_Le_restart 33 = .ok (.iconst 1, 1) := by decide +kernel
theorem dd_Le_restart_34 : decode cc_Le_restart 34 = .ok (.ireturn, 1) := by decide +kernel
theorem dd_Re_comeUp_0 : decode cc_Re_comeUp 0 = .ok (.aload_n 0, 1) := by decide +kernel
theorem dd_Re_comeUp_1 : decode cc_Re_comeUp 1 = .ok (.iconst 1, 1) := by decide +kernel
theorem dd_Re_comeUp_2 : decode cc_Re_comeUp 2 = .ok (.putfield 25, 3) := by decide +kernel
theorem dd_Re_comeUp_5 : decode cc_Re_comeUp 5 = .ok (.aload_n 0, 1) := by decide +kernel
theorem dd_Re_comeUp_6 : decode cc_Re_comeUp 6 = .ok (.getfield 54, 3) := by decide +kernel
theorem dd_Re_comeUp_9 : decode cc_Re_comeUp 9 = .ok (.invokevirtual 83, 3) := by decide +kernel
theorem dd_Re_comeUp_12 : decode cc_Re_comeUp 12 = .ok (.return_, 1) := by decide +kernel
theorem dd_Le_cut_0 : decode cc_Le_cut 0 = .ok (.aload_n 0, 1) := by decide +kernel
theorem dd_Le_cut_1 : decode cc_Le_cut 1 = .ok (.iload_n 1, 1) := by decide +kernel
theorem dd_Le_cut_2 : decode cc_Le_cut 2 = .ok (.invokevirtual 72, 3) := by decide +kernel
theorem dd_Le_cut_5 : decode cc_Le_cut 5 = .ok (.astore_n 3, 1) := by decide +kernel
theorem dd_Le_cut_6 : decode cc_Le_cut 6 = .ok (.iload_n 2, 1) := by decide +kernel
theorem dd_Le_cut_7 : decode cc_Le_cut 7 = .ok (.ifCond .lt 10, 3) := by decide +kernel
theorem dd_Le_cut_10 : decode cc_Le_cut 10 = .ok (.aload_n 3, 1) := by decide +kernel
theorem dd_Le_cut_11 : decode cc_Le_cut 11 = .ok (.invokevirtual 78, 3) := by decide +kernel
theorem dd_Le_cut_14 : decode cc_Le_cut 14 = .ok (.ifCond .ne 5, 3) := by decide +kernel
theorem dd_Le_cut_17 : decode cc_Le_cut 17 = .ok (.iconst 0, 1) := by decide +kernel
theorem dd_Le_cut_18 : decode cc_Le_cut 18 = .ok (.ireturn, 1) := by decide +kernel
theorem dd_Le_cut_19 : decode cc_Le_cut 19 = .ok (.aload_n 3, 1) := by decide +kernel
theorem dd_Le_cut_20 : decode cc_Le_cut 20 = .ok (.iload_n 2, 1) := by decide +kernel
theorem dd_Le_cut_21 : decode cc_Le_cut 21 = .ok (.invokevirtual 103, 3) := by decide +kernel
theorem dd_Le_cut_24 : decode cc_Le_cut 24 = .ok (.iconst 1, 1) := by decide +kernel
theorem dd_Le_cut_25 : decode cc_Le_cut 25 = .ok (.ireturn, 1) := by decide +kernel
theorem dd_Re_setCut_0 : decode cc_Re_setCut 0 = .ok (.aload_n 0, 1) := by decide +kernel
theorem dd_Re_setCut_1 : decode cc_Re_setCut 1 = .ok (.iconst 1, 1) := by decide +kernel
theorem dd_Re_setCut_2 : decode cc_Re_setCut 2 = .ok (.putfield 67, 3) := by decide +kernel
theorem dd_Re_setCut_5 : decode cc_Re_setCut 5 = .ok (.aload_n 0, 1) := by decide +kernel
theorem dd_Re_setCut_6 : decode cc_Re_setCut 6 = .ok (.iload_n 1, 1) := by decide +kernel
theorem dd_Re_setCut_7 : decode cc_Re_setCut 7 = .ok (.putfield 86, 3) := by decide +kernel
theorem dd_Re_setCut_10 : decode cc_Re_setCut 10 = .ok (.return_, 1) := by decide +kernel
theorem dd_Le_corrupt_0 : decode cc_Le_corrupt 0 = .ok (.aload_n 0, 1) := by decide +kernel
theorem dd_Le_corrupt_1 : decode cc_Le_corrupt 1 = .ok (.iload_n 1, 1) := by decide +kernel
theorem dd_Le_corrupt_2 : decode cc_Le_corrupt 2 = .ok (.invokevirtual 72, 3) := by decide +kernel
theorem dd_Le_corrupt_5 : decode cc_Le_corrupt 5 = .ok (.astore_n 2, 1) := by decide +kernel
theorem dd_Le_corrupt_6 : decode cc_Le_corrupt 6 = .ok (.aload_n 0, 1) := by decide +kernel
theorem dd_Le_corrupt_7 : decode cc_Le_corrupt 7 = .ok (.getfield 39, 3) := by decide +kernel
theorem dd_Le_corrupt_10 : decode cc_Le_corrupt 10 = .ok (.iconst (-1), 1) := by decide +kernel
theorem dd_Le_corrupt_11 : decode cc_Le_corrupt 11 = .ok (.if_icmp .eq 5, 3) := by decide +kernel
theorem dd_Le_corrupt_14 : decode cc_Le_corrupt 14 = .ok (.iconst 0, 1) := by decide +kernel
theorem dd_Le_corrupt_15 : decode cc_Le_corrupt 15 = .ok (.ireturn, 1) := by decide +kernel
theorem dd_Le_corrupt_16 : decode cc_Le_corrupt 16 = .ok (.aload_n 2, 1) := by decide +kernel
theorem dd_Le_corrupt_17 : decode cc_Le_corrupt 17 = .ok (.iconst 2, 1) := by decide +kernel
theorem dd_Le_corrupt_18 : decode cc_Le_corrupt 18 = .ok (.putfield 94, 3) := by decide +kernel
theorem dd_Le_corrupt_21 : decode cc_Le_corrupt 21 = .ok (.aload_n 0, 1) := by decide +kernel
theorem dd_Le_corrupt_22 : decode cc_Le_corrupt 22 = .ok (.iload_n 1, 1) := by decide +kernel
theorem dd_Le_corrupt_23 : decode cc_Le_corrupt 23 = .ok (.putfield 39, 3) := by decide +kernel
theorem dd_Le_corrupt_26 : decode cc_Le_corrupt 26 = .ok (.iconst 1, 1) := by decide +kernel
theorem dd_Le_corrupt_27 : decode cc_Le_corrupt 27 = .ok (.ireturn, 1) := by decide +kernel
theorem dd_Le_node_0 : decode cc_Le_node 0 = .ok (.aload_n 0, 1) := by decide +kernel
theorem dd_Le_node_1 : decode cc_Le_node 1 = .ok (.iload_n 1, 1) := by decide +kernel
theorem dd_Le_node_2 : decode cc_Le_node 2 = .ok (.invokevirtual 72, 3) := by decide +kernel
theorem dd_Le_node_5 : decode cc_Le_node 5 = .ok (.astore_n 3, 1) := by decide +kernel
theorem dd_Le_node_6 : decode cc_Le_node 6 = .ok (.iload_n 2, 1) := by decide +kernel
theorem dd_Le_node_7 : decode cc_Le_node 7 = .ok (.tableswitch 112 0 8 #[49, 54, 62, 67, 72, 80, 88, 96, 104], 49) := by decide +kernel
theorem dd_Le_node_56 : decode cc_Le_node 56 = .ok (.aload_n 3, 1) := by decide +kernel
theorem dd_Le_node_57 : decode cc_Le_node 57 = .ok (.getfield 94, 3) := by decide +kernel
theorem dd_Le_node_60 : decode cc_Le_node 60 = .ok (.ireturn, 1) := by decide +kernel
theorem dd_Le_node_61 : decode cc_Le_node 61 = .ok (.aload_n 3, 1) := by decide +kernel
theorem dd_Le_node_62 : decode cc_Le_node 62 = .ok (.getfield 62, 3) := by decide +kernel
theorem dd_Le_node_65 : decode cc_Le_node 65 = .ok (.getfield 142, 3) := by decide +kernel
theorem dd_Le_node_68 : decode cc_Le_node 68 = .ok (.ireturn, 1) := by decide +kernel
theorem dd_Le_node_69 : decode cc_Le_node 69 = .ok (.aload_n 3, 1) := by decide +kernel
theorem dd_Le_node_70 : decode cc_Le_node 70 = .ok (.getfield 145, 3) := by decide +kernel
theorem dd_Le_node_73 : decode cc_Le_node 73 = .ok (.ireturn, 1) := by decide +kernel
theorem dd_Le_node_74 : decode cc_Le_node 74 = .ok (.aload_n 3, 1) := by decide +kernel
theorem dd_Le_node_75 : decode cc_Le_node 75 = .ok (.getfield 85, 3) := by decide +kernel
theorem dd_Le_node_78 : decode cc_Le_node 78 = .ok (.ireturn, 1) := by decide +kernel
theorem dd_Le_node_79 : decode cc_Le_node 79 = .ok (.aload_n 3, 1) := by decide +kernel
theorem dd_Le_node_80 : decode cc_Le_node 80 = .ok (.getfield 148, 3) := by decide +kernel
theorem dd_Le_node_83 : decode cc_Le_node 83 = .ok (.getfield 152, 3) := by decide +kernel
theorem dd_Le_node_86 : decode cc_Le_node 86 = .ok (.ireturn, 1) := by decide +kernel
theorem dd_Le_node_87 : decode cc_Le_node 87 = .ok (.aload_n 3, 1) := by decide +kernel
theorem dd_Le_node_88 : decode cc_Le_node 88 = .ok (.getfield 157, 3) := by decide +kernel
theorem dd_Le_node_91 : decode cc_Le_node 91 = .ok (.getfield 161, 3) := by decide +kernel
theorem dd_Le_node_94 : decode cc_Le_node 94 = .ok (.ireturn, 1) := by decide +kernel
theorem dd_Le_node_95 : decode cc_Le_node 95 = .ok (.aload_n 3, 1) := by decide +kernel
theorem dd_Le_node_96 : decode cc_Le_node 96 = .ok (.getfield 166, 3) := by decide +kernel
theorem dd_Le_node_99 : decode cc_Le_node 99 = .ok (.getfield 170, 3) := by decide +kernel
theorem dd_Le_node_102 : decode cc_Le_node 102 = .ok (.ireturn, 1) := by decide +kernel
theorem dd_Le_node_103 : decode cc_Le_node 103 = .ok (.aload_n 3, 1) := by decide +kernel
theorem dd_Le_node_104 : decode cc_Le_node 104 = .ok (.getfield 62, 3) := by decide +kernel
theorem dd_Le_node_107 : decode cc_Le_node 107 = .ok (.invokevirtual 173, 3) := by decide +kernel
theorem dd_Le_node_110 : decode cc_Le_node 110 = .ok (.ireturn, 1) := by decide +kernel
theorem dd_Le_node_111 : decode cc_Le_node 111 = .ok (.aload_n 3, 1) := by decide +kernel
theorem dd_Le_node_112 : decode cc_Le_node 112 = .ok (.getfield 62, 3) := by decide +kernel
theorem dd_Le_node_115 : decode cc_Le_node 115 = .ok (.getfield 177, 3) := by decide +kernel
theorem dd_Le_node_118 : decode cc_Le_node 118 = .ok (.ireturn, 1) := by decide +kernel
theorem dd_Le_node_119 : decode cc_Le_node 119 = .ok (.iconst (-1), 1) := by decide +kernel
theorem dd_Le_node_120 : decode cc_Le_node 120 = .ok (.ireturn, 1) := by decide +kernel
theorem dd_Le_dag_0 : decode cc_Le_dag 0 = .ok (.aload_n 0, 1) := by decide +kernel
theorem dd_Le_dag_1 : decode cc_Le_dag 1 = .ok (.iload_n 1, 1) := by decide +kernel
theorem dd_Le_dag_2 : decode cc_Le_dag 2 = .ok (.invokevirtual 72, 3) := by decide +kernel
theorem dd_Le_dag_5 : decode cc_Le_dag 5 = .ok (.astore 4, 2) := by decide +kernel
theorem dd_Le_dag_7 : decode cc_Le_dag 7 = .ok (.iload_n 2, 1) := by decide +kernel
theorem dd_Le_dag_8 : decode cc_Le_dag 8 = .ok (.ifCond .lt 19, 3) := by decide +kernel
theorem dd_Le_dag_11 : decode cc_Le_dag 11 = .ok (.iload_n 2, 1) := by decide +kernel
theorem dd_Le_dag_12 : decode cc_Le_dag 12 = .ok (.iconst 4, 1) := by decide +kernel
theorem dd_Le_dag_13 : decode cc_Le_dag 13 = .ok (.if_icmp .ge 14, 3) := by decide +kernel
theorem dd_Le_dag_16 : decode cc_Le_dag 16 = .ok (.iload_n 3, 1) := by decide +kernel
theorem dd_Le_dag_17 : decode cc_Le_dag 17 = .ok (.iconst 1, 1) := by decide +kernel
theorem dd_Le_dag_18 : decode cc_Le_dag 18 = .ok (.if_icmp .lt 9, 3) := by decide +kernel
theorem dd_Le_dag_21 : decode cc_Le_dag 21 = .ok (.iload_n 3, 1) := by decide +kernel
theorem dd_Le_dag_22 : decode cc_Le_dag 22 = .ok (.bipush 14, 2) := by decide +kernel
theorem dd_Le_dag_24 : decode cc_Le_dag 24 = .ok (.if_icmp .le 5, 3) := by decide +kernel
theorem dd_Le_dag_27 : decode cc_Le_dag 27 = .ok (.iconst (-1), 1) := by decide +kernel
theorem dd_Le_dag_28 : decode cc_Le_dag 28 = .ok (.ireturn, 1) := by decide +kernel
theorem dd_Le_dag_29 : decode cc_Le_dag 29 = .ok (.aload 4, 2) := by decide +kernel
theorem dd_Le_dag_31 : decode cc_Le_dag 31 = .ok (.getfield 157, 3) := by decide +kernel
theorem dd_Le_dag_34 : decode cc_Le_dag 34 = .ok (.iload_n 2, 1) := by decide +kernel
theorem dd_Le_dag_35 : decode cc_Le_dag 35 = .ok (.iload_n 3, 1) := by decide +kernel
theorem dd_Le_dag_36 : decode cc_Le_dag 36 = .ok (.invokevirtual 180, 3) := by decide +kernel
theorem dd_Le_dag_39 : decode cc_Le_dag 39 = .ok (.ireturn, 1) := by decide +kernel
theorem dd_Le_at_0 : decode cc_Le_at 0 = .ok (.aload_n 0, 1) := by decide +kernel
theorem dd_Le_at_1 : decode cc_Le_at 1 = .ok (.iload_n 1, 1) := by decide +kernel
theorem dd_Le_at_2 : decode cc_Le_at 2 = .ok (.invokevirtual 72, 3) := by decide +kernel
theorem dd_Le_at_5 : decode cc_Le_at 5 = .ok (.astore_n 3, 1) := by decide +kernel
theorem dd_Le_at_6 : decode cc_Le_at 6 = .ok (.iload_n 2, 1) := by decide +kernel
theorem dd_Le_at_7 : decode cc_Le_at 7 = .ok (.ifCond .lt 14, 3) := by decide +kernel
theorem dd_Le_at_10 : decode cc_Le_at 10 = .ok (.iload_n 2, 1) := by decide +kernel
theorem dd_Le_at_11 : decode cc_Le_at 11 = .ok (.aload_n 3, 1) := by decide +kernel
theorem dd_Le_at_12 : decode cc_Le_at 12 = .ok (.getfield 166, 3) := by decide +kernel
theorem dd_Le_at_15 : decode cc_Le_at 15 = .ok (.getfield 170, 3) := by decide +kernel
theorem dd_Le_at_18 : decode cc_Le_at 18 = .ok (.if_icmp .lt 5, 3) := by decide +kernel
theorem dd_Le_at_21 : decode cc_Le_at 21 = .ok (.iconst (-1), 1) := by decide +kernel
theorem dd_Le_at_22 : decode cc_Le_at 22 = .ok (.ireturn, 1) := by decide +kernel
theorem dd_Le_at_23 : decode cc_Le_at 23 = .ok (.aload_n 3, 1) := by decide +kernel
theorem dd_Le_at_24 : decode cc_Le_at 24 = .ok (.getfield 166, 3) := by decide +kernel
theorem dd_Le_at_27 : decode cc_Le_at 27 = .ok (.getfield 184, 3) := by decide +kernel
theorem dd_Le_at_30 : decode cc_Le_at 30 = .ok (.iload_n 2, 1) := by decide +kernel
theorem dd_Le_at_31 : decode cc_Le_at 31 = .ok (.iaload, 1) := by decide +kernel
theorem dd_Le_at_32 : decode cc_Le_at 32 = .ok (.ireturn, 1) := by decide +kernel
theorem dd_Le_balance_0 : decode cc_Le_balance 0 = .ok (.aload_n 0, 1) := by decide +kernel
theorem dd_Le_balance_1 : decode cc_Le_balance 1 = .ok (.iload_n 1, 1) := by decide +kernel
theorem dd_Le_balance_2 : decode cc_Le_balance 2 = .ok (.invokevirtual 72, 3) := by decide +kernel
theorem dd_Le_balance_5 : decode cc_Le_balance 5 = .ok (.astore_n 3, 1) := by decide +kernel
theorem dd_Le_balance_6 : decode cc_Le_balance 6 = .ok (.iload_n 2, 1) := by decide +kernel
theorem dd_Le_balance_7 : decode cc_Le_balance 7 = .ok (.invokestatic 51, 3) := by decide +kernel
theorem dd_Le_balance_10 : decode cc_Le_balance 10 = .ok (.ifCond .ne 5, 3) := by decide +kernel
theorem dd_Le_balance_13 : decode cc_Le_balance 13 = .ok (.iconst (-1), 1) := by decide +kernel
theorem dd_Le_balance_14 : decode cc_Le_balance 14 = .ok (.ireturn, 1) := by decide +kernel
theorem dd_Le_balance_15 : decode cc_Le_balance 15 = .ok (.aload_n 3, 1) := by decide +kernel
theorem dd_Le_balance_16 : decode cc_Le_balance 16 = .ok (.getfield 166, 3) := by decide +kernel
theorem dd_Le_balance_19 : decode cc_Le_balance 19 = .ok (.getfield 187, 3) := by decide +kernel
theorem dd_Le_balance_22 : decode cc_Le_balance 22 = .ok (.iload_n 2, 1) := by decide +kernel
theorem dd_Le_balance_23 : decode cc_Le_balance 23 = .ok (.iaload, 1) := by decide +kernel
theorem dd_Le_balance_24 : decode cc_Le_balance 24 = .ok (.ireturn, 1) := by decide +kernel
end
section
/-! decode rows (written by wip/whole/gen02.py) -/
theorem dd_Mo_fresh_0 : decode cc_Mo_fresh 0 = .ok (.aload_n 0, 1) := by decide +kernel
theorem dd_Mo_fresh_1 : decode cc_Mo_fresh 1 = .ok (.getfield 68, 3) := by decide +kernel
theorem dd_Mo_fresh_4 : decode cc_Mo_fresh 4 = .ok (.iload_n 1, 1) := by decide +kernel
theorem dd_Mo_fresh_5 : decode cc_Mo_fresh 5 = .ok (.iconst 0, 1) := by decide +kernel
theorem dd_Mo_fresh_6 : decode cc_Mo_fresh 6 = .ok (.iastore, 1) := by decide +kernel
theorem dd_Mo_fresh_7 : decode cc_Mo_fresh 7 = .ok (.aload_n 0, 1) := by decide +kernel
theorem dd_Mo_fresh_8 : decode cc_Mo_fresh 8 = .ok (.getfield 71, 3) := by decide +kernel
theorem dd_Mo_fresh_11 : decode cc_Mo_fresh 11 = .ok (.iload_n 1, 1) := by decide +kernel
theorem dd_Mo_fresh_12 : decode cc_Mo_fresh 12 = .ok (.iconst 0, 1) := by decide +kernel
theorem dd_Mo_fresh_13 : decode cc_Mo_fresh 13 = .ok (.iastore, 1) := by decide +kernel
theorem dd_Mo_fresh_14 : decode cc_Mo_fresh 14 = .ok (.aload_n 0, 1) := by decide +kernel
theorem dd_Mo_fresh_15 : decode cc_Mo_fresh 15 = .ok (.getfield 74, 3) := by decide +kernel
theorem dd_Mo_fresh_18 : decode cc_Mo_fresh 18 = .ok (.iload_n 1, 1) := by decide +kernel
theorem dd_Mo_fresh_19 : decode cc_Mo_fresh 19 = .ok (.iconst 0, 1) := by decide +kernel
theorem dd_Mo_fresh_20 : decode cc_Mo_fresh 20 = .ok (.iastore, 1) := by decide +kernel
theorem dd_Mo_fresh_21 : decode cc_Mo_fresh 21 = .ok (.aload_n 0, 1) := by decide +kernel
theorem dd_Mo_fresh_22 : decode cc_Mo_fresh 22 = .ok (.getfield 92, 3) := by decide +kernel
theorem dd_Mo_fresh_25 : decode cc_Mo_fresh 25 = .ok (.iload_n 1, 1) := by decide +kernel
theorem dd_Mo_fresh_26 : decode cc_Mo_fresh 26 = .ok (.iconst 0, 1) := by decide +kernel
theorem dd_Mo_fresh_27 : decode cc_Mo_fresh 27 = .ok (.iastore, 1) := by decide +kernel
theorem dd_Mo_fresh_28 : decode cc_Mo_fresh 28 = .ok (.iconst 0, 1) := by decide +kernel
theorem dd_Mo_fresh_29 : decode cc_Mo_fresh 29 = .ok (.istore_n 2, 1) := by decide +kernel
theorem dd_Mo_fresh_30 : decode cc_Mo_fresh 30 = .ok (.iload_n 2, 1) := by decide +kernel
theorem dd_Mo_fresh_31 : decode cc_Mo_fresh 31 = .ok (.bipush 60, 2) := by decide +kernel
theorem dd_Mo_fresh_33 : decode cc_Mo_fresh 33 = .ok (.if_icmp .ge 21, 3) := by decide +kernel
theorem dd_Mo_fresh_36 : decode cc_Mo_fresh 36 = .ok (.aload_n 0, 1) := by decide +kernel
theorem dd_Mo_fresh_37 : decode cc_Mo_fresh 37 = .ok (.getfield 77, 3) := by decide +kernel
theorem dd_Mo_fresh_40 : decode cc_Mo_fresh 40 = .ok (.bipush 60, 2) := by decide +kernel
theorem dd_Mo_fresh_42 : decode cc_Mo_fresh 42 = .ok (.iload_n 1, 1) := by decide +kernel
theorem dd_Mo_fresh_43 : decode cc_Mo_fresh 43 = .ok (.imul, 1) := by decide +kernel
theorem dd_Mo_fresh_44 : decode cc_Mo_fresh 44 = .ok (.iload_n 2, 1) := by decide +kernel
theorem dd_Mo_fresh_45 : decode cc_Mo_fresh 45 = .ok (.iadd, 1) := by decide +kernel
theorem dd_Mo_fresh_46 : decode cc_Mo_fresh 46 = .ok (.iconst 0, 1) := by decide +kernel
theorem dd_Mo_fresh_47 : decode cc_Mo_fresh 47 = .ok (.iastore, 1) := by decide +kernel
theorem dd_Mo_fresh_48 : decode cc_Mo_fresh 48 = .ok (.iinc 2 1, 3) := by decide +kernel
theorem dd_Mo_fresh_51 : decode cc_Mo_fresh 51 = .ok (.goto (-21), 3) := by decide +kernel
theorem dd_Mo_fresh_54 : decode cc_Mo_fresh 54 = .ok (.iconst 0, 1) := by decide +kernel
theorem dd_Mo_fresh_55 : decode cc_Mo_fresh 55 = .ok (.istore_n 2, 1) := by decide +kernel
theorem dd_Mo_fresh_56 : decode cc_Mo_fresh 56 = .ok (.iload_n 2, 1) := by decide +kernel
theorem dd_Mo_fresh_57 : decode cc_Mo_fresh 57 = .ok (.bipush 90, 2) := by decide +kernel
theorem dd_Mo_fresh_59 : decode cc_Mo_fresh 59 = .ok (.if_icmp .ge 45, 3) := by decide +kernel
theorem dd_Mo_fresh_62 : decode cc_Mo_fresh 62 = .ok (.aload_n 0, 1) := by decide +kernel
theorem dd_Mo_fresh_63 : decode cc_Mo_fresh 63 = .ok (.getfield 80, 3) := by decide +kernel
theorem dd_Mo_fresh_66 : decode cc_Mo_fresh 66 = .ok (.bipush 90, 2) := by decide +kernel
theorem dd_Mo_fresh_68 : decode cc_Mo_fresh 68 = .ok (.iload_n 1, 1) := by decide +kernel
theorem dd_Mo_fresh_69 : decode cc_Mo_fresh 69 = .ok (.imul, 1) := by decide +kernel
theorem dd_Mo_fresh_70 : decode cc_Mo_fresh 70 = .ok (.iload_n 2, 1) := by decide +kernel
theorem dd_Mo_fresh_71 : decode cc_Mo_fresh 71 = .ok (.iadd, 1) := by decide +kernel
theorem dd_Mo_fresh_72 : decode cc_Mo_fresh 72 = .ok (.iconst 0, 1) := by decide +kernel
theorem dd_Mo_fresh_73 : decode cc_Mo_fresh 73 = .ok (.iastore, 1) := by decide +kernel
theorem dd_Mo_fresh_74 : decode cc_Mo_fresh 74 = .ok (.aload_n 0, 1) := by decide +kernel
theorem dd_Mo_fresh_75 : decode cc_Mo_fresh 75 = .ok (.getfield 83, 3) := by decide +kernel
theorem dd_Mo_fresh_78 : decode cc_Mo_fresh 78 = .ok (.bipush 90, 2) := by decide +kernel
theorem dd_Mo_fresh_80 : decode cc_Mo_fresh 80 = .ok (.iload_n 1, 1) := by decide +kernel
theorem dd_Mo_fresh_81 : decode cc_Mo_fresh 81 = .ok (.imul, 1) := by decide +kernel
theorem dd_Mo_fresh_82 : decode cc_Mo_fresh 82 = .ok (.iload_n 2, 1) := by decide +kernel
theorem dd_Mo_fresh_83 : decode cc_Mo_fresh 83 = .ok (.iadd, 1) := by decide +kernel
theorem dd_Mo_fresh_84 : decode cc_Mo_fresh 84 = .ok (.iconst 0, 1) := by decide +kernel
theorem dd_Mo_fresh_85 : decode cc_Mo_fresh 85 = .ok (.iastore, 1) := by decide +kernel
theorem dd_Mo_fresh_86 : decode cc_Mo_fresh 86 = .ok (.aload_n 0, 1) := by decide +kernel
theorem dd_Mo_fresh_87 : decode cc_Mo_fresh 87 = .ok (.getfield 86, 3) := by decide +kernel
theorem dd_Mo_fresh_90 : decode cc_Mo_fresh 90 = .ok (.bipush 90, 2) := by decide +kernel
theorem dd_Mo_fresh_92 : decode cc_Mo_fresh 92 = .ok (.iload_n 1, 1) := by decide +kernel
theorem dd_Mo_fresh_93 : decode cc_Mo_fresh 93 = .ok (.imul, 1) := by decide +kernel
theorem dd_Mo_fresh_94 : decode cc_Mo_fresh 94 = .ok (.iload_n 2, 1) := by decide +kernel
theorem dd_Mo_fresh_95 : decode cc_Mo_fresh 95 = .ok (.iadd, 1) := by decide +kernel
theorem dd_Mo_fresh_96 : decode cc_Mo_fresh 96 = .ok (.iconst 0, 1) := by decide +kernel
theorem dd_Mo_fresh_97 : decode cc_Mo_fresh 97 = .ok (.bastore, 1) := by decide +kernel
theorem dd_Mo_fresh_98 : decode cc_Mo_fresh 98 = .ok (.iinc 2 1, 3) := by decide +kernel
theorem dd_Mo_fresh_101 : decode cc_Mo_fresh 101 = .ok (.goto (-45), 3) := by decide +kernel
theorem dd_Mo_fresh_104 : decode cc_Mo_fresh 104 = .ok (.iconst 0, 1) := by decide +kernel
theorem dd_Mo_fresh_105 : decode cc_Mo_fresh 105 = .ok (.istore_n 2, 1) := by decide +kernel
theorem dd_Mo_fresh_106 : decode cc_Mo_fresh 106 = .ok (.iload_n 2, 1) := by decide +kernel
theorem dd_Mo_fresh_107 : decode cc_Mo_fresh 107 = .ok (.iconst 4, 1) := by decide +kernel
theorem dd_Mo_fresh_108 : decode cc_Mo_fresh 108 = .ok (.if_icmp .ge 21, 3) := by decide +kernel
theorem dd_Mo_fresh_111 : decode cc_Mo_fresh 111 = .ok (.aload_n 0, 1) := by decide +kernel
theorem dd_Mo_fresh_112 : decode cc_Mo_fresh 112 = .ok (.getfield 95, 3) := by decide +kernel
theorem dd_Mo_fresh_115 : decode cc_Mo_fresh 115 = .ok (.iconst 4, 1) := by decide +kernel
theorem dd_Mo_fresh_116 : decode cc_Mo_fresh 116 = .ok (.iload_n 1, 1) := by decide +kernel
theorem dd_Mo_fresh_117 : decode cc_Mo_fresh 117 = .ok (.imul, 1) := by decide +kernel
theorem dd_Mo_fresh_118 : decode cc_Mo_fresh 118 = .ok (.iload_n 2, 1) := by decide +kernel
theorem dd_Mo_fresh_119 : decode cc_Mo_fresh 119 = .ok (.iadd, 1) := by decide +kernel
theorem dd_Mo_fresh_120 : decode cc_Mo_fresh 120 = .ok (.bipush 100, 2) := by decide +kernel
theorem dd_Mo_fresh_122 : decode cc_Mo_fresh 122 = .ok (.iastore, 1) := by decide +kernel
theorem dd_Mo_fresh_123 : decode cc_Mo_fresh 123 = .ok (.iinc 2 1, 3) := by decide +kernel
theorem dd_Mo_fresh_126 : decode cc_Mo_fresh 126 = .ok (.goto (-20), 3) := by decide +kernel
theorem dd_Mo_fresh_129 : decode cc_Mo_fresh 129 = .ok (.return_, 1) := by decide +kernel
theorem dd_Mo_thrown_0 : decode cc_Mo_thrown 0 = .ok (.aload_n 0, 1) := by decide +kernel
theorem dd_Mo_thrown_1 : decode cc_Mo_thrown 1 = .ok (.getfield 105, 3) := by decide +kernel
theorem dd_Mo_thrown_4 : decode cc_Mo_thrown 4 = .ok (.ireturn, 1) := by decide +kernel
theorem dd_Mo_submit_0 : decode cc_Mo_submit 0 = .ok (.aload_n 0, 1) := by decide +kernel
theorem dd_Mo_submit_1 : decode cc_Mo_submit 1 = .ok (.iload_n 1, 1) := by decide +kernel
theorem dd_Mo_submit_2 : decode cc_Mo_submit 2 = .ok (.invokevirtual 190, 3) := by decide +kernel
theorem dd_Mo_submit_5 : decode cc_Mo_submit 5 = .ok (.ifCond .ne 5, 3) := by decide +kernel
theorem dd_Mo_submit_8 : decode cc_Mo_submit 8 = .ok (.iconst 0, 1) := by decide +kernel
theorem dd_Mo_submit_9 : decode cc_Mo_submit 9 = .ok (.ireturn, 1) := by decide +kernel
theorem dd_Mo_submit_10 : decode cc_Mo_submit 10 = .ok (.aload_n 0, 1) := by decide +kernel
theorem dd_Mo_submit_11 : decode cc_Mo_submit 11 = .ok (.getfield 50, 3) := by decide +kernel
theorem dd_Mo_submit_14 : decode cc_Mo_submit 14 = .ok (.iload_n 1, 1) := by decide +kernel
theorem dd_Mo_submit_15 : decode cc_Mo_submit 15 = .ok (.iaload, 1) := by decide +kernel
theorem dd_Mo_submit_16 : decode cc_Mo_submit 16 = .ok (.iconst 1, 1) := by decide +kernel
theorem dd_Mo_submit_17 : decode cc_Mo_submit 17 = .ok (.if_icmp .eq 10, 3) := by decide +kernel
theorem dd_Mo_submit_20 : decode cc_Mo_submit 20 = .ok (.aload_n 0, 1) := by decide +kernel
theorem dd_Mo_submit_21 : decode cc_Mo_submit 21 = .ok (.iconst 2, 1) := by decide +kernel
theorem dd_Mo_submit_22 : decode cc_Mo_submit 22 = .ok (.putfield 105, 3) := by decide +kernel
theorem dd_Mo_submit_25 : decode cc_Mo_submit 25 = .ok (.iconst 0, 1) := by decide +kernel
theorem dd_Mo_submit_26 : decode cc_Mo_submit 26 = .ok (.ireturn, 1) := by decide +kernel
theorem dd_Mo_submit_27 : decode cc_Mo_submit 27 = .ok (.aload_n 0, 1) := by decide +kernel
theorem dd_Mo_submit_28 : decode cc_Mo_submit 28 = .ok (.getfield 176, 3) := by decide +kernel
theorem dd_Mo_submit_31 : decode cc_Mo_submit 31 = .ok (.bipush 40, 2) := by decide +kernel
theorem dd_Mo_submit_33 : decode cc_Mo_submit 33 = .ok (.if_icmp .eq 38, 3) := by decide +kernel
theorem dd_Mo_submit_36 : decode cc_Mo_submit 36 = .ok (.iload_n 2, 1) := by decide +kernel
theorem dd_Mo_submit_37 : decode cc_Mo_submit 37 = .ok (.iconst 0, 1) := by decide +kernel
theorem dd_Mo_submit_38 : decode cc_Mo_submit 38 = .ok (.iconst 3, 1) := by decide +kernel
theorem dd_Mo_submit_39 : decode cc_Mo_submit 39 = .ok (.invokestatic 186, 3) := by decide +kernel
theorem dd_Mo_submit_42 : decode cc_Mo_submit 42 = .ok (.ifCond .eq 29, 3) := by decide +kernel
theorem dd_Mo_submit_45 : decode cc_Mo_submit 45 = .ok (.iload_n 3, 1) := by decide +kernel
theorem dd_Mo_submit_46 : decode cc_Mo_submit 46 = .ok (.iconst 0, 1) := by decide +kernel
theorem dd_Mo_submit_47 : decode cc_Mo_submit 47 = .ok (.iconst 3, 1) := by decide +kernel
theorem dd_Mo_submit_48 : decode cc_Mo_submit 48 = .ok (.invokestatic 186, 3) := by decide +kernel
theorem dd_Mo_submit_51 : decode cc_Mo_submit 51 = .ok (.ifCond .eq 20, 3) := by decide +kernel
theorem dd_Mo_submit_54 : decode cc_Mo_submit 54 = .ok (.iload_n 2, 1) := by decide +kernel
theorem dd_Mo_submit_55 : decode cc_Mo_submit 55 = .ok (.iload_n 3, 1) := by decide +kernel
theorem dd_Mo_submit_56 : decode cc_Mo_submit 56 = .ok (.if_icmp .eq 15, 3) := by decide +kernel
theorem dd_Mo_submit_59 : decode cc_Mo_submit 59 = .ok (.iload 4, 2) := by decide +kernel
theorem dd_Mo_submit_61 : decode cc_Mo_submit 61 = .ok (.iconst 1, 1) := by decide +kernel
theorem dd_Mo_submit_62 : decode cc_Mo_submit 62 = .ok (.sipush 1000, 3) := by decide +kernel
theorem dd_Mo_submit_65 : decode cc_Mo_submit 65 = .ok (.invokestatic 186, 3) := by decide +kernel
theorem dd_Mo_submit_68 : decode cc_Mo_submit 68 = .ok (.ifCond .ne 5, 3) := by decide +kernel
theorem dd_Mo_submit_71 : decode cc_Mo_submit 71 = .ok (.iconst (-1), 1) := by decide +kernel
theorem dd_Mo_submit_72 : decode cc_Mo_submit 72 = .ok (.ireturn, 1) := by decide +kernel
theorem dd_Mo_submit_73 : decode cc_Mo_submit 73 = .ok (.aload_n 0, 1) := by decide +kernel
theorem dd_Mo_submit_74 : decode cc_Mo_submit 74 = .ok (.iload_n 1, 1) := by decide +kernel
theorem dd_Mo_submit_75 : decode cc_Mo_submit 75 = .ok (.invokevirtual 127, 3) := by decide +kernel
theorem dd_Mo_submit_78 : decode cc_Mo_submit 78 = .ok (.ifCond .ne 6, 3) := by decide +kernel
theorem dd_Mo_submit_81 : decode cc_Mo_submit 81 = .ok (.bipush (-2), 2) := by decide +kernel
theorem dd_Mo_submit_83 : decode cc_Mo_submit 83 = .ok (.ireturn, 1) := by decide +kernel
theorem dd_Mo_submit_84 : decode cc_Mo_submit 84 = .ok (.aload_n 0, 1) := by decide +kernel
theorem dd_Mo_submit_85 : decode cc_Mo_submit 85 = .ok (.getfield 7, 3) := by decide +kernel
theorem dd_Mo_submit_88 : decode cc_Mo_submit 88 = .ok (.aload_n 0, 1) := by decide +kernel
theorem dd_Mo_submit_89 : decode cc_Mo_submit 89 = .ok (.getfield 176, 3) := by decide +kernel
theorem dd_Mo_submit_92 : decode cc_Mo_submit 92 = .ok (.iload_n 2, 1) := by decide +kernel
theorem dd_Mo_submit_93 : decode cc_Mo_submit 93 = .ok (.iastore, 1) := by decide +kernel
theorem dd_Mo_submit_94 : decode cc_Mo_submit 94 = .ok (.aload_n 0, 1) := by decide +kernel
theorem dd_Mo_submit_95 : decode cc_Mo_submit 95 = .ok (.getfield 13, 3) := by decide +kernel
theorem dd_Mo_submit_98 : decode cc_Mo_submit 98 = .ok (.aload_n 0, 1) := by decide +kernel
theorem dd_Mo_submit_99 : decode cc_Mo_submit 99 = .ok (.getfield 176, 3) := by decide +kernel
theorem dd_Mo_submit_102 : decode cc_Mo_submit 102 = .ok (.iload_n 3, 1) := by decide +kernel
theorem dd_Mo_submit_103 : decode cc_Mo_submit 103 = .ok (.iastore, 1) := by decide +kernel
theorem dd_Mo_submit_104 : decode cc_Mo_submit 104 = .ok (.aload_n 0, 1) := by decide +kernel
theorem dd_Mo_submit_105 : decode cc_Mo_submit 105 = .ok (.getfield 16, 3) := by decide +kernel
theorem dd_Mo_submit_108 : decode cc_Mo_submit 108 = .ok (.aload_n 0, 1) := by decide +kernel
theorem dd_Mo_submit_109 : decode cc_Mo_submit 109 = .ok (.getfield 176, 3) := by decide +kernel
theorem dd_Mo_submit_112 : decode cc_Mo_submit 112 = .ok (.iload 4, 2) := by decide +kernel
theorem dd_Mo_submit_114 : decode cc_Mo_submit 114 = .ok (.iastore, 1) := by decide +kernel
theorem dd_Mo_submit_115 : decode cc_Mo_submit 115 = .ok (.aload_n 0, 1) := by decide +kernel
theorem dd_Mo_submit_116 : decode cc_Mo_submit 116 = .ok (.getfield 19, 3) := by decide +kernel
theorem dd_Mo_submit_119 : decode cc_Mo_submit 119 = .ok (.aload_n 0, 1) := by decide +kernel
theorem dd_Mo_submit_120 : decode cc_Mo_submit 120 = .ok (.getfield 176, 3) := by decide +kernel
theorem dd_Mo_submit_123 : decode cc_Mo_submit 123 = .ok (.iload_n 1, 1) := by decide +kernel
theorem dd_Mo_submit_124 : decode cc_Mo_submit 124 = .ok (.iastore, 1) := by decide +kernel
theorem dd_Mo_submit_125 : decode cc_Mo_submit 125 = .ok (.aload_n 0, 1) := by decide +kernel
theorem dd_Mo_submit_126 : decode cc_Mo_submit 126 = .ok (.dup, 1) := by decide +kernel
theorem dd_Mo_submit_127 : decode cc_Mo_submit 127 = .ok (.getfield 176, 3) := by decide +kernel
theorem dd_Mo_submit_130 : decode cc_Mo_submit 130 = .ok (.iconst 1, 1) := by decide +kernel
theorem dd_Mo_submit_131 : decode cc_Mo_submit 131 = .ok (.iadd, 1) := by decide +kernel
theorem dd_Mo_submit_132 : decode cc_Mo_submit 132 = .ok (.putfield 176, 3) := by decide +kernel
theorem dd_Mo_submit_135 : decode cc_Mo_submit 135 = .ok (.aload_n 0, 1) := by decide +kernel
theorem dd_Mo_submit_136 : decode cc_Mo_submit 136 = .ok (.getfield 176, 3) := by decide +kernel
theorem dd_Mo_submit_139 : decode cc_Mo_submit 139 = .ok (.iconst 1, 1) := by decide +kernel
theorem dd_Mo_submit_140 : decode cc_Mo_submit 140 = .ok (.isub, 1) := by decide +kernel
theorem dd_Mo_submit_141 : decode cc_Mo_submit 141 = .ok (.ireturn, 1) := by decide +kernel
theorem dd_Mo_isNode_0 : decode cc_Mo_isNode 0 = .ok (.aload_n 0, 1) := by decide +kernel
theorem dd_Mo_isNode_1 : decode cc_Mo_isNode 1 = .ok (.iload_n 1, 1) := by decide +kernel
theorem dd_Mo_isNode_2 : decode cc_Mo_isNode 2 = .ok (.iconst 0, 1) := by decide +kernel
theorem dd_Mo_isNode_3 : decode cc_Mo_isNode 3 = .ok (.iconst 3, 1) := by decide +kernel
theorem dd_Mo_isNode_4 : decode cc_Mo_isNode 4 = .ok (.invokestatic 186, 3) := by decide +kernel
theorem dd_Mo_isNode_7 : decode cc_Mo_isNode 7 = .ok (.ifCond .eq 7, 3) := by decide +kernel
theorem dd_Mo_isNode_10 : decode cc_Mo_isNode 10 = .ok (.iconst 0, 1) := by decide +kernel
theorem dd_Mo_isNode_11 : decode cc_Mo_isNode 11 = .ok (.goto 4, 3) := by decide +kernel
theorem dd_Mo_isNode_14 : decode cc_Mo_isNode 14 = .ok (.iconst 1, 1) := by decide +kernel
theorem dd_Mo_isNode_15 : decode cc_Mo_isNode 15 = .ok (.putfield 105, 3) := by decide +kernel
theorem dd_Mo_isNode_18 : decode cc_Mo_isNode 18 = .ok (.aload_n 0, 1) := by decide +kernel
theorem dd_Mo_isNode_19 : decode cc_Mo_isNode 19 = .ok (.getfield 105, 3) := by decide +kernel
theorem dd_Mo_isNode_22 : decode cc_Mo_isNode 22 = .ok (.ifCond .ne 7, 3) := by decide +kernel
theorem dd_Mo_isNode_25 : decode cc_Mo_isNode 25 = .ok (.iconst 1, 1) := by decide +kernel
theorem dd_Mo_isNode_26 : decode cc_Mo_isNode 26 = .ok (.goto 4, 3) := by decide +kernel
theorem dd_Mo_isNode_29 : decode cc_Mo_isNode 29 = .ok (.iconst 0, 1) := by decide +kernel
theorem dd_Mo_isNode_30 : decode cc_Mo_isNode 30 = .ok (.ireturn, 1) := by decide +kernel
theorem dd_Mo_in_0 : decode cc_Mo_in 0 = .ok (.iload_n 0, 1) := by decide +kernel
theorem dd_Mo_in_1 : decode cc_Mo_in 1 = .ok (.iload_n 1, 1) := by decide +kernel
theorem dd_Mo_in_2 : decode cc_Mo_in 2 = .ok (.if_icmp .lt 12, 3) := by decide +kernel
theorem dd_Mo_in_5 : decode cc_Mo_in 5 = .ok (.iload_n 0, 1) := by decide +kernel
theorem dd_Mo_in_6 : decode cc_Mo_in 6 = .ok (.iload_n 2, 1) := by decide +kernel
theorem dd_Mo_in_7 : decode cc_Mo_in 7 = .ok (.if_icmp .gt 7, 3) := by decide +kernel
theorem dd_Mo_in_10 : decode cc_Mo_in 10 = .ok (.iconst 1, 1) := by decide +kernel
theorem dd_Mo_in_11 : decode cc_Mo_in 11 = .ok (.goto 4, 3) := by decide +kernel
theorem dd_Mo_in_14 : decode cc_Mo_in 14 = .ok (.iconst 0, 1) := by decide +kernel
theorem dd_Mo_in_15 : decode cc_Mo_in 15 = .ok (.ireturn, 1) := by decide +kernel
theorem dd_Mo_record_0 : decode cc_Mo_record 0 = .ok (.aload_n 0, 1) := by decide +kernel
theorem dd_Mo_record_1 : decode cc_Mo_record 1 = .ok (.getfield 56, 3) := by decide +kernel
theorem dd_Mo_record_4 : decode cc_Mo_record 4 = .ok (.iload_n 1, 1) := by decide +kernel
theorem dd_Mo_record_5 : decode cc_Mo_record 5 = .ok (.iaload, 1) := by decide +kernel
theorem dd_Mo_record_6 : decode cc_Mo_record 6 = .ok (.ifCond .ne 10, 3) := by decide +kernel
theorem dd_Mo_record_9 : decode cc_Mo_record 9 = .ok (.aload_n 0, 1) := by decide +kernel
theorem dd_Mo_record_10 : decode cc_Mo_record 10 = .ok (.iload_n 1, 1) := by decide +kernel
theorem dd_Mo_record_11 : decode cc_Mo_record 11 = .ok (.invokevirtual 109, 3) := by decide +kernel
theorem dd_Mo_record_14 : decode cc_Mo_record 14 = .ok (.iconst 0, 1) := by decide +kernel
theorem dd_Mo_record_15 : decode cc_Mo_record 15 = .ok (.ireturn, 1) := by decide +kernel
theorem dd_Mo_record_16 : decode cc_Mo_record 16 = .ok (.aload_n 0, 1) := by decide +kernel
theorem dd_Mo_record_17 : decode cc_Mo_record 17 = .ok (.getfield 56, 3) := by decide +kernel
theorem dd_Mo_record_20 : decode cc_Mo_record 20 = .ok (.iload_n 1, 1) := by decide +kernel
theorem dd_Mo_record_21 : decode cc_Mo_record 21 = .ok (.aload_n 0, 1) := by decide +kernel
theorem dd_Mo_record_22 : decode cc_Mo_record 22 = .ok (.getfield 56, 3) := by decide +kernel
theorem dd_Mo_record_25 : decode cc_Mo_record 25 = .ok (.iload_n 1, 1) := by decide +kernel
theorem dd_Mo_record_26 : decode cc_Mo_record 26 = .ok (.iaload, 1) := by decide +kernel
theorem dd_Mo_record_27 : decode cc_Mo_record 27 = .ok (.ifCond .le 14, 3) := by decide +kernel
theorem dd_Mo_record_30 : decode cc_Mo_record 30 = .ok (.aload_n 0, 1) := by decide +kernel
theorem dd_Mo_record_31 : decode cc_Mo_record 31 = .ok (.getfield 56, 3) := by decide +kernel
theorem dd_Mo_record_34 : decode cc_Mo_record 34 = .ok (.iload_n 1, 1) := by decide +kernel
theorem dd_Mo_record_35 : decode cc_Mo_record 35 = .ok (.iaload, 1) := by decide +kernel
theorem dd_Mo_record_36 : decode cc_Mo_record 36 = .ok (.iconst 1, 1) := by decide +kernel
theorem dd_Mo_record_37 : decode cc_Mo_record 37 = .ok (.isub, 1) := by decide +kernel
theorem dd_Mo_record_38 : decode cc_Mo_record 38 = .ok (.goto 4, 3) := by decide +kernel
theorem dd_Mo_record_41 : decode cc_Mo_record 41 = .ok (.iconst (-1), 1) := by decide +kernel
theorem dd_Mo_record_42 : decode cc_Mo_record 42 = .ok (.iastore, 1) := by decide +kernel
theorem dd_Mo_record_43 : decode cc_Mo_record 43 = .ok (.aload_n 0, 1) := by decide +kernel
theorem dd_Mo_record_44 : decode cc_Mo_record 44 = .ok (.getfield 53, 3) := by decide +kernel
theorem dd_Mo_record_47 : decode cc_Mo_record 47 = .ok (.iload_n 1, 1) := by decide +kernel
theorem dd_Mo_record_48 : decode cc_Mo_record 48 = .ok (.dup2, 1) := by decide +kernel
theorem dd_Mo_record_49 : decode cc_Mo_record 49 = .ok (.iaload, 1) := by decide +kernel
theorem dd_Mo_record_50 : decode cc_Mo_record 50 = .ok (.iconst 1, 1) := by decide +kernel
theorem dd_Mo_record_51 : decode cc_Mo_record 51 = .ok (.iadd, 1) := by decide +kernel
theorem dd_Mo_record_52 : decode cc_Mo_record 52 = .ok (.iastore, 1) := by decide +kernel
theorem dd_Mo_record_53 : decode cc_Mo_record 53 = .ok (.iconst 1, 1) := by decide +kernel
theorem dd_Mo_record_54 : decode cc_Mo_record 54 = .ok (.ireturn, 1) := by decide +kernel
theorem dd_Mo_fall_0 : decode cc_Mo_fall 0 = .ok (.aload_n 0, 1) := by decide +kernel
theorem dd_Mo_fall_1 : decode cc_Mo_fall 1 = .ok (.getfield 50, 3) := by decide +kernel
theorem dd_Mo_fall_4 : decode cc_Mo_fall 4 = .ok (.iload_n 1, 1) := by decide +kernel
theorem dd_Mo_fall_5 : decode cc_Mo_fall 5 = .ok (.iconst 0, 1) := by decide +kernel
theorem dd_Mo_fall_6 : decode cc_Mo_fall 6 = .ok (.iastore, 1) := by decide +kernel
theorem dd_Mo_fall_7 : decode cc_Mo_fall 7 = .ok (.aload_n 0, 1) := by decide +kernel
theorem dd_Mo_fall_8 : decode cc_Mo_fall 8 = .ok (.getfield 56, 3) := by decide +kernel
theorem dd_Mo_fall_11 : decode cc_Mo_fall 11 = .ok (.iload_n 1, 1) := by decide +kernel
theorem dd_Mo_fall_12 : decode cc_Mo_fall 12 = .ok (.iconst (-1), 1) := by decide +kernel
theorem dd_Mo_fall_13 : decode cc_Mo_fall 13 = .ok (.iastore, 1) := by decide +kernel
theorem dd_Mo_fall_14 : decode cc_Mo_fall 14 = .ok (.aload_n 0, 1) := by decide +kernel
theorem dd_Mo_fall_15 : decode cc_Mo_fall 15 = .ok (.iload_n 1, 1) := by decide +kernel
theorem dd_Mo_fall_16 : decode cc_Mo_fall 16 = .ok (.invokevirtual 101, 3) := by decide +kernel
theorem dd_Mo_fall_19 : decode cc_Mo_fall 19 = .ok (.return_, 1) := by decide +kernel
theorem dd_Mo_deliver_0 : decode cc_Mo_deliver 0 = .ok (.aload_n 0, 1) := by decide +kernel
theorem dd_Mo_deliver_1 : decode cc_Mo_deliver 1 = .ok (.iload_n 2, 1) := by decide +kernel
theorem dd_Mo_deliver_2 : decode cc_Mo_deliver 2 = .ok (.invokevirtual 193, 3) := by decide +kernel
theorem dd_Mo_deliver_5 : decode cc_Mo_deliver 5 = .ok (.ifCond .eq 24, 3) := by decide +kernel
theorem dd_Mo_deliver_8 : decode cc_Mo_deliver 8 = .ok (.iload_n 1, 1) := by decide +kernel
theorem dd_Mo_deliver_9 : decode cc_Mo_deliver 9 = .ok (.iconst 0, 1) := by decide +kernel
theorem dd_Mo_deliver_10 : decode cc_Mo_deliver 10 = .ok (.aload_n 0, 1) := by decide +kernel
theorem dd_Mo_deliver_11 : decode cc_Mo_deliver 11 = .ok (.getfield 112, 3) := by decide +kernel
theorem dd_Mo_deliver_14 : decode cc_Mo_deliver 14 = .ok (.iconst 1, 1) := by decide +kernel
theorem dd_Mo_deliver_15 : decode cc_Mo_deliver 15 = .ok (.isub, 1) := by decide +kernel
theorem dd_Mo_deliver_16 : decode cc_Mo_deliver 16 = .ok (.invokestatic 186, 3) := by decide +kernel
theorem dd_Mo_deliver_19 : decode cc_Mo_deliver 19 = .ok (.ifCond .eq 10, 3) := by decide +kernel
theorem dd_Mo_deliver_22 : decode cc_Mo_deliver 22 = .ok (.aload_n 0, 1) := by decide +kernel
theorem dd_Mo_deliver_23 : decode cc_Mo_deliver 23 = .ok (.invokevirtual 196, 3) := by decide +kernel
theorem dd_Mo_deliver_26 : decode cc_Mo_deliver 26 = .ok (.ifCond .eq 5, 3) := by decide +kernel
theorem dd_Mo_deliver_29 : decode cc_Mo_deliver 29 = .ok (.iconst 0, 1) := by decide +kernel
theorem dd_Mo_deliver_30 : decode cc_Mo_deliver 30 = .ok (.ireturn, 1) := by decide +kernel
theorem dd_Mo_deliver_31 : decode cc_Mo_deliver 31 = .ok (.aload_n 0, 1) := by decide +kernel
theorem dd_Mo_deliver_32 : decode cc_Mo_deliver 32 = .ok (.iload_n 2, 1) := by decide +kernel
theorem dd_Mo_deliver_33 : decode cc_Mo_deliver 33 = .ok (.iload_n 1, 1) := by decide +kernel
theorem dd_Mo_deliver_34 : decode cc_Mo_deliver 34 = .ok (.invokevirtual 200, 3) := by decide +kernel
theorem dd_Mo_deliver_37 : decode cc_Mo_deliver 37 = .ok (.iconst 1, 1) := by decide +kernel
theorem dd_Mo_deliver_38 : decode cc_Mo_deliver 38 = .ok (.ireturn, 1) := by decide +kernel
theorem dd_Mo_works_0 : decode cc_Mo_works 0 = .ok (.aload_n 0, 1) := by decide +kernel
theorem dd_Mo_works_1 : decode cc_Mo_works 1 = .ok (.iload_n 1, 1) := by decide +kernel
theorem dd_Mo_works_2 : decode cc_Mo_works 2 = .ok (.invokevirtual 190, 3) := by decide +kernel
theorem dd_Mo_works_5 : decode cc_Mo_works 5 = .ok (.ifCond .eq 17, 3) := by decide +kernel
theorem dd_Mo_works_8 : decode cc_Mo_works 8 = .ok (.aload_n 0, 1) := by decide +kernel
theorem dd_Mo_works_9 : decode cc_Mo_works 9 = .ok (.getfield 50, 3) := by decide +kernel
theorem dd_Mo_works_12 : decode cc_Mo_works 12 = .ok (.iload_n 1, 1) := by decide +kernel
theorem dd_Mo_works_13 : decode cc_Mo_works 13 = .ok (.iaload, 1) := by decide +kernel
theorem dd_Mo_works_14 : decode cc_Mo_works 14 = .ok (.iconst 1, 1) := by decide +kernel
theorem dd_Mo_works_15 : decode cc_Mo_works 15 = .ok (.if_icmp .ne 7, 3) := by decide +kernel
theorem dd_Mo_works_18 : decode cc_Mo_works 18 = .ok (.iconst 1, 1) := by decide +kernel
theorem dd_Mo_works_19 : decode cc_Mo_works 19 = .ok (.goto 4, 3) := by decide +kernel
theorem dd_Mo_works_22 : decode cc_Mo_works 22 = .ok (.iconst 0, 1) := by decide +kernel
theorem dd_Mo_works_23 : decode cc_Mo_works 23 = .ok (.ireturn, 1) := by decide +kernel
theorem dd_Mo_full_0 : decode cc_Mo_full 0 = .ok (.aload_n 0, 1) := by decide +kernel
theorem dd_Mo_full_1 : decode cc_Mo_full 1 = .ok (.getfield 112, 3) := by decide +kernel
theorem dd_Mo_full_4 : decode cc_Mo_full 4 = .ok (.sipush 800, 3) := by decide +kernel
theorem dd_Mo_full_7 : decode cc_Mo_full 7 = .ok (.if_icmp .lt 7, 3) := by decide +kernel
theorem dd_Mo_full_10 : decode cc_Mo_full 10 = .ok (.iconst 1, 1) := by decide +kernel
theorem dd_Mo_full_11 : decode cc_Mo_full 11 = .ok (.goto 4, 3) := by decide +kernel
theorem dd_Mo_full_14 : decode cc_Mo_full 14 = .ok (.iconst 0, 1) := by decide +kernel
theorem dd_Mo_full_15 : decode cc_Mo_full 15 = .ok (.ireturn, 1) := by decide +kernel
theorem dd_Mo_take_0 : decode cc_Mo_take 0 = .ok (.aload_n 0, 1) := by decide +kernel
theorem dd_Mo_take_1 : decode cc_Mo_take 1 = .ok (.getfield 41, 3) := by decide +kernel
theorem dd_Mo_take_4 : decode cc_Mo_take 4 = .ok (.iload_n 2, 1) := by decide +kernel
theorem dd_Mo_take_5 : decode cc_Mo_take 5 = .ok (.iaload, 1) := by decide +kernel
theorem dd_Mo_take_6 : decode cc_Mo_take 6 = .ok (.istore_n 3, 1) := by decide +kernel
theorem dd_Mo_take_7 : decode cc_Mo_take 7 = .ok (.aload_n 0, 1) := by decide +kernel
theorem dd_Mo_take_8 : decode cc_Mo_take 8 = .ok (.getfield 44, 3) := by decide +kernel
theorem dd_Mo_take_11 : decode cc_Mo_take 11 = .ok (.iload_n 2, 1) := by decide +kernel
theorem dd_Mo_take_12 : decode cc_Mo_take 12 = .ok (.iaload, 1) := by decide +kernel
theorem dd_Mo_take_13 : decode cc_Mo_take 13 = .ok (.istore 4, 2) := by decide +kernel
theorem dd_Mo_take_15 : decode cc_Mo_take 15 = .ok (.aload_n 0, 1) := by decide +kernel
theorem dd_Mo_take_16 : decode cc_Mo_take 16 = .ok (.getfield 47, 3) := by decide +kernel
theorem dd_Mo_take_19 : decode cc_Mo_take 19 = .ok (.iload_n 2, 1) := by decide +kernel
theorem dd_Mo_take_20 : decode cc_Mo_take 20 = .ok (.iaload, 1) := by decide +kernel
theorem dd_Mo_take_21 : decode cc_Mo_take 21 = .ok (.ifCond .ne 71, 3) := by decide +kernel
theorem dd_Mo_take_24 : decode cc_Mo_take 24 = .ok (.iload_n 3, 1) := by decide +kernel
theorem dd_Mo_take_25 : decode cc_Mo_take 25 = .ok (.aload_n 0, 1) := by decide +kernel
theorem dd_Mo_take_26 : decode cc_Mo_take 26 = .ok (.getfield 26, 3) := by decide +kernel
theorem dd_Mo_take_29 : decode cc_Mo_take 29 = .ok (.iload 4, 2) := by decide +kernel
theorem dd_Mo_take_31 : decode cc_Mo_take 31 = .ok (.iaload, 1) := by decide +kernel
theorem dd_Mo_take_32 : decode cc_Mo_take 32 = .ok (.if_icmp .ne 222, 3) := by decide +kernel
theorem dd_Mo_take_35 : decode cc_Mo_take 35 = .ok (.aload_n 0, 1) := by decide +kernel
theorem dd_Mo_take_36 : decode cc_Mo_take 36 = .ok (.iload 4, 2) := by decide +kernel
theorem dd_Mo_take_38 : decode cc_Mo_take 38 = .ok (.invokevirtual 119, 3) := by decide +kernel
theorem dd_Mo_take_41 : decode cc_Mo_take 41 = .ok (.ifCond .eq 213, 3) := by decide +kernel
theorem dd_Mo_take_44 : decode cc_Mo_take 44 = .ok (.aload_n 0, 1) := by decide +kernel
theorem dd_Mo_take_45 : decode cc_Mo_take 45 = .ok (.getfield 62, 3) := by decide +kernel
theorem dd_Mo_take_48 : decode cc_Mo_take 48 = .ok (.aload_n 0, 1) := by decide +kernel
theorem dd_Mo_take_49 : decode cc_Mo_take 49 = .ok (.iload_n 1, 1) := by decide +kernel
theorem dd_Mo_take_50 : decode cc_Mo_take 50 = .ok (.iload 4, 2) := by decide +kernel
theorem dd_Mo_take_52 : decode cc_Mo_take 52 = .ok (.invokevirtual 123, 3) := by decide +kernel
theorem dd_Mo_take_55 : decode cc_Mo_take 55 = .ok (.baload, 1) := by decide +kernel
theorem dd_Mo_take_56 : decode cc_Mo_take 56 = .ok (.ifCond .ne 198, 3) := by decide +kernel
theorem dd_Mo_take_59 : decode cc_Mo_take 59 = .ok (.aload_n 0, 1) := by decide +kernel
theorem dd_Mo_take_60 : decode cc_Mo_take 60 = .ok (.iload_n 1, 1) := by decide +kernel
theorem dd_Mo_take_61 : decode cc_Mo_take 61 = .ok (.invokevirtual 127, 3) := by decide +kernel
theorem dd_Mo_take_64 : decode cc_Mo_take 64 = .ok (.ifCond .eq 190, 3) := by decide +kernel
theorem dd_Mo_take_67 : decode cc_Mo_take 67 = .ok (.aload_n 0, 1) := by decide +kernel
theorem dd_Mo_take_68 : decode cc_Mo_take 68 = .ok (.getfield 62, 3) := by decide +kernel
theorem dd_Mo_take_71 : decode cc_Mo_take 71 = .ok (.aload_n 0, 1) := by decide +kernel
theorem dd_Mo_take_72 : decode cc_Mo_take 72 = .ok (.iload_n 1, 1) := by decide +kernel
theorem dd_Mo_take_73 : decode cc_Mo_take 73 = .ok (.iload 4, 2) := by decide +kernel
theorem dd_Mo_take_75 : decode cc_Mo_take 75 = .ok (.invokevirtual 123, 3) := by decide +kernel
theorem dd_Mo_take_78 : decode cc_Mo_take 78 = .ok (.iconst 1, 1) := by decide +kernel
theorem dd_Mo_take_79 : decode cc_Mo_take 79 = .ok (.bastore, 1) := by decide +kernel
theorem dd_Mo_take_80 : decode cc_Mo_take 80 = .ok (.aload_n 0, 1) := by decide +kernel
theorem dd_Mo_take_81 : decode cc_Mo_take 81 = .ok (.iload_n 1, 1) := by decide +kernel
theorem dd_Mo_take_82 : decode cc_Mo_take 82 = .ok (.iload 4, 2) := by decide +kernel
theorem dd_Mo_take_84 : decode cc_Mo_take 84 = .ok (.iconst 1, 1) := by decide +kernel
theorem dd_Mo_take_85 : decode cc_Mo_take 85 = .ok (.invokevirtual 130, 3) := by decide +kernel
theorem dd_Mo_take_88 : decode cc_Mo_take 88 = .ok (.pop, 1) := by decide +kernel
theorem dd_Mo_take_89 : decode cc_Mo_take 89 = .ok (.goto 165, 3) := by decide +kernel
theorem dd_Mo_take_92 : decode cc_Mo_take 92 = .ok (.aload_n 0, 1) := by decide +kernel
theorem dd_Mo_take_93 : decode cc_Mo_take 93 = .ok (.getfield 47, 3) := by decide +kernel
theorem dd_Mo_take_96 : decode cc_Mo_take 96 = .ok (.iload_n 2, 1) := by decide +kernel
theorem dd_Mo_take_97 : decode cc_Mo_take 97 = .ok (.iaload, 1) := by decide +kernel
theorem dd_Mo_take_98 : decode cc_Mo_take 98 = .ok (.iconst 1, 1) := by decide +kernel
theorem dd_Mo_take_99 : decode cc_Mo_take 99 = .ok (.if_icmp .ne 24, 3) := by decide +kernel
theorem dd_Mo_take_102 : decode cc_Mo_take 102 = .ok (.aload_n 0, 1) := by decide +kernel
theorem dd_Mo_take_103 : decode cc_Mo_take 103 = .ok (.getfield 80, 3) := by decide +kernel
theorem dd_Mo_take_106 : decode cc_Mo_take 106 = .ok (.bipush 90, 2) := by decide +kernel
theorem dd_Mo_take_108 : decode cc_Mo_take 108 = .ok (.iload_n 1, 1) := by decide +kernel
theorem dd_Mo_take_109 : decode cc_Mo_take 109 = .ok (.imul, 1) := by decide +kernel
theorem dd_Mo_take_110 : decode cc_Mo_take 110 = .ok (.iload 4, 2) := by decide +kernel
theorem dd_Mo_take_112 : decode cc_Mo_take 112 = .ok (.iadd, 1) := by decide +kernel
theorem dd_Mo_take_113 : decode cc_Mo_take 113 = .ok (.dup2, 1) := by decide +kernel
theorem dd_Mo_take_114 : decode cc_Mo_take 114 = .ok (.iaload, 1) := by decide +kernel
theorem dd_Mo_take_115 : decode cc_Mo_take 115 = .ok (.iconst 1, 1) := by decide +kernel
theorem dd_Mo_take_116 : decode cc_Mo_take 116 = .ok (.iload_n 3, 1) := by decide +kernel
theorem dd_Mo_take_117 : decode cc_Mo_take 117 = .ok (.ishl, 1) := by decide +kernel
theorem dd_Mo_take_118 : decode cc_Mo_take 118 = .ok (.ior, 1) := by decide +kernel
theorem dd_Mo_take_119 : decode cc_Mo_take 119 = .ok (.iastore, 1) := by decide +kernel
theorem dd_Mo_take_120 : decode cc_Mo_take 120 = .ok (.goto 21, 3) := by decide +kernel
theorem dd_Mo_take_123 : decode cc_Mo_take 123 = .ok (.aload_n 0, 1) := by decide +kernel
theorem dd_Mo_take_124 : decode cc_Mo_take 124 = .ok (.getfield 83, 3) := by decide +kernel
theorem dd_Mo_take_127 : decode cc_Mo_take 127 = .ok (.bipush 90, 2) := by decide +kernel
theorem dd_Mo_take_129 : decode cc_Mo_take 129 = .ok (.iload_n 1, 1) := by decide +kernel
theorem dd_Mo_take_130 : decode cc_Mo_take 130 = .ok (.imul, 1) := by decide +kernel
theorem dd_Mo_take_131 : decode cc_Mo_take 131 = .ok (.iload 4, 2) := by decide +kernel
theorem dd_Mo_take_133 : decode cc_Mo_take 133 = .ok (.iadd, 1) := by decide +kernel
theorem dd_Mo_take_134 : decode cc_Mo_take 134 = .ok (.dup2, 1) := by decide +kernel
theorem dd_Mo_take_135 : decode cc_Mo_take 135 = .ok (.iaload, 1) := by decide +kernel
theorem dd_Mo_take_136 : decode cc_Mo_take 136 = .ok (.iconst 1, 1) := by decide +kernel
theorem dd_Mo_take_137 : decode cc_Mo_take 137 = .ok (.iload_n 3, 1) := by decide +kernel
theorem dd_Mo_take_138 : decode cc_Mo_take 138 = .ok (.ishl, 1) := by decide +kernel
theorem dd_Mo_take_139 : decode cc_Mo_take 139 = .ok (.ior, 1) := by decide +kernel
theorem dd_Mo_take_140 : decode cc_Mo_take 140 = .ok (.iastore, 1) := by decide +kernel
theorem dd_Mo_take_141 : decode cc_Mo_take 141 = .ok (.aload_n 0, 1) := by decide +kernel
theorem dd_Mo_take_142 : decode cc_Mo_take 142 = .ok (.getfield 47, 3) := by decide +kernel
theorem dd_Mo_take_145 : decode cc_Mo_take 145 = .ok (.iload_n 2, 1) := by decide +kernel
theorem dd_Mo_take_146 : decode cc_Mo_take 146 = .ok (.iaload, 1) := by decide +kernel
theorem dd_Mo_take_147 : decode cc_Mo_take 147 = .ok (.iconst 1, 1) := by decide +kernel
theorem dd_Mo_take_148 : decode cc_Mo_take 148 = .ok (.if_icmp .ne 30, 3) := by decide +kernel
theorem dd_Mo_take_151 : decode cc_Mo_take 151 = .ok (.aload_n 0, 1) := by decide +kernel
theorem dd_Mo_take_152 : decode cc_Mo_take 152 = .ok (.getfield 80, 3) := by decide +kernel
theorem dd_Mo_take_155 : decode cc_Mo_take 155 = .ok (.bipush 90, 2) := by decide +kernel
theorem dd_Mo_take_157 : decode cc_Mo_take 157 = .ok (.iload_n 1, 1) := by decide +kernel
theorem dd_Mo_take_158 : decode cc_Mo_take 158 = .ok (.imul, 1) := by decide +kernel
theorem dd_Mo_take_159 : decode cc_Mo_take 159 = .ok (.iload 4, 2) := by decide +kernel
theorem dd_Mo_take_161 : decode cc_Mo_take 161 = .ok (.iadd, 1) := by decide +kernel
theorem dd_Mo_take_162 : decode cc_Mo_take 162 = .ok (.iaload, 1) := by decide +kernel
theorem dd_Mo_take_163 : decode cc_Mo_take 163 = .ok (.invokestatic 115, 3) := by decide +kernel
theorem dd_Mo_take_166 : decode cc_Mo_take 166 = .ok (.iconst 3, 1) := by decide +kernel
theorem dd_Mo_take_167 : decode cc_Mo_take 167 = .ok (.if_icmp .lt 7, 3) := by decide +kernel
theorem dd_Mo_take_170 : decode cc_Mo_take 170 = .ok (.iconst 1, 1) := by decide +kernel
theorem dd_Mo_take_171 : decode cc_Mo_take 171 = .ok (.goto 31, 3) := by decide +kernel
theorem dd_Mo_take_174 : decode cc_Mo_take 174 = .ok (.iconst 0, 1) := by decide +kernel
theorem dd_Mo_take_175 : decode cc_Mo_take 175 = .ok (.goto 27, 3) := by decide +kernel
theorem dd_Mo_take_178 : decode cc_Mo_take 178 = .ok (.aload_n 0, 1) := by decide +kernel
theorem dd_Mo_take_179 : decode cc_Mo_take 179 = .ok (.getfield 83, 3) := by decide +kernel
theorem dd_Mo_take_182 : decode cc_Mo_take 182 = .ok (.bipush 90, 2) := by decide +kernel
theorem dd_Mo_take_184 : decode cc_Mo_take 184 = .ok (.iload_n 1, 1) := by decide +kernel
theorem dd_Mo_take_185 : decode cc_Mo_take 185 = .ok (.imul, 1) := by decide +kernel
theorem dd_Mo_take_186 : decode cc_Mo_take 186 = .ok (.iload 4, 2) := by decide +kernel
theorem dd_Mo_take_188 : decode cc_Mo_take 188 = .ok (.iadd, 1) := by decide +kernel
theorem dd_Mo_take_189 : decode cc_Mo_take 189 = .ok (.iaload, 1) := by decide +kernel
theorem dd_Mo_take_190 : decode cc_Mo_take 190 = .ok (.invokestatic 115, 3) := by decide +kernel
theorem dd_Mo_take_193 : decode cc_Mo_take 193 = .ok (.iconst 2, 1) := by decide +kernel
theorem dd_Mo_take_194 : decode cc_Mo_take 194 = .ok (.if_icmp .lt 7, 3) := by decide +kernel
theorem dd_Mo_take_197 : decode cc_Mo_take 197 = .ok (.iconst 1, 1) := by decide +kernel
theorem dd_Mo_take_198 : decode cc_Mo_take 198 = .ok (.goto 4, 3) := by decide +kernel
theorem dd_Mo_take_201 : decode cc_Mo_take 201 = .ok (.iconst 0, 1) := by decide +kernel
theorem dd_Mo_take_202 : decode cc_Mo_take 202 = .ok (.istore 5, 2) := by decide +kernel
theorem dd_Mo_take_204 : decode cc_Mo_take 204 = .ok (.iload 5, 2) := by decide +kernel
theorem dd_Mo_take_206 : decode cc_Mo_take 206 = .ok (.ifCond .eq 48, 3) := by decide +kernel
theorem dd_Mo_take_209 : decode cc_Mo_take 209 = .ok (.aload_n 0, 1) := by decide +kernel
theorem dd_Mo_take_210 : decode cc_Mo_take 210 = .ok (.getfield 65, 3) := by decide +kernel
theorem dd_Mo_take_213 : decode cc_Mo_take 213 = .ok (.aload_n 0, 1) := by decide +kernel
theorem dd_Mo_take_214 : decode cc_Mo_take 214 = .ok (.iload_n 1, 1) := by decide +kernel
theorem dd_Mo_take_215 : decode cc_Mo_take 215 = .ok (.iload 4, 2) := by decide +kernel
theorem dd_Mo_take_217 : decode cc_Mo_take 217 = .ok (.invokevirtual 123, 3) := by decide +kernel
theorem dd_Mo_take_220 : decode cc_Mo_take 220 = .ok (.baload, 1) := by decide +kernel
theorem dd_Mo_take_221 : decode cc_Mo_take 221 = .ok (.ifCond .ne 33, 3) := by decide +kernel
theorem dd_Mo_take_224 : decode cc_Mo_take 224 = .ok (.aload_n 0, 1) := by decide +kernel
theorem dd_Mo_take_225 : decode cc_Mo_take 225 = .ok (.iload_n 1, 1) := by decide +kernel
theorem dd_Mo_take_226 : decode cc_Mo_take 226 = .ok (.invokevirtual 127, 3) := by decide +kernel
theorem dd_Mo_take_229 : decode cc_Mo_take 229 = .ok (.ifCond .eq 25, 3) := by decide +kernel
theorem dd_Mo_take_232 : decode cc_Mo_take 232 = .ok (.aload_n 0, 1) := by decide +kernel
theorem dd_Mo_take_233 : decode cc_Mo_take 233 = .ok (.getfield 65, 3) := by decide +kernel
theorem dd_Mo_take_236 : decode cc_Mo_take 236 = .ok (.aload_n 0, 1) := by decide +kernel
theorem dd_Mo_take_237 : decode cc_Mo_take 237 = .ok (.iload_n 1, 1) := by decide +kernel
theorem dd_Mo_take_238 : decode cc_Mo_take 238 = .ok (.iload 4, 2) := by decide +kernel
theorem dd_Mo_take_240 : decode cc_Mo_take 240 = .ok (.invokevirtual 123, 3) := by decide +kernel
theorem dd_Mo_take_243 : decode cc_Mo_take 243 = .ok (.iconst 1, 1) := by decide +kernel
theorem dd_Mo_take_244 : decode cc_Mo_take 244 = .ok (.bastore, 1) := by decide +kernel
theorem dd_Mo_take_245 : decode cc_Mo_take 245 = .ok (.aload_n 0, 1) := by decide +kernel
theorem dd_Mo_take_246 : decode cc_Mo_take 246 = .ok (.iload_n 1, 1) := by decide +kernel
theorem dd_Mo_take_247 : decode cc_Mo_take 247 = .ok (.iload 4, 2) := by decide +kernel
theorem dd_Mo_take_249 : decode cc_Mo_take 249 = .ok (.iconst 2, 1) := by decide +kernel
theorem dd_Mo_take_250 : decode cc_Mo_take 250 = .ok (.invokevirtual 130, 3) := by decide +kernel
theorem dd_Mo_take_253 : decode cc_Mo_take 253 = .ok (.pop, 1) := by decide +kernel
theorem dd_Mo_take_254 : decode cc_Mo_take 254 = .ok (.aload_n 0, 1) := by decide +kernel
theorem dd_Mo_take_255 : decode cc_Mo_take 255 = .ok (.iload_n 1, 1) := by decide +kernel
theorem dd_Mo_take_256 : decode cc_Mo_take 256 = .ok (.invokevirtual 134, 3) := by decide +kernel
theorem dd_Mo_take_259 : decode cc_Mo_take 259 = .ok (.return_, 1) := by decide +kernel
theorem dd_Mo_formed_0 : decode cc_Mo_formed 0 = .ok (.aload_n 0, 1) := by decide +kernel
theorem dd_Mo_formed_1 : decode cc_Mo_formed 1 = .ok (.getfield 29, 3) := by decide +kernel
theorem dd_Mo_formed_4 : decode cc_Mo_formed 4 = .ok (.iload_n 1, 1) := by decide +kernel
theorem dd_Mo_formed_5 : decode cc_Mo_formed 5 = .ok (.iaload, 1) := by decide +kernel
theorem dd_Mo_formed_6 : decode cc_Mo_formed 6 = .ok (.iconst 1, 1) := by decide +kernel
theorem dd_Mo_formed_7 : decode cc_Mo_formed 7 = .ok (.if_icmp .ne 20, 3) := by decide +kernel
theorem dd_Mo_formed_10 : decode cc_Mo_formed 10 = .ok (.aload_n 0, 1) := by decide +kernel
theorem dd_Mo_formed_11 : decode cc_Mo_formed 11 = .ok (.getfield 32, 3) := by decide +kernel
theorem dd_Mo_formed_14 : decode cc_Mo_formed 14 = .ok (.iload_n 1, 1) := by decide +kernel
theorem dd_Mo_formed_15 : decode cc_Mo_formed 15 = .ok (.iaload, 1) := by decide +kernel
theorem dd_Mo_formed_16 : decode cc_Mo_formed 16 = .ok (.ifCond .ne 7, 3) := by decide +kernel
theorem dd_Mo_formed_19 : decode cc_Mo_formed 19 = .ok (.iconst 1, 1) := by decide +kernel
theorem dd_Mo_formed_20 : decode cc_Mo_formed 20 = .ok (.goto 25, 3) := by decide +kernel
theorem dd_Mo_formed_23 : decode cc_Mo_formed 23 = .ok (.iconst 0, 1) := by decide +kernel
theorem dd_Mo_formed_24 : decode cc_Mo_formed 24 = .ok (.goto 21, 3) := by decide +kernel
theorem dd_Mo_formed_27 : decode cc_Mo_formed 27 = .ok (.aload_n 0, 1) := by decide +kernel
theorem dd_Mo_formed_28 : decode cc_Mo_formed 28 = .ok (.getfield 32, 3) := by decide +kernel
theorem dd_Mo_formed_31 : decode cc_Mo_formed 31 = .ok (.iload_n 1, 1) := by decide +kernel
theorem dd_Mo_formed_32 : decode cc_Mo_formed 32 = .ok (.iaload, 1) := by decide +kernel
theorem dd_Mo_formed_33 : decode cc_Mo_formed 33 = .ok (.invokestatic 115, 3) := by decide +kernel
theorem dd_Mo_formed_36 : decode cc_Mo_formed 36 = .ok (.iconst 3, 1) := by decide +kernel
theorem dd_Mo_formed_37 : decode cc_Mo_formed 37 = .ok (.if_icmp .lt 7, 3) := by decide +kernel
theorem dd_Mo_formed_40 : decode cc_Mo_formed 40 = .ok (.iconst 1, 1) := by decide +kernel
theorem dd_Mo_formed_41 : decode cc_Mo_formed 41 = .ok (.goto 4, 3) := by decide +kernel
theorem dd_Mo_formed_44 : decode cc_Mo_formed 44 = .ok (.iconst 0, 1) := by decide +kernel
theorem dd_Mo_formed_45 : decode cc_Mo_formed 45 = .ok (.ireturn, 1) := by decide +kernel
theorem dd_Mo_ones_0 : decode cc_Mo_ones 0 = .ok (.iload_n 0, 1) := by decide +kernel
theorem dd_Mo_ones_1 : decode cc_Mo_ones 1 = .ok (.iconst 1, 1) := by decide +kernel
theorem dd_Mo_ones_2 : decode cc_Mo_ones 2 = .ok (.iand, 1) := by decide +kernel
theorem dd_Mo_ones_3 : decode cc_Mo_ones 3 = .ok (.iload_n 0, 1) := by decide +kernel
theorem dd_Mo_ones_4 : decode cc_Mo_ones 4 = .ok (.iconst 1, 1) := by decide +kernel
theorem dd_Mo_ones_5 : decode cc_Mo_ones 5 = .ok (.ishr, 1) := by decide +kernel
theorem dd_Mo_ones_6 : decode cc_Mo_ones 6 = .ok (.iconst 1, 1) := by decide +kernel
theorem dd_Mo_ones_7 : decode cc_Mo_ones 7 = .ok (.iand, 1) := by decide +kernel
theorem dd_Mo_ones_8 : decode cc_Mo_ones 8 = .ok (.iadd, 1) := by decide +kernel
theorem dd_Mo_ones_9 : decode cc_Mo_ones 9 = .ok (.iload_n 0, 1) := by decide +kernel
theorem dd_Mo_ones_10 : decode cc_Mo_ones 10 = .ok (.iconst 2, 1) := by decide +kernel
theorem dd_Mo_ones_11 : decode cc_Mo_ones 11 = .ok (.ishr, 1) := by decide +kernel
theorem dd_Mo_ones_12 : decode cc_Mo_ones 12 = .ok (.iconst 1, 1) := by decide +kernel
theorem dd_Mo_ones_13 : decode cc_Mo_ones 13 = .ok (.iand, 1) := by decide +kernel
theorem dd_Mo_ones_14 : decode cc_Mo_ones 14 = .ok (.iadd, 1) := by decide +kernel
theorem dd_Mo_ones_15 : decode cc_Mo_ones 15 = .ok (.iload_n 0, 1) := by decide +kernel
theorem dd_Mo_ones_16 : decode cc_Mo_ones 16 = .ok (.iconst 3, 1) := by decide +kernel
theorem dd_Mo_ones_17 : decode cc_Mo_ones 17 = .ok (.ishr, 1) := by decide +kernel
theorem dd_Mo_ones_18 : decode cc_Mo_ones 18 = .ok (.iconst 1, 1) := by decide +kernel
theorem dd_Mo_ones_19 : decode cc_Mo_ones 19 = .ok (.iand, 1) := by decide +kernel
theorem dd_Mo_ones_20 : decode cc_Mo_ones 20 = .ok (.iadd, 1) := by decide +kernel
theorem dd_Mo_ones_21 : decode cc_Mo_ones 21 = .ok (.ireturn, 1) := by decide +kernel
theorem dd_Mo_spot_0 : decode cc_Mo_spot 0 = .ok (.bipush 60, 2) := by decide +kernel
theorem dd_Mo_spot_2 : decode cc_Mo_spot 2 = .ok (.iload_n 1, 1) := by decide +kernel
theorem dd_Mo_spot_3 : decode cc_Mo_spot 3 = .ok (.imul, 1) := by decide +kernel
theorem dd_Mo_spot_4 : decode cc_Mo_spot 4 = .ok (.iconst 4, 1) := by decide +kernel
theorem dd_Mo_spot_5 : decode cc_Mo_spot 5 = .ok (.aload_n 0, 1) := by decide +kernel
theorem dd_Mo_spot_6 : decode cc_Mo_spot 6 = .ok (.getfield 29, 3) := by decide +kernel
theorem dd_Mo_spot_9 : decode cc_Mo_spot 9 = .ok (.iload_n 2, 1) := by decide +kernel
theorem dd_Mo_spot_10 : decode cc_Mo_spot 10 = .ok (.iaload, 1) := by decide +kernel
theorem dd_Mo_spot_11 : decode cc_Mo_spot 11 = .ok (.imul, 1) := by decide +kernel
theorem dd_Mo_spot_12 : decode cc_Mo_spot 12 = .ok (.iadd, 1) := by decide +kernel
theorem dd_Mo_spot_13 : decode cc_Mo_spot 13 = .ok (.aload_n 0, 1) := by decide +kernel
theorem dd_Mo_spot_14 : decode cc_Mo_spot 14 = .ok (.getfield 26, 3) := by decide +kernel
theorem dd_Mo_spot_17 : decode cc_Mo_spot 17 = .ok (.iload_n 2, 1) := by decide +kernel
theorem dd_Mo_spot_18 : decode cc_Mo_spot 18 = .ok (.iaload, 1) := by decide +kernel
theorem dd_Mo_spot_19 : decode cc_Mo_spot 19 = .ok (.iadd, 1) := by decide +kernel
theorem dd_Mo_spot_20 : decode cc_Mo_spot 20 = .ok (.ireturn, 1) := by decide +kernel
theorem dd_Mo_say_0 : decode cc_Mo_say 0 = .ok (.aload_n 0, 1) := by decide +kernel
theorem dd_Mo_say_1 : decode cc_Mo_say 1 = .ok (.getfield 41, 3) := by decide +kernel
theorem dd_Mo_say_4 : decode cc_Mo_say 4 = .ok (.aload_n 0, 1) := by decide +kernel
theorem dd_Mo_say_5 : decode cc_Mo_say 5 = .ok (.getfield 112, 3) := by decide +kernel
theorem dd_Mo_say_8 : decode cc_Mo_say 8 = .ok (.iload_n 1, 1) := by decide +kernel
theorem dd_Mo_say_9 : decode cc_Mo_say 9 = .ok (.iastore, 1) := by decide +kernel
theorem dd_Mo_say_10 : decode cc_Mo_say 10 = .ok (.aload_n 0, 1) := by decide +kernel
theorem dd_Mo_say_11 : decode cc_Mo_say 11 = .ok (.getfield 44, 3) := by decide +kernel
theorem dd_Mo_say_14 : decode cc_Mo_say 14 = .ok (.aload_n 0, 1) := by decide +kernel
theorem dd_Mo_say_15 : decode cc_Mo_say 15 = .ok (.getfield 112, 3) := by decide +kernel
theorem dd_Mo_say_18 : decode cc_Mo_say 18 = .ok (.iload_n 2, 1) := by decide +kernel
theorem dd_Mo_say_19 : decode cc_Mo_say 19 = .ok (.iastore, 1) := by decide +kernel
theorem dd_Mo_say_20 : decode cc_Mo_say 20 = .ok (.aload_n 0, 1) := by decide +kernel
theorem dd_Mo_say_21 : decode cc_Mo_say 21 = .ok (.getfield 47, 3) := by decide +kernel
theorem dd_Mo_say_24 : decode cc_Mo_say 24 = .ok (.aload_n 0, 1) := by decide +kernel
theorem dd_Mo_say_25 : decode cc_Mo_say 25 = .ok (.getfield 112, 3) := by decide +kernel
theorem dd_Mo_say_28 : decode cc_Mo_say 28 = .ok (.iload_n 3, 1) := by decide +kernel
theorem dd_Mo_say_29 : decode cc_Mo_say 29 = .ok (.iastore, 1) := by decide +kernel
theorem dd_Mo_say_30 : decode cc_Mo_say 30 = .ok (.aload_n 0, 1) := by decide +kernel
theorem dd_Mo_say_31 : decode cc_Mo_say 31 = .ok (.dup, 1) := by decide +kernel
theorem dd_Mo_say_32 : decode cc_Mo_say 32 = .ok (.getfield 112, 3) := by decide +kernel
theorem dd_Mo_say_35 : decode cc_Mo_say 35 = .ok (.iconst 1, 1) := by decide +kernel
theorem dd_Mo_say_36 : decode cc_Mo_say 36 = .ok (.iadd, 1) := by decide +kernel
theorem dd_Mo_say_37 : decode cc_Mo_say 37 = .ok (.putfield 112, 3) := by decide +kernel
theorem dd_Mo_say_40 : decode cc_Mo_say 40 = .ok (.aload_n 0, 1) := by decide +kernel
theorem dd_Mo_say_41 : decode cc_Mo_say 41 = .ok (.getfield 112, 3) := by decide +kernel
theorem dd_Mo_say_44 : decode cc_Mo_say 44 = .ok (.iconst 1, 1) := by decide +kernel
theorem dd_Mo_say_45 : decode cc_Mo_say 45 = .ok (.isub, 1) := by decide +kernel
theorem dd_Mo_say_46 : decode cc_Mo_say 46 = .ok (.ireturn, 1) := by decide +kernel
theorem dd_Mo_act_0 : decode cc_Mo_act 0 = .ok (.iconst 0, 1) := by decide +kernel
theorem dd_Mo_act_1 : decode cc_Mo_act 1 = .ok (.istore_n 2, 1) := by decide +kernel
theorem dd_Mo_act_2 : decode cc_Mo_act 2 = .ok (.iload_n 2, 1) := by decide +kernel
theorem dd_Mo_act_3 : decode cc_Mo_act 3 = .ok (.sipush 1000, 3) := by decide +kernel
theorem dd_Mo_act_6 : decode cc_Mo_act 6 = .ok (.if_icmp .ge 93, 3) := by decide +kernel
theorem dd_Mo_act_9 : decode cc_Mo_act 9 = .ok (.aload_n 0, 1) := by decide +kernel
theorem dd_Mo_act_10 : decode cc_Mo_act 10 = .ok (.getfield 50, 3) := by decide +kernel
theorem dd_Mo_act_13 : decode cc_Mo_act 13 = .ok (.iload_n 1, 1) := by decide +kernel
theorem dd_Mo_act_14 : decode cc_Mo_act 14 = .ok (.iaload, 1) := by decide +kernel
theorem dd_Mo_act_15 : decode cc_Mo_act 15 = .ok (.iconst 1, 1) := by decide +kernel
theorem dd_Mo_act_16 : decode cc_Mo_act 16 = .ok (.if_icmp .ne 83, 3) := by decide +kernel
theorem dd_Mo_act_19 : decode cc_Mo_act 19 = .ok (.aload_n 0, 1) := by decide +kernel
theorem dd_Mo_act_20 : decode cc_Mo_act 20 = .ok (.iload_n 1, 1) := by decide +kernel
theorem dd_Mo_act_21 : decode cc_Mo_act 21 = .ok (.invokevirtual 137, 3) := by decide +kernel
theorem dd_Mo_act_24 : decode cc_Mo_act 24 = .ok (.istore_n 3, 1) := by decide +kernel
theorem dd_Mo_act_25 : decode cc_Mo_act 25 = .ok (.iload_n 3, 1) := by decide +kernel
theorem dd_Mo_act_26 : decode cc_Mo_act 26 = .ok (.ifCond .ge 11, 3) := by decide +kernel
theorem dd_Mo_act_29 : decode cc_Mo_act 29 = .ok (.aload_n 0, 1) := by decide +kernel
theorem dd_Mo_act_30 : decode cc_Mo_act 30 = .ok (.iload_n 1, 1) := by decide +kernel
theorem dd_Mo_act_31 : decode cc_Mo_act 31 = .ok (.invokevirtual 140, 3) := by decide +kernel
theorem dd_Mo_act_34 : decode cc_Mo_act 34 = .ok (.goto 4, 3) := by decide +kernel
theorem dd_Mo_act_37 : decode cc_Mo_act 37 = .ok (.iconst 0, 1) := by decide +kernel
theorem dd_Mo_act_38 : decode cc_Mo_act 38 = .ok (.istore 4, 2) := by decide +kernel
theorem dd_Mo_act_40 : decode cc_Mo_act 40 = .ok (.iload_n 3, 1) := by decide +kernel
theorem dd_Mo_act_41 : decode cc_Mo_act 41 = .ok (.ifCond .lt 20, 3) := by decide +kernel
theorem dd_Mo_act_44 : decode cc_Mo_act 44 = .ok (.aload_n 0, 1) := by decide +kernel
theorem dd_Mo_act_45 : decode cc_Mo_act 45 = .ok (.getfield 77, 3) := by decide +kernel
theorem dd_Mo_act_48 : decode cc_Mo_act 48 = .ok (.aload_n 0, 1) := by decide +kernel
theorem dd_Mo_act_49 : decode cc_Mo_act 49 = .ok (.iload_n 1, 1) := by decide +kernel
theorem dd_Mo_act_50 : decode cc_Mo_act 50 = .ok (.iload_n 3, 1) := by decide +kernel
theorem dd_Mo_act_51 : decode cc_Mo_act 51 = .ok (.invokevirtual 123, 3) := by decide +kernel
theorem dd_Mo_act_54 : decode cc_Mo_act 54 = .ok (.iload_n 3, 1) := by decide +kernel
theorem dd_Mo_act_55 : decode cc_Mo_act 55 = .ok (.iconst 1, 1) := by decide +kernel
theorem dd_Mo_act_56 : decode cc_Mo_act 56 = .ok (.iadd, 1) := by decide +kernel
theorem dd_Mo_act_57 : decode cc_Mo_act 57 = .ok (.iastore, 1) := by decide +kernel
theorem dd_Mo_act_58 : decode cc_Mo_act 58 = .ok (.goto 35, 3) := by decide +kernel
theorem dd_Mo_act_61 : decode cc_Mo_act 61 = .ok (.iload 4, 2) := by decide +kernel
theorem dd_Mo_act_63 : decode cc_Mo_act 63 = .ok (.ifCond .le 13, 3) := by decide +kernel
theorem dd_Mo_act_66 : decode cc_Mo_act 66 = .ok (.aload_n 0, 1) := by decide +kernel
theorem dd_Mo_act_67 : decode cc_Mo_act 67 = .ok (.iload_n 1, 1) := by decide +kernel
theorem dd_Mo_act_68 : decode cc_Mo_act 68 = .ok (.iload 4, 2) := by decide +kernel
theorem dd_Mo_act_70 : decode cc_Mo_act 70 = .ok (.invokevirtual 143, 3) := by decide +kernel
theorem dd_Mo_act_73 : decode cc_Mo_act 73 = .ok (.goto 20, 3) := by decide +kernel
theorem dd_Mo_act_76 : decode cc_Mo_act 76 = .ok (.aload_n 0, 1) := by decide +kernel
theorem dd_Mo_act_77 : decode cc_Mo_act 77 = .ok (.iload_n 1, 1) := by decide +kernel
theorem dd_Mo_act_78 : decode cc_Mo_act 78 = .ok (.invokevirtual 147, 3) := by decide +kernel
theorem dd_Mo_act_81 : decode cc_Mo_act 81 = .ok (.ifCond .eq 11, 3) := by decide +kernel
theorem dd_Mo_act_84 : decode cc_Mo_act 84 = .ok (.aload_n 0, 1) := by decide +kernel
theorem dd_Mo_act_85 : decode cc_Mo_act 85 = .ok (.iload_n 1, 1) := by decide +kernel
theorem dd_Mo_act_86 : decode cc_Mo_act 86 = .ok (.invokevirtual 150, 3) := by decide +kernel
theorem dd_Mo_act_89 : decode cc_Mo_act 89 = .ok (.goto 4, 3) := by decide +kernel
theorem dd_Mo_act_92 : decode cc_Mo_act 92 = .ok (.return_, 1) := by decide +kernel
theorem dd_Mo_act_93 : decode cc_Mo_act 93 = .ok (.iinc 2 1, 3) := by decide +kernel
theorem dd_Mo_act_96 : decode cc_Mo_act 96 = .ok (.goto (-94), 3) := by decide +kernel
theorem dd_Mo_act_99 : decode cc_Mo_act 99 = .ok (.return_, 1) := by decide +kernel
theorem dd_Mo_insertable_0 : decode cc_Mo_insertable 0 = .ok (.iconst (-1), 1) := by decide +kernel
theorem dd_Mo_insertable_1 : decode cc_Mo_insertable 1 = .ok (.istore_n 2, 1) := by decide +kernel
theorem dd_Mo_insertable_2 : decode cc_Mo_insertable 2 = .ok (.iconst 0, 1) := by decide +kernel
theorem dd_Mo_insertable_3 : decode cc_Mo_insertable 3 = .ok (.istore_n 3, 1) := by decide +kernel
theorem dd_Mo_insertable_4 : decode cc_Mo_insertable 4 = .ok (.iload_n 3, 1) := by decide +kernel
theorem dd_Mo_insertable_5 : decode cc_Mo_insertable 5 = .ok (.aload_n 0, 1) := by decide +kernel
theorem dd_Mo_insertable_6 : decode cc_Mo_insertable 6 = .ok (.getfield 153, 3) := by decide +kernel
theorem dd_Mo_insertable_9 : decode cc_Mo_insertable 9 = .ok (.if_icmp .ge 125, 3) := by decide +kernel
theorem dd_Mo_insertable_12 : decode cc_Mo_insertable 12 = .ok (.aload_n 0, 1) := by decide +kernel
theorem dd_Mo_insertable_13 : decode cc_Mo_insertable 13 = .ok (.getfield 83, 3) := by decide +kernel
theorem dd_Mo_insertable_16 : decode cc_Mo_insertable 16 = .ok (.bipush 90, 2) := by decide +kernel
theorem dd_Mo_insertable_18 : decode cc_Mo_insertable 18 = .ok (.iload_n 1, 1) := by decide +kernel
theorem dd_Mo_insertable_19 : decode cc_Mo_insertable 19 = .ok (.imul, 1) := by decide +kernel
theorem dd_Mo_insertable_20 : decode cc_Mo_insertable 20 = .ok (.iload_n 3, 1) := by decide +kernel
theorem dd_Mo_insertable_21 : decode cc_Mo_insertable 21 = .ok (.iadd, 1) := by decide +kernel
theorem dd_Mo_insertable_22 : decode cc_Mo_insertable 22 = .ok (.iaload, 1) := by decide +kernel
theorem dd_Mo_insertable_23 : decode cc_Mo_insertable 23 = .ok (.invokestatic 115, 3) := by decide +kernel
theorem dd_Mo_insertable_26 : decode cc_Mo_insertable 26 = .ok (.iconst 3, 1) := by decide +kernel
theorem dd_Mo_insertable_27 : decode cc_Mo_insertable 27 = .ok (.if_icmp .lt 54, 3) := by decide +kernel
theorem dd_Mo_insertable_30 : decode cc_Mo_insertable 30 = .ok (.aload_n 0, 1) := by decide +kernel
theorem dd_Mo_insertable_31 : decode cc_Mo_insertable 31 = .ok (.getfield 77, 3) := by decide +kernel
theorem dd_Mo_insertable_34 : decode cc_Mo_insertable 34 = .ok (.aload_n 0, 1) := by decide +kernel
theorem dd_Mo_insertable_35 : decode cc_Mo_insertable 35 = .ok (.iload_n 1, 1) := by decide +kernel
theorem dd_Mo_insertable_36 : decode cc_Mo_insertable 36 = .ok (.iload_n 3, 1) := by decide +kernel
theorem dd_Mo_insertable_37 : decode cc_Mo_insertable 37 = .ok (.invokevirtual 123, 3) := by decide +kernel
theorem dd_Mo_insertable_40 : decode cc_Mo_insertable 40 = .ok (.iaload, 1) := by decide +kernel
theorem dd_Mo_insertable_41 : decode cc_Mo_insertable 41 = .ok (.ifCond .ne 40, 3) := by decide +kernel
theorem dd_Mo_insertable_44 : decode cc_Mo_insertable 44 = .ok (.aload_n 0, 1) := by decide +kernel
theorem dd_Mo_insertable_45 : decode cc_Mo_insertable 45 = .ok (.iload_n 3, 1) := by decide +kernel
theorem dd_Mo_insertable_46 : decode cc_Mo_insertable 46 = .ok (.invokevirtual 119, 3) := by decide +kernel
theorem dd_Mo_insertable_49 : decode cc_Mo_insertable 49 = .ok (.ifCond .eq 32, 3) := by decide +kernel
theorem dd_Mo_insertable_52 : decode cc_Mo_insertable 52 = .ok (.aload_n 0, 1) := by decide +kernel
theorem dd_Mo_insertable_53 : decode cc_Mo_insertable 53 = .ok (.getfield 32, 3) := by decide +kernel
theorem dd_Mo_insertable_56 : decode cc_Mo_insertable 56 = .ok (.iload_n 3, 1) := by decide +kernel
theorem dd_Mo_insertable_57 : decode cc_Mo_insertable 57 = .ok (.iaload, 1) := by decide +kernel
theorem dd_Mo_insertable_58 : decode cc_Mo_insertable 58 = .ok (.aload_n 0, 1) := by decide +kernel
theorem dd_Mo_insertable_59 : decode cc_Mo_insertable 59 = .ok (.iload_n 1, 1) := by decide +kernel
theorem dd_Mo_insertable_60 : decode cc_Mo_insertable 60 = .ok (.aload_n 0, 1) := by decide +kernel
theorem dd_Mo_insertable_61 : decode cc_Mo_insertable 61 = .ok (.getfield 29, 3) := by decide +kernel
theorem dd_Mo_insertable_64 : decode cc_Mo_insertable 64 = .ok (.iload_n 3, 1) := by decide +kernel
theorem dd_Mo_insertable_65 : decode cc_Mo_insertable 65 = .ok (.iaload, 1) := by decide +kernel
theorem dd_Mo_insertable_66 : decode cc_Mo_insertable 66 = .ok (.iconst 1, 1) := by decide +kernel
theorem dd_Mo_insertable_67 : decode cc_Mo_insertable 67 = .ok (.isub, 1) := by decide +kernel
theorem dd_Mo_insertable_68 : decode cc_Mo_insertable 68 = .ok (.invokevirtual 156, 3) := by decide +kernel
theorem dd_Mo_insertable_71 : decode cc_Mo_insertable 71 = .ok (.iconst (-1), 1) := by decide +kernel
theorem dd_Mo_insertable_72 : decode cc_Mo_insertable 72 = .ok (.ixor, 1) := by decide +kernel
theorem dd_Mo_insertable_73 : decode cc_Mo_insertable 73 = .ok (.iand, 1) := by decide +kernel
theorem dd_Mo_insertable_74 : decode cc_Mo_insertable 74 = .ok (.ifCond .ne 7, 3) := by decide +kernel
theorem dd_Mo_insertable_77 : decode cc_Mo_insertable 77 = .ok (.iconst 1, 1) := by decide +kernel
theorem dd_Mo_insertable_78 : decode cc_Mo_insertable 78 = .ok (.goto 4, 3) := by decide +kernel
theorem dd_Mo_insertable_81 : decode cc_Mo_insertable 81 = .ok (.iconst 0, 1) := by decide +kernel
theorem dd_Mo_insertable_82 : decode cc_Mo_insertable 82 = .ok (.istore 4, 2) := by decide +kernel
theorem dd_Mo_insertable_84 : decode cc_Mo_insertable 84 = .ok (.iload 4, 2) := by decide +kernel
theorem dd_Mo_insertable_86 : decode cc_Mo_insertable 86 = .ok (.ifCond .eq 42, 3) := by decide +kernel
theorem dd_Mo_insertable_89 : decode cc_Mo_insertable 89 = .ok (.iload_n 2, 1) := by decide +kernel
theorem dd_Mo_insertable_90 : decode cc_Mo_insertable 90 = .ok (.ifCond .lt 36, 3) := by decide +kernel
theorem dd_Mo_insertable_93 : decode cc_Mo_insertable 93 = .ok (.iconst 4, 1) := by decide +kernel
theorem dd_Mo_insertable_94 : decode cc_Mo_insertable 94 = .ok (.aload_n 0, 1) := by decide +kernel
theorem dd_Mo_insertable_95 : decode cc_Mo_insertable 95 = .ok (.getfield 29, 3) := by decide +kernel
theorem dd_Mo_insertable_98 : decode cc_Mo_insertable 98 = .ok (.iload_n 3, 1) := by decide +kernel
theorem dd_Mo_insertable_99 : decode cc_Mo_insertable 99 = .ok (.iaload, 1) := by decide +kernel
theorem dd_Mo_insertable_100 : decode cc_Mo_insertable 100 = .ok (.imul, 1) := by decide +kernel
theorem dd_Mo_insertable_101 : decode cc_Mo_insertable 101 = .ok (.aload_n 0, 1) := by decide +kernel
theorem dd_Mo_insertable_102 : decode cc_Mo_insertable 102 = .ok (.getfield 26, 3) := by decide +kernel
theorem dd_Mo_insertable_105 : decode cc_Mo_insertable 105 = .ok (.iload_n 3, 1) := by decide +kernel
theorem dd_Mo_insertable_106 : decode cc_Mo_insertable 106 = .ok (.iaload, 1) := by decide +kernel
theorem dd_Mo_insertable_107 : decode cc_Mo_insertable 107 = .ok (.iadd, 1) := by decide +kernel
theorem dd_Mo_insertable_108 : decode cc_Mo_insertable 108 = .ok (.iconst 4, 1) := by decide +kernel
theorem dd_Mo_insertable_109 : decode cc_Mo_insertable 109 = .ok (.aload_n 0, 1) := by decide +kernel
theorem dd_Mo_insertable_110 : decode cc_Mo_insertable 110 = .ok (.getfield 29, 3) := by decide +kernel
theorem dd_Mo_insertable_113 : decode cc_Mo_insertable 113 = .ok (.iload_n 2, 1) := by decide +kernel
theorem dd_Mo_insertable_114 : decode cc_Mo_insertable 114 = .ok (.iaload, 1) := by decide +kernel
theorem dd_Mo_insertable_115 : decode cc_Mo_insertable 115 = .ok (.imul, 1) := by decide +kernel
theorem dd_Mo_insertable_116 : decode cc_Mo_insertable 116 = .ok (.aload_n 0, 1) := by decide +kernel
theorem dd_Mo_insertable_117 : decode cc_Mo_insertable 117 = .ok (.getfield 26, 3) := by decide +kernel
theorem dd_Mo_insertable_120 : decode cc_Mo_insertable 120 = .ok (.iload_n 2, 1) := by decide +kernel
theorem dd_Mo_insertable_121 : decode cc_Mo_insertable 121 = .ok (.iaload, 1) := by decide +kernel
theorem dd_Mo_insertable_122 : decode cc_Mo_insertable 122 = .ok (.iadd, 1) := by decide +kernel
theorem dd_Mo_insertable_123 : decode cc_Mo_insertable 123 = .ok (.if_icmp .ge 5, 3) := by decide +kernel
theorem dd_Mo_insertable_126 : decode cc_Mo_insertable 126 = .ok (.iload_n 3, 1) := by decide +kernel
theorem dd_Mo_insertable_127 : decode cc_Mo_insertable 127 = .ok (.istore_n 2, 1) := by decide +kernel
theorem dd_Mo_insertable_128 : decode cc_Mo_insertable 128 = .ok (.iinc 3 1, 3) := by decide +kernel
theorem dd_Mo_insertable_131 : decode cc_Mo_insertable 131 = .ok (.goto (-127), 3) := by decide +kernel
theorem dd_Mo_insertable_134 : decode cc_Mo_insertable 134 = .ok (.iload_n 2, 1) := by decide +kernel
theorem dd_Mo_insertable_135 : decode cc_Mo_insertable 135 = .ok (.ireturn, 1) := by decide +kernel
theorem dd_Mo_there_0 : decode cc_Mo_there 0 = .ok (.iconst 0, 1) := by decide +kernel
theorem dd_Mo_there_1 : decode cc_Mo_there 1 = .ok (.istore_n 3, 1) := by decide +kernel
theorem dd_Mo_there_2 : decode cc_Mo_there 2 = .ok (.iconst 0, 1) := by decide +kernel
theorem dd_Mo_there_3 : decode cc_Mo_there 3 = .ok (.istore 4, 2) := by decide +kernel
theorem dd_Mo_there_5 : decode cc_Mo_there 5 = .ok (.iload 4, 2) := by decide +kernel
theorem dd_Mo_there_7 : decode cc_Mo_there 7 = .ok (.iconst 4, 1) := by decide +kernel
theorem dd_Mo_there_8 : decode cc_Mo_there 8 = .ok (.if_icmp .ge 43, 3) := by decide +kernel
theorem dd_Mo_there_11 : decode cc_Mo_there 11 = .ok (.iload_n 2, 1) := by decide +kernel
theorem dd_Mo_there_12 : decode cc_Mo_there 12 = .ok (.ifCond .le 31, 3) := by decide +kernel
theorem dd_Mo_there_15 : decode cc_Mo_there 15 = .ok (.aload_n 0, 1) := by decide +kernel
theorem dd_Mo_there_16 : decode cc_Mo_there 16 = .ok (.getfield 77, 3) := by decide +kernel
theorem dd_Mo_there_19 : decode cc_Mo_there 19 = .ok (.bipush 60, 2) := by decide +kernel
theorem dd_Mo_there_21 : decode cc_Mo_there 21 = .ok (.iload_n 1, 1) := by decide +kernel
theorem dd_Mo_there_22 : decode cc_Mo_there 22 = .ok (.imul, 1) := by decide +kernel
theorem dd_Mo_there_23 : decode cc_Mo_there 23 = .ok (.iconst 4, 1) := by decide +kernel
theorem dd_Mo_there_24 : decode cc_Mo_there 24 = .ok (.iload_n 2, 1) := by decide +kernel
theorem dd_Mo_there_25 : decode cc_Mo_there 25 = .ok (.imul, 1) := by decide +kernel
theorem dd_Mo_there_26 : decode cc_Mo_there 26 = .ok (.iadd, 1) := by decide +kernel
theorem dd_Mo_there_27 : decode cc_Mo_there 27 = .ok (.iload 4, 2) := by decide +kernel
theorem dd_Mo_there_29 : decode cc_Mo_there 29 = .ok (.iadd, 1) := by decide +kernel
theorem dd_Mo_there_30 : decode cc_Mo_there 30 = .ok (.iaload, 1) := by decide +kernel
theorem dd_Mo_there_31 : decode cc_Mo_there 31 = .ok (.ifCond .le 12, 3) := by decide +kernel
theorem dd_Mo_there_34 : decode cc_Mo_there 34 = .ok (.iload_n 3, 1) := by decide +kernel
theorem dd_Mo_there_35 : decode cc_Mo_there 35 = .ok (.iconst 1, 1) := by decide +kernel
theorem dd_Mo_there_36 : decode cc_Mo_there 36 = .ok (.iload 4, 2) := by decide +kernel
theorem dd_Mo_there_38 : decode cc_Mo_there 38 = .ok (.ishl, 1) := by decide +kernel
theorem dd_Mo_there_39 : decode cc_Mo_there 39 = .ok (.ior, 1) := by decide +kernel
theorem dd_Mo_there_40 : decode cc_Mo_there 40 = .ok (.goto 4, 3) := by decide +kernel
theorem dd_Mo_there_43 : decode cc_Mo_there 43 = .ok (.iload_n 3, 1) := by decide +kernel
theorem dd_Mo_there_44 : decode cc_Mo_there 44 = .ok (.istore_n 3, 1) := by decide +kernel
theorem dd_Mo_there_45 : decode cc_Mo_there 45 = .ok (.iinc 4 1, 3) := by decide +kernel
theorem dd_Mo_there_48 : decode cc_Mo_there 48 = .ok (.goto (-43), 3) := by decide +kernel
theorem dd_Mo_there_51 : decode cc_Mo_there 51 = .ok (.iload_n 3, 1) := by decide +kernel
theorem dd_Mo_there_52 : decode cc_Mo_there 52 = .ok (.ireturn, 1) := by decide +kernel
theorem dd_Mo_committable_0 : decode cc_Mo_committable 0 = .ok (.aload_n 0, 1) := by decide +kernel
theorem dd_Mo_committable_1 : decode cc_Mo_committable 1 = .ok (.getfield 74, 3) := by decide +kernel
theorem dd_Mo_committable_4 : decode cc_Mo_committable 4 = .ok (.iload_n 1, 1) := by decide +kernel
theorem dd_Mo_committable_5 : decode cc_Mo_committable 5 = .ok (.iaload, 1) := by decide +kernel
theorem dd_Mo_committable_6 : decode cc_Mo_committable 6 = .ok (.iconst 2, 1) := by decide +kernel
theorem dd_Mo_committable_7 : decode cc_Mo_committable 7 = .ok (.iadd, 1) := by decide +kernel
theorem dd_Mo_committable_8 : decode cc_Mo_committable 8 = .ok (.istore_n 2, 1) := by decide +kernel
theorem dd_Mo_committable_9 : decode cc_Mo_committable 9 = .ok (.iload_n 2, 1) := by decide +kernel
theorem dd_Mo_committable_10 : decode cc_Mo_committable 10 = .ok (.bipush 14, 2) := by decide +kernel
theorem dd_Mo_committable_12 : decode cc_Mo_committable 12 = .ok (.if_icmp .ge 95, 3) := by decide +kernel
theorem dd_Mo_committable_15 : decode cc_Mo_committable 15 = .ok (.iconst 0, 1) := by decide +kernel
theorem dd_Mo_committable_16 : decode cc_Mo_committable 16 = .ok (.istore_n 3, 1) := by decide +kernel
theorem dd_Mo_committable_17 : decode cc_Mo_committable 17 = .ok (.iconst 0, 1) := by decide +kernel
theorem dd_Mo_committable_18 : decode cc_Mo_committable 18 = .ok (.istore 4, 2) := by decide +kernel
theorem dd_Mo_committable_20 : decode cc_Mo_committable 20 = .ok (.iload 4, 2) := by decide +kernel
theorem dd_Mo_committable_22 : decode cc_Mo_committable 22 = .ok (.iconst 4, 1) := by decide +kernel
theorem dd_Mo_committable_23 : decode cc_Mo_committable 23 = .ok (.if_icmp .ge 62, 3) := by decide +kernel
theorem dd_Mo_committable_26 : decode cc_Mo_committable 26 = .ok (.aload_n 0, 1) := by decide +kernel
theorem dd_Mo_committable_27 : decode cc_Mo_committable 27 = .ok (.getfield 77, 3) := by decide +kernel
theorem dd_Mo_committable_30 : decode cc_Mo_committable 30 = .ok (.bipush 60, 2) := by decide +kernel
theorem dd_Mo_committable_32 : decode cc_Mo_committable 32 = .ok (.iload_n 1, 1) := by decide +kernel
theorem dd_Mo_committable_33 : decode cc_Mo_committable 33 = .ok (.imul, 1) := by decide +kernel
theorem dd_Mo_committable_34 : decode cc_Mo_committable 34 = .ok (.iconst 4, 1) := by decide +kernel
theorem dd_Mo_committable_35 : decode cc_Mo_committable 35 = .ok (.iload_n 2, 1) := by decide +kernel
theorem dd_Mo_committable_36 : decode cc_Mo_committable 36 = .ok (.imul, 1) := by decide +kernel
theorem dd_Mo_committable_37 : decode cc_Mo_committable 37 = .ok (.iadd, 1) := by decide +kernel
theorem dd_Mo_committable_38 : decode cc_Mo_committable 38 = .ok (.iconst 4, 1) := by decide +kernel
theorem dd_Mo_committable_39 : decode cc_Mo_committable 39 = .ok (.iadd, 1) := by decide +kernel
theorem dd_Mo_committable_40 : decode cc_Mo_committable 40 = .ok (.iload 4, 2) := by decide +kernel
theorem dd_Mo_committable_42 : decode cc_Mo_committable 42 = .ok (.iadd, 1) := by decide +kernel
theorem dd_Mo_committable_43 : decode cc_Mo_committable 43 = .ok (.iaload, 1) := by decide +kernel
theorem dd_Mo_committable_44 : decode cc_Mo_committable 44 = .ok (.iconst 1, 1) := by decide +kernel
theorem dd_Mo_committable_45 : decode cc_Mo_committable 45 = .ok (.isub, 1) := by decide +kernel
theorem dd_Mo_committable_46 : decode cc_Mo_committable 46 = .ok (.istore 5, 2) := by decide +kernel
theorem dd_Mo_committable_48 : decode cc_Mo_committable 48 = .ok (.iload_n 3, 1) := by decide +kernel
theorem dd_Mo_committable_49 : decode cc_Mo_committable 49 = .ok (.iload 5, 2) := by decide +kernel
theorem dd_Mo_committable_51 : decode cc_Mo_committable 51 = .ok (.ifCond .lt 25, 3) := by decide +kernel
theorem dd_Mo_committable_54 : decode cc_Mo_committable 54 = .ok (.aload_n 0, 1) := by decide +kernel
theorem dd_Mo_committable_55 : decode cc_Mo_committable 55 = .ok (.getfield 32, 3) := by decide +kernel
theorem dd_Mo_committable_58 : decode cc_Mo_committable 58 = .ok (.iload 5, 2) := by decide +kernel
theorem dd_Mo_committable_60 : decode cc_Mo_committable 60 = .ok (.iaload, 1) := by decide +kernel
theorem dd_Mo_committable_61 : decode cc_Mo_committable 61 = .ok (.iload_n 2, 1) := by decide +kernel
theorem dd_Mo_committable_62 : decode cc_Mo_committable 62 = .ok (.invokestatic 159, 3) := by decide +kernel
theorem dd_Mo_committable_65 : decode cc_Mo_committable 65 = .ok (.ishr, 1) := by decide +kernel
theorem dd_Mo_committable_66 : decode cc_Mo_committable 66 = .ok (.iconst 1, 1) := by decide +kernel
theorem dd_Mo_committable_67 : decode cc_Mo_committable 67 = .ok (.iand, 1) := by decide +kernel
theorem dd_Mo_committable_68 : decode cc_Mo_committable 68 = .ok (.iconst 1, 1) := by decide +kernel
theorem dd_Mo_committable_69 : decode cc_Mo_committable 69 = .ok (.if_icmp .ne 7, 3) := by decide +kernel
theorem dd_Mo_committable_72 : decode cc_Mo_committable 72 = .ok (.iconst 1, 1) := by decide +kernel
theorem dd_Mo_committable_73 : decode cc_Mo_committable 73 = .ok (.goto 4, 3) := by decide +kernel
theorem dd_Mo_committable_76 : decode cc_Mo_committable 76 = .ok (.iconst 0, 1) := by decide +kernel
theorem dd_Mo_committable_77 : decode cc_Mo_committable 77 = .ok (.iadd, 1) := by decide +kernel
theorem dd_Mo_committable_78 : decode cc_Mo_committable 78 = .ok (.istore_n 3, 1) := by decide +kernel
theorem dd_Mo_committable_79 : decode cc_Mo_committable 79 = .ok (.iinc 4 1, 3) := by decide +kernel
theorem dd_Mo_committable_82 : decode cc_Mo_committable 82 = .ok (.goto (-62), 3) := by decide +kernel
theorem dd_Mo_committable_85 : decode cc_Mo_committable 85 = .ok (.aload_n 0, 1) := by decide +kernel
theorem dd_Mo_committable_86 : decode cc_Mo_committable 86 = .ok (.iload_n 1, 1) := by decide +kernel
theorem dd_Mo_committable_87 : decode cc_Mo_committable 87 = .ok (.iload_n 2, 1) := by decide +kernel
theorem dd_Mo_committable_88 : decode cc_Mo_committable 88 = .ok (.invokevirtual 162, 3) := by decide +kernel
theorem dd_Mo_committable_91 : decode cc_Mo_committable 91 = .ok (.ifCond .eq 10, 3) := by decide +kernel
theorem dd_Mo_committable_94 : decode cc_Mo_committable 94 = .ok (.iload_n 3, 1) := by decide +kernel
theorem dd_Mo_committable_95 : decode cc_Mo_committable 95 = .ok (.iconst 2, 1) := by decide +kernel
theorem dd_Mo_committable_96 : decode cc_Mo_committable 96 = .ok (.if_icmp .lt 5, 3) := by decide +kernel
theorem dd_Mo_committable_99 : decode cc_Mo_committable 99 = .ok (.iload_n 2, 1) := by decide +kernel
theorem dd_Mo_committable_100 : decode cc_Mo_committable 100 = .ok (.ireturn, 1) := by decide +kernel
theorem dd_Mo_committable_101 : decode cc_Mo_committable 101 = .ok (.iinc 2 2, 3) := by decide +kernel
theorem dd_Mo_committable_104 : decode cc_Mo_committable 104 = .ok (.goto (-95), 3) := by decide +kernel
theorem dd_Mo_committable_107 : decode cc_Mo_committable 107 = .ok (.iconst 0, 1) := by decide +kernel
theorem dd_Mo_committable_108 : decode cc_Mo_committable 108 = .ok (.ireturn, 1) := by decide +kernel
theorem dd_Mo_leader_0 : decode cc_Mo_leader 0 = .ok (.iload_n 0, 1) := by decide +kernel
theorem dd_Mo_leader_1 : decode cc_Mo_leader 1 = .ok (.iconst 2, 1) := by decide +kernel
theorem dd_Mo_leader_2 : decode cc_Mo_leader 2 = .ok (.idiv, 1) := by decide +kernel
theorem dd_Mo_leader_3 : decode cc_Mo_leader 3 = .ok (.iconst 4, 1) := by decide +kernel
theorem dd_Mo_leader_4 : decode cc_Mo_leader 4 = .ok (.irem, 1) := by decide +kernel
theorem dd_Mo_leader_5 : decode cc_Mo_leader 5 = .ok (.ireturn, 1) := by decide +kernel
theorem dd_Mo_hasLeader_0 : decode cc_Mo_hasLeader 0 = .ok (.aload_n 0, 1) := by decide +kernel
theorem dd_Mo_hasLeader_1 : decode cc_Mo_hasLeader 1 = .ok (.getfield 77, 3) := by decide +kernel
theorem dd_Mo_hasLeader_4 : decode cc_Mo_hasLeader 4 = .ok (.bipush 60, 2) := by decide +kernel
theorem dd_Mo_hasLeader_6 : decode cc_Mo_hasLeader 6 = .ok (.iload_n 1, 1) := by decide +kernel
theorem dd_Mo_hasLeader_7 : decode cc_Mo_hasLeader 7 = .ok (.imul, 1) := by decide +kernel
theorem dd_Mo_hasLeader_8 : decode cc_Mo_hasLeader 8 = .ok (.iconst 4, 1) := by decide +kernel
theorem dd_Mo_hasLeader_9 : decode cc_Mo_hasLeader 9 = .ok (.iload_n 2, 1) := by decide +kernel
theorem dd_Mo_hasLeader_10 : decode cc_Mo_hasLeader 10 = .ok (.imul, 1) := by decide +kernel
theorem dd_Mo_hasLeader_11 : decode cc_Mo_hasLeader 11 = .ok (.iadd, 1) := by decide +kernel
theorem dd_Mo_hasLeader_12 : decode cc_Mo_hasLeader 12 = .ok (.iload_n 2, 1) := by decide +kernel
theorem dd_Mo_hasLeader_13 : decode cc_Mo_hasLeader 13 = .ok (.invokestatic 159, 3) := by decide +kernel
theorem dd_Mo_hasLeader_16 : decode cc_Mo_hasLeader 16 = .ok (.iadd, 1) := by decide +kernel
theorem dd_Mo_hasLeader_17 : decode cc_Mo_hasLeader 17 = .ok (.iaload, 1) := by decide +kernel
theorem dd_Mo_hasLeader_18 : decode cc_Mo_hasLeader 18 = .ok (.ifCond .le 7, 3) := by decide +kernel
theorem dd_Mo_hasLeader_21 : decode cc_Mo_hasLeader 21 = .ok (.iconst 1, 1) := by decide +kernel
theorem dd_Mo_hasLeader_22 : decode cc_Mo_hasLeader 22 = .ok (.goto 4, 3) := by decide +kernel
theorem dd_Mo_hasLeader_25 : decode cc_Mo_hasLeader 25 = .ok (.iconst 0, 1) := by decide +kernel
theorem dd_Mo_hasLeader_26 : decode cc_Mo_hasLeader 26 = .ok (.ireturn, 1) := by decide +kernel
theorem dd_Mo_commit_0 : decode cc_Mo_commit 0 = .ok (.iconst 1, 1) := by decide +kernel
theorem dd_Mo_commit_1 : decode cc_Mo_commit 1 = .ok (.iload_n 2, 1) := by decide +kernel
theorem dd_Mo_commit_2 : decode cc_Mo_commit 2 = .ok (.ishl, 1) := by decide +kernel
theorem dd_Mo_commit_3 : decode cc_Mo_commit 3 = .ok (.istore_n 3, 1) := by decide +kernel
theorem dd_Mo_commit_4 : decode cc_Mo_commit 4 = .ok (.iload_n 2, 1) := by decide +kernel
theorem dd_Mo_commit_5 : decode cc_Mo_commit 5 = .ok (.istore 4, 2) := by decide +kernel
theorem dd_Mo_commit_7 : decode cc_Mo_commit 7 = .ok (.iload_n 2, 1) := by decide +kernel
theorem dd_Mo_commit_8 : decode cc_Mo_commit 8 = .ok (.iconst 2, 1) := by decide +kernel
theorem dd_Mo_commit_9 : decode cc_Mo_commit 9 = .ok (.isub, 1) := by decide +kernel
theorem dd_Mo_commit_10 : decode cc_Mo_commit 10 = .ok (.istore 5, 2) := by decide +kernel
theorem dd_Mo_commit_12 : decode cc_Mo_commit 12 = .ok (.iload 5, 2) := by decide +kernel
theorem dd_Mo_commit_14 : decode cc_Mo_commit 14 = .ok (.aload_n 0, 1) := by decide +kernel
theorem dd_Mo_commit_15 : decode cc_Mo_commit 15 = .ok (.getfield 74, 3) := by decide +kernel
theorem dd_Mo_commit_18 : decode cc_Mo_commit 18 = .ok (.iload_n 1, 1) := by decide +kernel
theorem dd_Mo_commit_19 : decode cc_Mo_commit 19 = .ok (.iaload, 1) := by decide +kernel
theorem dd_Mo_commit_20 : decode cc_Mo_commit 20 = .ok (.if_icmp .le 51, 3) := by decide +kernel
theorem dd_Mo_commit_23 : decode cc_Mo_commit 23 = .ok (.aload_n 0, 1) := by decide +kernel
theorem dd_Mo_commit_24 : decode cc_Mo_commit 24 = .ok (.iload_n 1, 1) := by decide +kernel
theorem dd_Mo_commit_25 : decode cc_Mo_commit 25 = .ok (.iload 4, 2) := by decide +kernel
theorem dd_Mo_commit_27 : decode cc_Mo_commit 27 = .ok (.iload 4, 2) := by decide +kernel
theorem dd_Mo_commit_29 : decode cc_Mo_commit 29 = .ok (.invokestatic 159, 3) := by decide +kernel
theorem dd_Mo_commit_32 : decode cc_Mo_commit 32 = .ok (.invokevirtual 166, 3) := by decide +kernel
theorem dd_Mo_commit_35 : decode cc_Mo_commit 35 = .ok (.aload_n 0, 1) := by decide +kernel
theorem dd_Mo_commit_36 : decode cc_Mo_commit 36 = .ok (.getfield 98, 3) := by decide +kernel
theorem dd_Mo_commit_39 : decode cc_Mo_commit 39 = .ok (.iload 5, 2) := by decide +kernel
theorem dd_Mo_commit_41 : decode cc_Mo_commit 41 = .ok (.iaload, 1) := by decide +kernel
theorem dd_Mo_commit_42 : decode cc_Mo_commit 42 = .ok (.iload 5, 2) := by decide +kernel
theorem dd_Mo_commit_44 : decode cc_Mo_commit 44 = .ok (.invokestatic 159, 3) := by decide +kernel
theorem dd_Mo_commit_47 : decode cc_Mo_commit 47 = .ok (.ishr, 1) := by decide +kernel
theorem dd_Mo_commit_48 : decode cc_Mo_commit 48 = .ok (.iconst 1, 1) := by decide +kernel
theorem dd_Mo_commit_49 : decode cc_Mo_commit 49 = .ok (.iand, 1) := by decide +kernel
theorem dd_Mo_commit_50 : decode cc_Mo_commit 50 = .ok (.iconst 1, 1) := by decide +kernel
theorem dd_Mo_commit_51 : decode cc_Mo_commit 51 = .ok (.if_icmp .ne 14, 3) := by decide +kernel
theorem dd_Mo_commit_54 : decode cc_Mo_commit 54 = .ok (.iload_n 3, 1) := by decide +kernel
theorem dd_Mo_commit_55 : decode cc_Mo_commit 55 = .ok (.iconst 1, 1) := by decide +kernel
theorem dd_Mo_commit_56 : decode cc_Mo_commit 56 = .ok (.iload 5, 2) := by decide +kernel
theorem dd_Mo_commit_58 : decode cc_Mo_commit 58 = .ok (.ishl, 1) := by decide +kernel
theorem dd_Mo_commit_59 : decode cc_Mo_commit 59 = .ok (.ior, 1) := by decide +kernel
theorem dd_Mo_commit_60 : decode cc_Mo_commit 60 = .ok (.istore_n 3, 1) := by decide +kernel
theorem dd_Mo_commit_61 : decode cc_Mo_commit 61 = .ok (.iload 5, 2) := by decide +kernel
theorem dd_Mo_commit_63 : decode cc_Mo_commit 63 = .ok (.istore 4, 2) := by decide +kernel
theorem dd_Mo_commit_65 : decode cc_Mo_commit 65 = .ok (.iinc 5 (-2), 3) := by decide +kernel
theorem dd_Mo_commit_68 : decode cc_Mo_commit 68 = .ok (.goto (-56), 3) := by decide +kernel
theorem dd_Mo_commit_71 : decode cc_Mo_commit 71 = .ok (.aload_n 0, 1) := by decide +kernel
theorem dd_Mo_commit_72 : decode cc_Mo_commit 72 = .ok (.getfield 74, 3) := by decide +kernel
theorem dd_Mo_commit_75 : decode cc_Mo_commit 75 = .ok (.iload_n 1, 1) := by decide +kernel
theorem dd_Mo_commit_76 : decode cc_Mo_commit 76 = .ok (.iaload, 1) := by decide +kernel
theorem dd_Mo_commit_77 : decode cc_Mo_commit 77 = .ok (.iconst 2, 1) := by decide +kernel
theorem dd_Mo_commit_78 : decode cc_Mo_commit 78 = .ok (.iadd, 1) := by decide +kernel
theorem dd_Mo_commit_79 : decode cc_Mo_commit 79 = .ok (.istore 5, 2) := by decide +kernel
theorem dd_Mo_commit_81 : decode cc_Mo_commit 81 = .ok (.iload 5, 2) := by decide +kernel
theorem dd_Mo_commit_83 : decode cc_Mo_commit 83 = .ok (.iload_n 2, 1) := by decide +kernel
theorem dd_Mo_commit_84 : decode cc_Mo_commit 84 = .ok (.if_icmp .gt 26, 3) := by decide +kernel
theorem dd_Mo_commit_87 : decode cc_Mo_commit 87 = .ok (.iload_n 3, 1) := by decide +kernel
theorem dd_Mo_commit_88 : decode cc_Mo_commit 88 = .ok (.iload 5, 2) := by decide +kernel
theorem dd_Mo_commit_90 : decode cc_Mo_commit 90 = .ok (.ishr, 1) := by decide +kernel
theorem dd_Mo_commit_91 : decode cc_Mo_commit 91 = .ok (.iconst 1, 1) := by decide +kernel
theorem dd_Mo_commit_92 : decode cc_Mo_commit 92 = .ok (.iand, 1) := by decide +kernel
theorem dd_Mo_commit_93 : decode cc_Mo_commit 93 = .ok (.iconst 1, 1) := by decide +kernel
theorem dd_Mo_commit_94 : decode cc_Mo_commit 94 = .ok (.if_icmp .ne 10, 3) := by decide +kernel
theorem dd_Mo_commit_97 : decode cc_Mo_commit 97 = .ok (.aload_n 0, 1) := by decide +kernel
theorem dd_Mo_commit_98 : decode cc_Mo_commit 98 = .ok (.iload_n 1, 1) := by decide +kernel
theorem dd_Mo_commit_99 : decode cc_Mo_commit 99 = .ok (.iload 5, 2) := by decide +kernel
theorem dd_Mo_commit_101 : decode cc_Mo_commit 101 = .ok (.invokevirtual 170, 3) := by decide +kernel
theorem dd_Mo_commit_104 : decode cc_Mo_commit 104 = .ok (.iinc 5 2, 3) := by decide +kernel
theorem dd_Mo_commit_107 : decode cc_Mo_commit 107 = .ok (.goto (-26), 3) := by decide +kernel
theorem dd_Mo_commit_110 : decode cc_Mo_commit 110 = .ok (.aload_n 0, 1) := by decide +kernel
theorem dd_Mo_commit_111 : decode cc_Mo_commit 111 = .ok (.getfield 74, 3) := by decide +kernel
theorem dd_Mo_commit_114 : decode cc_Mo_commit 114 = .ok (.iload_n 1, 1) := by decide +kernel
theorem dd_Mo_commit_115 : decode cc_Mo_commit 115 = .ok (.iload_n 2, 1) := by decide +kernel
theorem dd_Mo_commit_116 : decode cc_Mo_commit 116 = .ok (.iastore, 1) := by decide +kernel
theorem dd_Mo_commit_117 : decode cc_Mo_commit 117 = .ok (.return_, 1) := by decide +kernel
theorem dd_Mo_spread_0 : decode cc_Mo_spread 0 = .ok (.iconst 0, 1) := by decide +kernel
theorem dd_Mo_spread_1 : decode cc_Mo_spread 1 = .ok (.istore 4, 2) := by decide +kernel
theorem dd_Mo_spread_3 : decode cc_Mo_spread 3 = .ok (.iload 4, 2) := by decide +kernel
theorem dd_Mo_spread_5 : decode cc_Mo_spread 5 = .ok (.bipush 16, 2) := by decide +kernel
theorem dd_Mo_spread_7 : decode cc_Mo_spread 7 = .ok (.if_icmp .ge 17, 3) := by decide +kernel
theorem dd_Mo_spread_10 : decode cc_Mo_spread 10 = .ok (.aload_n 0, 1) := by decide +kernel
theorem dd_Mo_spread_11 : decode cc_Mo_spread 11 = .ok (.getfield 98, 3) := by decide +kernel
theorem dd_Mo_spread_14 : decode cc_Mo_spread 14 = .ok (.iload 4, 2) := by decide +kernel
theorem dd_Mo_spread_16 : decode cc_Mo_spread 16 = .ok (.iconst 0, 1) := by decide +kernel
theorem dd_Mo_spread_17 : decode cc_Mo_spread 17 = .ok (.iastore, 1) := by decide +kernel
theorem dd_Mo_spread_18 : decode cc_Mo_spread 18 = .ok (.iinc 4 1, 3) := by decide +kernel
theorem dd_Mo_spread_21 : decode cc_Mo_spread 21 = .ok (.goto (-18), 3) := by decide +kernel
theorem dd_Mo_spread_24 : decode cc_Mo_spread 24 = .ok (.aload_n 0, 1) := by decide +kernel
theorem dd_Mo_spread_25 : decode cc_Mo_spread 25 = .ok (.getfield 98, 3) := by decide +kernel
theorem dd_Mo_spread_28 : decode cc_Mo_spread 28 = .ok (.iload_n 2, 1) := by decide +kernel
theorem dd_Mo_spread_29 : decode cc_Mo_spread 29 = .ok (.iconst 1, 1) := by decide +kernel
theorem dd_Mo_spread_30 : decode cc_Mo_spread 30 = .ok (.iload_n 3, 1) := by decide +kernel
theorem dd_Mo_spread_31 : decode cc_Mo_spread 31 = .ok (.ishl, 1) := by decide +kernel
theorem dd_Mo_spread_32 : decode cc_Mo_spread 32 = .ok (.iastore, 1) := by decide +kernel
theorem dd_Mo_spread_33 : decode cc_Mo_spread 33 = .ok (.iload_n 2, 1) := by decide +kernel
theorem dd_Mo_spread_34 : decode cc_Mo_spread 34 = .ok (.istore 4, 2) := by decide +kernel
theorem dd_Mo_spread_36 : decode cc_Mo_spread 36 = .ok (.iload 4, 2) := by decide +kernel
theorem dd_Mo_spread_38 : decode cc_Mo_spread 38 = .ok (.iconst 1, 1) := by decide +kernel
theorem dd_Mo_spread_39 : decode cc_Mo_spread 39 = .ok (.if_icmp .le 76, 3) := by decide +kernel
theorem dd_Mo_spread_42 : decode cc_Mo_spread 42 = .ok (.iconst 0, 1) := by decide +kernel
theorem dd_Mo_spread_43 : decode cc_Mo_spread 43 = .ok (.istore 5, 2) := by decide +kernel
theorem dd_Mo_spread_45 : decode cc_Mo_spread 45 = .ok (.iload 5, 2) := by decide +kernel
theorem dd_Mo_spread_47 : decode cc_Mo_spread 47 = .ok (.iconst 4, 1) := by decide +kernel
theorem dd_Mo_spread_48 : decode cc_Mo_spread 48 = .ok (.if_icmp .ge 61, 3) := by decide +kernel
theorem dd_Mo_spread_51 : decode cc_Mo_spread 51 = .ok (.aload_n 0, 1) := by decide +kernel
theorem dd_Mo_spread_52 : decode cc_Mo_spread 52 = .ok (.getfield 98, 3) := by decide +kernel
theorem dd_Mo_spread_55 : decode cc_Mo_spread 55 = .ok (.iload 4, 2) := by decide +kernel
theorem dd_Mo_spread_57 : decode cc_Mo_spread 57 = .ok (.iaload, 1) := by decide +kernel
theorem dd_Mo_spread_58 : decode cc_Mo_spread 58 = .ok (.iload 5, 2) := by decide +kernel
theorem dd_Mo_spread_60 : decode cc_Mo_spread 60 = .ok (.ishr, 1) := by decide +kernel
theorem dd_Mo_spread_61 : decode cc_Mo_spread 61 = .ok (.iconst 1, 1) := by decide +kernel
theorem dd_Mo_spread_62 : decode cc_Mo_spread 62 = .ok (.iand, 1) := by decide +kernel
theorem dd_Mo_spread_63 : decode cc_Mo_spread 63 = .ok (.iconst 1, 1) := by decide +kernel
theorem dd_Mo_spread_64 : decode cc_Mo_spread 64 = .ok (.if_icmp .ne 39, 3) := by decide +kernel
theorem dd_Mo_spread_67 : decode cc_Mo_spread 67 = .ok (.aload_n 0, 1) := by decide +kernel
theorem dd_Mo_spread_68 : decode cc_Mo_spread 68 = .ok (.getfield 98, 3) := by decide +kernel
theorem dd_Mo_spread_71 : decode cc_Mo_spread 71 = .ok (.iload 4, 2) := by decide +kernel
theorem dd_Mo_spread_73 : decode cc_Mo_spread 73 = .ok (.iconst 1, 1) := by decide +kernel
theorem dd_Mo_spread_74 : decode cc_Mo_spread 74 = .ok (.isub, 1) := by decide +kernel
theorem dd_Mo_spread_75 : decode cc_Mo_spread 75 = .ok (.dup2, 1) := by decide +kernel
theorem dd_Mo_spread_76 : decode cc_Mo_spread 76 = .ok (.iaload, 1) := by decide +kernel
theorem dd_Mo_spread_77 : decode cc_Mo_spread 77 = .ok (.aload_n 0, 1) := by decide +kernel
theorem dd_Mo_spread_78 : decode cc_Mo_spread 78 = .ok (.getfield 32, 3) := by decide +kernel
theorem dd_Mo_spread_81 : decode cc_Mo_spread 81 = .ok (.aload_n 0, 1) := by decide +kernel
theorem dd_Mo_spread_82 : decode cc_Mo_spread 82 = .ok (.getfield 77, 3) := by decide +kernel
theorem dd_Mo_spread_85 : decode cc_Mo_spread 85 = .ok (.bipush 60, 2) := by decide +kernel
theorem dd_Mo_spread_87 : decode cc_Mo_spread 87 = .ok (.iload_n 1, 1) := by decide +kernel
theorem dd_Mo_spread_88 : decode cc_Mo_spread 88 = .ok (.imul, 1) := by decide +kernel
theorem dd_Mo_spread_89 : decode cc_Mo_spread 89 = .ok (.iconst 4, 1) := by decide +kernel
theorem dd_Mo_spread_90 : decode cc_Mo_spread 90 = .ok (.iload 4, 2) := by decide +kernel
theorem dd_Mo_spread_92 : decode cc_Mo_spread 92 = .ok (.imul, 1) := by decide +kernel
theorem dd_Mo_spread_93 : decode cc_Mo_spread 93 = .ok (.iadd, 1) := by decide +kernel
theorem dd_Mo_spread_94 : decode cc_Mo_spread 94 = .ok (.iload 5, 2) := by decide +kernel
theorem dd_Mo_spread_96 : decode cc_Mo_spread 96 = .ok (.iadd, 1) := by decide +kernel
theorem dd_Mo_spread_97 : decode cc_Mo_spread 97 = .ok (.iaload, 1) := by decide +kernel
theorem dd_Mo_spread_98 : decode cc_Mo_spread 98 = .ok (.iconst 1, 1) := by decide +kernel
theorem dd_Mo_spread_99 : decode cc_Mo_spread 99 = .ok (.isub, 1) := by decide +kernel
theorem dd_Mo_spread_100 : decode cc_Mo_spread 100 = .ok (.iaload, 1) := by decide +kernel
theorem dd_Mo_spread_101 : decode cc_Mo_spread 101 = .ok (.ior, 1) := by decide +kernel
theorem dd_Mo_spread_102 : decode cc_Mo_spread 102 = .ok (.iastore, 1) := by decide +kernel
theorem dd_Mo_spread_103 : decode cc_Mo_spread 103 = .ok (.iinc 5 1, 3) := by decide +kernel
theorem dd_Mo_spread_106 : decode cc_Mo_spread 106 = .ok (.goto (-61), 3) := by decide +kernel
theorem dd_Mo_spread_109 : decode cc_Mo_spread 109 = .ok (.iinc 4 (-1), 3) := by decide +kernel
theorem dd_Mo_spread_112 : decode cc_Mo_spread 112 = .ok (.goto (-76), 3) := by decide +kernel
theorem dd_Mo_spread_115 : decode cc_Mo_spread 115 = .ok (.return_, 1) := by decide +kernel
theorem dd_Mo_emit_0 : decode cc_Mo_emit 0 = .ok (.aload_n 0, 1) := by decide +kernel
theorem dd_Mo_emit_1 : decode cc_Mo_emit 1 = .ok (.iload_n 1, 1) := by decide +kernel
theorem dd_Mo_emit_2 : decode cc_Mo_emit 2 = .ok (.iload_n 2, 1) := by decide +kernel
theorem dd_Mo_emit_3 : decode cc_Mo_emit 3 = .ok (.iload_n 2, 1) := by decide +kernel
theorem dd_Mo_emit_4 : decode cc_Mo_emit 4 = .ok (.invokestatic 159, 3) := by decide +kernel
theorem dd_Mo_emit_7 : decode cc_Mo_emit 7 = .ok (.invokevirtual 166, 3) := by decide +kernel
theorem dd_Mo_emit_10 : decode cc_Mo_emit 10 = .ok (.iconst 1, 1) := by decide +kernel
theorem dd_Mo_emit_11 : decode cc_Mo_emit 11 = .ok (.istore_n 3, 1) := by decide +kernel
theorem dd_Mo_emit_12 : decode cc_Mo_emit 12 = .ok (.iload_n 3, 1) := by decide +kernel
theorem dd_Mo_emit_13 : decode cc_Mo_emit 13 = .ok (.iload_n 2, 1) := by decide +kernel
theorem dd_Mo_emit_14 : decode cc_Mo_emit 14 = .ok (.if_icmp .gt 111, 3) := by decide +kernel
theorem dd_Mo_emit_17 : decode cc_Mo_emit 17 = .ok (.iconst 0, 1) := by decide +kernel
theorem dd_Mo_emit_18 : decode cc_Mo_emit 18 = .ok (.istore 4, 2) := by decide +kernel
theorem dd_Mo_emit_20 : decode cc_Mo_emit 20 = .ok (.iload 4, 2) := by decide +kernel
theorem dd_Mo_emit_22 : decode cc_Mo_emit 22 = .ok (.iconst 4, 1) := by decide +kernel
theorem dd_Mo_emit_23 : decode cc_Mo_emit 23 = .ok (.if_icmp .ge 96, 3) := by decide +kernel
theorem dd_Mo_emit_26 : decode cc_Mo_emit 26 = .ok (.aload_n 0, 1) := by decide +kernel
theorem dd_Mo_emit_27 : decode cc_Mo_emit 27 = .ok (.getfield 77, 3) := by decide +kernel
theorem dd_Mo_emit_30 : decode cc_Mo_emit 30 = .ok (.bipush 60, 2) := by decide +kernel
theorem dd_Mo_emit_32 : decode cc_Mo_emit 32 = .ok (.iload_n 1, 1) := by decide +kernel
theorem dd_Mo_emit_33 : decode cc_Mo_emit 33 = .ok (.imul, 1) := by decide +kernel
theorem dd_Mo_emit_34 : decode cc_Mo_emit 34 = .ok (.iconst 4, 1) := by decide +kernel
theorem dd_Mo_emit_35 : decode cc_Mo_emit 35 = .ok (.iload_n 3, 1) := by decide +kernel
theorem dd_Mo_emit_36 : decode cc_Mo_emit 36 = .ok (.imul, 1) := by decide +kernel
theorem dd_Mo_emit_37 : decode cc_Mo_emit 37 = .ok (.iadd, 1) := by decide +kernel
theorem dd_Mo_emit_38 : decode cc_Mo_emit 38 = .ok (.iload 4, 2) := by decide +kernel
theorem dd_Mo_emit_40 : decode cc_Mo_emit 40 = .ok (.iadd, 1) := by decide +kernel
theorem dd_Mo_emit_41 : decode cc_Mo_emit 41 = .ok (.iaload, 1) := by decide +kernel
theorem dd_Mo_emit_42 : decode cc_Mo_emit 42 = .ok (.iconst 1, 1) := by decide +kernel
theorem dd_Mo_emit_43 : decode cc_Mo_emit 43 = .ok (.isub, 1) := by decide +kernel
theorem dd_Mo_emit_44 : decode cc_Mo_emit 44 = .ok (.istore 5, 2) := by decide +kernel
theorem dd_Mo_emit_46 : decode cc_Mo_emit 46 = .ok (.aload_n 0, 1) := by decide +kernel
theorem dd_Mo_emit_47 : decode cc_Mo_emit 47 = .ok (.getfield 98, 3) := by decide +kernel
theorem dd_Mo_emit_50 : decode cc_Mo_emit 50 = .ok (.iload_n 3, 1) := by decide +kernel
theorem dd_Mo_emit_51 : decode cc_Mo_emit 51 = .ok (.iaload, 1) := by decide +kernel
theorem dd_Mo_emit_52 : decode cc_Mo_emit 52 = .ok (.iload 4, 2) := by decide +kernel
theorem dd_Mo_emit_54 : decode cc_Mo_emit 54 = .ok (.ishr, 1) := by decide +kernel
theorem dd_Mo_emit_55 : decode cc_Mo_emit 55 = .ok (.iconst 1, 1) := by decide +kernel
theorem dd_Mo_emit_56 : decode cc_Mo_emit 56 = .ok (.iand, 1) := by decide +kernel
theorem dd_Mo_emit_57 : decode cc_Mo_emit 57 = .ok (.iconst 1, 1) := by decide +kernel
theorem dd_Mo_emit_58 : decode cc_Mo_emit 58 = .ok (.if_icmp .ne 55, 3) := by decide +kernel
theorem dd_Mo_emit_61 : decode cc_Mo_emit 61 = .ok (.aload_n 0, 1) := by decide +kernel
theorem dd_Mo_emit_62 : decode cc_Mo_emit 62 = .ok (.getfield 86, 3) := by decide +kernel
theorem dd_Mo_emit_65 : decode cc_Mo_emit 65 = .ok (.bipush 90, 2) := by decide +kernel
theorem dd_Mo_emit_67 : decode cc_Mo_emit 67 = .ok (.iload_n 1, 1) := by decide +kernel
theorem dd_Mo_emit_68 : decode cc_Mo_emit 68 = .ok (.imul, 1) := by decide +kernel
theorem dd_Mo_emit_69 : decode cc_Mo_emit 69 = .ok (.iload 5, 2) := by decide +kernel
theorem dd_Mo_emit_71 : decode cc_Mo_emit 71 = .ok (.iadd, 1) := by decide +kernel
theorem dd_Mo_emit_72 : decode cc_Mo_emit 72 = .ok (.baload, 1) := by decide +kernel
theorem dd_Mo_emit_73 : decode cc_Mo_emit 73 = .ok (.ifCond .ne 40, 3) := by decide +kernel
theorem dd_Mo_emit_76 : decode cc_Mo_emit 76 = .ok (.aload_n 0, 1) := by decide +kernel
theorem dd_Mo_emit_77 : decode cc_Mo_emit 77 = .ok (.getfield 86, 3) := by decide +kernel
theorem dd_Mo_emit_80 : decode cc_Mo_emit 80 = .ok (.bipush 90, 2) := by decide +kernel
theorem dd_Mo_emit_82 : decode cc_Mo_emit 82 = .ok (.iload_n 1, 1) := by decide +kernel
theorem dd_Mo_emit_83 : decode cc_Mo_emit 83 = .ok (.imul, 1) := by decide +kernel
theorem dd_Mo_emit_84 : decode cc_Mo_emit 84 = .ok (.iload 5, 2) := by decide +kernel
theorem dd_Mo_emit_86 : decode cc_Mo_emit 86 = .ok (.iadd, 1) := by decide +kernel
theorem dd_Mo_emit_87 : decode cc_Mo_emit 87 = .ok (.iconst 1, 1) := by decide +kernel
theorem dd_Mo_emit_88 : decode cc_Mo_emit 88 = .ok (.bastore, 1) := by decide +kernel
theorem dd_Mo_emit_89 : decode cc_Mo_emit 89 = .ok (.aload_n 0, 1) := by decide +kernel
theorem dd_Mo_emit_90 : decode cc_Mo_emit 90 = .ok (.iload_n 1, 1) := by decide +kernel
theorem dd_Mo_emit_91 : decode cc_Mo_emit 91 = .ok (.aload_n 0, 1) := by decide +kernel
theorem dd_Mo_emit_92 : decode cc_Mo_emit 92 = .ok (.getfield 35, 3) := by decide +kernel
theorem dd_Mo_emit_95 : decode cc_Mo_emit 95 = .ok (.iload 5, 2) := by decide +kernel
theorem dd_Mo_emit_97 : decode cc_Mo_emit 97 = .ok (.iaload, 1) := by decide +kernel
theorem dd_Mo_emit_98 : decode cc_Mo_emit 98 = .ok (.invokevirtual 173, 3) := by decide +kernel
theorem dd_Mo_emit_101 : decode cc_Mo_emit 101 = .ok (.aload_n 0, 1) := by decide +kernel
theorem dd_Mo_emit_102 : decode cc_Mo_emit 102 = .ok (.iload_n 1, 1) := by decide +kernel
theorem dd_Mo_emit_103 : decode cc_Mo_emit 103 = .ok (.aload_n 0, 1) := by decide +kernel
theorem dd_Mo_emit_104 : decode cc_Mo_emit 104 = .ok (.getfield 38, 3) := by decide +kernel
theorem dd_Mo_emit_107 : decode cc_Mo_emit 107 = .ok (.iload 5, 2) := by decide +kernel
theorem dd_Mo_emit_109 : decode cc_Mo_emit 109 = .ok (.iaload, 1) := by decide +kernel
theorem dd_Mo_emit_110 : decode cc_Mo_emit 110 = .ok (.invokevirtual 173, 3) := by decide +kernel
theorem dd_Mo_emit_113 : decode cc_Mo_emit 113 = .ok (.iinc 4 1, 3) := by decide +kernel
theorem dd_Mo_emit_116 : decode cc_Mo_emit 116 = .ok (.goto (-96), 3) := by decide +kernel
theorem dd_Mo_emit_119 : decode cc_Mo_emit 119 = .ok (.iinc 3 1, 3) := by decide +kernel
theorem dd_Mo_emit_122 : decode cc_Mo_emit 122 = .ok (.goto (-110), 3) := by decide +kernel
theorem dd_Mo_emit_125 : decode cc_Mo_emit 125 = .ok (.return_, 1) := by decide +kernel
theorem dd_Mo_place_0 : decode cc_Mo_place 0 = .ok (.iload_n 2, 1) := by decide +kernel
theorem dd_Mo_place_1 : decode cc_Mo_place 1 = .ok (.ifCond .ge 7, 3) := by decide +kernel
theorem dd_Mo_place_4 : decode cc_Mo_place 4 = .ok (.iconst 1, 1) := by decide +kernel
theorem dd_Mo_place_5 : decode cc_Mo_place 5 = .ok (.goto 4, 3) := by decide +kernel
theorem dd_Mo_place_8 : decode cc_Mo_place 8 = .ok (.iconst 0, 1) := by decide +kernel
theorem dd_Mo_place_9 : decode cc_Mo_place 9 = .ok (.istore_n 3, 1) := by decide +kernel
theorem dd_Mo_place_10 : decode cc_Mo_place 10 = .ok (.iconst 0, 1) := by decide +kernel
theorem dd_Mo_place_11 : decode cc_Mo_place 11 = .ok (.istore 4, 2) := by decide +kernel
theorem dd_Mo_place_13 : decode cc_Mo_place 13 = .ok (.iload 4, 2) := by decide +kernel
theorem dd_Mo_place_15 : decode cc_Mo_place 15 = .ok (.aload_n 0, 1) := by decide +kernel
theorem dd_Mo_place_16 : decode cc_Mo_place 16 = .ok (.getfield 92, 3) := by decide +kernel
theorem dd_Mo_place_19 : decode cc_Mo_place 19 = .ok (.iload_n 1, 1) := by decide +kernel
theorem dd_Mo_place_20 : decode cc_Mo_place 20 = .ok (.iaload, 1) := by decide +kernel
theorem dd_Mo_place_21 : decode cc_Mo_place 21 = .ok (.if_icmp .ge 35, 3) := by decide +kernel
theorem dd_Mo_place_24 : decode cc_Mo_place 24 = .ok (.iload_n 3, 1) := by decide +kernel
theorem dd_Mo_place_25 : decode cc_Mo_place 25 = .ok (.ifCond .ne 19, 3) := by decide +kernel
theorem dd_Mo_place_28 : decode cc_Mo_place 28 = .ok (.aload_n 0, 1) := by decide +kernel
theorem dd_Mo_place_29 : decode cc_Mo_place 29 = .ok (.getfield 89, 3) := by decide +kernel
theorem dd_Mo_place_32 : decode cc_Mo_place 32 = .ok (.bipush 40, 2) := by decide +kernel
theorem dd_Mo_place_34 : decode cc_Mo_place 34 = .ok (.iload_n 1, 1) := by decide +kernel
theorem dd_Mo_place_35 : decode cc_Mo_place 35 = .ok (.imul, 1) := by decide +kernel
theorem dd_Mo_place_36 : decode cc_Mo_place 36 = .ok (.iload 4, 2) := by decide +kernel
theorem dd_Mo_place_38 : decode cc_Mo_place 38 = .ok (.iadd, 1) := by decide +kernel
theorem dd_Mo_place_39 : decode cc_Mo_place 39 = .ok (.iaload, 1) := by decide +kernel
theorem dd_Mo_place_40 : decode cc_Mo_place 40 = .ok (.iload_n 2, 1) := by decide +kernel
theorem dd_Mo_place_41 : decode cc_Mo_place 41 = .ok (.if_icmp .ne 7, 3) := by decide +kernel
theorem dd_Mo_place_44 : decode cc_Mo_place 44 = .ok (.iconst 1, 1) := by decide +kernel
theorem dd_Mo_place_45 : decode cc_Mo_place 45 = .ok (.goto 4, 3) := by decide +kernel
theorem dd_Mo_place_48 : decode cc_Mo_place 48 = .ok (.iconst 0, 1) := by decide +kernel
theorem dd_Mo_place_49 : decode cc_Mo_place 49 = .ok (.istore_n 3, 1) := by decide +kernel
theorem dd_Mo_place_50 : decode cc_Mo_place 50 = .ok (.iinc 4 1, 3) := by decide +kernel
theorem dd_Mo_place_53 : decode cc_Mo_place 53 = .ok (.goto (-40), 3) := by decide +kernel
theorem dd_Mo_place_56 : decode cc_Mo_place 56 = .ok (.iload_n 3, 1) := by decide +kernel
theorem dd_Mo_place_57 : decode cc_Mo_place 57 = .ok (.ifCond .eq 4, 3) := by decide +kernel
theorem dd_Mo_place_60 : decode cc_Mo_place 60 = .ok (.return_, 1) := by decide +kernel
theorem dd_Mo_place_61 : decode cc_Mo_place 61 = .ok (.aload_n 0, 1) := by decide +kernel
theorem dd_Mo_place_62 : decode cc_Mo_place 62 = .ok (.getfield 89, 3) := by decide +kernel
theorem dd_Mo_place_65 : decode cc_Mo_place 65 = .ok (.bipush 40, 2) := by decide +kernel
theorem dd_Mo_place_67 : decode cc_Mo_place 67 = .ok (.iload_n 1, 1) := by decide +kernel
theorem dd_Mo_place_68 : decode cc_Mo_place 68 = .ok (.imul, 1) := by decide +kernel
theorem dd_Mo_place_69 : decode cc_Mo_place 69 = .ok (.aload_n 0, 1) := by decide +kernel
theorem dd_Mo_place_70 : decode cc_Mo_place 70 = .ok (.getfield 92, 3) := by decide +kernel
theorem dd_Mo_place_73 : decode cc_Mo_place 73 = .ok (.iload_n 1, 1) := by decide +kernel
theorem dd_Mo_place_74 : decode cc_Mo_place 74 = .ok (.iaload, 1) := by decide +kernel
theorem dd_Mo_place_75 : decode cc_Mo_place 75 = .ok (.iadd, 1) := by decide +kernel
theorem dd_Mo_place_76 : decode cc_Mo_place 76 = .ok (.iload_n 2, 1) := by decide +kernel
theorem dd_Mo_place_77 : decode cc_Mo_place 77 = .ok (.iastore, 1) := by decide +kernel
theorem dd_Mo_place_78 : decode cc_Mo_place 78 = .ok (.aload_n 0, 1) := by decide +kernel
theorem dd_Mo_place_79 : decode cc_Mo_place 79 = .ok (.getfield 92, 3) := by decide +kernel
theorem dd_Mo_place_82 : decode cc_Mo_place 82 = .ok (.iload_n 1, 1) := by decide +kernel
theorem dd_Mo_place_83 : decode cc_Mo_place 83 = .ok (.dup2, 1) := by decide +kernel
theorem dd_Mo_place_84 : decode cc_Mo_place 84 = .ok (.iaload, 1) := by decide +kernel
theorem dd_Mo_place_85 : decode cc_Mo_place 85 = .ok (.iconst 1, 1) := by decide +kernel
theorem dd_Mo_place_86 : decode cc_Mo_place 86 = .ok (.iadd, 1) := by decide +kernel
theorem dd_Mo_place_87 : decode cc_Mo_place 87 = .ok (.iastore, 1) := by decide +kernel
theorem dd_Mo_place_88 : decode cc_Mo_place 88 = .ok (.aload_n 0, 1) := by decide +kernel
theorem dd_Mo_place_89 : decode cc_Mo_place 89 = .ok (.getfield 95, 3) := by decide +kernel
theorem dd_Mo_place_92 : decode cc_Mo_place 92 = .ok (.iconst 4, 1) := by decide +kernel
theorem dd_Mo_place_93 : decode cc_Mo_place 93 = .ok (.iload_n 1, 1) := by decide +kernel
theorem dd_Mo_place_94 : decode cc_Mo_place 94 = .ok (.imul, 1) := by decide +kernel
theorem dd_Mo_place_95 : decode cc_Mo_place 95 = .ok (.aload_n 0, 1) := by decide +kernel
theorem dd_Mo_place_96 : decode cc_Mo_place 96 = .ok (.getfield 7, 3) := by decide +kernel
theorem dd_Mo_place_99 : decode cc_Mo_place 99 = .ok (.iload_n 2, 1) := by decide +kernel
theorem dd_Mo_place_100 : decode cc_Mo_place 100 = .ok (.iaload, 1) := by decide +kernel
theorem dd_Mo_place_101 : decode cc_Mo_place 101 = .ok (.iadd, 1) := by decide +kernel
theorem dd_Mo_place_102 : decode cc_Mo_place 102 = .ok (.iaload, 1) := by decide +kernel
theorem dd_Mo_place_103 : decode cc_Mo_place 103 = .ok (.aload_n 0, 1) := by decide +kernel
theorem dd_Mo_place_104 : decode cc_Mo_place 104 = .ok (.getfield 16, 3) := by decide +kernel
theorem dd_Mo_place_107 : decode cc_Mo_place 107 = .ok (.iload_n 2, 1) := by decide +kernel
theorem dd_Mo_place_108 : decode cc_Mo_place 108 = .ok (.iaload, 1) := by decide +kernel
theorem dd_Mo_place_109 : decode cc_Mo_place 109 = .ok (.if_icmp .lt 51, 3) := by decide +kernel
theorem dd_Mo_place_112 : decode cc_Mo_place 112 = .ok (.aload_n 0, 1) := by decide +kernel
theorem dd_Mo_place_113 : decode cc_Mo_place 113 = .ok (.getfield 95, 3) := by decide +kernel
theorem dd_Mo_place_116 : decode cc_Mo_place 116 = .ok (.iconst 4, 1) := by decide +kernel
theorem dd_Mo_place_117 : decode cc_Mo_place 117 = .ok (.iload_n 1, 1) := by decide +kernel
theorem dd_Mo_place_118 : decode cc_Mo_place 118 = .ok (.imul, 1) := by decide +kernel
theorem dd_Mo_place_119 : decode cc_Mo_place 119 = .ok (.aload_n 0, 1) := by decide +kernel
theorem dd_Mo_place_120 : decode cc_Mo_place 120 = .ok (.getfield 7, 3) := by decide +kernel
theorem dd_Mo_place_123 : decode cc_Mo_place 123 = .ok (.iload_n 2, 1) := by decide +kernel
theorem dd_Mo_place_124 : decode cc_Mo_place 124 = .ok (.iaload, 1) := by decide +kernel
theorem dd_Mo_place_125 : decode cc_Mo_place 125 = .ok (.iadd, 1) := by decide +kernel
theorem dd_Mo_place_126 : decode cc_Mo_place 126 = .ok (.dup2, 1) := by decide +kernel
theorem dd_Mo_place_127 : decode cc_Mo_place 127 = .ok (.iaload, 1) := by decide +kernel
theorem dd_Mo_place_128 : decode cc_Mo_place 128 = .ok (.aload_n 0, 1) := by decide +kernel
theorem dd_Mo_place_129 : decode cc_Mo_place 129 = .ok (.getfield 16, 3) := by decide +kernel
theorem dd_Mo_place_132 : decode cc_Mo_place 132 = .ok (.iload_n 2, 1) := by decide +kernel
theorem dd_Mo_place_133 : decode cc_Mo_place 133 = .ok (.iaload, 1) := by decide +kernel
theorem dd_Mo_place_134 : decode cc_Mo_place 134 = .ok (.isub, 1) := by decide +kernel
theorem dd_Mo_place_135 : decode cc_Mo_place 135 = .ok (.iastore, 1) := by decide +kernel
theorem dd_Mo_place_136 : decode cc_Mo_place 136 = .ok (.aload_n 0, 1) := by decide +kernel
theorem dd_Mo_place_137 : decode cc_Mo_place 137 = .ok (.getfield 95, 3) := by decide +kernel
theorem dd_Mo_place_140 : decode cc_Mo_place 140 = .ok (.iconst 4, 1) := by decide +kernel
theorem dd_Mo_place_141 : decode cc_Mo_place 141 = .ok (.iload_n 1, 1) := by decide +kernel
theorem dd_Mo_place_142 : decode cc_Mo_place 142 = .ok (.imul, 1) := by decide +kernel
theorem dd_Mo_place_143 : decode cc_Mo_place 143 = .ok (.aload_n 0, 1) := by decide +kernel
theorem dd_Mo_place_144 : decode cc_Mo_place 144 = .ok (.getfield 13, 3) := by decide +kernel
theorem dd_Mo_place_147 : decode cc_Mo_place 147 = .ok (.iload_n 2, 1) := by decide +kernel
theorem dd_Mo_place_148 : decode cc_Mo_place 148 = .ok (.iaload, 1) := by decide +kernel
theorem dd_Mo_place_149 : decode cc_Mo_place 149 = .ok (.iadd, 1) := by decide +kernel
theorem dd_Mo_place_150 : decode cc_Mo_place 150 = .ok (.dup2, 1) := by decide +kernel
theorem dd_Mo_place_151 : decode cc_Mo_place 151 = .ok (.iaload, 1) := by decide +kernel
theorem dd_Mo_place_152 : decode cc_Mo_place 152 = .ok (.aload_n 0, 1) := by decide +kernel
theorem dd_Mo_place_153 : decode cc_Mo_place 153 = .ok (.getfield 16, 3) := by decide +kernel
theorem dd_Mo_place_156 : decode cc_Mo_place 156 = .ok (.iload_n 2, 1) := by decide +kernel
theorem dd_Mo_place_157 : decode cc_Mo_place 157 = .ok (.iaload, 1) := by decide +kernel
theorem dd_Mo_place_158 : decode cc_Mo_place 158 = .ok (.iadd, 1) := by decide +kernel
theorem dd_Mo_place_159 : decode cc_Mo_place 159 = .ok (.iastore, 1) := by decide +kernel
theorem dd_Mo_place_160 : decode cc_Mo_place 160 = .ok (.return_, 1) := by decide +kernel
theorem dd_Mo_advances_0 : decode cc_Mo_advances 0 = .ok (.aload_n 0, 1) := by decide +kernel
theorem dd_Mo_advances_1 : decode cc_Mo_advances 1 = .ok (.getfield 59, 3) := by decide +kernel
theorem dd_Mo_advances_4 : decode cc_Mo_advances 4 = .ok (.iload_n 1, 1) := by decide +kernel
theorem dd_Mo_advances_5 : decode cc_Mo_advances 5 = .ok (.iaload, 1) := by decide +kernel
theorem dd_Mo_advances_6 : decode cc_Mo_advances 6 = .ok (.istore_n 2, 1) := by decide +kernel
theorem dd_Mo_advances_7 : decode cc_Mo_advances 7 = .ok (.aload_n 0, 1) := by decide +kernel
theorem dd_Mo_advances_8 : decode cc_Mo_advances 8 = .ok (.getfield 153, 3) := by decide +kernel
theorem dd_Mo_advances_11 : decode cc_Mo_advances 11 = .ok (.bipush 90, 2) := by decide +kernel
theorem dd_Mo_advances_13 : decode cc_Mo_advances 13 = .ok (.if_icmp .eq 9, 3) := by decide +kernel
theorem dd_Mo_advances_16 : decode cc_Mo_advances 16 = .ok (.iload_n 2, 1) := by decide +kernel
theorem dd_Mo_advances_17 : decode cc_Mo_advances 17 = .ok (.bipush 13, 2) := by decide +kernel
theorem dd_Mo_advances_19 : decode cc_Mo_advances 19 = .ok (.if_icmp .le 5, 3) := by decide +kernel
theorem dd_Mo_advances_22 : decode cc_Mo_advances 22 = .ok (.iconst 0, 1) := by decide +kernel
theorem dd_Mo_advances_23 : decode cc_Mo_advances 23 = .ok (.ireturn, 1) := by decide +kernel
theorem dd_Mo_advances_24 : decode cc_Mo_advances 24 = .ok (.iload_n 2, 1) := by decide +kernel
theorem dd_Mo_advances_25 : decode cc_Mo_advances 25 = .ok (.ifCond .ne 18, 3) := by decide +kernel
theorem dd_Mo_advances_28 : decode cc_Mo_advances 28 = .ok (.aload_n 0, 1) := by decide +kernel
theorem dd_Mo_advances_29 : decode cc_Mo_advances 29 = .ok (.getfield 68, 3) := by decide +kernel
theorem dd_Mo_advances_32 : decode cc_Mo_advances 32 = .ok (.iload_n 1, 1) := by decide +kernel
theorem dd_Mo_advances_33 : decode cc_Mo_advances 33 = .ok (.iaload, 1) := by decide +kernel
theorem dd_Mo_advances_34 : decode cc_Mo_advances 34 = .ok (.ifCond .eq 7, 3) := by decide +kernel
theorem dd_Mo_advances_37 : decode cc_Mo_advances 37 = .ok (.iconst 1, 1) := by decide +kernel
theorem dd_Mo_advances_38 : decode cc_Mo_advances 38 = .ok (.goto 4, 3) := by decide +kernel
theorem dd_Mo_advances_41 : decode cc_Mo_advances 41 = .ok (.iconst 0, 1) := by decide +kernel
theorem dd_Mo_advances_42 : decode cc_Mo_advances 42 = .ok (.ireturn, 1) := by decide +kernel
theorem dd_Mo_advances_43 : decode cc_Mo_advances 43 = .ok (.aload_n 0, 1) := by decide +kernel
theorem dd_Mo_advances_44 : decode cc_Mo_advances 44 = .ok (.iload_n 1, 1) := by decide +kernel
theorem dd_Mo_advances_45 : decode cc_Mo_advances 45 = .ok (.iload_n 2, 1) := by decide +kernel
theorem dd_Mo_advances_46 : decode cc_Mo_advances 46 = .ok (.invokevirtual 156, 3) := by decide +kernel
theorem dd_Mo_advances_49 : decode cc_Mo_advances 49 = .ok (.istore_n 3, 1) := by decide +kernel
theorem dd_Mo_advances_50 : decode cc_Mo_advances 50 = .ok (.iload_n 3, 1) := by decide +kernel
theorem dd_Mo_advances_51 : decode cc_Mo_advances 51 = .ok (.iload_n 1, 1) := by decide +kernel
theorem dd_Mo_advances_52 : decode cc_Mo_advances 52 = .ok (.ishr, 1) := by decide +kernel
theorem dd_Mo_advances_53 : decode cc_Mo_advances 53 = .ok (.iconst 1, 1) := by decide +kernel
theorem dd_Mo_advances_54 : decode cc_Mo_advances 54 = .ok (.iand, 1) := by decide +kernel
theorem dd_Mo_advances_55 : decode cc_Mo_advances 55 = .ok (.iconst 1, 1) := by decide +kernel
theorem dd_Mo_advances_56 : decode cc_Mo_advances 56 = .ok (.if_icmp .ne 41, 3) := by decide +kernel
theorem dd_Mo_advances_59 : decode cc_Mo_advances 59 = .ok (.iload_n 3, 1) := by decide +kernel
theorem dd_Mo_advances_60 : decode cc_Mo_advances 60 = .ok (.invokestatic 115, 3) := by decide +kernel
theorem dd_Mo_advances_63 : decode cc_Mo_advances 63 = .ok (.iconst 3, 1) := by decide +kernel
theorem dd_Mo_advances_64 : decode cc_Mo_advances 64 = .ok (.if_icmp .lt 33, 3) := by decide +kernel
theorem dd_Mo_advances_67 : decode cc_Mo_advances 67 = .ok (.iload_n 2, 1) := by decide +kernel
theorem dd_Mo_advances_68 : decode cc_Mo_advances 68 = .ok (.iconst 2, 1) := by decide +kernel
theorem dd_Mo_advances_69 : decode cc_Mo_advances 69 = .ok (.irem, 1) := by decide +kernel
theorem dd_Mo_advances_70 : decode cc_Mo_advances 70 = .ok (.iconst 1, 1) := by decide +kernel
theorem dd_Mo_advances_71 : decode cc_Mo_advances 71 = .ok (.if_icmp .eq 22, 3) := by decide +kernel
theorem dd_Mo_advances_74 : decode cc_Mo_advances 74 = .ok (.aload_n 0, 1) := by decide +kernel
theorem dd_Mo_advances_75 : decode cc_Mo_advances 75 = .ok (.iload_n 1, 1) := by decide +kernel
theorem dd_Mo_advances_76 : decode cc_Mo_advances 76 = .ok (.iload_n 2, 1) := by decide +kernel
theorem dd_Mo_advances_77 : decode cc_Mo_advances 77 = .ok (.invokevirtual 162, 3) := by decide +kernel
theorem dd_Mo_advances_80 : decode cc_Mo_advances 80 = .ok (.ifCond .ne 13, 3) := by decide +kernel
theorem dd_Mo_advances_83 : decode cc_Mo_advances 83 = .ok (.aload_n 0, 1) := by decide +kernel
theorem dd_Mo_advances_84 : decode cc_Mo_advances 84 = .ok (.getfield 68, 3) := by decide +kernel
theorem dd_Mo_advances_87 : decode cc_Mo_advances 87 = .ok (.iload_n 1, 1) := by decide +kernel
theorem dd_Mo_advances_88 : decode cc_Mo_advances 88 = .ok (.iaload, 1) := by decide +kernel
theorem dd_Mo_advances_89 : decode cc_Mo_advances 89 = .ok (.iconst 3, 1) := by decide +kernel
theorem dd_Mo_advances_90 : decode cc_Mo_advances 90 = .ok (.if_icmp .lt 7, 3) := by decide +kernel
theorem dd_Mo_advances_93 : decode cc_Mo_advances 93 = .ok (.iconst 1, 1) := by decide +kernel
theorem dd_Mo_advances_94 : decode cc_Mo_advances 94 = .ok (.goto 4, 3) := by decide +kernel
theorem dd_Mo_advances_97 : decode cc_Mo_advances 97 = .ok (.iconst 0, 1) := by decide +kernel
theorem dd_Mo_advances_98 : decode cc_Mo_advances 98 = .ok (.ireturn, 1) := by decide +kernel
theorem dd_Mo_advance_0 : decode cc_Mo_advance 0 = .ok (.aload_n 0, 1) := by decide +kernel
theorem dd_Mo_advance_1 : decode cc_Mo_advance 1 = .ok (.iload_n 1, 1) := by decide +kernel
theorem dd_Mo_advance_2 : decode cc_Mo_advance 2 = .ok (.aload_n 0, 1) := by decide +kernel
theorem dd_Mo_advance_3 : decode cc_Mo_advance 3 = .ok (.getfield 59, 3) := by decide +kernel
theorem dd_Mo_advance_6 : decode cc_Mo_advance 6 = .ok (.iload_n 1, 1) := by decide +kernel
theorem dd_Mo_advance_7 : decode cc_Mo_advance 7 = .ok (.iaload, 1) := by decide +kernel
theorem dd_Mo_advance_8 : decode cc_Mo_advance 8 = .ok (.invokevirtual 156, 3) := by decide +kernel
theorem dd_Mo_advance_11 : decode cc_Mo_advance 11 = .ok (.istore_n 2, 1) := by decide +kernel
theorem dd_Mo_advance_12 : decode cc_Mo_advance 12 = .ok (.aload_n 0, 1) := by decide +kernel
theorem dd_Mo_advance_13 : decode cc_Mo_advance 13 = .ok (.iload_n 1, 1) := by decide +kernel
theorem dd_Mo_advance_14 : decode cc_Mo_advance 14 = .ok (.invokevirtual 127, 3) := by decide +kernel
theorem dd_Mo_advance_17 : decode cc_Mo_advance 17 = .ok (.ifCond .ne 4, 3) := by decide +kernel
theorem dd_Mo_advance_20 : decode cc_Mo_advance 20 = .ok (.return_, 1) := by decide +kernel
theorem dd_Mo_advance_21 : decode cc_Mo_advance 21 = .ok (.aload_n 0, 1) := by decide +kernel
theorem dd_Mo_advance_22 : decode cc_Mo_advance 22 = .ok (.iload_n 1, 1) := by decide +kernel
theorem dd_Mo_advance_23 : decode cc_Mo_advance 23 = .ok (.iconst (-1), 1) := by decide +kernel
theorem dd_Mo_advance_24 : decode cc_Mo_advance 24 = .ok (.invokevirtual 179, 3) := by decide +kernel
theorem dd_Mo_advance_27 : decode cc_Mo_advance 27 = .ok (.istore_n 3, 1) := by decide +kernel
theorem dd_Mo_advance_28 : decode cc_Mo_advance 28 = .ok (.iload_n 3, 1) := by decide +kernel
theorem dd_Mo_advance_29 : decode cc_Mo_advance 29 = .ok (.ifCond .ge 7, 3) := by decide +kernel
theorem dd_Mo_advance_32 : decode cc_Mo_advance 32 = .ok (.iconst (-1), 1) := by decide +kernel
theorem dd_Mo_advance_33 : decode cc_Mo_advance 33 = .ok (.goto 9, 3) := by decide +kernel
theorem dd_Mo_advance_36 : decode cc_Mo_advance 36 = .ok (.aload_n 0, 1) := by decide +kernel
theorem dd_Mo_advance_37 : decode cc_Mo_advance 37 = .ok (.iload_n 1, 1) := by decide +kernel
theorem dd_Mo_advance_38 : decode cc_Mo_advance 38 = .ok (.iload_n 3, 1) := by decide +kernel
theorem dd_Mo_advance_39 : decode cc_Mo_advance 39 = .ok (.invokevirtual 179, 3) := by decide +kernel
theorem dd_Mo_advance_42 : decode cc_Mo_advance 42 = .ok (.istore 4, 2) := by decide +kernel
theorem dd_Mo_advance_44 : decode cc_Mo_advance 44 = .ok (.aload_n 0, 1) := by decide +kernel
theorem dd_Mo_advance_45 : decode cc_Mo_advance 45 = .ok (.getfield 59, 3) := by decide +kernel
theorem dd_Mo_advance_48 : decode cc_Mo_advance 48 = .ok (.iload_n 1, 1) := by decide +kernel
theorem dd_Mo_advance_49 : decode cc_Mo_advance 49 = .ok (.dup2, 1) := by decide +kernel
theorem dd_Mo_advance_50 : decode cc_Mo_advance 50 = .ok (.iaload, 1) := by decide +kernel
theorem dd_Mo_advance_51 : decode cc_Mo_advance 51 = .ok (.iconst 1, 1) := by decide +kernel
theorem dd_Mo_advance_52 : decode cc_Mo_advance 52 = .ok (.iadd, 1) := by decide +kernel
theorem dd_Mo_advance_53 : decode cc_Mo_advance 53 = .ok (.iastore, 1) := by decide +kernel
theorem dd_Mo_advance_54 : decode cc_Mo_advance 54 = .ok (.aload_n 0, 1) := by decide +kernel
theorem dd_Mo_advance_55 : decode cc_Mo_advance 55 = .ok (.iload_n 1, 1) := by decide +kernel
theorem dd_Mo_advance_56 : decode cc_Mo_advance 56 = .ok (.aload_n 0, 1) := by decide +kernel
theorem dd_Mo_advance_57 : decode cc_Mo_advance 57 = .ok (.iload_n 1, 1) := by decide +kernel
theorem dd_Mo_advance_58 : decode cc_Mo_advance 58 = .ok (.aload_n 0, 1) := by decide +kernel
theorem dd_Mo_advance_59 : decode cc_Mo_advance 59 = .ok (.getfield 59, 3) := by decide +kernel
theorem dd_Mo_advance_62 : decode cc_Mo_advance 62 = .ok (.iload_n 1, 1) := by decide +kernel
theorem dd_Mo_advance_63 : decode cc_Mo_advance 63 = .ok (.iaload, 1) := by decide +kernel
theorem dd_Mo_advance_64 : decode cc_Mo_advance 64 = .ok (.iload_n 2, 1) := by decide +kernel
theorem dd_Mo_advance_65 : decode cc_Mo_advance 65 = .ok (.iload_n 3, 1) := by decide +kernel
theorem dd_Mo_advance_66 : decode cc_Mo_advance 66 = .ok (.iload 4, 2) := by decide +kernel
theorem dd_Mo_advance_68 : decode cc_Mo_advance 68 = .ok (.invokevirtual 182, 3) := by decide +kernel
theorem dd_Mo_advance_71 : decode cc_Mo_advance 71 = .ok (.iconst 0, 1) := by decide +kernel
theorem dd_Mo_advance_72 : decode cc_Mo_advance 72 = .ok (.invokevirtual 130, 3) := by decide +kernel
theorem dd_Mo_advance_75 : decode cc_Mo_advance 75 = .ok (.pop, 1) := by decide +kernel
theorem dd_Mo_advance_76 : decode cc_Mo_advance 76 = .ok (.iload_n 3, 1) := by decide +kernel
theorem dd_Mo_advance_77 : decode cc_Mo_advance 77 = .ok (.ifCond .lt 10, 3) := by decide +kernel
theorem dd_Mo_advance_80 : decode cc_Mo_advance 80 = .ok (.aload_n 0, 1) := by decide +kernel
theorem dd_Mo_advance_81 : decode cc_Mo_advance 81 = .ok (.getfield 22, 3) := by decide +kernel
theorem dd_Mo_advance_84 : decode cc_Mo_advance 84 = .ok (.iload_n 3, 1) := by decide +kernel
theorem dd_Mo_advance_85 : decode cc_Mo_advance 85 = .ok (.iconst 1, 1) := by decide +kernel
theorem dd_Mo_advance_86 : decode cc_Mo_advance 86 = .ok (.bastore, 1) := by decide +kernel
theorem dd_Mo_advance_87 : decode cc_Mo_advance 87 = .ok (.iload 4, 2) := by decide +kernel
theorem dd_Mo_advance_89 : decode cc_Mo_advance 89 = .ok (.ifCond .lt 11, 3) := by decide +kernel
theorem dd_Mo_advance_92 : decode cc_Mo_advance 92 = .ok (.aload_n 0, 1) := by decide +kernel
theorem dd_Mo_advance_93 : decode cc_Mo_advance 93 = .ok (.getfield 22, 3) := by decide +kernel
theorem dd_Mo_advance_96 : decode cc_Mo_advance 96 = .ok (.iload 4, 2) := by decide +kernel
theorem dd_Mo_advance_98 : decode cc_Mo_advance 98 = .ok (.iconst 1, 1) := by decide +kernel
theorem dd_Mo_advance_99 : decode cc_Mo_advance 99 = .ok (.bastore, 1) := by decide +kernel
theorem dd_Mo_advance_100 : decode cc_Mo_advance 100 = .ok (.aload_n 0, 1) := by decide +kernel
theorem dd_Mo_advance_101 : decode cc_Mo_advance 101 = .ok (.getfield 68, 3) := by decide +kernel
theorem dd_Mo_advance_104 : decode cc_Mo_advance 104 = .ok (.iload_n 1, 1) := by decide +kernel
theorem dd_Mo_advance_105 : decode cc_Mo_advance 105 = .ok (.iconst 0, 1) := by decide +kernel
theorem dd_Mo_advance_106 : decode cc_Mo_advance 106 = .ok (.iastore, 1) := by decide +kernel
theorem dd_Mo_advance_107 : decode cc_Mo_advance 107 = .ok (.return_, 1) := by decide +kernel
theorem dd_Mo_queued_0 : decode cc_Mo_queued 0 = .ok (.iload_n 2, 1) := by decide +kernel
theorem dd_Mo_queued_1 : decode cc_Mo_queued 1 = .ok (.iconst 1, 1) := by decide +kernel
theorem dd_Mo_queued_2 : decode cc_Mo_queued 2 = .ok (.iadd, 1) := by decide +kernel
theorem dd_Mo_queued_3 : decode cc_Mo_queued 3 = .ok (.istore_n 3, 1) := by decide +kernel
theorem dd_Mo_queued_4 : decode cc_Mo_queued 4 = .ok (.iload_n 3, 1) := by decide +kernel
theorem dd_Mo_queued_5 : decode cc_Mo_queued 5 = .ok (.aload_n 0, 1) := by decide +kernel
theorem dd_Mo_queued_6 : decode cc_Mo_queued 6 = .ok (.getfield 176, 3) := by decide +kernel
theorem dd_Mo_queued_9 : decode cc_Mo_queued 9 = .ok (.if_icmp .ge 30, 3) := by decide +kernel
theorem dd_Mo_queued_12 : decode cc_Mo_queued 12 = .ok (.aload_n 0, 1) := by decide +kernel
theorem dd_Mo_queued_13 : decode cc_Mo_queued 13 = .ok (.getfield 19, 3) := by decide +kernel
theorem dd_Mo_queued_16 : decode cc_Mo_queued 16 = .ok (.iload_n 3, 1) := by decide +kernel
theorem dd_Mo_queued_17 : decode cc_Mo_queued 17 = .ok (.iaload, 1) := by decide +kernel
theorem dd_Mo_queued_18 : decode cc_Mo_queued 18 = .ok (.iload_n 1, 1) := by decide +kernel
theorem dd_Mo_queued_19 : decode cc_Mo_queued 19 = .ok (.if_icmp .ne 14, 3) := by decide +kernel
theorem dd_Mo_queued_22 : decode cc_Mo_queued 22 = .ok (.aload_n 0, 1) := by decide +kernel
theorem dd_Mo_queued_23 : decode cc_Mo_queued 23 = .ok (.getfield 22, 3) := by decide +kernel
theorem dd_Mo_queued_26 : decode cc_Mo_queued 26 = .ok (.iload_n 3, 1) := by decide +kernel
theorem dd_Mo_queued_27 : decode cc_Mo_queued 27 = .ok (.baload, 1) := by decide +kernel
theorem dd_Mo_queued_28 : decode cc_Mo_queued 28 = .ok (.ifCond .ne 5, 3) := by decide +kernel
theorem dd_Mo_queued_31 : decode cc_Mo_queued 31 = .ok (.iload_n 3, 1) := by decide +kernel
theorem dd_Mo_queued_32 : decode cc_Mo_queued 32 = .ok (.ireturn, 1) := by decide +kernel
theorem dd_Mo_queued_33 : decode cc_Mo_queued 33 = .ok (.iinc 3 1, 3) := by decide +kernel
theorem dd_Mo_queued_36 : decode cc_Mo_queued 36 = .ok (.goto (-32), 3) := by decide +kernel
theorem dd_Mo_queued_39 : decode cc_Mo_queued 39 = .ok (.iconst (-1), 1) := by decide +kernel
theorem dd_Mo_queued_40 : decode cc_Mo_queued 40 = .ok (.ireturn, 1) := by decide +kernel
theorem dd_Mo_make_0 : decode cc_Mo_make 0 = .ok (.aload_n 0, 1) := by decide +kernel
theorem dd_Mo_make_1 : decode cc_Mo_make 1 = .ok (.getfield 26, 3) := by decide +kernel
theorem dd_Mo_make_4 : decode cc_Mo_make 4 = .ok (.aload_n 0, 1) := by decide +kernel
theorem dd_Mo_make_5 : decode cc_Mo_make 5 = .ok (.getfield 153, 3) := by decide +kernel
theorem dd_Mo_make_8 : decode cc_Mo_make 8 = .ok (.iload_n 1, 1) := by decide +kernel
theorem dd_Mo_make_9 : decode cc_Mo_make 9 = .ok (.iastore, 1) := by decide +kernel
theorem dd_Mo_make_10 : decode cc_Mo_make 10 = .ok (.aload_n 0, 1) := by decide +kernel
theorem dd_Mo_make_11 : decode cc_Mo_make 11 = .ok (.getfield 29, 3) := by decide +kernel
theorem dd_Mo_make_14 : decode cc_Mo_make 14 = .ok (.aload_n 0, 1) := by decide +kernel
theorem dd_Mo_make_15 : decode cc_Mo_make 15 = .ok (.getfield 153, 3) := by decide +kernel
theorem dd_Mo_make_18 : decode cc_Mo_make 18 = .ok (.iload_n 2, 1) := by decide +kernel
theorem dd_Mo_make_19 : decode cc_Mo_make 19 = .ok (.iastore, 1) := by decide +kernel
theorem dd_Mo_make_20 : decode cc_Mo_make 20 = .ok (.aload_n 0, 1) := by decide +kernel
theorem dd_Mo_make_21 : decode cc_Mo_make 21 = .ok (.getfield 32, 3) := by decide +kernel
theorem dd_Mo_make_24 : decode cc_Mo_make 24 = .ok (.aload_n 0, 1) := by decide +kernel
theorem dd_Mo_make_25 : decode cc_Mo_make 25 = .ok (.getfield 153, 3) := by decide +kernel
theorem dd_Mo_make_28 : decode cc_Mo_make 28 = .ok (.iload_n 3, 1) := by decide +kernel
theorem dd_Mo_make_29 : decode cc_Mo_make 29 = .ok (.iastore, 1) := by decide +kernel
theorem dd_Mo_make_30 : decode cc_Mo_make 30 = .ok (.aload_n 0, 1) := by decide +kernel
theorem dd_Mo_make_31 : decode cc_Mo_make 31 = .ok (.getfield 35, 3) := by decide +kernel
theorem dd_Mo_make_34 : decode cc_Mo_make 34 = .ok (.aload_n 0, 1) := by decide +kernel
theorem dd_Mo_make_35 : decode cc_Mo_make 35 = .ok (.getfield 153, 3) := by decide +kernel
theorem dd_Mo_make_38 : decode cc_Mo_make 38 = .ok (.iload 4, 2) := by decide +kernel
theorem dd_Mo_make_40 : decode cc_Mo_make 40 = .ok (.iastore, 1) := by decide +kernel
theorem dd_Mo_make_41 : decode cc_Mo_make 41 = .ok (.aload_n 0, 1) := by decide +kernel
theorem dd_Mo_make_42 : decode cc_Mo_make 42 = .ok (.getfield 38, 3) := by decide +kernel
theorem dd_Mo_make_45 : decode cc_Mo_make 45 = .ok (.aload_n 0, 1) := by decide +kernel
theorem dd_Mo_make_46 : decode cc_Mo_make 46 = .ok (.getfield 153, 3) := by decide +kernel
theorem dd_Mo_make_49 : decode cc_Mo_make 49 = .ok (.iload 5, 2) := by decide +kernel
theorem dd_Mo_make_51 : decode cc_Mo_make 51 = .ok (.iastore, 1) := by decide +kernel
theorem dd_Mo_make_52 : decode cc_Mo_make 52 = .ok (.aload_n 0, 1) := by decide +kernel
theorem dd_Mo_make_53 : decode cc_Mo_make 53 = .ok (.dup, 1) := by decide +kernel
theorem dd_Mo_make_54 : decode cc_Mo_make 54 = .ok (.getfield 153, 3) := by decide +kernel
theorem dd_Mo_make_57 : decode cc_Mo_make 57 = .ok (.iconst 1, 1) := by decide +kernel
theorem dd_Mo_make_58 : decode cc_Mo_make 58 = .ok (.iadd, 1) := by decide +kernel
theorem dd_Mo_make_59 : decode cc_Mo_make 59 = .ok (.putfield 153, 3) := by decide +kernel
theorem dd_Mo_make_62 : decode cc_Mo_make 62 = .ok (.aload_n 0, 1) := by decide +kernel
theorem dd_Mo_make_63 : decode cc_Mo_make 63 = .ok (.getfield 153, 3) := by decide +kernel
theorem dd_Mo_make_66 : decode cc_Mo_make 66 = .ok (.iconst 1, 1) := by decide +kernel
theorem dd_Mo_make_67 : decode cc_Mo_make 67 = .ok (.isub, 1) := by decide +kernel
theorem dd_Mo_make_68 : decode cc_Mo_make 68 = .ok (.ireturn, 1) := by decide +kernel
theorem dd_Mo_pump_0 : decode cc_Mo_pump 0 = .ok (.aload_n 0, 1) := by decide +kernel
theorem dd_Mo_pump_1 : decode cc_Mo_pump 1 = .ok (.iload_n 1, 1) := by decide +kernel
theorem dd_Mo_pump_2 : decode cc_Mo_pump 2 = .ok (.invokevirtual 190, 3) := by decide +kernel
theorem dd_Mo_pump_5 : decode cc_Mo_pump 5 = .ok (.ifCond .ne 5, 3) := by decide +kernel
theorem dd_Mo_pump_8 : decode cc_Mo_pump 8 = .ok (.iconst 0, 1) := by decide +kernel
theorem dd_Mo_pump_9 : decode cc_Mo_pump 9 = .ok (.ireturn, 1) := by decide +kernel
theorem dd_Mo_pump_10 : decode cc_Mo_pump 10 = .ok (.aload_n 0, 1) := by decide +kernel
theorem dd_Mo_pump_11 : decode cc_Mo_pump 11 = .ok (.getfield 50, 3) := by decide +kernel
theorem dd_Mo_pump_14 : decode cc_Mo_pump 14 = .ok (.iload_n 1, 1) := by decide +kernel
theorem dd_Mo_pump_15 : decode cc_Mo_pump 15 = .ok (.iaload, 1) := by decide +kernel
theorem dd_Mo_pump_16 : decode cc_Mo_pump 16 = .ok (.iconst 1, 1) := by decide +kernel
theorem dd_Mo_pump_17 : decode cc_Mo_pump 17 = .ok (.if_icmp .eq 10, 3) := by decide +kernel
theorem dd_Mo_pump_20 : decode cc_Mo_pump 20 = .ok (.aload_n 0, 1) := by decide +kernel
theorem dd_Mo_pump_21 : decode cc_Mo_pump 21 = .ok (.iconst 2, 1) := by decide +kernel
theorem dd_Mo_pump_22 : decode cc_Mo_pump 22 = .ok (.putfield 105, 3) := by decide +kernel
theorem dd_Mo_pump_25 : decode cc_Mo_pump 25 = .ok (.iconst 0, 1) := by decide +kernel
theorem dd_Mo_pump_26 : decode cc_Mo_pump 26 = .ok (.ireturn, 1) := by decide +kernel
theorem dd_Mo_pump_27 : decode cc_Mo_pump 27 = .ok (.iload_n 2, 1) := by decide +kernel
theorem dd_Mo_pump_28 : decode cc_Mo_pump 28 = .ok (.iconst 1, 1) := by decide +kernel
theorem dd_Mo_pump_29 : decode cc_Mo_pump 29 = .ok (.bipush 50, 2) := by decide +kernel
theorem dd_Mo_pump_31 : decode cc_Mo_pump 31 = .ok (.invokestatic 186, 3) := by decide +kernel
theorem dd_Mo_pump_34 : decode cc_Mo_pump 34 = .ok (.ifCond .ne 5, 3) := by decide +kernel
theorem dd_Mo_pump_37 : decode cc_Mo_pump 37 = .ok (.iconst (-1), 1) := by decide +kernel
theorem dd_Mo_pump_38 : decode cc_Mo_pump 38 = .ok (.ireturn, 1) := by decide +kernel
theorem dd_Mo_pump_39 : decode cc_Mo_pump 39 = .ok (.iconst 0, 1) := by decide +kernel
theorem dd_Mo_pump_40 : decode cc_Mo_pump 40 = .ok (.istore_n 3, 1) := by decide +kernel
theorem dd_Mo_pump_41 : decode cc_Mo_pump 41 = .ok (.iload_n 3, 1) := by decide +kernel
theorem dd_Mo_pump_42 : decode cc_Mo_pump 42 = .ok (.iload_n 2, 1) := by decide +kernel
theorem dd_Mo_pump_43 : decode cc_Mo_pump 43 = .ok (.if_icmp .ge 62, 3) := by decide +kernel
theorem dd_Mo_pump_46 : decode cc_Mo_pump 46 = .ok (.aload_n 0, 1) := by decide +kernel
theorem dd_Mo_pump_47 : decode cc_Mo_pump 47 = .ok (.getfield 50, 3) := by decide +kernel
theorem dd_Mo_pump_50 : decode cc_Mo_pump 50 = .ok (.iload_n 1, 1) := by decide +kernel
theorem dd_Mo_pump_51 : decode cc_Mo_pump 51 = .ok (.iaload, 1) := by decide +kernel
theorem dd_Mo_pump_52 : decode cc_Mo_pump 52 = .ok (.iconst 1, 1) := by decide +kernel
theorem dd_Mo_pump_53 : decode cc_Mo_pump 53 = .ok (.if_icmp .ne 52, 3) := by decide +kernel
theorem dd_Mo_pump_56 : decode cc_Mo_pump 56 = .ok (.aload_n 0, 1) := by decide +kernel
theorem dd_Mo_pump_57 : decode cc_Mo_pump 57 = .ok (.getfield 71, 3) := by decide +kernel
theorem dd_Mo_pump_60 : decode cc_Mo_pump 60 = .ok (.iload_n 1, 1) := by decide +kernel
theorem dd_Mo_pump_61 : decode cc_Mo_pump 61 = .ok (.iaload, 1) := by decide +kernel
theorem dd_Mo_pump_62 : decode cc_Mo_pump 62 = .ok (.aload_n 0, 1) := by decide +kernel
theorem dd_Mo_pump_63 : decode cc_Mo_pump 63 = .ok (.getfield 112, 3) := by decide +kernel
theorem dd_Mo_pump_66 : decode cc_Mo_pump 66 = .ok (.if_icmp .ge 39, 3) := by decide +kernel
theorem dd_Mo_pump_69 : decode cc_Mo_pump 69 = .ok (.aload_n 0, 1) := by decide +kernel
theorem dd_Mo_pump_70 : decode cc_Mo_pump 70 = .ok (.invokevirtual 196, 3) := by decide +kernel
theorem dd_Mo_pump_73 : decode cc_Mo_pump 73 = .ok (.ifCond .ne 32, 3) := by decide +kernel
theorem dd_Mo_pump_76 : decode cc_Mo_pump 76 = .ok (.aload_n 0, 1) := by decide +kernel
theorem dd_Mo_pump_77 : decode cc_Mo_pump 77 = .ok (.getfield 71, 3) := by decide +kernel
theorem dd_Mo_pump_80 : decode cc_Mo_pump 80 = .ok (.iload_n 1, 1) := by decide +kernel
theorem dd_Mo_pump_81 : decode cc_Mo_pump 81 = .ok (.dup2, 1) := by decide +kernel
theorem dd_Mo_pump_82 : decode cc_Mo_pump 82 = .ok (.iaload, 1) := by decide +kernel
theorem dd_Mo_pump_83 : decode cc_Mo_pump 83 = .ok (.iconst 1, 1) := by decide +kernel
theorem dd_Mo_pump_84 : decode cc_Mo_pump 84 = .ok (.iadd, 1) := by decide +kernel
theorem dd_Mo_pump_85 : decode cc_Mo_pump 85 = .ok (.iastore, 1) := by decide +kernel
theorem dd_Mo_pump_86 : decode cc_Mo_pump 86 = .ok (.iinc 3 1, 3) := by decide +kernel
theorem dd_Mo_pump_89 : decode cc_Mo_pump 89 = .ok (.aload_n 0, 1) := by decide +kernel
theorem dd_Mo_pump_90 : decode cc_Mo_pump 90 = .ok (.iload_n 1, 1) := by decide +kernel
theorem dd_Mo_pump_91 : decode cc_Mo_pump 91 = .ok (.aload_n 0, 1) := by decide +kernel
theorem dd_Mo_pump_92 : decode cc_Mo_pump 92 = .ok (.getfield 71, 3) := by decide +kernel
theorem dd_Mo_pump_95 : decode cc_Mo_pump 95 = .ok (.iload_n 1, 1) := by decide +kernel
theorem dd_Mo_pump_96 : decode cc_Mo_pump 96 = .ok (.iaload, 1) := by decide +kernel
theorem dd_Mo_pump_97 : decode cc_Mo_pump 97 = .ok (.iconst 1, 1) := by decide +kernel
theorem dd_Mo_pump_98 : decode cc_Mo_pump 98 = .ok (.isub, 1) := by decide +kernel
theorem dd_Mo_pump_99 : decode cc_Mo_pump 99 = .ok (.invokevirtual 200, 3) := by decide +kernel
theorem dd_Mo_pump_102 : decode cc_Mo_pump 102 = .ok (.goto (-61), 3) := by decide +kernel
theorem dd_Mo_pump_105 : decode cc_Mo_pump 105 = .ok (.iload_n 3, 1) := by decide +kernel
theorem dd_Mo_pump_106 : decode cc_Mo_pump 106 = .ok (.ireturn, 1) := by decide +kernel
theorem dd_Mo_tick_0 : decode cc_Mo_tick 0 = .ok (.aload_n 0, 1) := by decide +kernel
theorem dd_Mo_tick_1 : decode cc_Mo_tick 1 = .ok (.iload_n 1, 1) := by decide +kernel
theorem dd_Mo_tick_2 : decode cc_Mo_tick 2 = .ok (.invokevirtual 193, 3) := by decide +kernel
theorem dd_Mo_tick_5 : decode cc_Mo_tick 5 = .ok (.ifCond .eq 10, 3) := by decide +kernel
theorem dd_Mo_tick_8 : decode cc_Mo_tick 8 = .ok (.aload_n 0, 1) := by decide +kernel
theorem dd_Mo_tick_9 : decode cc_Mo_tick 9 = .ok (.invokevirtual 196, 3) := by decide +kernel
theorem dd_Mo_tick_12 : decode cc_Mo_tick 12 = .ok (.ifCond .eq 5, 3) := by decide +kernel
theorem dd_Mo_tick_15 : decode cc_Mo_tick 15 = .ok (.iconst 0, 1) := by decide +kernel
theorem dd_Mo_tick_16 : decode cc_Mo_tick 16 = .ok (.ireturn, 1) := by decide +kernel
theorem dd_Mo_tick_17 : decode cc_Mo_tick 17 = .ok (.aload_n 0, 1) := by decide +kernel
theorem dd_Mo_tick_18 : decode cc_Mo_tick 18 = .ok (.getfield 68, 3) := by decide +kernel
theorem dd_Mo_tick_21 : decode cc_Mo_tick 21 = .ok (.iload_n 1, 1) := by decide +kernel
theorem dd_Mo_tick_22 : decode cc_Mo_tick 22 = .ok (.aload_n 0, 1) := by decide +kernel
theorem dd_Mo_tick_23 : decode cc_Mo_tick 23 = .ok (.getfield 68, 3) := by decide +kernel
theorem dd_Mo_tick_26 : decode cc_Mo_tick 26 = .ok (.iload_n 1, 1) := by decide +kernel
theorem dd_Mo_tick_27 : decode cc_Mo_tick 27 = .ok (.iaload, 1) := by decide +kernel
theorem dd_Mo_tick_28 : decode cc_Mo_tick 28 = .ok (.iconst 3, 1) := by decide +kernel
theorem dd_Mo_tick_29 : decode cc_Mo_tick 29 = .ok (.if_icmp .ge 14, 3) := by decide +kernel
theorem dd_Mo_tick_32 : decode cc_Mo_tick 32 = .ok (.aload_n 0, 1) := by decide +kernel
theorem dd_Mo_tick_33 : decode cc_Mo_tick 33 = .ok (.getfield 68, 3) := by decide +kernel
theorem dd_Mo_tick_36 : decode cc_Mo_tick 36 = .ok (.iload_n 1, 1) := by decide +kernel
theorem dd_Mo_tick_37 : decode cc_Mo_tick 37 = .ok (.iaload, 1) := by decide +kernel
theorem dd_Mo_tick_38 : decode cc_Mo_tick 38 = .ok (.iconst 1, 1) := by decide +kernel
theorem dd_Mo_tick_39 : decode cc_Mo_tick 39 = .ok (.iadd, 1) := by decide +kernel
theorem dd_Mo_tick_40 : decode cc_Mo_tick 40 = .ok (.goto 4, 3) := by decide +kernel
theorem dd_Mo_tick_43 : decode cc_Mo_tick 43 = .ok (.iconst 3, 1) := by decide +kernel
theorem dd_Mo_tick_44 : decode cc_Mo_tick 44 = .ok (.iastore, 1) := by decide +kernel
theorem dd_Mo_tick_45 : decode cc_Mo_tick 45 = .ok (.aload_n 0, 1) := by decide +kernel
theorem dd_Mo_tick_46 : decode cc_Mo_tick 46 = .ok (.iload_n 1, 1) := by decide +kernel
theorem dd_Mo_tick_47 : decode cc_Mo_tick 47 = .ok (.invokevirtual 134, 3) := by decide +kernel
theorem dd_Mo_tick_50 : decode cc_Mo_tick 50 = .ok (.iconst 1, 1) := by decide +kernel
theorem dd_Mo_tick_51 : decode cc_Mo_tick 51 = .ok (.ireturn, 1) := by decide +kernel
theorem dd_Mo_crash_0 : decode cc_Mo_crash 0 = .ok (.aload_n 0, 1) := by decide +kernel
theorem dd_Mo_crash_1 : decode cc_Mo_crash 1 = .ok (.iload_n 1, 1) := by decide +kernel
theorem dd_Mo_crash_2 : decode cc_Mo_crash 2 = .ok (.invokevirtual 193, 3) := by decide +kernel
theorem dd_Mo_crash_5 : decode cc_Mo_crash 5 = .ok (.ifCond .ne 5, 3) := by decide +kernel
theorem dd_Mo_crash_8 : decode cc_Mo_crash 8 = .ok (.iconst 0, 1) := by decide +kernel
theorem dd_Mo_crash_9 : decode cc_Mo_crash 9 = .ok (.ireturn, 1) := by decide +kernel
theorem dd_Mo_crash_10 : decode cc_Mo_crash 10 = .ok (.aload_n 0, 1) := by decide +kernel
theorem dd_Mo_crash_11 : decode cc_Mo_crash 11 = .ok (.iload_n 1, 1) := by decide +kernel
theorem dd_Mo_crash_12 : decode cc_Mo_crash 12 = .ok (.invokevirtual 109, 3) := by decide +kernel
theorem dd_Mo_crash_15 : decode cc_Mo_crash 15 = .ok (.iconst 1, 1) := by decide +kernel
theorem dd_Mo_crash_16 : decode cc_Mo_crash 16 = .ok (.ireturn, 1) := by decide +kernel
theorem dd_Mo_restart_0 : decode cc_Mo_restart 0 = .ok (.aload_n 0, 1) := by decide +kernel
theorem dd_Mo_restart_1 : decode cc_Mo_restart 1 = .ok (.iload_n 1, 1) := by decide +kernel
theorem dd_Mo_restart_2 : decode cc_Mo_restart 2 = .ok (.invokevirtual 190, 3) := by decide +kernel
theorem dd_Mo_restart_5 : decode cc_Mo_restart 5 = .ok (.ifCond .eq 12, 3) := by decide +kernel
theorem dd_Mo_restart_8 : decode cc_Mo_restart 8 = .ok (.aload_n 0, 1) := by decide +kernel
theorem dd_Mo_restart_9 : decode cc_Mo_restart 9 = .ok (.getfield 50, 3) := by decide +kernel
theorem dd_Mo_restart_12 : decode cc_Mo_restart 12 = .ok (.iload_n 1, 1) := by decide +kernel
theorem dd_Mo_restart_13 : decode cc_Mo_restart 13 = .ok (.iaload, 1) := by decide +kernel
theorem dd_Mo_restart_14 : decode cc_Mo_restart 14 = .ok (.ifCond .eq 5, 3) := by decide +kernel
theorem dd_Mo_restart_17 : decode cc_Mo_restart 17 = .ok (.iconst 0, 1) := by decide +kernel
theorem dd_Mo_restart_18 : decode cc_Mo_restart 18 = .ok (.ireturn, 1) := by decide +kernel
theorem dd_Mo_restart_19 : decode cc_Mo_restart 19 = .ok (.aload_n 0, 1) := by decide +kernel
theorem dd_Mo_restart_20 : decode cc_Mo_restart 20 = .ok (.getfield 50, 3) := by decide +kernel
theorem dd_Mo_restart_23 : decode cc_Mo_restart 23 = .ok (.iload_n 1, 1) := by decide +kernel
theorem dd_Mo_restart_24 : decode cc_Mo_restart 24 = .ok (.iconst 1, 1) := by decide +kernel
theorem dd_Mo_restart_25 : decode cc_Mo_restart 25 = .ok (.iastore, 1) := by decide +kernel
theorem dd_Mo_restart_26 : decode cc_Mo_restart 26 = .ok (.aload_n 0, 1) := by decide +kernel
theorem dd_Mo_restart_27 : decode cc_Mo_restart 27 = .ok (.invokevirtual 196, 3) := by decide +kernel
theorem dd_Mo_restart_30 : decode cc_Mo_restart 30 = .ok (.ifCond .ne 8, 3) := by decide +kernel
theorem dd_Mo_restart_33 : decode cc_Mo_restart 33 = .ok (.aload_n 0, 1) := by decide +kernel
theorem dd_Mo_restart_34 : decode cc_Mo_restart 34 = .ok (.iload_n 1, 1) := by decide +kernel
theorem dd_Mo_restart_35 : decode cc_Mo_restart 35 = .ok (.invokevirtual 134, 3) := by decide +kernel
theorem dd_Mo_restart_38 : decode cc_Mo_restart 38 = .ok (.iconst 1, 1) := by decide +kernel
theorem dd_Mo_restart_39 : decode cc_Mo_restart 39 = .ok (.ireturn, 1) := by decide +kernel
theorem dd_Mo_cut_0 : decode cc_Mo_cut 0 = .ok (.aload_n 0, 1) := by decide +kernel
theorem dd_Mo_cut_1 : decode cc_Mo_cut 1 = .ok (.iload_n 1, 1) := by decide +kernel
theorem dd_Mo_cut_2 : decode cc_Mo_cut 2 = .ok (.invokevirtual 193, 3) := by decide +kernel
theorem dd_Mo_cut_5 : decode cc_Mo_cut 5 = .ok (.ifCond .eq 7, 3) := by decide +kernel
theorem dd_Mo_cut_8 : decode cc_Mo_cut 8 = .ok (.iload_n 2, 1) := by decide +kernel
theorem dd_Mo_cut_9 : decode cc_Mo_cut 9 = .ok (.ifCond .ge 5, 3) := by decide +kernel
theorem dd_Mo_cut_12 : decode cc_Mo_cut 12 = .ok (.iconst 0, 1) := by decide +kernel
theorem dd_Mo_cut_13 : decode cc_Mo_cut 13 = .ok (.ireturn, 1) := by decide +kernel
theorem dd_Mo_cut_14 : decode cc_Mo_cut 14 = .ok (.aload_n 0, 1) := by decide +kernel
theorem dd_Mo_cut_15 : decode cc_Mo_cut 15 = .ok (.getfield 56, 3) := by decide +kernel
theorem dd_Mo_cut_18 : decode cc_Mo_cut 18 = .ok (.iload_n 1, 1) := by decide +kernel
theorem dd_Mo_cut_19 : decode cc_Mo_cut 19 = .ok (.iload_n 2, 1) := by decide +kernel
theorem dd_Mo_cut_20 : decode cc_Mo_cut 20 = .ok (.iastore, 1) := by decide +kernel
theorem dd_Mo_cut_21 : decode cc_Mo_cut 21 = .ok (.iconst 1, 1) := by decide +kernel
theorem dd_Mo_cut_22 : decode cc_Mo_cut 22 = .ok (.ireturn, 1) := by decide +kernel
theorem dd_Mo_corrupt_0 : decode cc_Mo_corrupt 0 = .ok (.aload_n 0, 1) := by decide +kernel
theorem dd_Mo_corrupt_1 : decode cc_Mo_corrupt 1 = .ok (.iload_n 1, 1) := by decide +kernel
theorem dd_Mo_corrupt_2 : decode cc_Mo_corrupt 2 = .ok (.invokevirtual 190, 3) := by decide +kernel
theorem dd_Mo_corrupt_5 : decode cc_Mo_corrupt 5 = .ok (.ifCond .eq 10, 3) := by decide +kernel
theorem dd_Mo_corrupt_8 : decode cc_Mo_corrupt 8 = .ok (.aload_n 0, 1) := by decide +kernel
theorem dd_Mo_corrupt_9 : decode cc_Mo_corrupt 9 = .ok (.invokevirtual 203, 3) := by decide +kernel
theorem dd_Mo_corrupt_12 : decode cc_Mo_corrupt 12 = .ok (.ifCond .lt 5, 3) := by decide +kernel
theorem dd_Mo_corrupt_15 : decode cc_Mo_corrupt 15 = .ok (.iconst 0, 1) := by decide +kernel
theorem dd_Mo_corrupt_16 : decode cc_Mo_corrupt 16 = .ok (.ireturn, 1) := by decide +kernel
theorem dd_Mo_corrupt_17 : decode cc_Mo_corrupt 17 = .ok (.aload_n 0, 1) := by decide +kernel
theorem dd_Mo_corrupt_18 : decode cc_Mo_corrupt 18 = .ok (.aload_n 0, 1) := by decide +kernel
theorem dd_Mo_corrupt_19 : decode cc_Mo_corrupt 19 = .ok (.getfield 50, 3) := by decide +kernel
theorem dd_Mo_corrupt_22 : decode cc_Mo_corrupt 22 = .ok (.iload_n 1, 1) := by decide +kernel
theorem dd_Mo_corrupt_23 : decode cc_Mo_corrupt 23 = .ok (.iaload, 1) := by decide +kernel
theorem dd_Mo_corrupt_24 : decode cc_Mo_corrupt 24 = .ok (.ifCond .ne 7, 3) := by decide +kernel
theorem dd_Mo_corrupt_27 : decode cc_Mo_corrupt 27 = .ok (.iconst 1, 1) := by decide +kernel
theorem dd_Mo_corrupt_28 : decode cc_Mo_corrupt 28 = .ok (.goto 4, 3) := by decide +kernel
theorem dd_Mo_corrupt_31 : decode cc_Mo_corrupt 31 = .ok (.iconst 0, 1) := by decide +kernel
theorem dd_Mo_corrupt_32 : decode cc_Mo_corrupt 32 = .ok (.putfield 207, 3) := by decide +kernel
theorem dd_Mo_corrupt_35 : decode cc_Mo_corrupt 35 = .ok (.aload_n 0, 1) := by decide +kernel
theorem dd_Mo_corrupt_36 : decode cc_Mo_corrupt 36 = .ok (.getfield 50, 3) := by decide +kernel
theorem dd_Mo_corrupt_39 : decode cc_Mo_corrupt 39 = .ok (.iload_n 1, 1) := by decide +kernel
theorem dd_Mo_corrupt_40 : decode cc_Mo_corrupt 40 = .ok (.iconst 2, 1) := by decide +kernel
theorem dd_Mo_corrupt_41 : decode cc_Mo_corrupt 41 = .ok (.iastore, 1) := by decide +kernel
theorem dd_Mo_corrupt_42 : decode cc_Mo_corrupt 42 = .ok (.iconst 1, 1) := by decide +kernel
theorem dd_Mo_corrupt_43 : decode cc_Mo_corrupt 43 = .ok (.ireturn, 1) := by decide +kernel
theorem dd_Mo_faulty_0 : decode cc_Mo_faulty 0 = .ok (.iconst 0, 1) := by decide +kernel
theorem dd_Mo_faulty_1 : decode cc_Mo_faulty 1 = .ok (.istore_n 1, 1) := by decide +kernel
theorem dd_Mo_faulty_2 : decode cc_Mo_faulty 2 = .ok (.iload_n 1, 1) := by decide +kernel
theorem dd_Mo_faulty_3 : decode cc_Mo_faulty 3 = .ok (.iconst 4, 1) := by decide +kernel
theorem dd_Mo_faulty_4 : decode cc_Mo_faulty 4 = .ok (.if_icmp .ge 21, 3) := by decide +kernel
theorem dd_Mo_faulty_7 : decode cc_Mo_faulty 7 = .ok (.aload_n 0, 1) := by decide +kernel
theorem dd_Mo_faulty_8 : decode cc_Mo_faulty 8 = .ok (.getfield 50, 3) := by decide +kernel
theorem dd_Mo_faulty_11 : decode cc_Mo_faulty 11 = .ok (.iload_n 1, 1) := by decide +kernel
theorem dd_Mo_faulty_12 : decode cc_Mo_faulty 12 = .ok (.iaload, 1) := by decide +kernel
theorem dd_Mo_faulty_13 : decode cc_Mo_faulty 13 = .ok (.iconst 2, 1) := by decide +kernel
theorem dd_Mo_faulty_14 : decode cc_Mo_faulty 14 = .ok (.if_icmp .ne 5, 3) := by decide +kernel
theorem dd_Mo_faulty_17 : decode cc_Mo_faulty 17 = .ok (.iload_n 1, 1) := by decide +kernel
theorem dd_Mo_faulty_18 : decode cc_Mo_faulty 18 = .ok (.ireturn, 1) := by decide +kernel
theorem dd_Mo_faulty_19 : decode cc_Mo_faulty 19 = .ok (.iinc 1 1, 3) := by decide +kernel
theorem dd_Mo_faulty_22 : decode cc_Mo_faulty 22 = .ok (.goto (-20), 3) := by decide +kernel
theorem dd_Mo_faulty_25 : decode cc_Mo_faulty 25 = .ok (.iconst (-1), 1) := by decide +kernel
theorem dd_Mo_faulty_26 : decode cc_Mo_faulty 26 = .ok (.ireturn, 1) := by decide +kernel
theorem dd_Mo_forge_0 : decode cc_Mo_forge 0 = .ok (.aload_n 0, 1) := by decide +kernel
theorem dd_Mo_forge_1 : decode cc_Mo_forge 1 = .ok (.iconst 0, 1) := by decide +kernel
theorem dd_Mo_forge_2 : decode cc_Mo_forge 2 = .ok (.putfield 105, 3) := by decide +kernel
theorem dd_Mo_forge_5 : decode cc_Mo_forge 5 = .ok (.aload_n 0, 1) := by decide +kernel
theorem dd_Mo_forge_6 : decode cc_Mo_forge 6 = .ok (.invokevirtual 203, 3) := by decide +kernel
theorem dd_Mo_forge_9 : decode cc_Mo_forge 9 = .ok (.ifCond .lt 56, 3) := by decide +kernel
theorem dd_Mo_forge_12 : decode cc_Mo_forge 12 = .ok (.iload_n 1, 1) := by decide +kernel
theorem dd_Mo_forge_13 : decode cc_Mo_forge 13 = .ok (.iconst 1, 1) := by decide +kernel
theorem dd_Mo_forge_14 : decode cc_Mo_forge 14 = .ok (.bipush 14, 2) := by decide +kernel
theorem dd_Mo_forge_16 : decode cc_Mo_forge 16 = .ok (.invokestatic 186, 3) := by decide +kernel
theorem dd_Mo_forge_19 : decode cc_Mo_forge 19 = .ok (.ifCond .eq 46, 3) := by decide +kernel
theorem dd_Mo_forge_22 : decode cc_Mo_forge 22 = .ok (.iload_n 2, 1) := by decide +kernel
theorem dd_Mo_forge_23 : decode cc_Mo_forge 23 = .ok (.iconst 0, 1) := by decide +kernel
theorem dd_Mo_forge_24 : decode cc_Mo_forge 24 = .ok (.bipush 15, 2) := by decide +kernel
theorem dd_Mo_forge_26 : decode cc_Mo_forge 26 = .ok (.invokestatic 186, 3) := by decide +kernel
theorem dd_Mo_forge_29 : decode cc_Mo_forge 29 = .ok (.ifCond .eq 36, 3) := by decide +kernel
theorem dd_Mo_forge_32 : decode cc_Mo_forge 32 = .ok (.aload_n 0, 1) := by decide +kernel
theorem dd_Mo_forge_33 : decode cc_Mo_forge 33 = .ok (.iload_n 3, 1) := by decide +kernel
theorem dd_Mo_forge_34 : decode cc_Mo_forge 34 = .ok (.invokevirtual 211, 3) := by decide +kernel
theorem dd_Mo_forge_37 : decode cc_Mo_forge 37 = .ok (.ifCond .eq 28, 3) := by decide +kernel
theorem dd_Mo_forge_40 : decode cc_Mo_forge 40 = .ok (.aload_n 0, 1) := by decide +kernel
theorem dd_Mo_forge_41 : decode cc_Mo_forge 41 = .ok (.iload 4, 2) := by decide +kernel
theorem dd_Mo_forge_43 : decode cc_Mo_forge 43 = .ok (.invokevirtual 211, 3) := by decide +kernel
theorem dd_Mo_forge_46 : decode cc_Mo_forge 46 = .ok (.ifCond .eq 19, 3) := by decide +kernel
theorem dd_Mo_forge_49 : decode cc_Mo_forge 49 = .ok (.aload_n 0, 1) := by decide +kernel
theorem dd_Mo_forge_50 : decode cc_Mo_forge 50 = .ok (.getfield 153, 3) := by decide +kernel
theorem dd_Mo_forge_53 : decode cc_Mo_forge 53 = .ok (.bipush 90, 2) := by decide +kernel
theorem dd_Mo_forge_55 : decode cc_Mo_forge 55 = .ok (.if_icmp .eq 10, 3) := by decide +kernel
theorem dd_Mo_forge_58 : decode cc_Mo_forge 58 = .ok (.aload_n 0, 1) := by decide +kernel
theorem dd_Mo_forge_59 : decode cc_Mo_forge 59 = .ok (.invokevirtual 196, 3) := by decide +kernel
theorem dd_Mo_forge_62 : decode cc_Mo_forge 62 = .ok (.ifCond .eq 5, 3) := by decide +kernel
theorem dd_Mo_forge_65 : decode cc_Mo_forge 65 = .ok (.iconst (-1), 1) := by decide +kernel
theorem dd_Mo_forge_66 : decode cc_Mo_forge 66 = .ok (.ireturn, 1) := by decide +kernel
theorem dd_Mo_forge_67 : decode cc_Mo_forge 67 = .ok (.aload_n 0, 1) := by decide +kernel
theorem dd_Mo_forge_68 : decode cc_Mo_forge 68 = .ok (.aload_n 0, 1) := by decide +kernel
theorem dd_Mo_forge_69 : decode cc_Mo_forge 69 = .ok (.invokevirtual 203, 3) := by decide +kernel
theorem dd_Mo_forge_72 : decode cc_Mo_forge 72 = .ok (.iload_n 1, 1) := by decide +kernel
theorem dd_Mo_forge_73 : decode cc_Mo_forge 73 = .ok (.iload_n 2, 1) := by decide +kernel
theorem dd_Mo_forge_74 : decode cc_Mo_forge 74 = .ok (.iload_n 3, 1) := by decide +kernel
theorem dd_Mo_forge_75 : decode cc_Mo_forge 75 = .ok (.iload 4, 2) := by decide +kernel
theorem dd_Mo_forge_77 : decode cc_Mo_forge 77 = .ok (.invokevirtual 182, 3) := by decide +kernel
theorem dd_Mo_forge_80 : decode cc_Mo_forge 80 = .ok (.istore 5, 2) := by decide +kernel
theorem dd_Mo_forge_82 : decode cc_Mo_forge 82 = .ok (.aload_n 0, 1) := by decide +kernel
theorem dd_Mo_forge_83 : decode cc_Mo_forge 83 = .ok (.aload_n 0, 1) := by decide +kernel
theorem dd_Mo_forge_84 : decode cc_Mo_forge 84 = .ok (.invokevirtual 203, 3) := by decide +kernel
theorem dd_Mo_forge_87 : decode cc_Mo_forge 87 = .ok (.iload 5, 2) := by decide +kernel
theorem dd_Mo_forge_89 : decode cc_Mo_forge 89 = .ok (.iconst 0, 1) := by decide +kernel
theorem dd_Mo_forge_90 : decode cc_Mo_forge 90 = .ok (.invokevirtual 130, 3) := by decide +kernel
theorem dd_Mo_forge_93 : decode cc_Mo_forge 93 = .ok (.pop, 1) := by decide +kernel
theorem dd_Mo_forge_94 : decode cc_Mo_forge 94 = .ok (.iload 5, 2) := by decide +kernel
theorem dd_Mo_forge_96 : decode cc_Mo_forge 96 = .ok (.ireturn, 1) := by decide +kernel
theorem dd_Mo_isTransfer_0 : decode cc_Mo_isTransfer 0 = .ok (.iload_n 1, 1) := by decide +kernel
theorem dd_Mo_isTransfer_1 : decode cc_Mo_isTransfer 1 = .ok (.iconst (-1), 1) := by decide +kernel
theorem dd_Mo_isTransfer_2 : decode cc_Mo_isTransfer 2 = .ok (.if_icmp .lt 15, 3) := by decide +kernel
theorem dd_Mo_isTransfer_5 : decode cc_Mo_isTransfer 5 = .ok (.iload_n 1, 1) := by decide +kernel
theorem dd_Mo_isTransfer_6 : decode cc_Mo_isTransfer 6 = .ok (.aload_n 0, 1) := by decide +kernel
theorem dd_Mo_isTransfer_7 : decode cc_Mo_isTransfer 7 = .ok (.getfield 176, 3) := by decide +kernel
theorem dd_Mo_isTransfer_10 : decode cc_Mo_isTransfer 10 = .ok (.if_icmp .ge 7, 3) := by decide +kernel
theorem dd_Mo_isTransfer_13 : decode cc_Mo_isTransfer 13 = .ok (.iconst 1, 1) := by decide +kernel
theorem dd_Mo_isTransfer_14 : decode cc_Mo_isTransfer 14 = .ok (.goto 4, 3) := by decide +kernel
theorem dd_Mo_isTransfer_17 : decode cc_Mo_isTransfer 17 = .ok (.iconst 0, 1) := by decide +kernel
theorem dd_Mo_isTransfer_18 : decode cc_Mo_isTransfer 18 = .ok (.ireturn, 1) := by decide +kernel
theorem dd_Mo_send_0 : decode cc_Mo_send 0 = .ok (.aload_n 0, 1) := by decide +kernel
theorem dd_Mo_send_1 : decode cc_Mo_send 1 = .ok (.iconst 0, 1) := by decide +kernel
theorem dd_Mo_send_2 : decode cc_Mo_send 2 = .ok (.putfield 105, 3) := by decide +kernel
theorem dd_Mo_send_5 : decode cc_Mo_send 5 = .ok (.aload_n 0, 1) := by decide +kernel
theorem dd_Mo_send_6 : decode cc_Mo_send 6 = .ok (.invokevirtual 203, 3) := by decide +kernel
theorem dd_Mo_send_9 : decode cc_Mo_send 9 = .ok (.ifCond .lt 33, 3) := by decide +kernel
theorem dd_Mo_send_12 : decode cc_Mo_send 12 = .ok (.iload_n 1, 1) := by decide +kernel
theorem dd_Mo_send_13 : decode cc_Mo_send 13 = .ok (.iconst 0, 1) := by decide +kernel
theorem dd_Mo_send_14 : decode cc_Mo_send 14 = .ok (.iconst 2, 1) := by decide +kernel
theorem dd_Mo_send_15 : decode cc_Mo_send 15 = .ok (.invokestatic 186, 3) := by decide +kernel
theorem dd_Mo_send_18 : decode cc_Mo_send 18 = .ok (.ifCond .eq 24, 3) := by decide +kernel
theorem dd_Mo_send_21 : decode cc_Mo_send 21 = .ok (.iload_n 2, 1) := by decide +kernel
theorem dd_Mo_send_22 : decode cc_Mo_send 22 = .ok (.iconst 0, 1) := by decide +kernel
theorem dd_Mo_send_23 : decode cc_Mo_send 23 = .ok (.aload_n 0, 1) := by decide +kernel
theorem dd_Mo_send_24 : decode cc_Mo_send 24 = .ok (.getfield 153, 3) := by decide +kernel
theorem dd_Mo_send_27 : decode cc_Mo_send 27 = .ok (.iconst 1, 1) := by decide +kernel
theorem dd_Mo_send_28 : decode cc_Mo_send 28 = .ok (.isub, 1) := by decide +kernel
theorem dd_Mo_send_29 : decode cc_Mo_send 29 = .ok (.invokestatic 186, 3) := by decide +kernel
theorem dd_Mo_send_32 : decode cc_Mo_send 32 = .ok (.ifCond .eq 10, 3) := by decide +kernel
theorem dd_Mo_send_35 : decode cc_Mo_send 35 = .ok (.aload_n 0, 1) := by decide +kernel
theorem dd_Mo_send_36 : decode cc_Mo_send 36 = .ok (.invokevirtual 196, 3) := by decide +kernel
theorem dd_Mo_send_39 : decode cc_Mo_send 39 = .ok (.ifCond .eq 7, 3) := by decide +kernel
theorem dd_Mo_send_42 : decode cc_Mo_send 42 = .ok (.iconst (-1), 1) := by decide +kernel
theorem dd_Mo_send_43 : decode cc_Mo_send 43 = .ok (.goto 13, 3) := by decide +kernel
theorem dd_Mo_send_46 : decode cc_Mo_send 46 = .ok (.aload_n 0, 1) := by decide +kernel
theorem dd_Mo_send_47 : decode cc_Mo_send 47 = .ok (.aload_n 0, 1) := by decide +kernel
theorem dd_Mo_send_48 : decode cc_Mo_send 48 = .ok (.invokevirtual 203, 3) := by decide +kernel
theorem dd_Mo_send_51 : decode cc_Mo_send 51 = .ok (.iload_n 2, 1) := by decide +kernel
theorem dd_Mo_send_52 : decode cc_Mo_send 52 = .ok (.iload_n 1, 1) := by decide +kernel
theorem dd_Mo_send_53 : decode cc_Mo_send 53 = .ok (.invokevirtual 130, 3) := by decide +kernel
theorem dd_Mo_send_56 : decode cc_Mo_send 56 = .ok (.ireturn, 1) := by decide +kernel
theorem dd_Mo_message_0 : decode cc_Mo_message 0 = .ok (.aload_n 0, 1) := by decide +kernel
theorem dd_Mo_message_1 : decode cc_Mo_message 1 = .ok (.iconst 0, 1) := by decide +kernel
theorem dd_Mo_message_2 : decode cc_Mo_message 2 = .ok (.putfield 105, 3) := by decide +kernel
theorem dd_Mo_message_5 : decode cc_Mo_message 5 = .ok (.iload_n 1, 1) := by decide +kernel
theorem dd_Mo_message_6 : decode cc_Mo_message 6 = .ok (.iconst 0, 1) := by decide +kernel
theorem dd_Mo_message_7 : decode cc_Mo_message 7 = .ok (.aload_n 0, 1) := by decide +kernel
theorem dd_Mo_message_8 : decode cc_Mo_message 8 = .ok (.getfield 112, 3) := by decide +kernel
theorem dd_Mo_message_11 : decode cc_Mo_message 11 = .ok (.iconst 1, 1) := by decide +kernel
theorem dd_Mo_message_12 : decode cc_Mo_message 12 = .ok (.isub, 1) := by decide +kernel
theorem dd_Mo_message_13 : decode cc_Mo_message 13 = .ok (.invokestatic 186, 3) := by decide +kernel
theorem dd_Mo_message_16 : decode cc_Mo_message 16 = .ok (.ifCond .eq 12, 3) := by decide +kernel
theorem dd_Mo_message_19 : decode cc_Mo_message 19 = .ok (.iload_n 2, 1) := by decide +kernel
theorem dd_Mo_message_20 : decode cc_Mo_message 20 = .ok (.iconst 0, 1) := by decide +kernel
theorem dd_Mo_message_21 : decode cc_Mo_message 21 = .ok (.iconst 2, 1) := by decide +kernel
theorem dd_Mo_message_22 : decode cc_Mo_message 22 = .ok (.invokestatic 186, 3) := by decide +kernel
theorem dd_Mo_message_25 : decode cc_Mo_message 25 = .ok (.ifCond .ne 7, 3) := by decide +kernel
theorem dd_Mo_message_28 : decode cc_Mo_message 28 = .ok (.iconst (-1), 1) := by decide +kernel
theorem dd_Mo_message_29 : decode cc_Mo_message 29 = .ok (.goto 36, 3) := by decide +kernel
theorem dd_Mo_message_32 : decode cc_Mo_message 32 = .ok (.iload_n 2, 1) := by decide +kernel
theorem dd_Mo_message_33 : decode cc_Mo_message 33 = .ok (.ifCond .ne 12, 3) := by decide +kernel
theorem dd_Mo_message_36 : decode cc_Mo_message 36 = .ok (.aload_n 0, 1) := by decide +kernel
theorem dd_Mo_message_37 : decode cc_Mo_message 37 = .ok (.getfield 47, 3) := by decide +kernel
theorem dd_Mo_message_40 : decode cc_Mo_message 40 = .ok (.iload_n 1, 1) := by decide +kernel
theorem dd_Mo_message_41 : decode cc_Mo_message 41 = .ok (.iaload, 1) := by decide +kernel
theorem dd_Mo_message_42 : decode cc_Mo_message 42 = .ok (.goto 23, 3) := by decide +kernel
theorem dd_Mo_message_45 : decode cc_Mo_message 45 = .ok (.iload_n 2, 1) := by decide +kernel
theorem dd_Mo_message_46 : decode cc_Mo_message 46 = .ok (.iconst 1, 1) := by decide +kernel
theorem dd_Mo_message_47 : decode cc_Mo_message 47 = .ok (.if_icmp .ne 12, 3) := by decide +kernel
theorem dd_Mo_message_50 : decode cc_Mo_message 50 = .ok (.aload_n 0, 1) := by decide +kernel
theorem dd_Mo_message_51 : decode cc_Mo_message 51 = .ok (.getfield 41, 3) := by decide +kernel
theorem dd_Mo_message_54 : decode cc_Mo_message 54 = .ok (.iload_n 1, 1) := by decide +kernel
theorem dd_Mo_message_55 : decode cc_Mo_message 55 = .ok (.iaload, 1) := by decide +kernel
theorem dd_Mo_message_56 : decode cc_Mo_message 56 = .ok (.goto 9, 3) := by decide +kernel
theorem dd_Mo_message_59 : decode cc_Mo_message 59 = .ok (.aload_n 0, 1) := by decide +kernel
theorem dd_Mo_message_60 : decode cc_Mo_message 60 = .ok (.getfield 44, 3) := by decide +kernel
theorem dd_Mo_message_63 : decode cc_Mo_message 63 = .ok (.iload_n 1, 1) := by decide +kernel
theorem dd_Mo_message_64 : decode cc_Mo_message 64 = .ok (.iaload, 1) := by decide +kernel
theorem dd_Mo_message_65 : decode cc_Mo_message 65 = .ok (.ireturn, 1) := by decide +kernel
theorem dd_Mo_vertex_0 : decode cc_Mo_vertex 0 = .ok (.aload_n 0, 1) := by decide +kernel
theorem dd_Mo_vertex_1 : decode cc_Mo_vertex 1 = .ok (.iconst 0, 1) := by decide +kernel
theorem dd_Mo_vertex_2 : decode cc_Mo_vertex 2 = .ok (.putfield 105, 3) := by decide +kernel
theorem dd_Mo_vertex_5 : decode cc_Mo_vertex 5 = .ok (.iload_n 1, 1) := by decide +kernel
theorem dd_Mo_vertex_6 : decode cc_Mo_vertex 6 = .ok (.iconst 0, 1) := by decide +kernel
theorem dd_Mo_vertex_7 : decode cc_Mo_vertex 7 = .ok (.aload_n 0, 1) := by decide +kernel
theorem dd_Mo_vertex_8 : decode cc_Mo_vertex 8 = .ok (.getfield 153, 3) := by decide +kernel
theorem dd_Mo_vertex_11 : decode cc_Mo_vertex 11 = .ok (.iconst 1, 1) := by decide +kernel
theorem dd_Mo_vertex_12 : decode cc_Mo_vertex 12 = .ok (.isub, 1) := by decide +kernel
theorem dd_Mo_vertex_13 : decode cc_Mo_vertex 13 = .ok (.invokestatic 186, 3) := by decide +kernel
theorem dd_Mo_vertex_16 : decode cc_Mo_vertex 16 = .ok (.ifCond .eq 12, 3) := by decide +kernel
theorem dd_Mo_vertex_19 : decode cc_Mo_vertex 19 = .ok (.iload_n 2, 1) := by decide +kernel
theorem dd_Mo_vertex_20 : decode cc_Mo_vertex 20 = .ok (.iconst 0, 1) := by decide +kernel
theorem dd_Mo_vertex_21 : decode cc_Mo_vertex 21 = .ok (.iconst 4, 1) := by decide +kernel
theorem dd_Mo_vertex_22 : decode cc_Mo_vertex 22 = .ok (.invokestatic 186, 3) := by decide +kernel
theorem dd_Mo_vertex_25 : decode cc_Mo_vertex 25 = .ok (.ifCond .ne 5, 3) := by decide +kernel
theorem dd_Mo_vertex_28 : decode cc_Mo_vertex 28 = .ok (.iconst (-1), 1) := by decide +kernel
theorem dd_Mo_vertex_29 : decode cc_Mo_vertex 29 = .ok (.ireturn, 1) := by decide +kernel
theorem dd_Mo_vertex_30 : decode cc_Mo_vertex 30 = .ok (.iload_n 2, 1) := by decide +kernel
theorem dd_Mo_vertex_31 : decode cc_Mo_vertex 31 = .ok (.ifCond .ne 12, 3) := by decide +kernel
theorem dd_Mo_vertex_34 : decode cc_Mo_vertex 34 = .ok (.aload_n 0, 1) := by decide +kernel
theorem dd_Mo_vertex_35 : decode cc_Mo_vertex 35 = .ok (.getfield 26, 3) := by decide +kernel
theorem dd_Mo_vertex_38 : decode cc_Mo_vertex 38 = .ok (.iload_n 1, 1) := by decide +kernel
theorem dd_Mo_vertex_39 : decode cc_Mo_vertex 39 = .ok (.iaload, 1) := by decide +kernel
theorem dd_Mo_vertex_40 : decode cc_Mo_vertex 40 = .ok (.goto 51, 3) := by decide +kernel
theorem dd_Mo_vertex_43 : decode cc_Mo_vertex 43 = .ok (.iload_n 2, 1) := by decide +kernel
theorem dd_Mo_vertex_44 : decode cc_Mo_vertex 44 = .ok (.iconst 1, 1) := by decide +kernel
theorem dd_Mo_vertex_45 : decode cc_Mo_vertex 45 = .ok (.if_icmp .ne 12, 3) := by decide +kernel
theorem dd_Mo_vertex_48 : decode cc_Mo_vertex 48 = .ok (.aload_n 0, 1) := by decide +kernel
theorem dd_Mo_vertex_49 : decode cc_Mo_vertex 49 = .ok (.getfield 29, 3) := by decide +kernel
theorem dd_Mo_vertex_52 : decode cc_Mo_vertex 52 = .ok (.iload_n 1, 1) := by decide +kernel
theorem dd_Mo_vertex_53 : decode cc_Mo_vertex 53 = .ok (.iaload, 1) := by decide +kernel
theorem dd_Mo_vertex_54 : decode cc_Mo_vertex 54 = .ok (.goto 37, 3) := by decide +kernel
theorem dd_Mo_vertex_57 : decode cc_Mo_vertex 57 = .ok (.iload_n 2, 1) := by decide +kernel
theorem dd_Mo_vertex_58 : decode cc_Mo_vertex 58 = .ok (.iconst 2, 1) := by decide +kernel
theorem dd_Mo_vertex_59 : decode cc_Mo_vertex 59 = .ok (.if_icmp .ne 12, 3) := by decide +kernel
theorem dd_Mo_vertex_62 : decode cc_Mo_vertex 62 = .ok (.aload_n 0, 1) := by decide +kernel
theorem dd_Mo_vertex_63 : decode cc_Mo_vertex 63 = .ok (.getfield 32, 3) := by decide +kernel
theorem dd_Mo_vertex_66 : decode cc_Mo_vertex 66 = .ok (.iload_n 1, 1) := by decide +kernel
theorem dd_Mo_vertex_67 : decode cc_Mo_vertex 67 = .ok (.iaload, 1) := by decide +kernel
theorem dd_Mo_vertex_68 : decode cc_Mo_vertex 68 = .ok (.goto 23, 3) := by decide +kernel
theorem dd_Mo_vertex_71 : decode cc_Mo_vertex 71 = .ok (.iload_n 2, 1) := by decide +kernel
theorem dd_Mo_vertex_72 : decode cc_Mo_vertex 72 = .ok (.iconst 3, 1) := by decide +kernel
theorem dd_Mo_vertex_73 : decode cc_Mo_vertex 73 = .ok (.if_icmp .ne 12, 3) := by decide +kernel
theorem dd_Mo_vertex_76 : decode cc_Mo_vertex 76 = .ok (.aload_n 0, 1) := by decide +kernel
theorem dd_Mo_vertex_77 : decode cc_Mo_vertex 77 = .ok (.getfield 35, 3) := by decide +kernel
theorem dd_Mo_vertex_80 : decode cc_Mo_vertex 80 = .ok (.iload_n 1, 1) := by decide +kernel
theorem dd_Mo_vertex_81 : decode cc_Mo_vertex 81 = .ok (.iaload, 1) := by decide +kernel
theorem dd_Mo_vertex_82 : decode cc_Mo_vertex 82 = .ok (.goto 9, 3) := by decide +kernel
theorem dd_Mo_vertex_85 : decode cc_Mo_vertex 85 = .ok (.aload_n 0, 1) := by decide +kernel
theorem dd_Mo_vertex_86 : decode cc_Mo_vertex 86 = .ok (.getfield 38, 3) := by decide +kernel
theorem dd_Mo_vertex_89 : decode cc_Mo_vertex 89 = .ok (.iload_n 1, 1) := by decide +kernel
theorem dd_Mo_vertex_90 : decode cc_Mo_vertex 90 = .ok (.iaload, 1) := by decide +kernel
theorem dd_Mo_vertex_91 : decode cc_Mo_vertex 91 = .ok (.ireturn, 1) := by decide +kernel
theorem dd_Mo_node_0 : decode cc_Mo_node 0 = .ok (.aload_n 0, 1) := by decide +kernel
theorem dd_Mo_node_1 : decode cc_Mo_node 1 = .ok (.iload_n 1, 1) := by decide +kernel
theorem dd_Mo_node_2 : decode cc_Mo_node 2 = .ok (.invokevirtual 190, 3) := by decide +kernel
theorem dd_Mo_node_5 : decode cc_Mo_node 5 = .ok (.ifCond .ne 5, 3) := by decide +kernel
theorem dd_Mo_node_8 : decode cc_Mo_node 8 = .ok (.iconst 0, 1) := by decide +kernel
theorem dd_Mo_node_9 : decode cc_Mo_node 9 = .ok (.ireturn, 1) := by decide +kernel
theorem dd_Mo_node_10 : decode cc_Mo_node 10 = .ok (.iconst 0, 1) := by decide +kernel
theorem dd_Mo_node_11 : decode cc_Mo_node 11 = .ok (.istore_n 3, 1) := by decide +kernel
theorem dd_Mo_node_12 : decode cc_Mo_node 12 = .ok (.iload_n 2, 1) := by decide +kernel
theorem dd_Mo_node_13 : decode cc_Mo_node 13 = .ok (.iconst 5, 1) := by decide +kernel
theorem dd_Mo_node_14 : decode cc_Mo_node 14 = .ok (.if_icmp .ne 32, 3) := by decide +kernel
theorem dd_Mo_node_17 : decode cc_Mo_node 17 = .ok (.iconst 1, 1) := by decide +kernel
theorem dd_Mo_node_18 : decode cc_Mo_node 18 = .ok (.istore 4, 2) := by decide +kernel
theorem dd_Mo_node_20 : decode cc_Mo_node 20 = .ok (.iload 4, 2) := by decide +kernel
theorem dd_Mo_node_22 : decode cc_Mo_node 22 = .ok (.bipush 15, 2) := by decide +kernel
theorem dd_Mo_node_24 : decode cc_Mo_node 24 = .ok (.if_icmp .ge 22, 3) := by decide +kernel
theorem dd_Mo_node_27 : decode cc_Mo_node 27 = .ok (.iload_n 3, 1) := by decide +kernel
theorem dd_Mo_node_28 : decode cc_Mo_node 28 = .ok (.aload_n 0, 1) := by decide +kernel
theorem dd_Mo_node_29 : decode cc_Mo_node 29 = .ok (.iload_n 1, 1) := by decide +kernel
theorem dd_Mo_node_30 : decode cc_Mo_node 30 = .ok (.iload 4, 2) := by decide +kernel
theorem dd_Mo_node_32 : decode cc_Mo_node 32 = .ok (.invokevirtual 156, 3) := by decide +kernel
theorem dd_Mo_node_35 : decode cc_Mo_node 35 = .ok (.invokestatic 115, 3) := by decide +kernel
theorem dd_Mo_node_38 : decode cc_Mo_node 38 = .ok (.iadd, 1) := by decide +kernel
theorem dd_Mo_node_39 : decode cc_Mo_node 39 = .ok (.istore_n 3, 1) := by decide +kernel
theorem dd_Mo_node_40 : decode cc_Mo_node 40 = .ok (.iinc 4 1, 3) := by decide +kernel
theorem dd_Mo_node_43 : decode cc_Mo_node 43 = .ok (.goto (-23), 3) := by decide +kernel
theorem dd_Mo_node_46 : decode cc_Mo_node 46 = .ok (.iconst 0, 1) := by decide +kernel
theorem dd_Mo_node_47 : decode cc_Mo_node 47 = .ok (.istore 4, 2) := by decide +kernel
theorem dd_Mo_node_49 : decode cc_Mo_node 49 = .ok (.iload 4, 2) := by decide +kernel
theorem dd_Mo_node_51 : decode cc_Mo_node 51 = .ok (.aload_n 0, 1) := by decide +kernel
theorem dd_Mo_node_52 : decode cc_Mo_node 52 = .ok (.getfield 176, 3) := by decide +kernel
theorem dd_Mo_node_55 : decode cc_Mo_node 55 = .ok (.if_icmp .ge 44, 3) := by decide +kernel
theorem dd_Mo_node_58 : decode cc_Mo_node 58 = .ok (.iload_n 2, 1) := by decide +kernel
theorem dd_Mo_node_59 : decode cc_Mo_node 59 = .ok (.bipush 7, 2) := by decide +kernel
theorem dd_Mo_node_61 : decode cc_Mo_node 61 = .ok (.if_icmp .ne 38, 3) := by decide +kernel
theorem dd_Mo_node_64 : decode cc_Mo_node 64 = .ok (.iload_n 3, 1) := by decide +kernel
theorem dd_Mo_node_65 : decode cc_Mo_node 65 = .ok (.aload_n 0, 1) := by decide +kernel
theorem dd_Mo_node_66 : decode cc_Mo_node 66 = .ok (.getfield 19, 3) := by decide +kernel
theorem dd_Mo_node_69 : decode cc_Mo_node 69 = .ok (.iload 4, 2) := by decide +kernel
theorem dd_Mo_node_71 : decode cc_Mo_node 71 = .ok (.iaload, 1) := by decide +kernel
theorem dd_Mo_node_72 : decode cc_Mo_node 72 = .ok (.iload_n 1, 1) := by decide +kernel
theorem dd_Mo_node_73 : decode cc_Mo_node 73 = .ok (.if_icmp .ne 17, 3) := by decide +kernel
theorem dd_Mo_node_76 : decode cc_Mo_node 76 = .ok (.aload_n 0, 1) := by decide +kernel
theorem dd_Mo_node_77 : decode cc_Mo_node 77 = .ok (.getfield 22, 3) := by decide +kernel
theorem dd_Mo_node_80 : decode cc_Mo_node 80 = .ok (.iload 4, 2) := by decide +kernel
theorem dd_Mo_node_82 : decode cc_Mo_node 82 = .ok (.baload, 1) := by decide +kernel
theorem dd_Mo_node_83 : decode cc_Mo_node 83 = .ok (.ifCond .ne 7, 3) := by decide +kernel
theorem dd_Mo_node_86 : decode cc_Mo_node 86 = .ok (.iconst 1, 1) := by decide +kernel
theorem dd_Mo_node_87 : decode cc_Mo_node 87 = .ok (.goto 4, 3) := by decide +kernel
theorem dd_Mo_node_90 : decode cc_Mo_node 90 = .ok (.iconst 0, 1) := by decide +kernel
theorem dd_Mo_node_91 : decode cc_Mo_node 91 = .ok (.iadd, 1) := by decide +kernel
theorem dd_Mo_node_92 : decode cc_Mo_node 92 = .ok (.istore_n 3, 1) := by decide +kernel
theorem dd_Mo_node_93 : decode cc_Mo_node 93 = .ok (.iinc 4 1, 3) := by decide +kernel
theorem dd_Mo_node_96 : decode cc_Mo_node 96 = .ok (.goto (-47), 3) := by decide +kernel
theorem dd_Mo_node_99 : decode cc_Mo_node 99 = .ok (.iload_n 2, 1) := by decide +kernel
theorem dd_Mo_node_100 : decode cc_Mo_node 100 = .ok (.iconst 5, 1) := by decide +kernel
theorem dd_Mo_node_101 : decode cc_Mo_node 101 = .ok (.if_icmp .eq 9, 3) := by decide +kernel
theorem dd_Mo_node_104 : decode cc_Mo_node 104 = .ok (.iload_n 2, 1) := by decide +kernel
theorem dd_Mo_node_105 : decode cc_Mo_node 105 = .ok (.bipush 7, 2) := by decide +kernel
theorem dd_Mo_node_107 : decode cc_Mo_node 107 = .ok (.if_icmp .ne 5, 3) := by decide +kernel
theorem dd_Mo_node_110 : decode cc_Mo_node 110 = .ok (.iload_n 3, 1) := by decide +kernel
theorem dd_Mo_node_111 : decode cc_Mo_node 111 = .ok (.ireturn, 1) := by decide +kernel
theorem dd_Mo_node_112 : decode cc_Mo_node 112 = .ok (.iload_n 2, 1) := by decide +kernel
theorem dd_Mo_node_113 : decode cc_Mo_node 113 = .ok (.iconst 4, 1) := by decide +kernel
theorem dd_Mo_node_114 : decode cc_Mo_node 114 = .ok (.if_icmp .ge 60, 3) := by decide +kernel
theorem dd_Mo_node_117 : decode cc_Mo_node 117 = .ok (.iload_n 2, 1) := by decide +kernel
theorem dd_Mo_node_118 : decode cc_Mo_node 118 = .ok (.ifCond .ne 12, 3) := by decide +kernel
theorem dd_Mo_node_121 : decode cc_Mo_node 121 = .ok (.aload_n 0, 1) := by decide +kernel
theorem dd_Mo_node_122 : decode cc_Mo_node 122 = .ok (.getfield 50, 3) := by decide +kernel
theorem dd_Mo_node_125 : decode cc_Mo_node 125 = .ok (.iload_n 1, 1) := by decide +kernel
theorem dd_Mo_node_126 : decode cc_Mo_node 126 = .ok (.iaload, 1) := by decide +kernel
theorem dd_Mo_node_127 : decode cc_Mo_node 127 = .ok (.goto 46, 3) := by decide +kernel
theorem dd_Mo_node_130 : decode cc_Mo_node 130 = .ok (.iload_n 2, 1) := by decide +kernel
theorem dd_Mo_node_131 : decode cc_Mo_node 131 = .ok (.iconst 1, 1) := by decide +kernel
theorem dd_Mo_node_132 : decode cc_Mo_node 132 = .ok (.if_icmp .ne 12, 3) := by decide +kernel
theorem dd_Mo_node_135 : decode cc_Mo_node 135 = .ok (.aload_n 0, 1) := by decide +kernel
theorem dd_Mo_node_136 : decode cc_Mo_node 136 = .ok (.getfield 59, 3) := by decide +kernel
theorem dd_Mo_node_139 : decode cc_Mo_node 139 = .ok (.iload_n 1, 1) := by decide +kernel
theorem dd_Mo_node_140 : decode cc_Mo_node 140 = .ok (.iaload, 1) := by decide +kernel
theorem dd_Mo_node_141 : decode cc_Mo_node 141 = .ok (.goto 32, 3) := by decide +kernel
theorem dd_Mo_node_144 : decode cc_Mo_node 144 = .ok (.iload_n 2, 1) := by decide +kernel
theorem dd_Mo_node_145 : decode cc_Mo_node 145 = .ok (.iconst 2, 1) := by decide +kernel
theorem dd_Mo_node_146 : decode cc_Mo_node 146 = .ok (.if_icmp .ne 12, 3) := by decide +kernel
theorem dd_Mo_node_149 : decode cc_Mo_node 149 = .ok (.aload_n 0, 1) := by decide +kernel
theorem dd_Mo_node_150 : decode cc_Mo_node 150 = .ok (.getfield 68, 3) := by decide +kernel
theorem dd_Mo_node_153 : decode cc_Mo_node 153 = .ok (.iload_n 1, 1) := by decide +kernel
theorem dd_Mo_node_154 : decode cc_Mo_node 154 = .ok (.iaload, 1) := by decide +kernel
theorem dd_Mo_node_155 : decode cc_Mo_node 155 = .ok (.goto 18, 3) := by decide +kernel
theorem dd_Mo_node_158 : decode cc_Mo_node 158 = .ok (.iload_n 2, 1) := by decide +kernel
theorem dd_Mo_node_159 : decode cc_Mo_node 159 = .ok (.iconst 3, 1) := by decide +kernel
theorem dd_Mo_node_160 : decode cc_Mo_node 160 = .ok (.if_icmp .ne 12, 3) := by decide +kernel
theorem dd_Mo_node_163 : decode cc_Mo_node 163 = .ok (.aload_n 0, 1) := by decide +kernel
theorem dd_Mo_node_164 : decode cc_Mo_node 164 = .ok (.getfield 71, 3) := by decide +kernel
theorem dd_Mo_node_167 : decode cc_Mo_node 167 = .ok (.iload_n 1, 1) := by decide +kernel
theorem dd_Mo_node_168 : decode cc_Mo_node 168 = .ok (.iaload, 1) := by decide +kernel
theorem dd_Mo_node_169 : decode cc_Mo_node 169 = .ok (.goto 4, 3) := by decide +kernel
theorem dd_Mo_node_172 : decode cc_Mo_node 172 = .ok (.iconst (-1), 1) := by decide +kernel
theorem dd_Mo_node_173 : decode cc_Mo_node 173 = .ok (.ireturn, 1) := by decide +kernel
theorem dd_Mo_node_174 : decode cc_Mo_node 174 = .ok (.iload_n 2, 1) := by decide +kernel
theorem dd_Mo_node_175 : decode cc_Mo_node 175 = .ok (.iconst 4, 1) := by decide +kernel
theorem dd_Mo_node_176 : decode cc_Mo_node 176 = .ok (.if_icmp .ne 12, 3) := by decide +kernel
theorem dd_Mo_node_179 : decode cc_Mo_node 179 = .ok (.aload_n 0, 1) := by decide +kernel
theorem dd_Mo_node_180 : decode cc_Mo_node 180 = .ok (.getfield 74, 3) := by decide +kernel
theorem dd_Mo_node_183 : decode cc_Mo_node 183 = .ok (.iload_n 1, 1) := by decide +kernel
theorem dd_Mo_node_184 : decode cc_Mo_node 184 = .ok (.iaload, 1) := by decide +kernel
theorem dd_Mo_node_185 : decode cc_Mo_node 185 = .ok (.goto 34, 3) := by decide +kernel
theorem dd_Mo_node_188 : decode cc_Mo_node 188 = .ok (.iload_n 2, 1) := by decide +kernel
theorem dd_Mo_node_189 : decode cc_Mo_node 189 = .ok (.bipush 6, 2) := by decide +kernel
theorem dd_Mo_node_191 : decode cc_Mo_node 191 = .ok (.if_icmp .ne 12, 3) := by decide +kernel
theorem dd_Mo_node_194 : decode cc_Mo_node 194 = .ok (.aload_n 0, 1) := by decide +kernel
theorem dd_Mo_node_195 : decode cc_Mo_node 195 = .ok (.getfield 92, 3) := by decide +kernel
theorem dd_Mo_node_198 : decode cc_Mo_node 198 = .ok (.iload_n 1, 1) := by decide +kernel
theorem dd_Mo_node_199 : decode cc_Mo_node 199 = .ok (.iaload, 1) := by decide +kernel
theorem dd_Mo_node_200 : decode cc_Mo_node 200 = .ok (.goto 19, 3) := by decide +kernel
theorem dd_Mo_node_203 : decode cc_Mo_node 203 = .ok (.iload_n 2, 1) := by decide +kernel
theorem dd_Mo_node_204 : decode cc_Mo_node 204 = .ok (.bipush 8, 2) := by decide +kernel
theorem dd_Mo_node_206 : decode cc_Mo_node 206 = .ok (.if_icmp .ne 12, 3) := by decide +kernel
theorem dd_Mo_node_209 : decode cc_Mo_node 209 = .ok (.aload_n 0, 1) := by decide +kernel
theorem dd_Mo_node_210 : decode cc_Mo_node 210 = .ok (.getfield 53, 3) := by decide +kernel
theorem dd_Mo_node_213 : decode cc_Mo_node 213 = .ok (.iload_n 1, 1) := by decide +kernel
theorem dd_Mo_node_214 : decode cc_Mo_node 214 = .ok (.iaload, 1) := by decide +kernel
theorem dd_Mo_node_215 : decode cc_Mo_node 215 = .ok (.goto 4, 3) := by decide +kernel
theorem dd_Mo_node_218 : decode cc_Mo_node 218 = .ok (.iconst (-1), 1) := by decide +kernel
theorem dd_Mo_node_219 : decode cc_Mo_node 219 = .ok (.ireturn, 1) := by decide +kernel
theorem dd_Mo_dag_0 : decode cc_Mo_dag 0 = .ok (.aload_n 0, 1) := by decide +kernel
theorem dd_Mo_dag_1 : decode cc_Mo_dag 1 = .ok (.iload_n 1, 1) := by decide +kernel
theorem dd_Mo_dag_2 : decode cc_Mo_dag 2 = .ok (.invokevirtual 190, 3) := by decide +kernel
theorem dd_Mo_dag_5 : decode cc_Mo_dag 5 = .ok (.ifCond .eq 22, 3) := by decide +kernel
theorem dd_Mo_dag_8 : decode cc_Mo_dag 8 = .ok (.iload_n 2, 1) := by decide +kernel
theorem dd_Mo_dag_9 : decode cc_Mo_dag 9 = .ok (.iconst 0, 1) := by decide +kernel
theorem dd_Mo_dag_10 : decode cc_Mo_dag 10 = .ok (.iconst 3, 1) := by decide +kernel
theorem dd_Mo_dag_11 : decode cc_Mo_dag 11 = .ok (.invokestatic 186, 3) := by decide +kernel
theorem dd_Mo_dag_14 : decode cc_Mo_dag 14 = .ok (.ifCond .eq 13, 3) := by decide +kernel
theorem dd_Mo_dag_17 : decode cc_Mo_dag 17 = .ok (.iload_n 3, 1) := by decide +kernel
theorem dd_Mo_dag_18 : decode cc_Mo_dag 18 = .ok (.iconst 1, 1) := by decide +kernel
theorem dd_Mo_dag_19 : decode cc_Mo_dag 19 = .ok (.bipush 14, 2) := by decide +kernel
theorem dd_Mo_dag_21 : decode cc_Mo_dag 21 = .ok (.invokestatic 186, 3) := by decide +kernel
theorem dd_Mo_dag_24 : decode cc_Mo_dag 24 = .ok (.ifCond .ne 7, 3) := by decide +kernel
theorem dd_Mo_dag_27 : decode cc_Mo_dag 27 = .ok (.iconst (-1), 1) := by decide +kernel
theorem dd_Mo_dag_28 : decode cc_Mo_dag 28 = .ok (.goto 20, 3) := by decide +kernel
theorem dd_Mo_dag_31 : decode cc_Mo_dag 31 = .ok (.aload_n 0, 1) := by decide +kernel
theorem dd_Mo_dag_32 : decode cc_Mo_dag 32 = .ok (.getfield 77, 3) := by decide +kernel
theorem dd_Mo_dag_35 : decode cc_Mo_dag 35 = .ok (.bipush 60, 2) := by decide +kernel
theorem dd_Mo_dag_37 : decode cc_Mo_dag 37 = .ok (.iload_n 1, 1) := by decide +kernel
theorem dd_Mo_dag_38 : decode cc_Mo_dag 38 = .ok (.imul, 1) := by decide +kernel
theorem dd_Mo_dag_39 : decode cc_Mo_dag 39 = .ok (.iconst 4, 1) := by decide +kernel
theorem dd_Mo_dag_40 : decode cc_Mo_dag 40 = .ok (.iload_n 3, 1) := by decide +kernel
theorem dd_Mo_dag_41 : decode cc_Mo_dag 41 = .ok (.imul, 1) := by decide +kernel
theorem dd_Mo_dag_42 : decode cc_Mo_dag 42 = .ok (.iadd, 1) := by decide +kernel
theorem dd_Mo_dag_43 : decode cc_Mo_dag 43 = .ok (.iload_n 2, 1) := by decide +kernel
theorem dd_Mo_dag_44 : decode cc_Mo_dag 44 = .ok (.iadd, 1) := by decide +kernel
theorem dd_Mo_dag_45 : decode cc_Mo_dag 45 = .ok (.iaload, 1) := by decide +kernel
theorem dd_Mo_dag_46 : decode cc_Mo_dag 46 = .ok (.iconst 1, 1) := by decide +kernel
theorem dd_Mo_dag_47 : decode cc_Mo_dag 47 = .ok (.isub, 1) := by decide +kernel
theorem dd_Mo_dag_48 : decode cc_Mo_dag 48 = .ok (.ireturn, 1) := by decide +kernel
theorem dd_Mo_at_0 : decode cc_Mo_at 0 = .ok (.aload_n 0, 1) := by decide +kernel
theorem dd_Mo_at_1 : decode cc_Mo_at 1 = .ok (.iload_n 1, 1) := by decide +kernel
theorem dd_Mo_at_2 : decode cc_Mo_at 2 = .ok (.invokevirtual 190, 3) := by decide +kernel
theorem dd_Mo_at_5 : decode cc_Mo_at 5 = .ok (.ifCond .eq 17, 3) := by decide +kernel
theorem dd_Mo_at_8 : decode cc_Mo_at 8 = .ok (.iload_n 2, 1) := by decide +kernel
theorem dd_Mo_at_9 : decode cc_Mo_at 9 = .ok (.ifCond .lt 13, 3) := by decide +kernel
theorem dd_Mo_at_12 : decode cc_Mo_at 12 = .ok (.iload_n 2, 1) := by decide +kernel
theorem dd_Mo_at_13 : decode cc_Mo_at 13 = .ok (.aload_n 0, 1) := by decide +kernel
theorem dd_Mo_at_14 : decode cc_Mo_at 14 = .ok (.getfield 92, 3) := by decide +kernel
theorem dd_Mo_at_17 : decode cc_Mo_at 17 = .ok (.iload_n 1, 1) := by decide +kernel
theorem dd_Mo_at_18 : decode cc_Mo_at 18 = .ok (.iaload, 1) := by decide +kernel
theorem dd_Mo_at_19 : decode cc_Mo_at 19 = .ok (.if_icmp .lt 7, 3) := by decide +kernel
theorem dd_Mo_at_22 : decode cc_Mo_at 22 = .ok (.iconst (-1), 1) := by decide +kernel
theorem dd_Mo_at_23 : decode cc_Mo_at 23 = .ok (.goto 14, 3) := by decide +kernel
theorem dd_Mo_at_26 : decode cc_Mo_at 26 = .ok (.aload_n 0, 1) := by decide +kernel
theorem dd_Mo_at_27 : decode cc_Mo_at 27 = .ok (.getfield 89, 3) := by decide +kernel
theorem dd_Mo_at_30 : decode cc_Mo_at 30 = .ok (.bipush 40, 2) := by decide +kernel
theorem dd_Mo_at_32 : decode cc_Mo_at 32 = .ok (.iload_n 1, 1) := by decide +kernel
theorem dd_Mo_at_33 : decode cc_Mo_at 33 = .ok (.imul, 1) := by decide +kernel
theorem dd_Mo_at_34 : decode cc_Mo_at 34 = .ok (.iload_n 2, 1) := by decide +kernel
theorem dd_Mo_at_35 : decode cc_Mo_at 35 = .ok (.iadd, 1) := by decide +kernel
theorem dd_Mo_at_36 : decode cc_Mo_at 36 = .ok (.iaload, 1) := by decide +kernel
theorem dd_Mo_at_37 : decode cc_Mo_at 37 = .ok (.ireturn, 1) := by decide +kernel
theorem dd_Mo_balance_0 : decode cc_Mo_balance 0 = .ok (.aload_n 0, 1) := by decide +kernel
theorem dd_Mo_balance_1 : decode cc_Mo_balance 1 = .ok (.iload_n 1, 1) := by decide +kernel
theorem dd_Mo_balance_2 : decode cc_Mo_balance 2 = .ok (.invokevirtual 190, 3) := by decide +kernel
theorem dd_Mo_balance_5 : decode cc_Mo_balance 5 = .ok (.ifCond .eq 12, 3) := by decide +kernel
theorem dd_Mo_balance_8 : decode cc_Mo_balance 8 = .ok (.iload_n 2, 1) := by decide +kernel
theorem dd_Mo_balance_9 : decode cc_Mo_balance 9 = .ok (.iconst 0, 1) := by decide +kernel
theorem dd_Mo_balance_10 : decode cc_Mo_balance 10 = .ok (.iconst 3, 1) := by decide +kernel
theorem dd_Mo_balance_11 : decode cc_Mo_balance 11 = .ok (.invokestatic 186, 3) := by decide +kernel
theorem dd_Mo_balance_14 : decode cc_Mo_balance 14 = .ok (.ifCond .ne 5, 3) := by decide +kernel
theorem dd_Mo_balance_17 : decode cc_Mo_balance 17 = .ok (.iconst (-1), 1) := by decide +kernel
theorem dd_Mo_balance_18 : decode cc_Mo_balance 18 = .ok (.ireturn, 1) := by decide +kernel
theorem dd_Mo_balance_19 : decode cc_Mo_balance 19 = .ok (.aload_n 0, 1) := by decide +kernel
theorem dd_Mo_balance_20 : decode cc_Mo_balance 20 = .ok (.getfield 50, 3) := by decide +kernel
theorem dd_Mo_balance_23 : decode cc_Mo_balance 23 = .ok (.iload_n 1, 1) := by decide +kernel
theorem dd_Mo_balance_24 : decode cc_Mo_balance 24 = .ok (.iaload, 1) := by decide +kernel
theorem dd_Mo_balance_25 : decode cc_Mo_balance 25 = .ok (.ifCond .eq 20, 3) := by decide +kernel
theorem dd_Mo_balance_28 : decode cc_Mo_balance 28 = .ok (.aload_n 0, 1) := by decide +kernel
theorem dd_Mo_balance_29 : decode cc_Mo_balance 29 = .ok (.getfield 50, 3) := by decide +kernel
theorem dd_Mo_balance_32 : decode cc_Mo_balance 32 = .ok (.iload_n 1, 1) := by decide +kernel
theorem dd_Mo_balance_33 : decode cc_Mo_balance 33 = .ok (.iaload, 1) := by decide +kernel
theorem dd_Mo_balance_34 : decode cc_Mo_balance 34 = .ok (.iconst 2, 1) := by decide +kernel
theorem dd_Mo_balance_35 : decode cc_Mo_balance 35 = .ok (.if_icmp .ne 14, 3) := by decide +kernel
theorem dd_Mo_balance_38 : decode cc_Mo_balance 38 = .ok (.aload_n 0, 1) := by decide +kernel
theorem dd_Mo_balance_39 : decode cc_Mo_balance 39 = .ok (.getfield 207, 3) := by decide +kernel
theorem dd_Mo_balance_42 : decode cc_Mo_balance 42 = .ok (.ifCond .eq 7, 3) := by decide +kernel
theorem dd_Mo_balance_45 : decode cc_Mo_balance 45 = .ok (.iconst 0, 1) := by decide +kernel
theorem dd_Mo_balance_46 : decode cc_Mo_balance 46 = .ok (.goto 13, 3) := by decide +kernel
theorem dd_Mo_balance_49 : decode cc_Mo_balance 49 = .ok (.aload_n 0, 1) := by decide +kernel
theorem dd_Mo_balance_50 : decode cc_Mo_balance 50 = .ok (.getfield 95, 3) := by decide +kernel
theorem dd_Mo_balance_53 : decode cc_Mo_balance 53 = .ok (.iconst 4, 1) := by decide +kernel
theorem dd_Mo_balance_54 : decode cc_Mo_balance 54 = .ok (.iload_n 1, 1) := by decide +kernel
theorem dd_Mo_balance_55 : decode cc_Mo_balance 55 = .ok (.imul, 1) := by decide +kernel
theorem dd_Mo_balance_56 : decode cc_Mo_balance 56 = .ok (.iload_n 2, 1) := by decide +kernel
theorem dd_Mo_balance_57 : decode cc_Mo_balance 57 = .ok (.iadd, 1) := by decide +kernel
theorem dd_Mo_balance_58 : decode cc_Mo_balance 58 = .ok (.iaload, 1) := by decide +kernel
theorem dd_Mo_balance_59 : decode cc_Mo_balance 59 = .ok (.ireturn, 1) := by decide +kernel
end
section
/-! contracts over numbers out of walks -/
theorem nw_of {ids : List Nat} {y : MethodName} {cc : ByteArray} {nL : Nat} {ret : Option FieldType} {d mc ms : Nat} {av : List Value} {X : wx_S} {Q : Option Value → wx_S → Prop} (ls0 : List (Option Value)) (hy : plainName y.cls = true) (hcat : av.all cw_c1 = true) (hlen : av.length ≤ nL) (h0 : cw_in av nL = ls0)
    (h : ∀ (p : Program) (l : Launch) (e : Env) (s : State) (m : MethodId) (args : Array Value) (below : List Frame) (meth : Method) (c : Code) (A : Nat → Prop) (g : wd_G), cw_C p s m args meth c A ids g cc nL y.cls ret →
      cw_W p l e (cw_rm d mc ms) s m args below meth c A ids g 0 0 (cw_G below args s A ids g mc ms (fun v σ' τ' => ∃ X' : wx_S, σ' = wx_e X' ∧ τ' = wx_l X' ∧ Q v X')) nL 0 ls0 [] (wx_e X) (wx_l X)) : nw_M ids y cc nL ret d mc ms av X Q := by
  subst h0
  exact cw_M.of hy hcat hlen h
theorem nw_zn : ∀ {k : Nat}, k < 2 → narrow .boolean (.int (nI k)) = .int (nI k) := by
  have h : ∀ k, k < 2 → narrow .boolean (.int (nI k)) = .int (nI k) := by decide +kernel
  exact fun {k} hk => h k hk
theorem nw_zf : ∀ {k : Nat}, k < 2 → fits .boolean (.int (nI k)) = true := by
  have h : ∀ k, k < 2 → fits .boolean (.int (nI k)) = true := by decide +kernel
  exact fun {k} hk => h k hk
/-- a truth as a number -/
abbrev zb_n (b : Prop) [Decidable b] : Nat := if b then 1 else 0
theorem zb_lt (b : Prop) [Decidable b] : zb_n b < 2 := by unfold zb_n; split <;> omega
theorem zb_t {b : Prop} [Decidable b] (h : b) : nI 1 = nI (zb_n b) := by rw [zb_n, if_pos h]
theorem zb_f {b : Prop} [Decidable b] (h : ¬ b) : nI 0 = nI (zb_n b) := by rw [zb_n, if_neg h]
/-- f done for i, i + 1 .. (n times) -/
def zz_it {α : Type} (f : Nat → α → α) : Nat → Nat → α → α
  | _, 0, x => x
  | i, n + 1, x => zz_it f (i + 1) n (f i x)
theorem zz_it_last {α : Type} (f : Nat → α → α) : ∀ (n i : Nat) (x : α), zz_it f i (n + 1) x = f (i + n) (zz_it f i n x)
  | 0, i, x => rfl
  | n + 1, i, x => by
    show zz_it f (i + 1) (n + 1) (f i x) = f (i + (n + 1)) (zz_it f (i + 1) n (f i x))
    rw [zz_it_last f n (i + 1) (f i x), show i + 1 + n = i + (n + 1) by omega]
def zn_ones (n : Nat) : Nat := n % 2 + n / 2 % 2 + n / 4 % 2 + n / 8 % 2
theorem zn_ones_le (n : Nat) : zn_ones n ≤ 4 := by unfold zn_ones; omega
/-- bit b of n -/
def zn_bit (n b : Nat) : Bool := n / 2 ^ b % 2 == 1
theorem zn_or16 {a b : Nat} (ha : a < 16) (hb : b < 16) : a ||| b < 16 := Nat.or_lt_two_pow (n := 4) ha hb
theorem zn_and_lt {a b n : Nat} (ha : a < n) : a &&& b < n := Nat.lt_of_le_of_lt Nat.and_le_left ha
theorem zn_pow4 {s : Nat} (h : s < 4) : 2 ^ s < 16 := by
  rcases (show s = 0 ∨ s = 1 ∨ s = 2 ∨ s = 3 by omega) with rfl | rfl | rfl | rfl <;> decide
section
variable {p : Program} {l : Launch} {e : Env} {R : Room} {s : State} {m : MethodId} {args : Array Value} {below : List Frame} {meth : Method} {c : Code} {A : Nat → Prop} {ids : List Nat} {g : wd_G} {cells slots : Nat} {G : State → Prop} {cc : ByteArray} {nL pc : Nat} {own : String} {ret : Option FieldType} {ls : List (Option Value)} {st : List Value} {σ : wd_S} {τ : wd_L}
theorem cw_ldcw (C : cw_C p s m args meth c A ids g cc nL own ret) {index : Nat} {v : Int32} (hk : Cond.constant own index v ∈ wd_tb) (hd : decode cc pc = .ok (.ldc_w index, 3)) (k : cw_W p l e R s m args below meth c A ids g cells slots G nL (pc + 3) ls (.int v :: st) σ τ) : cw_W p l e R s m args below meth c A ids g cells slots G nL pc ls st σ τ := fun H locs la hl hP hS => lv_ldcw C.1 C.2.1 C.2.2.2.1 (C.2.2.2.2.1 _ hk) hd (k H locs la hl hP hS)
theorem nw_iand1 (C : cw_C p s m args meth c A ids g cc nL own ret) {a : Nat} (hd : decode cc pc = .ok (.iand, 1)) (k : cw_W p l e R s m args below meth c A ids g cells slots G nL (pc + 1) ls (.int (nI (a % 2)) :: st) σ τ) : cw_W p l e R s m args below meth c A ids g cells slots G nL pc ls (.int (nI 1) :: .int (nI a) :: st) σ τ := nw_iand C hd (by rw [Nat.and_one_is_mod]; exact k)
end
theorem nw_eqX {p : Program} {l : Launch} {e : Env} {R : Room} {s : State} {m : MethodId} {args : Array Value} {below : List Frame} {meth : Method} {c : Code} {A : Nat → Prop} {ids : List Nat} {g : wd_G} {cells slots : Nat} {G : State → Prop} {nL pc : Nat} {ls : List (Option Value)} {st : List Value} {X X' : wx_S} (h : X = X') (k : cw_W p l e R s m args below meth c A ids g cells slots G nL pc ls st (wx_e X') (wx_l X')) : cw_W p l e R s m args below meth c A ids g cells slots G nL pc ls st (wx_e X) (wx_l X) := h ▸ k
def zz_fill (X : wx_S) (q n v : Nat) : wx_S := fun c k => if c = q ∧ k < n then v else X c k
theorem zz_fill_0 (X : wx_S) (q v : Nat) : zz_fill X q 0 v = X := by funext c k; simp [zz_fill]
theorem zz_fill_s (X : wx_S) (q n v : Nat) : wx_u (zz_fill X q n v) q n v = zz_fill X q (n + 1) v := by
  funext c k
  simp only [wx_u, zz_fill]
  by_cases hc : c = q
  · subst hc
    by_cases hk : k = n
    · subst hk; simp
    · simp only [true_and, hk, if_false, and_false]
      by_cases h : k < n
      · rw [if_pos h, if_pos (by omega)]
      · rw [if_neg h, if_neg (by omega)]
  · simp [hc]
theorem zb_0 {b : Prop} [Decidable b] : zb_n b = 0 ↔ ¬ b := by unfold zb_n; split <;> simp_all
section
variable {p : Program} {l : Launch} {e : Env} {R : Room} {s : State} {m : MethodId} {args : Array Value} {below : List Frame} {meth : Method} {c : Code} {A : Nat → Prop} {ids : List Nat} {g : wd_G} {cells slots : Nat} {G : State → Prop} {cc : ByteArray} {nL pc : Nat} {own : String} {ret : Option FieldType} {ls : List (Option Value)} {st : List Value} {σ : wd_S} {τ : wd_L}
theorem nw_zeq (C : cw_C p s m args meth c A ids g cc nL own ret) {b : Prop} [Decidable b] {off : Int} {tgt : Nat} (hd : decode cc pc = .ok (.ifCond .eq off, 3)) (ht : (pc : Int) + off = (tgt : Int)) (kt : ¬ b → cw_W p l e R s m args below meth c A ids g cells slots G nL tgt ls st σ τ) (kf : b → cw_W p l e R s m args below meth c A ids g cells slots G nL (pc + 3) ls st σ τ) : cw_W p l e R s m args below meth c A ids g cells slots G nL pc ls (.int (nI (zb_n b)) :: st) σ τ :=
  nw_if_eq C hd ht (Nat.lt_trans (zb_lt b) (by decide)) (fun h => kt (zb_0.mp h)) (fun h => kf (Classical.not_not.mp (fun q => h (zb_0.mpr q))))
theorem nw_zne (C : cw_C p s m args meth c A ids g cc nL own ret) {b : Prop} [Decidable b] {off : Int} {tgt : Nat} (hd : decode cc pc = .ok (.ifCond .ne off, 3)) (ht : (pc : Int) + off = (tgt : Int)) (kt : b → cw_W p l e R s m args below meth c A ids g cells slots G nL tgt ls st σ τ) (kf : ¬ b → cw_W p l e R s m args below meth c A ids g cells slots G nL (pc + 3) ls st σ τ) : cw_W p l e R s m args below meth c A ids g cells slots G nL pc ls (.int (nI (zb_n b)) :: st) σ τ :=
  nw_if_ne C hd ht (Nat.lt_trans (zb_lt b) (by decide)) (fun h => kt (Classical.not_not.mp (fun q => h (zb_0.mpr q)))) (fun h => kf (zb_0.mp h))
theorem cw_mmin (C : cw_C p s m args meth c A ids g cc nL own ret) {index : Nat} {x y : Int32} (h1 : Cond.methodLink own index Lib.Math.min.name ∈ wd_tb) (h2 : Cond.static Lib.Math.min.name ∈ wd_tb) (h3 : Cond.initialized "java/lang/Math" ∈ wd_tb) (h4 : Cond.code Lib.Math.min.name Lib.Math.min.code 2 (some .int) ∈ wd_tb) (hR : 1 ≤ R.frames ∧ ((st.map (cw_v g.1)).map fun v => v.category).sum + 13 ≤ R.locals ∧ cells ≤ R.cells ∧ slots ≤ R.slots) (hd : decode cc pc = .ok (.invokestatic index, 3)) (k : cw_W p l e R s m args below meth c A ids g cells slots G nL (pc + 3) ls (.int (if y < x then y else x) :: st) σ τ) : cw_W p l e R s m args below meth c A ids g cells slots G nL pc ls (.int y :: .int x :: st) σ τ := fun H locs la hl hP hS =>
  va_mmin C.1 C.2.1 (by rw [C.2.2.1]; exact hl.1.symm) C.2.2.2.1 (C.2.2.2.2.1 _ h1) (C.2.2.2.2.1 _ h2) (C.2.2.2.2.1 _ h3) (C.2.2.2.2.1 _ h4) hR.1 hR.2.1 hR.2.2.1 hR.2.2.2 hd (k H locs la hl hP hS)
end
end
section
set_option maxRecDepth 100000 in
set_option maxHeartbeats 4000000 in
theorem mm_Bo_has (X : wx_S) (n : Nat) (hn : n < 4294967296) (hc : X 44 3 < 2147483648) : nw_M wd_all yy_Bo_has cc_Bo_has 2 (some .boolean) 1 0 0 [.ref 44, .int (nI n)] X (fun v X' => v = some (.int (nI (zb_n (n < X 44 3)))) ∧ X' = X) := by
  refine nw_of [some (.ref 44), some (.int (nI n))] (by decide +kernel) rfl (Nat.le_of_ble_eq_true rfl) rfl ?_
  intro p l e s m args below meth c A g C
  refine cw_iload_n C dd_Bo_has_0 rfl ?_
  refine nw_if_lt (tgt := 16) C dd_Bo_has_1 (by decide) (by first | omega | (simp [wx_u] <;> omega)) (fun h1 => ?_) (fun h1 => ?_)
  · refine cw_iconst (v := nI 0) C dd_Bo_has_16 (by decide +kernel) ?_
    exact cw_zreturn C dd_Bo_has_17 (nw_zn (by decide)) (Nat.le_of_ble_eq_true rfl) (Nat.le_of_ble_eq_true rfl) ⟨_, rfl, rfl, ⟨by first | exact congrArg (fun z => some (Value.int z)) (zb_t (by first | omega | (simp [wx_u] <;> omega))) | exact congrArg (fun z => some (Value.int z)) (zb_f (by first | omega | (simp [wx_u] <;> omega))), rfl⟩⟩
  · refine cw_iload_n C dd_Bo_has_4 rfl ?_
    refine cw_aload_n C dd_Bo_has_5 rfl ?_
    refine nw_geti C wc_11 kF_Bo_21 is_11 (by decide) rfl dd_Bo_has_6 ?_
    refine nw_icmp_ge (tgt := 16) C dd_Bo_has_9 (by decide) (by first | omega | (simp [wx_u] <;> omega)) (by first | omega | (simp [wx_u] <;> omega)) (fun h9 => ?_) (fun h9 => ?_)
    · refine cw_iconst (v := nI 0) C dd_Bo_has_16 (by decide +kernel) ?_
      exact cw_zreturn C dd_Bo_has_17 (nw_zn (by decide)) (Nat.le_of_ble_eq_true rfl) (Nat.le_of_ble_eq_true rfl) ⟨_, rfl, rfl, ⟨by first | exact congrArg (fun z => some (Value.int z)) (zb_t (by first | omega | (simp [wx_u] <;> omega))) | exact congrArg (fun z => some (Value.int z)) (zb_f (by first | omega | (simp [wx_u] <;> omega))), rfl⟩⟩
    · refine cw_iconst (v := nI 1) C dd_Bo_has_12 (by decide +kernel) ?_
      refine cw_goto (tgt := 17) C dd_Bo_has_13 (by decide) ?_
      exact cw_zreturn C dd_Bo_has_17 (nw_zn (by decide)) (Nat.le_of_ble_eq_true rfl) (Nat.le_of_ble_eq_true rfl) ⟨_, rfl, rfl, ⟨by first | exact congrArg (fun z => some (Value.int z)) (zb_t (by first | omega | (simp [wx_u] <;> omega))) | exact congrArg (fun z => some (Value.int z)) (zb_f (by first | omega | (simp [wx_u] <;> omega))), rfl⟩⟩
set_option maxRecDepth 100000 in
set_option maxHeartbeats 4000000 in
theorem mm_Bo_isFull (X : wx_S) (hc : X 44 3 < 2147483648) : nw_M wd_all yy_Bo_isFull cc_Bo_isFull 1 (some .boolean) 1 0 0 [.ref 44] X (fun v X' => v = some (.int (nI (zb_n (800 ≤ X 44 3)))) ∧ X' = X) := by
  refine nw_of [some (.ref 44)] (by decide +kernel) rfl (Nat.le_of_ble_eq_true rfl) rfl ?_
  intro p l e s m args below meth c A g C
  refine cw_aload_n C dd_Bo_isFull_0 rfl ?_
  refine nw_geti C wc_11 kF_Bo_21 is_11 (by decide) rfl dd_Bo_isFull_1 ?_
  refine cw_sipush (v := nI 800) C dd_Bo_isFull_4 (by decide +kernel) ?_
  refine nw_icmp_lt (tgt := 14) C dd_Bo_isFull_7 (by decide) (by first | omega | (simp [wx_u] <;> omega)) (by first | omega | (simp [wx_u] <;> omega)) (fun h7 => ?_) (fun h7 => ?_)
  · refine cw_iconst (v := nI 0) C dd_Bo_isFull_14 (by decide +kernel) ?_
    exact cw_zreturn C dd_Bo_isFull_15 (nw_zn (by decide)) (Nat.le_of_ble_eq_true rfl) (Nat.le_of_ble_eq_true rfl) ⟨_, rfl, rfl, ⟨by first | exact congrArg (fun z => some (Value.int z)) (zb_t (by first | omega | (simp [wx_u] <;> omega))) | exact congrArg (fun z => some (Value.int z)) (zb_f (by first | omega | (simp [wx_u] <;> omega))), rfl⟩⟩
  · refine cw_iconst (v := nI 1) C dd_Bo_isFull_10 (by decide +kernel) ?_
    refine cw_goto (tgt := 15) C dd_Bo_isFull_11 (by decide) ?_
    exact cw_zreturn C dd_Bo_isFull_15 (nw_zn (by decide)) (Nat.le_of_ble_eq_true rfl) (Nat.le_of_ble_eq_true rfl) ⟨_, rfl, rfl, ⟨by first | exact congrArg (fun z => some (Value.int z)) (zb_t (by first | omega | (simp [wx_u] <;> omega))) | exact congrArg (fun z => some (Value.int z)) (zb_f (by first | omega | (simp [wx_u] <;> omega))), rfl⟩⟩
set_option maxRecDepth 100000 in
set_option maxHeartbeats 4000000 in
theorem mm_Bo_post (X : wx_S) (k q u : Nat) (hc : X 44 3 < 802) : nw_M wd_all yy_Bo_post cc_Bo_post 4 (some .int) 1 0 0 [.ref 44, .int (nI k), .int (nI q), .int (nI u)] X (fun v X' => v = some (.int (nI (X 44 3))) ∧ X' = wx_u (wx_u (wx_u (wx_u X 48 (X 44 3) k) 52 (X 44 3) q) 56 (X 44 3) u) 44 3 (X 44 3 + 1)) := by
  refine nw_of [some (.ref 44), some (.int (nI k)), some (.int (nI q)), some (.int (nI u))] (by decide +kernel) rfl (Nat.le_of_ble_eq_true rfl) rfl ?_
  intro p l e s m args below meth c A g C
  refine cw_aload_n C dd_Bo_post_0 rfl ?_
  refine cw_getr (q' := 48) C wc_11 kF_Bo_9 is_11 (by decide) rfl dd_Bo_post_1 rfl ?_
  refine cw_aload_n C dd_Bo_post_4 rfl ?_
  refine nw_geti C wc_11 kF_Bo_21 is_11 (by decide) rfl dd_Bo_post_5 ?_
  refine cw_iload_n C dd_Bo_post_8 rfl ?_
  refine nw_iast C is_12 (by first | omega | (simp [wx_u] <;> omega)) (by decide) dd_Bo_post_9 ?_
  refine cw_aload_n C dd_Bo_post_10 rfl ?_
  refine cw_getr (q' := 52) C wc_11 kF_Bo_15 is_11 (by decide) rfl dd_Bo_post_11 rfl ?_
  refine cw_aload_n C dd_Bo_post_14 rfl ?_
  refine nw_geti C wc_11 kF_Bo_21 is_11 (by decide) rfl dd_Bo_post_15 ?_
  refine cw_iload_n C dd_Bo_post_18 rfl ?_
  refine nw_iast C is_13 (by first | omega | (simp [wx_u] <;> omega)) (by decide) dd_Bo_post_19 ?_
  refine cw_aload_n C dd_Bo_post_20 rfl ?_
  refine cw_getr (q' := 56) C wc_11 kF_Bo_18 is_11 (by decide) rfl dd_Bo_post_21 rfl ?_
  refine cw_aload_n C dd_Bo_post_24 rfl ?_
  refine nw_geti C wc_11 kF_Bo_21 is_11 (by decide) rfl dd_Bo_post_25 ?_
  refine cw_iload_n C dd_Bo_post_28 rfl ?_
  refine nw_iast C is_14 (by first | omega | (simp [wx_u] <;> omega)) (by decide) dd_Bo_post_29 ?_
  refine cw_aload_n C dd_Bo_post_30 rfl ?_
  refine cw_dup C dd_Bo_post_31 rfl ?_
  refine nw_geti C wc_11 kF_Bo_21 is_11 (by decide) rfl dd_Bo_post_32 ?_
  refine cw_iconst (v := nI 1) C dd_Bo_post_35 (by decide +kernel) ?_
  refine nw_iadd C dd_Bo_post_36 ?_
  refine nw_puti C wc_11 kF_Bo_21 is_11 (by decide) rfl rfl rfl rfl dd_Bo_post_37 ?_
  refine cw_aload_n C dd_Bo_post_40 rfl ?_
  refine nw_geti C wc_11 kF_Bo_21 is_11 (by decide) rfl dd_Bo_post_41 ?_
  refine cw_iconst (v := nI 1) C dd_Bo_post_44 (by decide +kernel) ?_
  refine nw_isub C dd_Bo_post_45 (by first | omega | (simp [wx_u] <;> omega)) ?_
  exact cw_ireturn C dd_Bo_post_46 (Nat.le_of_ble_eq_true rfl) (Nat.le_of_ble_eq_true rfl) ⟨_, rfl, rfl, ⟨rfl, rfl⟩⟩
end
section
theorem zn_bc : ∀ n, n < 16 →
    (let i0 := nI n
     let i1 := i0 - ((i0.toUInt32 >>> ((nI 1).toUInt32 &&& Int32.toUInt32 31)).toInt32 &&& 1431655765)
     let i2 := (i1 &&& 858993459) + ((i1.toUInt32 >>> ((nI 2).toUInt32 &&& Int32.toUInt32 31)).toInt32 &&& 858993459)
     let i3 := (i2 + (i2.toUInt32 >>> ((nI 4).toUInt32 &&& Int32.toUInt32 31)).toInt32) &&& 252645135
     let i4 := i3 + (i3.toUInt32 >>> ((nI 8).toUInt32 &&& Int32.toUInt32 31)).toInt32
     let i5 := i4 + (i4.toUInt32 >>> ((nI 16).toUInt32 &&& Int32.toUInt32 31)).toInt32
     i5 &&& nI 63) = nI (zn_ones n) := by decide +kernel
set_option maxRecDepth 100000 in
set_option maxHeartbeats 4000000 in
theorem mm_In_bitCount (X : wx_S) (n : Nat) (hn : n < 16) : nw_M wd_all yy_In_bitCount cc_In_bitCount 1 (some .int) 1 0 0 [.int (nI n)] X (fun v X' => v = some (.int (nI (zn_ones n))) ∧ X' = X) := by
  refine nw_of [some (.int (nI n))] (by decide +kernel) rfl (Nat.le_of_ble_eq_true rfl) rfl ?_
  intro p l e s m args below meth c A g C
  refine cw_iload_n C dd_In_bitCount_0 rfl ?_
  refine cw_iload_n C dd_In_bitCount_1 rfl ?_
  refine cw_iconst (v := nI 1) C dd_In_bitCount_2 (by decide +kernel) ?_
  refine cw_iushr C dd_In_bitCount_3 ?_
  refine cw_ldcw C kC_In_265 dd_In_bitCount_4 ?_
  refine cw_iand C dd_In_bitCount_7 ?_
  refine cw_isub C dd_In_bitCount_8 ?_
  refine cw_istore_n C dd_In_bitCount_9 (Nat.le_of_ble_eq_true rfl) ?_
  refine cw_iload_n C dd_In_bitCount_10 rfl ?_
  refine cw_ldcw C kC_In_266 dd_In_bitCount_11 ?_
  refine cw_iand C dd_In_bitCount_14 ?_
  refine cw_iload_n C dd_In_bitCount_15 rfl ?_
  refine cw_iconst (v := nI 2) C dd_In_bitCount_16 (by decide +kernel) ?_
  refine cw_iushr C dd_In_bitCount_17 ?_
  refine cw_ldcw C kC_In_266 dd_In_bitCount_18 ?_
  refine cw_iand C dd_In_bitCount_21 ?_
  refine cw_iadd C dd_In_bitCount_22 ?_
  refine cw_istore_n C dd_In_bitCount_23 (Nat.le_of_ble_eq_true rfl) ?_
  refine cw_iload_n C dd_In_bitCount_24 rfl ?_
  refine cw_iload_n C dd_In_bitCount_25 rfl ?_
  refine cw_iconst (v := nI 4) C dd_In_bitCount_26 (by decide +kernel) ?_
  refine cw_iushr C dd_In_bitCount_27 ?_
  refine cw_iadd C dd_In_bitCount_28 ?_
  refine cw_ldcw C kC_In_267 dd_In_bitCount_29 ?_
  refine cw_iand C dd_In_bitCount_32 ?_
  refine cw_istore_n C dd_In_bitCount_33 (Nat.le_of_ble_eq_true rfl) ?_
  refine cw_iload_n C dd_In_bitCount_34 rfl ?_
  refine cw_iload_n C dd_In_bitCount_35 rfl ?_
  refine cw_bipush (v := nI 8) C dd_In_bitCount_36 (by decide +kernel) ?_
  refine cw_iushr C dd_In_bitCount_38 ?_
  refine cw_iadd C dd_In_bitCount_39 ?_
  refine cw_istore_n C dd_In_bitCount_40 (Nat.le_of_ble_eq_true rfl) ?_
  refine cw_iload_n C dd_In_bitCount_41 rfl ?_
  refine cw_iload_n C dd_In_bitCount_42 rfl ?_
  refine cw_bipush (v := nI 16) C dd_In_bitCount_43 (by decide +kernel) ?_
  refine cw_iushr C dd_In_bitCount_45 ?_
  refine cw_iadd C dd_In_bitCount_46 ?_
  refine cw_istore_n C dd_In_bitCount_47 (Nat.le_of_ble_eq_true rfl) ?_
  refine cw_iload_n C dd_In_bitCount_48 rfl ?_
  refine cw_bipush (v := nI 63) C dd_In_bitCount_49 (by decide +kernel) ?_
  refine cw_iand C dd_In_bitCount_51 ?_
  exact cw_ireturn C dd_In_bitCount_52 (Nat.le_of_ble_eq_true rfl) (Nat.le_of_ble_eq_true rfl) ⟨_, rfl, rfl, ⟨congrArg (fun z => some (Value.int z)) (zn_bc n hn), rfl⟩⟩
set_option maxRecDepth 100000 in
set_option maxHeartbeats 4000000 in
theorem lp_Ar_fill {p : Program} {l : Launch} {e : Env} {s : State} {m : MethodId} {args : Array Value} {below : List Frame} {meth : Method} {c : Code} {A : Nat → Prop} {g : wd_G} {G : State → Prop} {ids : List Nat} (X : wx_S) (q n val : Nat) (fl : List (Nat × Nat)) (hi : wd_is ids q (0, n, fl)) (hn : n < 2147483648) (C : cw_C p s m args meth c A ids g cc_Ar_fill 4 "java/util/Arrays" none)  (hend : cw_W p l e (cw_rm 1 0 0) s m args below meth c A ids g 0 0 G 4 20 [some (.ref q), some (.int (nI val)), some (.int (nI (n))), some (.int (nI n))] [] (wx_e (zz_fill X q (n) val)) (wx_l (zz_fill X q (n) val))) : ∀ (j i : Nat), i + j = n → cw_W p l e (cw_rm 1 0 0) s m args below meth c A ids g 0 0 G 4 5 [some (.ref q), some (.int (nI val)), some (.int (nI (i))), some (.int (nI n))] [] (wx_e (zz_fill X q (i) val)) (wx_l (zz_fill X q (i) val)) := by
  intro j
  induction j with
  | zero =>
    intro i hij
    refine cw_iload_n C dd_Ar_fill_5 rfl ?_
    refine cw_iload_n C dd_Ar_fill_6 rfl ?_
    refine nw_icmp_ge (tgt := 20) C dd_Ar_fill_7 (by decide) (by first | omega | (simp [wx_u] <;> omega)) (by first | omega | (simp [wx_u] <;> omega)) (fun h7 => ?_) (fun h7 => ?_)
    · have hi : i = n := by omega
      rw [hi]
      exact hend
    · exact absurd h7 (by omega)
  | succ j ih =>
    intro i hij
    refine cw_iload_n C dd_Ar_fill_5 rfl ?_
    refine cw_iload_n C dd_Ar_fill_6 rfl ?_
    refine nw_icmp_ge (tgt := 20) C dd_Ar_fill_7 (by decide) (by first | omega | (simp [wx_u] <;> omega)) (by first | omega | (simp [wx_u] <;> omega)) (fun h7 => ?_) (fun h7 => ?_)
    · exact absurd h7 (by omega)
    · refine cw_aload_n C dd_Ar_fill_10 rfl ?_
      refine cw_iload_n C dd_Ar_fill_11 rfl ?_
      refine cw_iload_n C dd_Ar_fill_12 rfl ?_
      refine nw_iast C hi (by omega) hn dd_Ar_fill_13 ?_
      refine nw_iinc (b := 1) C dd_Ar_fill_14 (by decide +kernel) rfl (Nat.le_of_ble_eq_true rfl) ?_
      refine cw_goto (tgt := 5) C dd_Ar_fill_17 (by decide) ?_
      exact nw_eqX (zz_fill_s X q i val) (ih (i + 1) (by omega))
set_option maxRecDepth 100000 in
set_option maxHeartbeats 4000000 in
theorem mm_Ar_fill {ids : List Nat} (X : wx_S) (q n val : Nat) (fl : List (Nat × Nat)) (hi : wd_is ids q (0, n, fl)) (hn : n < 2147483648) : nw_M ids yy_Ar_fill cc_Ar_fill 4 none 1 0 0 [.ref q, .int (nI val)] X (fun v X' => v = none ∧ X' = zz_fill X q n val) := by
  refine nw_of [some (.ref q), some (.int (nI val)), none, none] (by decide +kernel) rfl (Nat.le_of_ble_eq_true rfl) rfl ?_
  intro p l e s m args below meth c A g C
  refine cw_iconst (v := nI 0) C dd_Ar_fill_0 (by decide +kernel) ?_
  refine cw_istore_n C dd_Ar_fill_1 (Nat.le_of_ble_eq_true rfl) ?_
  refine cw_aload_n C dd_Ar_fill_2 rfl ?_
  refine cw_alen C hi dd_Ar_fill_3 ?_
  refine cw_istore_n C dd_Ar_fill_4 (Nat.le_of_ble_eq_true rfl) ?_
  refine lp_Ar_fill X q n val fl hi hn C ?_ n 0 (by omega) |> nw_eqX (zz_fill_0 X q val).symm
  exact cw_vreturn C dd_Ar_fill_20 (Nat.le_of_ble_eq_true rfl) (Nat.le_of_ble_eq_true rfl) ⟨_, rfl, rfl, ⟨rfl, rfl⟩⟩
set_option maxRecDepth 100000 in
set_option maxHeartbeats 4000000 in
theorem mm_Le_contains (X : wx_S) (a b : Nat) (ha : a < 2147483648) (hb : b < 32) : nw_M wd_all yy_Le_contains cc_Le_contains 2 (some .boolean) 1 0 0 [.int (nI a), .int (nI b)] X (fun v X' => v = some (.int (nI (zb_n (a / 2 ^ b % 2 = 1)))) ∧ X' = X) := by
  refine nw_of [some (.int (nI a)), some (.int (nI b))] (by decide +kernel) rfl (Nat.le_of_ble_eq_true rfl) rfl ?_
  intro p l e s m args below meth c A g C
  refine cw_iload_n C dd_Le_contains_0 rfl ?_
  refine cw_iload_n C dd_Le_contains_1 rfl ?_
  refine nw_ishr C dd_Le_contains_2 (by first | omega | (simp [wx_u] <;> omega)) (by first | omega | (simp [wx_u] <;> omega)) ?_
  refine cw_iconst (v := nI 1) C dd_Le_contains_3 (by decide +kernel) ?_
  refine nw_iand1 C dd_Le_contains_4 ?_
  refine cw_iconst (v := nI 1) C dd_Le_contains_5 (by decide +kernel) ?_
  refine nw_icmp_ne (tgt := 13) C dd_Le_contains_6 (by decide) (by first | omega | (simp [wx_u] <;> omega)) (by first | omega | (simp [wx_u] <;> omega)) (fun h6 => ?_) (fun h6 => ?_)
  · refine cw_iconst (v := nI 0) C dd_Le_contains_13 (by decide +kernel) ?_
    exact cw_zreturn C dd_Le_contains_14 (nw_zn (by decide)) (Nat.le_of_ble_eq_true rfl) (Nat.le_of_ble_eq_true rfl) ⟨_, rfl, rfl, ⟨by first | exact congrArg (fun z => some (Value.int z)) (zb_t (by first | omega | (simp [wx_u] <;> omega))) | exact congrArg (fun z => some (Value.int z)) (zb_f (by first | omega | (simp [wx_u] <;> omega))), rfl⟩⟩
  · refine cw_iconst (v := nI 1) C dd_Le_contains_9 (by decide +kernel) ?_
    refine cw_goto (tgt := 14) C dd_Le_contains_10 (by decide) ?_
    exact cw_zreturn C dd_Le_contains_14 (nw_zn (by decide)) (Nat.le_of_ble_eq_true rfl) (Nat.le_of_ble_eq_true rfl) ⟨_, rfl, rfl, ⟨by first | exact congrArg (fun z => some (Value.int z)) (zb_t (by first | omega | (simp [wx_u] <;> omega))) | exact congrArg (fun z => some (Value.int z)) (zb_f (by first | omega | (simp [wx_u] <;> omega))), rfl⟩⟩
set_option maxRecDepth 100000 in
set_option maxHeartbeats 4000000 in
theorem mm_Le_leaderOf (X : wx_S) (w : Nat) (hw : w < 2147483648) : nw_M wd_all yy_Le_leaderOf cc_Le_leaderOf 1 (some .int) 1 0 0 [.int (nI w)] X (fun v X' => v = some (.int (nI (w / 2 % 4))) ∧ X' = X) := by
  refine nw_of [some (.int (nI w))] (by decide +kernel) rfl (Nat.le_of_ble_eq_true rfl) rfl ?_
  intro p l e s m args below meth c A g C
  refine cw_iload_n C dd_Le_leaderOf_0 rfl ?_
  refine cw_iconst (v := nI 2) C dd_Le_leaderOf_1 (by decide +kernel) ?_
  refine nw_idiv C dd_Le_leaderOf_2 (by first | omega | (simp [wx_u] <;> omega)) (by decide) (by decide) ?_
  refine cw_iconst (v := nI 4) C dd_Le_leaderOf_3 (by decide +kernel) ?_
  refine nw_irem C dd_Le_leaderOf_4 (by first | omega | (simp [wx_u] <;> omega)) (by decide) (by decide) ?_
  exact cw_ireturn C dd_Le_leaderOf_5 (Nat.le_of_ble_eq_true rfl) (Nat.le_of_ble_eq_true rfl) ⟨_, rfl, rfl, ⟨by first | rfl | simp [wx_u], by first | rfl | simp [wx_u]⟩⟩
set_option maxRecDepth 100000 in
set_option maxHeartbeats 4000000 in
theorem mm_Le_isAccount (X : wx_S) (n : Nat) (hn : n < 4294967296) : nw_M wd_all yy_Le_isAccount cc_Le_isAccount 1 (some .boolean) 1 0 0 [.int (nI n)] X (fun v X' => v = some (.int (nI (zb_n (n < 4)))) ∧ X' = X) := by
  refine nw_of [some (.int (nI n))] (by decide +kernel) rfl (Nat.le_of_ble_eq_true rfl) rfl ?_
  intro p l e s m args below meth c A g C
  refine cw_iload_n C dd_Le_isAccount_0 rfl ?_
  refine nw_if_lt (tgt := 13) C dd_Le_isAccount_1 (by decide) (by first | omega | (simp [wx_u] <;> omega)) (fun h1 => ?_) (fun h1 => ?_)
  · refine cw_iconst (v := nI 0) C dd_Le_isAccount_13 (by decide +kernel) ?_
    exact cw_zreturn C dd_Le_isAccount_14 (nw_zn (by decide)) (Nat.le_of_ble_eq_true rfl) (Nat.le_of_ble_eq_true rfl) ⟨_, rfl, rfl, ⟨by first | exact congrArg (fun z => some (Value.int z)) (zb_t (by first | omega | (simp [wx_u] <;> omega))) | exact congrArg (fun z => some (Value.int z)) (zb_f (by first | omega | (simp [wx_u] <;> omega))), rfl⟩⟩
  · refine cw_iload_n C dd_Le_isAccount_4 rfl ?_
    refine cw_iconst (v := nI 4) C dd_Le_isAccount_5 (by decide +kernel) ?_
    refine nw_icmp_ge (tgt := 13) C dd_Le_isAccount_6 (by decide) (by first | omega | (simp [wx_u] <;> omega)) (by first | omega | (simp [wx_u] <;> omega)) (fun h6 => ?_) (fun h6 => ?_)
    · refine cw_iconst (v := nI 0) C dd_Le_isAccount_13 (by decide +kernel) ?_
      exact cw_zreturn C dd_Le_isAccount_14 (nw_zn (by decide)) (Nat.le_of_ble_eq_true rfl) (Nat.le_of_ble_eq_true rfl) ⟨_, rfl, rfl, ⟨by first | exact congrArg (fun z => some (Value.int z)) (zb_t (by first | omega | (simp [wx_u] <;> omega))) | exact congrArg (fun z => some (Value.int z)) (zb_f (by first | omega | (simp [wx_u] <;> omega))), rfl⟩⟩
    · refine cw_iconst (v := nI 1) C dd_Le_isAccount_9 (by decide +kernel) ?_
      refine cw_goto (tgt := 14) C dd_Le_isAccount_10 (by decide) ?_
      exact cw_zreturn C dd_Le_isAccount_14 (nw_zn (by decide)) (Nat.le_of_ble_eq_true rfl) (Nat.le_of_ble_eq_true rfl) ⟨_, rfl, rfl, ⟨by first | exact congrArg (fun z => some (Value.int z)) (zb_t (by first | omega | (simp [wx_u] <;> omega))) | exact congrArg (fun z => some (Value.int z)) (zb_f (by first | omega | (simp [wx_u] <;> omega))), rfl⟩⟩
set_option maxRecDepth 100000 in
set_option maxHeartbeats 4000000 in
theorem mm_Tr_has (X : wx_S) (n : Nat) (hn : n < 4294967296) (hc : X 4 3 < 2147483648) : nw_M wd_all yy_Tr_has cc_Tr_has 2 (some .boolean) 1 0 0 [.ref 4, .int (nI n)] X (fun v X' => v = some (.int (nI (zb_n (n < X 4 3)))) ∧ X' = X) := by
  refine nw_of [some (.ref 4), some (.int (nI n))] (by decide +kernel) rfl (Nat.le_of_ble_eq_true rfl) rfl ?_
  intro p l e s m args below meth c A g C
  refine cw_iload_n C dd_Tr_has_0 rfl ?_
  refine nw_if_lt (tgt := 16) C dd_Tr_has_1 (by decide) (by first | omega | (simp [wx_u] <;> omega)) (fun h1 => ?_) (fun h1 => ?_)
  · refine cw_iconst (v := nI 0) C dd_Tr_has_16 (by decide +kernel) ?_
    exact cw_zreturn C dd_Tr_has_17 (nw_zn (by decide)) (Nat.le_of_ble_eq_true rfl) (Nat.le_of_ble_eq_true rfl) ⟨_, rfl, rfl, ⟨by first | exact congrArg (fun z => some (Value.int z)) (zb_t (by first | omega | (simp [wx_u] <;> omega))) | exact congrArg (fun z => some (Value.int z)) (zb_f (by first | omega | (simp [wx_u] <;> omega))), rfl⟩⟩
  · refine cw_iload_n C dd_Tr_has_4 rfl ?_
    refine cw_aload_n C dd_Tr_has_5 rfl ?_
    refine nw_geti C wc_1 kF_Tr_21 is_1 (by decide) rfl dd_Tr_has_6 ?_
    refine nw_icmp_ge (tgt := 16) C dd_Tr_has_9 (by decide) (by first | omega | (simp [wx_u] <;> omega)) (by first | omega | (simp [wx_u] <;> omega)) (fun h9 => ?_) (fun h9 => ?_)
    · refine cw_iconst (v := nI 0) C dd_Tr_has_16 (by decide +kernel) ?_
      exact cw_zreturn C dd_Tr_has_17 (nw_zn (by decide)) (Nat.le_of_ble_eq_true rfl) (Nat.le_of_ble_eq_true rfl) ⟨_, rfl, rfl, ⟨by first | exact congrArg (fun z => some (Value.int z)) (zb_t (by first | omega | (simp [wx_u] <;> omega))) | exact congrArg (fun z => some (Value.int z)) (zb_f (by first | omega | (simp [wx_u] <;> omega))), rfl⟩⟩
    · refine cw_iconst (v := nI 1) C dd_Tr_has_12 (by decide +kernel) ?_
      refine cw_goto (tgt := 17) C dd_Tr_has_13 (by decide) ?_
      exact cw_zreturn C dd_Tr_has_17 (nw_zn (by decide)) (Nat.le_of_ble_eq_true rfl) (Nat.le_of_ble_eq_true rfl) ⟨_, rfl, rfl, ⟨by first | exact congrArg (fun z => some (Value.int z)) (zb_t (by first | omega | (simp [wx_u] <;> omega))) | exact congrArg (fun z => some (Value.int z)) (zb_f (by first | omega | (simp [wx_u] <;> omega))), rfl⟩⟩
set_option maxRecDepth 100000 in
set_option maxHeartbeats 4000000 in
theorem mm_Tr_isFull (X : wx_S) (hc : X 4 3 < 2147483648) : nw_M wd_all yy_Tr_isFull cc_Tr_isFull 1 (some .boolean) 1 0 0 [.ref 4] X (fun v X' => v = some (.int (nI (zb_n (40 ≤ X 4 3)))) ∧ X' = X) := by
  refine nw_of [some (.ref 4)] (by decide +kernel) rfl (Nat.le_of_ble_eq_true rfl) rfl ?_
  intro p l e s m args below meth c A g C
  refine cw_aload_n C dd_Tr_isFull_0 rfl ?_
  refine nw_geti C wc_1 kF_Tr_21 is_1 (by decide) rfl dd_Tr_isFull_1 ?_
  refine cw_bipush (v := nI 40) C dd_Tr_isFull_4 (by decide +kernel) ?_
  refine nw_icmp_lt (tgt := 13) C dd_Tr_isFull_6 (by decide) (by first | omega | (simp [wx_u] <;> omega)) (by first | omega | (simp [wx_u] <;> omega)) (fun h6 => ?_) (fun h6 => ?_)
  · refine cw_iconst (v := nI 0) C dd_Tr_isFull_13 (by decide +kernel) ?_
    exact cw_zreturn C dd_Tr_isFull_14 (nw_zn (by decide)) (Nat.le_of_ble_eq_true rfl) (Nat.le_of_ble_eq_true rfl) ⟨_, rfl, rfl, ⟨by first | exact congrArg (fun z => some (Value.int z)) (zb_t (by first | omega | (simp [wx_u] <;> omega))) | exact congrArg (fun z => some (Value.int z)) (zb_f (by first | omega | (simp [wx_u] <;> omega))), rfl⟩⟩
  · refine cw_iconst (v := nI 1) C dd_Tr_isFull_9 (by decide +kernel) ?_
    refine cw_goto (tgt := 14) C dd_Tr_isFull_10 (by decide) ?_
    exact cw_zreturn C dd_Tr_isFull_14 (nw_zn (by decide)) (Nat.le_of_ble_eq_true rfl) (Nat.le_of_ble_eq_true rfl) ⟨_, rfl, rfl, ⟨by first | exact congrArg (fun z => some (Value.int z)) (zb_t (by first | omega | (simp [wx_u] <;> omega))) | exact congrArg (fun z => some (Value.int z)) (zb_f (by first | omega | (simp [wx_u] <;> omega))), rfl⟩⟩
set_option maxRecDepth 100000 in
set_option maxHeartbeats 4000000 in
theorem mm_Tr_add (X : wx_S) (k q u : Nat) (hc : X 4 3 < 40) : nw_M wd_all yy_Tr_add cc_Tr_add 4 (some .int) 1 0 0 [.ref 4, .int (nI k), .int (nI q), .int (nI u)] X (fun v X' => v = some (.int (nI (X 4 3))) ∧ X' = wx_u (wx_u (wx_u (wx_u X 8 (X 4 3) k) 12 (X 4 3) q) 16 (X 4 3) u) 4 3 (X 4 3 + 1)) := by
  refine nw_of [some (.ref 4), some (.int (nI k)), some (.int (nI q)), some (.int (nI u))] (by decide +kernel) rfl (Nat.le_of_ble_eq_true rfl) rfl ?_
  intro p l e s m args below meth c A g C
  refine cw_aload_n C dd_Tr_add_0 rfl ?_
  refine cw_getr (q' := 8) C wc_1 kF_Tr_9 is_1 (by decide) rfl dd_Tr_add_1 rfl ?_
  refine cw_aload_n C dd_Tr_add_4 rfl ?_
  refine nw_geti C wc_1 kF_Tr_21 is_1 (by decide) rfl dd_Tr_add_5 ?_
  refine cw_iload_n C dd_Tr_add_8 rfl ?_
  refine nw_iast C is_2 (by first | omega | (simp [wx_u] <;> omega)) (by decide) dd_Tr_add_9 ?_
  refine cw_aload_n C dd_Tr_add_10 rfl ?_
  refine cw_getr (q' := 12) C wc_1 kF_Tr_15 is_1 (by decide) rfl dd_Tr_add_11 rfl ?_
  refine cw_aload_n C dd_Tr_add_14 rfl ?_
  refine nw_geti C wc_1 kF_Tr_21 is_1 (by decide) rfl dd_Tr_add_15 ?_
  refine cw_iload_n C dd_Tr_add_18 rfl ?_
  refine nw_iast C is_3 (by first | omega | (simp [wx_u] <;> omega)) (by decide) dd_Tr_add_19 ?_
  refine cw_aload_n C dd_Tr_add_20 rfl ?_
  refine cw_getr (q' := 16) C wc_1 kF_Tr_18 is_1 (by decide) rfl dd_Tr_add_21 rfl ?_
  refine cw_aload_n C dd_Tr_add_24 rfl ?_
  refine nw_geti C wc_1 kF_Tr_21 is_1 (by decide) rfl dd_Tr_add_25 ?_
  refine cw_iload_n C dd_Tr_add_28 rfl ?_
  refine nw_iast C is_4 (by first | omega | (simp [wx_u] <;> omega)) (by decide) dd_Tr_add_29 ?_
  refine cw_aload_n C dd_Tr_add_30 rfl ?_
  refine cw_dup C dd_Tr_add_31 rfl ?_
  refine nw_geti C wc_1 kF_Tr_21 is_1 (by decide) rfl dd_Tr_add_32 ?_
  refine cw_iconst (v := nI 1) C dd_Tr_add_35 (by decide +kernel) ?_
  refine nw_iadd C dd_Tr_add_36 ?_
  refine nw_puti C wc_1 kF_Tr_21 is_1 (by decide) rfl rfl rfl rfl dd_Tr_add_37 ?_
  refine cw_aload_n C dd_Tr_add_40 rfl ?_
  refine nw_geti C wc_1 kF_Tr_21 is_1 (by decide) rfl dd_Tr_add_41 ?_
  refine cw_iconst (v := nI 1) C dd_Tr_add_44 (by decide +kernel) ?_
  refine nw_isub C dd_Tr_add_45 (by first | omega | (simp [wx_u] <;> omega)) ?_
  exact cw_ireturn C dd_Tr_add_46 (Nat.le_of_ble_eq_true rfl) (Nat.le_of_ble_eq_true rfl) ⟨_, rfl, rfl, ⟨by first | rfl | simp [wx_u], by first | rfl | simp [wx_u]⟩⟩
set_option maxRecDepth 100000 in
set_option maxHeartbeats 4000000 in
theorem mm_Ve_has (X : wx_S) (n : Nat) (hn : n < 4294967296) (hc : X 20 5 < 2147483648) : nw_M wd_all yy_Ve_has cc_Ve_has 2 (some .boolean) 1 0 0 [.ref 20, .int (nI n)] X (fun v X' => v = some (.int (nI (zb_n (n < X 20 5)))) ∧ X' = X) := by
  refine nw_of [some (.ref 20), some (.int (nI n))] (by decide +kernel) rfl (Nat.le_of_ble_eq_true rfl) rfl ?_
  intro p l e s m args below meth c A g C
  refine cw_iload_n C dd_Ve_has_0 rfl ?_
  refine nw_if_lt (tgt := 16) C dd_Ve_has_1 (by decide) (by first | omega | (simp [wx_u] <;> omega)) (fun h1 => ?_) (fun h1 => ?_)
  · refine cw_iconst (v := nI 0) C dd_Ve_has_16 (by decide +kernel) ?_
    exact cw_zreturn C dd_Ve_has_17 (nw_zn (by decide)) (Nat.le_of_ble_eq_true rfl) (Nat.le_of_ble_eq_true rfl) ⟨_, rfl, rfl, ⟨by first | exact congrArg (fun z => some (Value.int z)) (zb_t (by first | omega | (simp [wx_u] <;> omega))) | exact congrArg (fun z => some (Value.int z)) (zb_f (by first | omega | (simp [wx_u] <;> omega))), rfl⟩⟩
  · refine cw_iload_n C dd_Ve_has_4 rfl ?_
    refine cw_aload_n C dd_Ve_has_5 rfl ?_
    refine nw_geti C wc_5 kF_Ve_27 is_5 (by decide) rfl dd_Ve_has_6 ?_
    refine nw_icmp_ge (tgt := 16) C dd_Ve_has_9 (by decide) (by first | omega | (simp [wx_u] <;> omega)) (by first | omega | (simp [wx_u] <;> omega)) (fun h9 => ?_) (fun h9 => ?_)
    · refine cw_iconst (v := nI 0) C dd_Ve_has_16 (by decide +kernel) ?_
      exact cw_zreturn C dd_Ve_has_17 (nw_zn (by decide)) (Nat.le_of_ble_eq_true rfl) (Nat.le_of_ble_eq_true rfl) ⟨_, rfl, rfl, ⟨by first | exact congrArg (fun z => some (Value.int z)) (zb_t (by first | omega | (simp [wx_u] <;> omega))) | exact congrArg (fun z => some (Value.int z)) (zb_f (by first | omega | (simp [wx_u] <;> omega))), rfl⟩⟩
    · refine cw_iconst (v := nI 1) C dd_Ve_has_12 (by decide +kernel) ?_
      refine cw_goto (tgt := 17) C dd_Ve_has_13 (by decide) ?_
      exact cw_zreturn C dd_Ve_has_17 (nw_zn (by decide)) (Nat.le_of_ble_eq_true rfl) (Nat.le_of_ble_eq_true rfl) ⟨_, rfl, rfl, ⟨by first | exact congrArg (fun z => some (Value.int z)) (zb_t (by first | omega | (simp [wx_u] <;> omega))) | exact congrArg (fun z => some (Value.int z)) (zb_f (by first | omega | (simp [wx_u] <;> omega))), rfl⟩⟩
set_option maxRecDepth 100000 in
set_option maxHeartbeats 4000000 in
theorem mm_Ve_isFull (X : wx_S) (hc : X 20 5 < 2147483648) : nw_M wd_all yy_Ve_isFull cc_Ve_isFull 1 (some .boolean) 1 0 0 [.ref 20] X (fun v X' => v = some (.int (nI (zb_n (90 ≤ X 20 5)))) ∧ X' = X) := by
  refine nw_of [some (.ref 20)] (by decide +kernel) rfl (Nat.le_of_ble_eq_true rfl) rfl ?_
  intro p l e s m args below meth c A g C
  refine cw_aload_n C dd_Ve_isFull_0 rfl ?_
  refine nw_geti C wc_5 kF_Ve_27 is_5 (by decide) rfl dd_Ve_isFull_1 ?_
  refine cw_bipush (v := nI 90) C dd_Ve_isFull_4 (by decide +kernel) ?_
  refine nw_icmp_lt (tgt := 13) C dd_Ve_isFull_6 (by decide) (by first | omega | (simp [wx_u] <;> omega)) (by first | omega | (simp [wx_u] <;> omega)) (fun h6 => ?_) (fun h6 => ?_)
  · refine cw_iconst (v := nI 0) C dd_Ve_isFull_13 (by decide +kernel) ?_
    exact cw_zreturn C dd_Ve_isFull_14 (nw_zn (by decide)) (Nat.le_of_ble_eq_true rfl) (Nat.le_of_ble_eq_true rfl) ⟨_, rfl, rfl, ⟨by first | exact congrArg (fun z => some (Value.int z)) (zb_t (by first | omega | (simp [wx_u] <;> omega))) | exact congrArg (fun z => some (Value.int z)) (zb_f (by first | omega | (simp [wx_u] <;> omega))), rfl⟩⟩
  · refine cw_iconst (v := nI 1) C dd_Ve_isFull_9 (by decide +kernel) ?_
    refine cw_goto (tgt := 14) C dd_Ve_isFull_10 (by decide) ?_
    exact cw_zreturn C dd_Ve_isFull_14 (nw_zn (by decide)) (Nat.le_of_ble_eq_true rfl) (Nat.le_of_ble_eq_true rfl) ⟨_, rfl, rfl, ⟨by first | exact congrArg (fun z => some (Value.int z)) (zb_t (by first | omega | (simp [wx_u] <;> omega))) | exact congrArg (fun z => some (Value.int z)) (zb_f (by first | omega | (simp [wx_u] <;> omega))), rfl⟩⟩
set_option maxRecDepth 100000 in
set_option maxHeartbeats 4000000 in
theorem mm_Ve_add (X : wx_S) (a w q f u : Nat) (hc : X 20 5 < 90) : nw_M wd_all yy_Ve_add cc_Ve_add 6 (some .int) 1 0 0 [.ref 20, .int (nI a), .int (nI w), .int (nI q), .int (nI f), .int (nI u)] X (fun v X' => v = some (.int (nI (X 20 5))) ∧ X' = wx_u (wx_u (wx_u (wx_u (wx_u (wx_u X 24 (X 20 5) a) 28 (X 20 5) w) 32 (X 20 5) q) 36 (X 20 5) f) 40 (X 20 5) u) 20 5 (X 20 5 + 1)) := by
  refine nw_of [some (.ref 20), some (.int (nI a)), some (.int (nI w)), some (.int (nI q)), some (.int (nI f)), some (.int (nI u))] (by decide +kernel) rfl (Nat.le_of_ble_eq_true rfl) rfl ?_
  intro p l e s m args below meth c A g C
  refine cw_aload_n C dd_Ve_add_0 rfl ?_
  refine cw_getr (q' := 24) C wc_5 kF_Ve_9 is_5 (by decide) rfl dd_Ve_add_1 rfl ?_
  refine cw_aload_n C dd_Ve_add_4 rfl ?_
  refine nw_geti C wc_5 kF_Ve_27 is_5 (by decide) rfl dd_Ve_add_5 ?_
  refine cw_iload_n C dd_Ve_add_8 rfl ?_
  refine nw_iast C is_6 (by first | omega | (simp [wx_u] <;> omega)) (by decide) dd_Ve_add_9 ?_
  refine cw_aload_n C dd_Ve_add_10 rfl ?_
  refine cw_getr (q' := 28) C wc_5 kF_Ve_15 is_5 (by decide) rfl dd_Ve_add_11 rfl ?_
  refine cw_aload_n C dd_Ve_add_14 rfl ?_
  refine nw_geti C wc_5 kF_Ve_27 is_5 (by decide) rfl dd_Ve_add_15 ?_
  refine cw_iload_n C dd_Ve_add_18 rfl ?_
  refine nw_iast C is_7 (by first | omega | (simp [wx_u] <;> omega)) (by decide) dd_Ve_add_19 ?_
  refine cw_aload_n C dd_Ve_add_20 rfl ?_
  refine cw_getr (q' := 32) C wc_5 kF_Ve_18 is_5 (by decide) rfl dd_Ve_add_21 rfl ?_
  refine cw_aload_n C dd_Ve_add_24 rfl ?_
  refine nw_geti C wc_5 kF_Ve_27 is_5 (by decide) rfl dd_Ve_add_25 ?_
  refine cw_iload_n C dd_Ve_add_28 rfl ?_
  refine nw_iast C is_8 (by first | omega | (simp [wx_u] <;> omega)) (by decide) dd_Ve_add_29 ?_
  refine cw_aload_n C dd_Ve_add_30 rfl ?_
  refine cw_getr (q' := 36) C wc_5 kF_Ve_21 is_5 (by decide) rfl dd_Ve_add_31 rfl ?_
  refine cw_aload_n C dd_Ve_add_34 rfl ?_
  refine nw_geti C wc_5 kF_Ve_27 is_5 (by decide) rfl dd_Ve_add_35 ?_
  refine cw_iload C dd_Ve_add_38 rfl ?_
  refine nw_iast C is_9 (by first | omega | (simp [wx_u] <;> omega)) (by decide) dd_Ve_add_40 ?_
  refine cw_aload_n C dd_Ve_add_41 rfl ?_
  refine cw_getr (q' := 40) C wc_5 kF_Ve_24 is_5 (by decide) rfl dd_Ve_add_42 rfl ?_
  refine cw_aload_n C dd_Ve_add_45 rfl ?_
  refine nw_geti C wc_5 kF_Ve_27 is_5 (by decide) rfl dd_Ve_add_46 ?_
  refine cw_iload C dd_Ve_add_49 rfl ?_
  refine nw_iast C is_10 (by first | omega | (simp [wx_u] <;> omega)) (by decide) dd_Ve_add_51 ?_
  refine cw_aload_n C dd_Ve_add_52 rfl ?_
  refine cw_dup C dd_Ve_add_53 rfl ?_
  refine nw_geti C wc_5 kF_Ve_27 is_5 (by decide) rfl dd_Ve_add_54 ?_
  refine cw_iconst (v := nI 1) C dd_Ve_add_57 (by decide +kernel) ?_
  refine nw_iadd C dd_Ve_add_58 ?_
  refine nw_puti C wc_5 kF_Ve_27 is_5 (by decide) rfl rfl rfl rfl dd_Ve_add_59 ?_
  refine cw_aload_n C dd_Ve_add_62 rfl ?_
  refine nw_geti C wc_5 kF_Ve_27 is_5 (by decide) rfl dd_Ve_add_63 ?_
  refine cw_iconst (v := nI 1) C dd_Ve_add_66 (by decide +kernel) ?_
  refine nw_isub C dd_Ve_add_67 (by first | omega | (simp [wx_u] <;> omega)) ?_
  exact cw_ireturn C dd_Ve_add_68 (Nat.le_of_ble_eq_true rfl) (Nat.le_of_ble_eq_true rfl) ⟨_, rfl, rfl, ⟨by first | rfl | simp [wx_u], by first | rfl | simp [wx_u]⟩⟩
abbrev zc_wf (X : wx_S) (u : Nat) : Prop := (X 28 u = 1 ∧ X 32 u = 0) ∨ (X 28 u ≠ 1 ∧ 3 ≤ zn_ones (X 32 u))
set_option maxRecDepth 100000 in
set_option maxHeartbeats 4000000 in
theorem mm_Ve_isWellFormed (X : wx_S) (u : Nat) (hu : u < 90) (h1 : X 28 u < 4294967296) (h2 : X 32 u < 16) : nw_M wd_all yy_Ve_isWellFormed cc_Ve_isWellFormed 2 (some .boolean) 2 0 0 [.ref 20, .int (nI u)] X (fun v X' => v = some (.int (nI (zb_n (zc_wf X u)))) ∧ X' = X) := by
  refine nw_of [some (.ref 20), some (.int (nI u))] (by decide +kernel) rfl (Nat.le_of_ble_eq_true rfl) rfl ?_
  intro p l e s m args below meth c A g C
  refine cw_aload_n C dd_Ve_isWellFormed_0 rfl ?_
  refine cw_getr (q' := 28) C wc_5 kF_Ve_15 is_5 (by decide) rfl dd_Ve_isWellFormed_1 rfl ?_
  refine cw_iload_n C dd_Ve_isWellFormed_4 rfl ?_
  refine nw_iald C is_7 (by first | omega | (simp [wx_u] <;> omega)) (by decide) dd_Ve_isWellFormed_5 ?_
  refine cw_iconst (v := nI 1) C dd_Ve_isWellFormed_6 (by decide +kernel) ?_
  refine nw_icmp_ne (tgt := 25) C dd_Ve_isWellFormed_7 (by decide) (by first | omega | (simp [wx_u] <;> omega)) (by first | omega | (simp [wx_u] <;> omega)) (fun h7 => ?_) (fun h7 => ?_)
  · refine cw_aload_n C dd_Ve_isWellFormed_25 rfl ?_
    refine cw_getr (q' := 32) C wc_5 kF_Ve_18 is_5 (by decide) rfl dd_Ve_isWellFormed_26 rfl ?_
    refine cw_iload_n C dd_Ve_isWellFormed_29 rfl ?_
    refine nw_iald C is_8 (by first | omega | (simp [wx_u] <;> omega)) (by decide) dd_Ve_isWellFormed_30 ?_
    refine cw_callS (As := [_]) C kS_Ve_31 dd_Ve_isWellFormed_31 rfl rfl (Nat.le_of_ble_eq_true rfl) ⟨(Nat.le_of_ble_eq_true rfl), (Nat.le_of_ble_eq_true rfl)⟩ ⟨(Nat.le_of_ble_eq_true rfl), (Nat.le_of_ble_eq_true rfl)⟩ (mm_In_bitCount X (X 32 u) h2) (nw_ki ?_)
    refine cw_iconst (v := nI 3) C dd_Ve_isWellFormed_34 (by decide +kernel) ?_
    refine nw_icmp_lt (tgt := 42) C dd_Ve_isWellFormed_35 (by decide) (by have := zn_ones_le (X 32 u); omega) (by first | omega | (simp [wx_u] <;> omega)) (fun h35 => ?_) (fun h35 => ?_)
    · refine cw_iconst (v := nI 0) C dd_Ve_isWellFormed_42 (by decide +kernel) ?_
      exact cw_zreturn C dd_Ve_isWellFormed_43 (nw_zn (by decide)) (Nat.le_of_ble_eq_true rfl) (Nat.le_of_ble_eq_true rfl) ⟨_, rfl, rfl, ⟨by first | exact congrArg (fun z => some (Value.int z)) (zb_t (by first | omega | (simp [wx_u] <;> omega))) | exact congrArg (fun z => some (Value.int z)) (zb_f (by first | omega | (simp [wx_u] <;> omega))), rfl⟩⟩
    · refine cw_iconst (v := nI 1) C dd_Ve_isWellFormed_38 (by decide +kernel) ?_
      refine cw_goto (tgt := 43) C dd_Ve_isWellFormed_39 (by decide) ?_
      exact cw_zreturn C dd_Ve_isWellFormed_43 (nw_zn (by decide)) (Nat.le_of_ble_eq_true rfl) (Nat.le_of_ble_eq_true rfl) ⟨_, rfl, rfl, ⟨by first | exact congrArg (fun z => some (Value.int z)) (zb_t (by first | omega | (simp [wx_u] <;> omega))) | exact congrArg (fun z => some (Value.int z)) (zb_f (by first | omega | (simp [wx_u] <;> omega))), rfl⟩⟩
  · refine cw_aload_n C dd_Ve_isWellFormed_10 rfl ?_
    refine cw_getr (q' := 32) C wc_5 kF_Ve_18 is_5 (by decide) rfl dd_Ve_isWellFormed_11 rfl ?_
    refine cw_iload_n C dd_Ve_isWellFormed_14 rfl ?_
    refine nw_iald C is_8 (by first | omega | (simp [wx_u] <;> omega)) (by decide) dd_Ve_isWellFormed_15 ?_
    refine nw_if_ne (tgt := 23) C dd_Ve_isWellFormed_16 (by decide) (by first | omega | (simp [wx_u] <;> omega)) (fun h16 => ?_) (fun h16 => ?_)
    · refine cw_iconst (v := nI 0) C dd_Ve_isWellFormed_23 (by decide +kernel) ?_
      exact cw_zreturn C dd_Ve_isWellFormed_24 (nw_zn (by decide)) (Nat.le_of_ble_eq_true rfl) (Nat.le_of_ble_eq_true rfl) ⟨_, rfl, rfl, ⟨by first | exact congrArg (fun z => some (Value.int z)) (zb_t (by first | omega | (simp [wx_u] <;> omega))) | exact congrArg (fun z => some (Value.int z)) (zb_f (by first | omega | (simp [wx_u] <;> omega))), rfl⟩⟩
    · refine cw_iconst (v := nI 1) C dd_Ve_isWellFormed_19 (by decide +kernel) ?_
      refine cw_goto (tgt := 24) C dd_Ve_isWellFormed_20 (by decide) ?_
      exact cw_zreturn C dd_Ve_isWellFormed_24 (nw_zn (by decide)) (Nat.le_of_ble_eq_true rfl) (Nat.le_of_ble_eq_true rfl) ⟨_, rfl, rfl, ⟨by first | exact congrArg (fun z => some (Value.int z)) (zb_t (by first | omega | (simp [wx_u] <;> omega))) | exact congrArg (fun z => some (Value.int z)) (zb_f (by first | omega | (simp [wx_u] <;> omega))), rfl⟩⟩
set_option maxRecDepth 100000 in
set_option maxHeartbeats 4000000 in
theorem mm_Ve_comesBefore (X : wx_S) (u o : Nat) (hu : u < 90) (ho : o < 90) (h1 : X 28 u < 2147483648) (h2 : X 28 o < 2147483648) (h3 : X 24 u < 4) (h4 : X 24 o < 4) : nw_M wd_all yy_Ve_comesBefore cc_Ve_comesBefore 3 (some .boolean) 1 0 0 [.ref 20, .int (nI u), .int (nI o)] X (fun v X' => v = some (.int (nI (zb_n (4 * X 28 u + X 24 u < 4 * X 28 o + X 24 o)))) ∧ X' = X) := by
  refine nw_of [some (.ref 20), some (.int (nI u)), some (.int (nI o))] (by decide +kernel) rfl (Nat.le_of_ble_eq_true rfl) rfl ?_
  intro p l e s m args below meth c A g C
  refine cw_aload_n C dd_Ve_comesBefore_0 rfl ?_
  refine cw_getr (q' := 28) C wc_5 kF_Ve_15 is_5 (by decide) rfl dd_Ve_comesBefore_1 rfl ?_
  refine cw_iload_n C dd_Ve_comesBefore_4 rfl ?_
  refine nw_iald C is_7 (by first | omega | (simp [wx_u] <;> omega)) (by decide) dd_Ve_comesBefore_5 ?_
  refine cw_aload_n C dd_Ve_comesBefore_6 rfl ?_
  refine cw_getr (q' := 28) C wc_5 kF_Ve_15 is_5 (by decide) rfl dd_Ve_comesBefore_7 rfl ?_
  refine cw_iload_n C dd_Ve_comesBefore_10 rfl ?_
  refine nw_iald C is_7 (by first | omega | (simp [wx_u] <;> omega)) (by decide) dd_Ve_comesBefore_11 ?_
  refine nw_icmp_eq (tgt := 36) C dd_Ve_comesBefore_12 (by decide) (by first | omega | (simp [wx_u] <;> omega)) (by first | omega | (simp [wx_u] <;> omega)) (fun h12 => ?_) (fun h12 => ?_)
  · refine cw_aload_n C dd_Ve_comesBefore_36 rfl ?_
    refine cw_getr (q' := 24) C wc_5 kF_Ve_9 is_5 (by decide) rfl dd_Ve_comesBefore_37 rfl ?_
    refine cw_iload_n C dd_Ve_comesBefore_40 rfl ?_
    refine nw_iald C is_6 (by first | omega | (simp [wx_u] <;> omega)) (by decide) dd_Ve_comesBefore_41 ?_
    refine cw_aload_n C dd_Ve_comesBefore_42 rfl ?_
    refine cw_getr (q' := 24) C wc_5 kF_Ve_9 is_5 (by decide) rfl dd_Ve_comesBefore_43 rfl ?_
    refine cw_iload_n C dd_Ve_comesBefore_46 rfl ?_
    refine nw_iald C is_6 (by first | omega | (simp [wx_u] <;> omega)) (by decide) dd_Ve_comesBefore_47 ?_
    refine nw_icmp_ge (tgt := 55) C dd_Ve_comesBefore_48 (by decide) (by first | omega | (simp [wx_u] <;> omega)) (by first | omega | (simp [wx_u] <;> omega)) (fun h48 => ?_) (fun h48 => ?_)
    · refine cw_iconst (v := nI 0) C dd_Ve_comesBefore_55 (by decide +kernel) ?_
      exact cw_zreturn C dd_Ve_comesBefore_56 (nw_zn (by decide)) (Nat.le_of_ble_eq_true rfl) (Nat.le_of_ble_eq_true rfl) ⟨_, rfl, rfl, ⟨by first | exact congrArg (fun z => some (Value.int z)) (zb_t (by first | omega | (simp [wx_u] <;> omega))) | exact congrArg (fun z => some (Value.int z)) (zb_f (by first | omega | (simp [wx_u] <;> omega))), rfl⟩⟩
    · refine cw_iconst (v := nI 1) C dd_Ve_comesBefore_51 (by decide +kernel) ?_
      refine cw_goto (tgt := 56) C dd_Ve_comesBefore_52 (by decide) ?_
      exact cw_zreturn C dd_Ve_comesBefore_56 (nw_zn (by decide)) (Nat.le_of_ble_eq_true rfl) (Nat.le_of_ble_eq_true rfl) ⟨_, rfl, rfl, ⟨by first | exact congrArg (fun z => some (Value.int z)) (zb_t (by first | omega | (simp [wx_u] <;> omega))) | exact congrArg (fun z => some (Value.int z)) (zb_f (by first | omega | (simp [wx_u] <;> omega))), rfl⟩⟩
  · refine cw_aload_n C dd_Ve_comesBefore_15 rfl ?_
    refine cw_getr (q' := 28) C wc_5 kF_Ve_15 is_5 (by decide) rfl dd_Ve_comesBefore_16 rfl ?_
    refine cw_iload_n C dd_Ve_comesBefore_19 rfl ?_
    refine nw_iald C is_7 (by first | omega | (simp [wx_u] <;> omega)) (by decide) dd_Ve_comesBefore_20 ?_
    refine cw_aload_n C dd_Ve_comesBefore_21 rfl ?_
    refine cw_getr (q' := 28) C wc_5 kF_Ve_15 is_5 (by decide) rfl dd_Ve_comesBefore_22 rfl ?_
    refine cw_iload_n C dd_Ve_comesBefore_25 rfl ?_
    refine nw_iald C is_7 (by first | omega | (simp [wx_u] <;> omega)) (by decide) dd_Ve_comesBefore_26 ?_
    refine nw_icmp_ge (tgt := 34) C dd_Ve_comesBefore_27 (by decide) (by first | omega | (simp [wx_u] <;> omega)) (by first | omega | (simp [wx_u] <;> omega)) (fun h27 => ?_) (fun h27 => ?_)
    · refine cw_iconst (v := nI 0) C dd_Ve_comesBefore_34 (by decide +kernel) ?_
      exact cw_zreturn C dd_Ve_comesBefore_35 (nw_zn (by decide)) (Nat.le_of_ble_eq_true rfl) (Nat.le_of_ble_eq_true rfl) ⟨_, rfl, rfl, ⟨by first | exact congrArg (fun z => some (Value.int z)) (zb_t (by first | omega | (simp [wx_u] <;> omega))) | exact congrArg (fun z => some (Value.int z)) (zb_f (by first | omega | (simp [wx_u] <;> omega))), rfl⟩⟩
    · refine cw_iconst (v := nI 1) C dd_Ve_comesBefore_30 (by decide +kernel) ?_
      refine cw_goto (tgt := 35) C dd_Ve_comesBefore_31 (by decide) ?_
      exact cw_zreturn C dd_Ve_comesBefore_35 (nw_zn (by decide)) (Nat.le_of_ble_eq_true rfl) (Nat.le_of_ble_eq_true rfl) ⟨_, rfl, rfl, ⟨by first | exact congrArg (fun z => some (Value.int z)) (zb_t (by first | omega | (simp [wx_u] <;> omega))) | exact congrArg (fun z => some (Value.int z)) (zb_f (by first | omega | (simp [wx_u] <;> omega))), rfl⟩⟩
end
section
set_option maxRecDepth 100000 in
set_option maxHeartbeats 4000000 in
theorem mm_Di_keepTransfer (X : wx_S) (r : Nat) (hr : r < 4) (t : Nat) (hc : X (68 + r) 1 < 40) : nw_M wd_all yy_Di_keepTransfer cc_Di_keepTransfer 2 none 1 0 0 [.ref (68 + r), .int (nI t)] X (fun v X' => v = none ∧ X' = wx_u (wx_u X (72 + r) (X (68 + r) 1) t) (68 + r) 1 (X (68 + r) 1 + 1)) := by
  refine nw_of [some (.ref (68 + r)), some (.int (nI t))] (by decide +kernel) rfl (Nat.le_of_ble_eq_true rfl) rfl ?_
  intro p l e s m args below meth c A g C
  refine cw_aload_n C dd_Di_keepTransfer_0 rfl ?_
  refine cw_gets (b := 68) (b' := 72) C hr rfl wc_17 kF_Di_9 (is_17 hr) (by decide) rfl dd_Di_keepTransfer_1 rfl ?_
  refine cw_aload_n C dd_Di_keepTransfer_4 rfl ?_
  refine nw_geti C wc_17 kF_Di_21 (is_17 hr) (by decide) rfl dd_Di_keepTransfer_5 ?_
  refine cw_iload_n C dd_Di_keepTransfer_8 rfl ?_
  refine nw_iast C (is_18 hr) (by first | omega | (simp [wx_u] <;> omega)) (by decide) dd_Di_keepTransfer_9 ?_
  refine cw_aload_n C dd_Di_keepTransfer_10 rfl ?_
  refine cw_dup C dd_Di_keepTransfer_11 rfl ?_
  refine nw_geti C wc_17 kF_Di_21 (is_17 hr) (by decide) rfl dd_Di_keepTransfer_12 ?_
  refine cw_iconst (v := nI 1) C dd_Di_keepTransfer_15 (by decide +kernel) ?_
  refine nw_iadd C dd_Di_keepTransfer_16 ?_
  refine nw_puti C wc_17 kF_Di_21 (is_17 hr) (by decide) rfl rfl rfl rfl dd_Di_keepTransfer_17 ?_
  exact cw_vreturn C dd_Di_keepTransfer_20 (Nat.le_of_ble_eq_true rfl) (Nat.le_of_ble_eq_true rfl) ⟨_, rfl, rfl, ⟨by first | rfl | simp [wx_u], by first | rfl | simp [wx_u]⟩⟩
set_option maxRecDepth 100000 in
set_option maxHeartbeats 4000000 in
theorem mm_Di_queueLength (X : wx_S) (r : Nat) (hr : r < 4) (hc : X (68 + r) 2 ≤ X (68 + r) 1) : nw_M wd_all yy_Di_queueLength cc_Di_queueLength 1 (some .int) 1 0 0 [.ref (68 + r)] X (fun v X' => v = some (.int (nI (X (68 + r) 1 - X (68 + r) 2))) ∧ X' = X) := by
  refine nw_of [some (.ref (68 + r))] (by decide +kernel) rfl (Nat.le_of_ble_eq_true rfl) rfl ?_
  intro p l e s m args below meth c A g C
  refine cw_aload_n C dd_Di_queueLength_0 rfl ?_
  refine nw_geti C wc_17 kF_Di_21 (is_17 hr) (by decide) rfl dd_Di_queueLength_1 ?_
  refine cw_aload_n C dd_Di_queueLength_4 rfl ?_
  refine nw_geti C wc_17 kF_Di_25 (is_17 hr) (by decide) rfl dd_Di_queueLength_5 ?_
  refine nw_isub C dd_Di_queueLength_8 (by first | omega | (simp [wx_u] <;> omega)) ?_
  exact cw_ireturn C dd_Di_queueLength_9 (Nat.le_of_ble_eq_true rfl) (Nat.le_of_ble_eq_true rfl) ⟨_, rfl, rfl, ⟨by first | rfl | simp [wx_u], by first | rfl | simp [wx_u]⟩⟩
set_option maxRecDepth 100000 in
set_option maxHeartbeats 4000000 in
theorem mm_Di_nextOfQueue (X : wx_S) (r : Nat) (hr : r < 4) (hc : X (68 + r) 1 ≤ 40) (hh : X (68 + r) 2 ≤ 40) : nw_M wd_all yy_Di_nextOfQueue cc_Di_nextOfQueue 1 (some .int) 1 0 0 [.ref (68 + r)] X (fun v X' => v = some (.int (nI (if X (68 + r) 1 ≤ X (68 + r) 2 then 4294967295 else X (72 + r) (X (68 + r) 2)))) ∧ X' = if X (68 + r) 1 ≤ X (68 + r) 2 then X else wx_u X (68 + r) 2 (X (68 + r) 2 + 1)) := by
  refine nw_of [some (.ref (68 + r))] (by decide +kernel) rfl (Nat.le_of_ble_eq_true rfl) rfl ?_
  intro p l e s m args below meth c A g C
  refine cw_aload_n C dd_Di_nextOfQueue_0 rfl ?_
  refine nw_geti C wc_17 kF_Di_25 (is_17 hr) (by decide) rfl dd_Di_nextOfQueue_1 ?_
  refine cw_aload_n C dd_Di_nextOfQueue_4 rfl ?_
  refine nw_geti C wc_17 kF_Di_21 (is_17 hr) (by decide) rfl dd_Di_nextOfQueue_5 ?_
  refine nw_icmp_lt (tgt := 13) C dd_Di_nextOfQueue_8 (by decide) (by first | omega | (simp [wx_u] <;> omega)) (by first | omega | (simp [wx_u] <;> omega)) (fun h8 => ?_) (fun h8 => ?_)
  · refine cw_aload_n C dd_Di_nextOfQueue_13 rfl ?_
    refine cw_dup C dd_Di_nextOfQueue_14 rfl ?_
    refine nw_geti C wc_17 kF_Di_25 (is_17 hr) (by decide) rfl dd_Di_nextOfQueue_15 ?_
    refine cw_iconst (v := nI 1) C dd_Di_nextOfQueue_18 (by decide +kernel) ?_
    refine nw_iadd C dd_Di_nextOfQueue_19 ?_
    refine nw_puti C wc_17 kF_Di_25 (is_17 hr) (by decide) rfl rfl rfl rfl dd_Di_nextOfQueue_20 ?_
    refine cw_aload_n C dd_Di_nextOfQueue_23 rfl ?_
    refine cw_gets (b := 68) (b' := 72) C hr rfl wc_17 kF_Di_9 (is_17 hr) (by decide) rfl dd_Di_nextOfQueue_24 rfl ?_
    refine cw_aload_n C dd_Di_nextOfQueue_27 rfl ?_
    refine nw_geti C wc_17 kF_Di_25 (is_17 hr) (by decide) rfl dd_Di_nextOfQueue_28 ?_
    refine cw_iconst (v := nI 1) C dd_Di_nextOfQueue_31 (by decide +kernel) ?_
    refine nw_isub C dd_Di_nextOfQueue_32 (by first | omega | (simp [wx_u] <;> omega)) ?_
    refine nw_iald C (is_18 hr) (by first | omega | (simp [wx_u] <;> omega)) (by decide) dd_Di_nextOfQueue_33 ?_
    exact cw_ireturn C dd_Di_nextOfQueue_34 (Nat.le_of_ble_eq_true rfl) (Nat.le_of_ble_eq_true rfl) ⟨_, rfl, rfl, ⟨by rw [if_neg (by omega)]; simp [wx_u], by rw [if_neg (by omega)]⟩⟩
  · refine cw_iconst (v := nI 4294967295) C dd_Di_nextOfQueue_11 (by decide +kernel) ?_
    exact cw_ireturn C dd_Di_nextOfQueue_12 (Nat.le_of_ble_eq_true rfl) (Nat.le_of_ble_eq_true rfl) ⟨_, rfl, rfl, ⟨by rw [if_pos (by omega)], by rw [if_pos (by omega)]⟩⟩
set_option maxRecDepth 100000 in
set_option maxHeartbeats 4000000 in
theorem mm_No_noteEcho (X : wx_S) (r : Nat) (hr : r < 4) (u q : Nat) (hu : u < 90) (hq : q < 4) (hx : X (88 + r) u < 16) : nw_M wd_all yy_No_noteEcho cc_No_noteEcho 3 (some .int) 2 0 0 [.ref (84 + r), .int (nI u), .int (nI q)] X (fun v X' => v = some (.int (nI (zn_ones (X (88 + r) u ||| 2 ^ q)))) ∧ X' = wx_u X (88 + r) u (X (88 + r) u ||| 2 ^ q)) := by
  refine nw_of [some (.ref (84 + r)), some (.int (nI u)), some (.int (nI q))] (by decide +kernel) rfl (Nat.le_of_ble_eq_true rfl) rfl ?_
  intro p l e s m args below meth c A g C
  refine cw_aload_n C dd_No_noteEcho_0 rfl ?_
  refine cw_gets (b := 84) (b' := 88) C hr rfl wc_21 kF_No_9 (is_21 hr) (by decide) rfl dd_No_noteEcho_1 rfl ?_
  refine cw_iload_n C dd_No_noteEcho_4 rfl ?_
  refine cw_dup2 C dd_No_noteEcho_5 rfl rfl ?_
  refine nw_iald C (is_22 hr) (by first | omega | (simp [wx_u] <;> omega)) (by decide) dd_No_noteEcho_6 ?_
  refine cw_iconst (v := nI 1) C dd_No_noteEcho_7 (by decide +kernel) ?_
  refine cw_iload_n C dd_No_noteEcho_8 rfl ?_
  refine nw_ishl C dd_No_noteEcho_9 (by first | omega | (simp [wx_u] <;> omega)) ?_
  refine nw_ior C dd_No_noteEcho_10 ?_
  refine nw_iast C (is_22 hr) (by first | omega | (simp [wx_u] <;> omega)) (by decide) dd_No_noteEcho_11 ?_
  refine cw_aload_n C dd_No_noteEcho_12 rfl ?_
  refine cw_gets (b := 84) (b' := 88) C hr rfl wc_21 kF_No_9 (is_21 hr) (by decide) rfl dd_No_noteEcho_13 rfl ?_
  refine cw_iload_n C dd_No_noteEcho_16 rfl ?_
  refine nw_iald C (is_22 hr) (by first | omega | (simp [wx_u] <;> omega)) (by decide) dd_No_noteEcho_17 ?_
  rw [wx_u_eq, Nat.one_mul]
  refine cw_callS (As := [_]) C kS_No_21 dd_No_noteEcho_18 rfl rfl (Nat.le_of_ble_eq_true rfl) ⟨(Nat.le_of_ble_eq_true rfl), (Nat.le_of_ble_eq_true rfl)⟩ ⟨(Nat.le_of_ble_eq_true rfl), (Nat.le_of_ble_eq_true rfl)⟩ (mm_In_bitCount _ (X (88 + r) u ||| 2 ^ q) (zn_or16 hx (zn_pow4 hq))) (nw_ki ?_)
  exact cw_ireturn C dd_No_noteEcho_21 (Nat.le_of_ble_eq_true rfl) (Nat.le_of_ble_eq_true rfl) ⟨_, rfl, rfl, ⟨by first | rfl | simp [wx_u], by first | rfl | simp [wx_u]⟩⟩
set_option maxRecDepth 100000 in
set_option maxHeartbeats 4000000 in
theorem mm_No_noteReady (X : wx_S) (r : Nat) (hr : r < 4) (u q : Nat) (hu : u < 90) (hq : q < 4) (hx : X (92 + r) u < 16) (hw : X (84 + r) 3 < 90) : nw_M wd_all yy_No_noteReady cc_No_noteReady 5 (some .int) 2 0 0 [.ref (84 + r), .int (nI u), .int (nI q)] X (fun v X' => v = some (.int (nI (zn_ones (X (92 + r) u ||| 2 ^ q)))) ∧ X' = if zn_ones (X (92 + r) u) < 3 ∧ 3 ≤ zn_ones (X (92 + r) u ||| 2 ^ q) then wx_u (wx_u (wx_u X (92 + r) u (X (92 + r) u ||| 2 ^ q)) (96 + r) (X (84 + r) 3) u) (84 + r) 3 (X (84 + r) 3 + 1) else wx_u X (92 + r) u (X (92 + r) u ||| 2 ^ q)) := by
  refine nw_of [some (.ref (84 + r)), some (.int (nI u)), some (.int (nI q)), none, none] (by decide +kernel) rfl (Nat.le_of_ble_eq_true rfl) rfl ?_
  intro p l e s m args below meth c A g C
  have g1 := zn_ones_le (X (92 + r) u)
  have g2 := zn_ones_le (X (92 + r) u ||| 2 ^ q)
  refine cw_aload_n C dd_No_noteReady_0 rfl ?_
  refine cw_gets (b := 84) (b' := 92) C hr rfl wc_21 kF_No_15 (is_21 hr) (by decide) rfl dd_No_noteReady_1 rfl ?_
  refine cw_iload_n C dd_No_noteReady_4 rfl ?_
  refine nw_iald C (is_23 hr) (by first | omega | (simp [wx_u] <;> omega)) (by decide) dd_No_noteReady_5 ?_
  refine cw_callS (As := [_]) C kS_No_21 dd_No_noteReady_6 rfl rfl (Nat.le_of_ble_eq_true rfl) ⟨(Nat.le_of_ble_eq_true rfl), (Nat.le_of_ble_eq_true rfl)⟩ ⟨(Nat.le_of_ble_eq_true rfl), (Nat.le_of_ble_eq_true rfl)⟩ (mm_In_bitCount _ (X (92 + r) u) hx) (nw_ki ?_)
  refine cw_istore_n C dd_No_noteReady_9 (Nat.le_of_ble_eq_true rfl) ?_
  refine cw_aload_n C dd_No_noteReady_10 rfl ?_
  refine cw_gets (b := 84) (b' := 92) C hr rfl wc_21 kF_No_15 (is_21 hr) (by decide) rfl dd_No_noteReady_11 rfl ?_
  refine cw_iload_n C dd_No_noteReady_14 rfl ?_
  refine cw_dup2 C dd_No_noteReady_15 rfl rfl ?_
  refine nw_iald C (is_23 hr) (by first | omega | (simp [wx_u] <;> omega)) (by decide) dd_No_noteReady_16 ?_
  refine cw_iconst (v := nI 1) C dd_No_noteReady_17 (by decide +kernel) ?_
  refine cw_iload_n C dd_No_noteReady_18 rfl ?_
  refine nw_ishl C dd_No_noteReady_19 (by first | omega | (simp [wx_u] <;> omega)) ?_
  refine nw_ior C dd_No_noteReady_20 ?_
  refine nw_iast C (is_23 hr) (by first | omega | (simp [wx_u] <;> omega)) (by decide) dd_No_noteReady_21 ?_
  refine cw_aload_n C dd_No_noteReady_22 rfl ?_
  refine cw_gets (b := 84) (b' := 92) C hr rfl wc_21 kF_No_15 (is_21 hr) (by decide) rfl dd_No_noteReady_23 rfl ?_
  refine cw_iload_n C dd_No_noteReady_26 rfl ?_
  refine nw_iald C (is_23 hr) (by first | omega | (simp [wx_u] <;> omega)) (by decide) dd_No_noteReady_27 ?_
  rw [wx_u_eq, Nat.one_mul]
  refine cw_callS (As := [_]) C kS_No_21 dd_No_noteReady_28 rfl rfl (Nat.le_of_ble_eq_true rfl) ⟨(Nat.le_of_ble_eq_true rfl), (Nat.le_of_ble_eq_true rfl)⟩ ⟨(Nat.le_of_ble_eq_true rfl), (Nat.le_of_ble_eq_true rfl)⟩ (mm_In_bitCount _ (X (92 + r) u ||| 2 ^ q) (zn_or16 hx (zn_pow4 hq))) (nw_ki ?_)
  refine cw_istore C dd_No_noteReady_31 (Nat.le_of_ble_eq_true rfl) ?_
  refine cw_iload_n C dd_No_noteReady_33 rfl ?_
  refine cw_iconst (v := nI 3) C dd_No_noteReady_34 (by decide +kernel) ?_
  refine nw_icmp_ge (tgt := 64) C dd_No_noteReady_35 (by decide) (by first | omega | (simp [wx_u] <;> omega)) (by first | omega | (simp [wx_u] <;> omega)) (fun h35 => ?_) (fun h35 => ?_)
  · refine cw_iload C dd_No_noteReady_64 rfl ?_
    exact cw_ireturn C dd_No_noteReady_66 (Nat.le_of_ble_eq_true rfl) (Nat.le_of_ble_eq_true rfl) ⟨_, rfl, rfl, ⟨rfl, by first | (rw [if_pos ⟨by omega, by omega⟩]; simp [wx_u]) | rw [if_neg (by omega)]⟩⟩
  · refine cw_iload C dd_No_noteReady_38 rfl ?_
    refine cw_iconst (v := nI 3) C dd_No_noteReady_40 (by decide +kernel) ?_
    refine nw_icmp_lt (tgt := 64) C dd_No_noteReady_41 (by decide) (by first | omega | (simp [wx_u] <;> omega)) (by first | omega | (simp [wx_u] <;> omega)) (fun h41 => ?_) (fun h41 => ?_)
    · refine cw_iload C dd_No_noteReady_64 rfl ?_
      exact cw_ireturn C dd_No_noteReady_66 (Nat.le_of_ble_eq_true rfl) (Nat.le_of_ble_eq_true rfl) ⟨_, rfl, rfl, ⟨rfl, by first | (rw [if_pos ⟨by omega, by omega⟩]; simp [wx_u]) | rw [if_neg (by omega)]⟩⟩
    · refine cw_aload_n C dd_No_noteReady_44 rfl ?_
      refine cw_gets (b := 84) (b' := 96) C hr rfl wc_21 kF_No_18 (is_21 hr) (by decide) rfl dd_No_noteReady_45 rfl ?_
      refine cw_aload_n C dd_No_noteReady_48 rfl ?_
      refine nw_geti C wc_21 kF_No_27 (is_21 hr) (by decide) rfl dd_No_noteReady_49 ?_
      refine cw_iload_n C dd_No_noteReady_52 rfl ?_
      refine nw_iast C (is_24 hr) (by first | omega | (simp [wx_u] <;> omega)) (by decide) dd_No_noteReady_53 ?_
      refine cw_aload_n C dd_No_noteReady_54 rfl ?_
      refine cw_dup C dd_No_noteReady_55 rfl ?_
      refine nw_geti C wc_21 kF_No_27 (is_21 hr) (by decide) rfl dd_No_noteReady_56 ?_
      refine cw_iconst (v := nI 1) C dd_No_noteReady_59 (by decide +kernel) ?_
      refine nw_iadd C dd_No_noteReady_60 ?_
      refine nw_puti C wc_21 kF_No_27 (is_21 hr) (by decide) rfl rfl rfl rfl dd_No_noteReady_61 ?_
      refine cw_iload C dd_No_noteReady_64 rfl ?_
      exact cw_ireturn C dd_No_noteReady_66 (Nat.le_of_ble_eq_true rfl) (Nat.le_of_ble_eq_true rfl) ⟨_, rfl, rfl, ⟨rfl, by first | (rw [if_pos ⟨by omega, by omega⟩]; simp [wx_u]) | rw [if_neg (by omega)]⟩⟩
set_option maxRecDepth 100000 in
set_option maxHeartbeats 4000000 in
theorem mm_No_stopWaiting (X : wx_S) (r : Nat) (hr : r < 4) (i : Nat) (hi : i < X (84 + r) 3) (hw : X (84 + r) 3 ≤ 90) : nw_M wd_all yy_No_stopWaiting cc_No_stopWaiting 2 none 1 0 0 [.ref (84 + r), .int (nI i)] X (fun v X' => v = none ∧ X' = wx_u (wx_u X (84 + r) 3 (X (84 + r) 3 - 1)) (96 + r) i (X (96 + r) (X (84 + r) 3 - 1))) := by
  refine nw_of [some (.ref (84 + r)), some (.int (nI i))] (by decide +kernel) rfl (Nat.le_of_ble_eq_true rfl) rfl ?_
  intro p l e s m args below meth c A g C
  refine cw_aload_n C dd_No_stopWaiting_0 rfl ?_
  refine cw_dup C dd_No_stopWaiting_1 rfl ?_
  refine nw_geti C wc_21 kF_No_27 (is_21 hr) (by decide) rfl dd_No_stopWaiting_2 ?_
  refine cw_iconst (v := nI 1) C dd_No_stopWaiting_5 (by decide +kernel) ?_
  refine nw_isub C dd_No_stopWaiting_6 (by first | omega | (simp [wx_u] <;> omega)) ?_
  refine nw_puti C wc_21 kF_No_27 (is_21 hr) (by decide) rfl rfl rfl rfl dd_No_stopWaiting_7 ?_
  refine cw_aload_n C dd_No_stopWaiting_10 rfl ?_
  refine cw_gets (b := 84) (b' := 96) C hr rfl wc_21 kF_No_18 (is_21 hr) (by decide) rfl dd_No_stopWaiting_11 rfl ?_
  refine cw_iload_n C dd_No_stopWaiting_14 rfl ?_
  refine cw_aload_n C dd_No_stopWaiting_15 rfl ?_
  refine cw_gets (b := 84) (b' := 96) C hr rfl wc_21 kF_No_18 (is_21 hr) (by decide) rfl dd_No_stopWaiting_16 rfl ?_
  refine cw_aload_n C dd_No_stopWaiting_19 rfl ?_
  refine nw_geti C wc_21 kF_No_27 (is_21 hr) (by decide) rfl dd_No_stopWaiting_20 ?_
  refine nw_iald C (is_24 hr) (by first | omega | (simp [wx_u] <;> omega)) (by decide) dd_No_stopWaiting_23 ?_
  refine nw_iast C (is_24 hr) (by first | omega | (simp [wx_u] <;> omega)) (by decide) dd_No_stopWaiting_24 ?_
  exact cw_vreturn C dd_No_stopWaiting_25 (Nat.le_of_ble_eq_true rfl) (Nat.le_of_ble_eq_true rfl) ⟨_, rfl, rfl, ⟨rfl, by simp [wx_u]⟩⟩
set_option maxRecDepth 100000 in
set_option maxHeartbeats 4000000 in
theorem mm_No_clear (X : wx_S) (r : Nat) (hr : r < 4) : nw_M wd_all yy_No_clear cc_No_clear 1 none 2 0 0 [.ref (84 + r)] X (fun v X' => v = none ∧ X' = wx_u (zz_fill (zz_fill X (88 + r) 90 0) (92 + r) 90 0) (84 + r) 3 0) := by
  refine nw_of [some (.ref (84 + r))] (by decide +kernel) rfl (Nat.le_of_ble_eq_true rfl) rfl ?_
  intro p l e s m args below meth c A g C
  refine cw_aload_n C dd_No_clear_0 rfl ?_
  refine cw_gets (b := 84) (b' := 88) C hr rfl wc_21 kF_No_9 (is_21 hr) (by decide) rfl dd_No_clear_1 rfl ?_
  refine cw_iconst (v := nI 0) C dd_No_clear_4 (by decide +kernel) ?_
  refine cw_callS (As := [_, _]) C kS_No_31 dd_No_clear_5 rfl rfl (Nat.le_of_ble_eq_true rfl) ⟨(Nat.le_of_ble_eq_true rfl), (Nat.le_of_ble_eq_true rfl)⟩ ⟨(Nat.le_of_ble_eq_true rfl), (Nat.le_of_ble_eq_true rfl)⟩ (mm_Ar_fill _ (88 + r) 90 0 _ (is_22 hr) (by decide)) (nw_kv ?_)
  refine cw_aload_n C dd_No_clear_8 rfl ?_
  refine cw_gets (b := 84) (b' := 92) C hr rfl wc_21 kF_No_15 (is_21 hr) (by decide) rfl dd_No_clear_9 rfl ?_
  refine cw_iconst (v := nI 0) C dd_No_clear_12 (by decide +kernel) ?_
  refine cw_callS (As := [_, _]) C kS_No_31 dd_No_clear_13 rfl rfl (Nat.le_of_ble_eq_true rfl) ⟨(Nat.le_of_ble_eq_true rfl), (Nat.le_of_ble_eq_true rfl)⟩ ⟨(Nat.le_of_ble_eq_true rfl), (Nat.le_of_ble_eq_true rfl)⟩ (mm_Ar_fill _ (92 + r) 90 0 _ (is_23 hr) (by decide)) (nw_kv ?_)
  refine cw_aload_n C dd_No_clear_16 rfl ?_
  refine cw_iconst (v := nI 0) C dd_No_clear_17 (by decide +kernel) ?_
  refine nw_puti C wc_21 kF_No_27 (is_21 hr) (by decide) rfl rfl rfl rfl dd_No_clear_18 ?_
  exact cw_vreturn C dd_No_clear_21 (Nat.le_of_ble_eq_true rfl) (Nat.le_of_ble_eq_true rfl) ⟨_, rfl, rfl, ⟨by first | rfl | simp [wx_u], by first | rfl | simp [wx_u]⟩⟩
set_option maxRecDepth 100000 in
set_option maxHeartbeats 4000000 in
theorem mm_Dg_find (X : wx_S) (r : Nat) (hr : r < 4) (a w : Nat) (h : w * 4 + a < 64) : nw_M wd_all yy_Dg_find cc_Dg_find 3 (some .int) 1 0 0 [.ref (100 + r), .int (nI a), .int (nI w)] X (fun v X' => v = some (.int (nI (X (104 + r) (w * 4 + a)))) ∧ X' = X) := by
  refine nw_of [some (.ref (100 + r)), some (.int (nI a)), some (.int (nI w))] (by decide +kernel) rfl (Nat.le_of_ble_eq_true rfl) rfl ?_
  intro p l e s m args below meth c A g C
  refine cw_aload_n C dd_Dg_find_0 rfl ?_
  refine cw_gets (b := 100) (b' := 104) C hr rfl wc_25 kF_Dg_9 (is_25 hr) (by decide) rfl dd_Dg_find_1 rfl ?_
  refine cw_iload_n C dd_Dg_find_4 rfl ?_
  refine cw_iconst (v := nI 4) C dd_Dg_find_5 (by decide +kernel) ?_
  refine nw_imul C dd_Dg_find_6 ?_
  refine cw_iload_n C dd_Dg_find_7 rfl ?_
  refine nw_iadd C dd_Dg_find_8 ?_
  refine nw_iald C (is_26 hr) (by first | omega | (simp [wx_u] <;> omega)) (by decide) dd_Dg_find_9 ?_
  exact cw_ireturn C dd_Dg_find_10 (Nat.le_of_ble_eq_true rfl) (Nat.le_of_ble_eq_true rfl) ⟨_, rfl, rfl, ⟨by first | rfl | simp [wx_u], by first | rfl | simp [wx_u]⟩⟩
set_option maxRecDepth 100000 in
set_option maxHeartbeats 4000000 in
theorem mm_Dg_holds (X : wx_S) (r : Nat) (hr : r < 4) (a w : Nat) (h : w * 4 + a < 64) (hx : X (104 + r) (w * 4 + a) < 4294967296) : nw_M wd_all yy_Dg_holds cc_Dg_holds 3 (some .boolean) 1 0 0 [.ref (100 + r), .int (nI a), .int (nI w)] X (fun v X' => v = some (.int (nI (zb_n (X (104 + r) (w * 4 + a) ≠ 4294967295)))) ∧ X' = X) := by
  refine nw_of [some (.ref (100 + r)), some (.int (nI a)), some (.int (nI w))] (by decide +kernel) rfl (Nat.le_of_ble_eq_true rfl) rfl ?_
  intro p l e s m args below meth c A g C
  refine cw_aload_n C dd_Dg_holds_0 rfl ?_
  refine cw_gets (b := 100) (b' := 104) C hr rfl wc_25 kF_Dg_9 (is_25 hr) (by decide) rfl dd_Dg_holds_1 rfl ?_
  refine cw_iload_n C dd_Dg_holds_4 rfl ?_
  refine cw_iconst (v := nI 4) C dd_Dg_holds_5 (by decide +kernel) ?_
  refine nw_imul C dd_Dg_holds_6 ?_
  refine cw_iload_n C dd_Dg_holds_7 rfl ?_
  refine nw_iadd C dd_Dg_holds_8 ?_
  refine nw_iald C (is_26 hr) (by first | omega | (simp [wx_u] <;> omega)) (by decide) dd_Dg_holds_9 ?_
  refine cw_iconst (v := nI 4294967295) C dd_Dg_holds_10 (by decide +kernel) ?_
  refine nw_icmp_eq (tgt := 18) C dd_Dg_holds_11 (by decide) (by first | omega | (simp [wx_u] <;> omega)) (by first | omega | (simp [wx_u] <;> omega)) (fun h11 => ?_) (fun h11 => ?_)
  · refine cw_iconst (v := nI 0) C dd_Dg_holds_18 (by decide +kernel) ?_
    exact cw_zreturn C dd_Dg_holds_19 (nw_zn (by decide)) (Nat.le_of_ble_eq_true rfl) (Nat.le_of_ble_eq_true rfl) ⟨_, rfl, rfl, ⟨by first | exact congrArg (fun z => some (Value.int z)) (zb_t (by first | omega | (simp [wx_u] <;> omega))) | exact congrArg (fun z => some (Value.int z)) (zb_f (by first | omega | (simp [wx_u] <;> omega))), rfl⟩⟩
  · refine cw_iconst (v := nI 1) C dd_Dg_holds_14 (by decide +kernel) ?_
    refine cw_goto (tgt := 19) C dd_Dg_holds_15 (by decide) ?_
    exact cw_zreturn C dd_Dg_holds_19 (nw_zn (by decide)) (Nat.le_of_ble_eq_true rfl) (Nat.le_of_ble_eq_true rfl) ⟨_, rfl, rfl, ⟨by first | exact congrArg (fun z => some (Value.int z)) (zb_t (by first | omega | (simp [wx_u] <;> omega))) | exact congrArg (fun z => some (Value.int z)) (zb_f (by first | omega | (simp [wx_u] <;> omega))), rfl⟩⟩
set_option maxRecDepth 100000 in
set_option maxHeartbeats 4000000 in
theorem mm_Dg_authorsOf (X : wx_S) (r : Nat) (hr : r < 4) (w : Nat) (h : w < 16) : nw_M wd_all yy_Dg_authorsOf cc_Dg_authorsOf 2 (some .int) 1 0 0 [.ref (100 + r), .int (nI w)] X (fun v X' => v = some (.int (nI (X (108 + r) w))) ∧ X' = X) := by
  refine nw_of [some (.ref (100 + r)), some (.int (nI w))] (by decide +kernel) rfl (Nat.le_of_ble_eq_true rfl) rfl ?_
  intro p l e s m args below meth c A g C
  refine cw_aload_n C dd_Dg_authorsOf_0 rfl ?_
  refine cw_gets (b := 100) (b' := 108) C hr rfl wc_25 kF_Dg_15 (is_25 hr) (by decide) rfl dd_Dg_authorsOf_1 rfl ?_
  refine cw_iload_n C dd_Dg_authorsOf_4 rfl ?_
  refine nw_iald C (is_27 hr) (by first | omega | (simp [wx_u] <;> omega)) (by decide) dd_Dg_authorsOf_5 ?_
  exact cw_ireturn C dd_Dg_authorsOf_6 (Nat.le_of_ble_eq_true rfl) (Nat.le_of_ble_eq_true rfl) ⟨_, rfl, rfl, ⟨by first | rfl | simp [wx_u], by first | rfl | simp [wx_u]⟩⟩
abbrev zc_can (X : wx_S) (r u : Nat) : Prop := zc_wf X u ∧ X (104 + r) (X 28 u * 4 + X 24 u) = 4294967295 ∧ X 32 u &&& (X (108 + r) (X 28 u - 1) ^^^ 4294967295) = 0
set_option maxRecDepth 100000 in
set_option maxHeartbeats 4000000 in
theorem mm_Dg_canTake (X : wx_S) (r : Nat) (hr : r < 4) (u : Nat) (hu : u < 90) (h1 : 1 ≤ X 28 u ∧ X 28 u ≤ 14) (h2 : X 24 u < 4) (h3 : X 32 u < 16) (h4 : X (104 + r) (X 28 u * 4 + X 24 u) < 4294967296) : nw_M wd_all yy_Dg_canTake cc_Dg_canTake 3 (some .boolean) 3 0 0 [.ref (100 + r), .int (nI u)] X (fun v X' => v = some (.int (nI (zb_n (zc_can X r u)))) ∧ X' = X) := by
  refine nw_of [some (.ref (100 + r)), some (.int (nI u)), none] (by decide +kernel) rfl (Nat.le_of_ble_eq_true rfl) rfl ?_
  intro p l e s m args below meth c A g C
  refine cw_aload_n C dd_Dg_canTake_0 rfl ?_
  refine cw_getr (q' := 20) C wc_25 kF_Dg_18 (is_25 hr) (by decide) rfl dd_Dg_canTake_1 rfl ?_
  refine cw_getr (q' := 28) C wc_5 kF_Dg_28 is_5 (by decide) rfl dd_Dg_canTake_4 rfl ?_
  refine cw_iload_n C dd_Dg_canTake_7 rfl ?_
  refine nw_iald C is_7 (by first | omega | (simp [wx_u] <;> omega)) (by decide) dd_Dg_canTake_8 ?_
  refine cw_istore_n C dd_Dg_canTake_9 (Nat.le_of_ble_eq_true rfl) ?_
  refine cw_aload_n C dd_Dg_canTake_10 rfl ?_
  refine cw_getr (q' := 20) C wc_25 kF_Dg_18 (is_25 hr) (by decide) rfl dd_Dg_canTake_11 rfl ?_
  refine cw_iload_n C dd_Dg_canTake_14 rfl ?_
  refine cw_callV (As := [_]) C kV_Dg_33 wc_5 is_5 dd_Dg_canTake_15 rfl rfl (Nat.le_of_ble_eq_true rfl) ⟨(Nat.le_of_ble_eq_true rfl), (Nat.le_of_ble_eq_true rfl)⟩ ⟨(Nat.le_of_ble_eq_true rfl), (Nat.le_of_ble_eq_true rfl)⟩ (mm_Ve_isWellFormed X u hu (by omega) h3) (nw_ki ?_)
  refine nw_zeq (tgt := 65) C dd_Dg_canTake_18 (by decide) (fun h18 => ?_) (fun h18 => ?_)
  · refine cw_iconst (v := nI 0) C dd_Dg_canTake_65 (by decide +kernel) ?_
    exact cw_zreturn C dd_Dg_canTake_66 (nw_zn (by decide)) (Nat.le_of_ble_eq_true rfl) (Nat.le_of_ble_eq_true rfl) ⟨_, rfl, rfl, ⟨by first | exact congrArg (fun z => some (Value.int z)) (zb_t ⟨h18, Classical.not_not.mp h35, h58⟩) | exact congrArg (fun z => some (Value.int z)) (zb_f (fun q => h18 q.1)) | exact congrArg (fun z => some (Value.int z)) (zb_f (fun q => h35 q.2.1)) | exact congrArg (fun z => some (Value.int z)) (zb_f (fun q => h58 q.2.2)), rfl⟩⟩
  · refine cw_aload_n C dd_Dg_canTake_21 rfl ?_
    refine cw_aload_n C dd_Dg_canTake_22 rfl ?_
    refine cw_getr (q' := 20) C wc_25 kF_Dg_18 (is_25 hr) (by decide) rfl dd_Dg_canTake_23 rfl ?_
    refine cw_getr (q' := 24) C wc_5 kF_Dg_37 is_5 (by decide) rfl dd_Dg_canTake_26 rfl ?_
    refine cw_iload_n C dd_Dg_canTake_29 rfl ?_
    refine nw_iald C is_6 (by first | omega | (simp [wx_u] <;> omega)) (by decide) dd_Dg_canTake_30 ?_
    refine cw_iload_n C dd_Dg_canTake_31 rfl ?_
    refine cw_callV (As := [_, _]) C kV_Dg_40 wc_25 (is_25 hr) dd_Dg_canTake_32 rfl rfl (Nat.le_of_ble_eq_true rfl) ⟨(Nat.le_of_ble_eq_true rfl), (Nat.le_of_ble_eq_true rfl)⟩ ⟨(Nat.le_of_ble_eq_true rfl), (Nat.le_of_ble_eq_true rfl)⟩ (mm_Dg_holds X r hr (X 24 u) (X 28 u) (by omega) h4) (nw_ki ?_)
    refine nw_zne (tgt := 65) C dd_Dg_canTake_35 (by decide) (fun h35 => ?_) (fun h35 => ?_)
    · refine cw_iconst (v := nI 0) C dd_Dg_canTake_65 (by decide +kernel) ?_
      exact cw_zreturn C dd_Dg_canTake_66 (nw_zn (by decide)) (Nat.le_of_ble_eq_true rfl) (Nat.le_of_ble_eq_true rfl) ⟨_, rfl, rfl, ⟨by first | exact congrArg (fun z => some (Value.int z)) (zb_t ⟨h18, Classical.not_not.mp h35, h58⟩) | exact congrArg (fun z => some (Value.int z)) (zb_f (fun q => h18 q.1)) | exact congrArg (fun z => some (Value.int z)) (zb_f (fun q => h35 q.2.1)) | exact congrArg (fun z => some (Value.int z)) (zb_f (fun q => h58 q.2.2)), rfl⟩⟩
    · refine cw_aload_n C dd_Dg_canTake_38 rfl ?_
      refine cw_getr (q' := 20) C wc_25 kF_Dg_18 (is_25 hr) (by decide) rfl dd_Dg_canTake_39 rfl ?_
      refine cw_getr (q' := 32) C wc_5 kF_Dg_44 is_5 (by decide) rfl dd_Dg_canTake_42 rfl ?_
      refine cw_iload_n C dd_Dg_canTake_45 rfl ?_
      refine nw_iald C is_8 (by first | omega | (simp [wx_u] <;> omega)) (by decide) dd_Dg_canTake_46 ?_
      refine cw_aload_n C dd_Dg_canTake_47 rfl ?_
      refine cw_gets (b := 100) (b' := 108) C hr rfl wc_25 kF_Dg_15 (is_25 hr) (by decide) rfl dd_Dg_canTake_48 rfl ?_
      refine cw_iload_n C dd_Dg_canTake_51 rfl ?_
      refine cw_iconst (v := nI 1) C dd_Dg_canTake_52 (by decide +kernel) ?_
      refine nw_isub C dd_Dg_canTake_53 (by first | omega | (simp [wx_u] <;> omega)) ?_
      refine nw_iald C (is_27 hr) (by first | omega | (simp [wx_u] <;> omega)) (by decide) dd_Dg_canTake_54 ?_
      refine cw_iconst (v := nI 4294967295) C dd_Dg_canTake_55 (by decide +kernel) ?_
      refine nw_ixor C dd_Dg_canTake_56 ?_
      refine nw_iand C dd_Dg_canTake_57 ?_
      refine nw_if_ne (tgt := 65) C dd_Dg_canTake_58 (by decide) (Nat.lt_trans (zn_and_lt h3) (by decide)) (fun h58 => ?_) (fun h58 => ?_)
      · refine cw_iconst (v := nI 0) C dd_Dg_canTake_65 (by decide +kernel) ?_
        exact cw_zreturn C dd_Dg_canTake_66 (nw_zn (by decide)) (Nat.le_of_ble_eq_true rfl) (Nat.le_of_ble_eq_true rfl) ⟨_, rfl, rfl, ⟨by first | exact congrArg (fun z => some (Value.int z)) (zb_t ⟨h18, Classical.not_not.mp h35, h58⟩) | exact congrArg (fun z => some (Value.int z)) (zb_f (fun q => h18 q.1)) | exact congrArg (fun z => some (Value.int z)) (zb_f (fun q => h35 q.2.1)) | exact congrArg (fun z => some (Value.int z)) (zb_f (fun q => h58 q.2.2)), rfl⟩⟩
      · refine cw_iconst (v := nI 1) C dd_Dg_canTake_61 (by decide +kernel) ?_
        refine cw_goto (tgt := 66) C dd_Dg_canTake_62 (by decide) ?_
        exact cw_zreturn C dd_Dg_canTake_66 (nw_zn (by decide)) (Nat.le_of_ble_eq_true rfl) (Nat.le_of_ble_eq_true rfl) ⟨_, rfl, rfl, ⟨by first | exact congrArg (fun z => some (Value.int z)) (zb_t ⟨h18, Classical.not_not.mp h35, h58⟩) | exact congrArg (fun z => some (Value.int z)) (zb_f (fun q => h18 q.1)) | exact congrArg (fun z => some (Value.int z)) (zb_f (fun q => h35 q.2.1)) | exact congrArg (fun z => some (Value.int z)) (zb_f (fun q => h58 q.2.2)), rfl⟩⟩
set_option maxRecDepth 100000 in
set_option maxHeartbeats 4000000 in
theorem mm_Dg_insert (X : wx_S) (r : Nat) (hr : r < 4) (u : Nat) (hu : u < 90) (h1 : 1 ≤ X 28 u ∧ X 28 u ≤ 14) (h2 : X 24 u < 4) : nw_M wd_all yy_Dg_insert cc_Dg_insert 4 none 1 0 0 [.ref (100 + r), .int (nI u)] X (fun v X' => v = none ∧ X' = wx_u (wx_u (wx_u X (104 + r) (X 28 u * 4 + X 24 u) u) (108 + r) (X 28 u) (X (108 + r) (X 28 u) ||| 2 ^ X 24 u)) (100 + r) 3 (X (100 + r) 3 + 1)) := by
  refine nw_of [some (.ref (100 + r)), some (.int (nI u)), none, none] (by decide +kernel) rfl (Nat.le_of_ble_eq_true rfl) rfl ?_
  intro p l e s m args below meth c A g C
  refine cw_aload_n C dd_Dg_insert_0 rfl ?_
  refine cw_getr (q' := 20) C wc_25 kF_Dg_18 (is_25 hr) (by decide) rfl dd_Dg_insert_1 rfl ?_
  refine cw_getr (q' := 24) C wc_5 kF_Dg_37 is_5 (by decide) rfl dd_Dg_insert_4 rfl ?_
  refine cw_iload_n C dd_Dg_insert_7 rfl ?_
  refine nw_iald C is_6 (by first | omega | (simp [wx_u] <;> omega)) (by decide) dd_Dg_insert_8 ?_
  refine cw_istore_n C dd_Dg_insert_9 (Nat.le_of_ble_eq_true rfl) ?_
  refine cw_aload_n C dd_Dg_insert_10 rfl ?_
  refine cw_getr (q' := 20) C wc_25 kF_Dg_18 (is_25 hr) (by decide) rfl dd_Dg_insert_11 rfl ?_
  refine cw_getr (q' := 28) C wc_5 kF_Dg_28 is_5 (by decide) rfl dd_Dg_insert_14 rfl ?_
  refine cw_iload_n C dd_Dg_insert_17 rfl ?_
  refine nw_iald C is_7 (by first | omega | (simp [wx_u] <;> omega)) (by decide) dd_Dg_insert_18 ?_
  refine cw_istore_n C dd_Dg_insert_19 (Nat.le_of_ble_eq_true rfl) ?_
  refine cw_aload_n C dd_Dg_insert_20 rfl ?_
  refine cw_gets (b := 100) (b' := 104) C hr rfl wc_25 kF_Dg_9 (is_25 hr) (by decide) rfl dd_Dg_insert_21 rfl ?_
  refine cw_iload_n C dd_Dg_insert_24 rfl ?_
  refine cw_iconst (v := nI 4) C dd_Dg_insert_25 (by decide +kernel) ?_
  refine nw_imul C dd_Dg_insert_26 ?_
  refine cw_iload_n C dd_Dg_insert_27 rfl ?_
  refine nw_iadd C dd_Dg_insert_28 ?_
  refine cw_iload_n C dd_Dg_insert_29 rfl ?_
  refine nw_iast C (is_26 hr) (by first | omega | (simp [wx_u] <;> omega)) (by decide) dd_Dg_insert_30 ?_
  refine cw_aload_n C dd_Dg_insert_31 rfl ?_
  refine cw_gets (b := 100) (b' := 108) C hr rfl wc_25 kF_Dg_15 (is_25 hr) (by decide) rfl dd_Dg_insert_32 rfl ?_
  refine cw_iload_n C dd_Dg_insert_35 rfl ?_
  refine cw_dup2 C dd_Dg_insert_36 rfl rfl ?_
  refine nw_iald C (is_27 hr) (by first | omega | (simp [wx_u] <;> omega)) (by decide) dd_Dg_insert_37 ?_
  refine cw_iconst (v := nI 1) C dd_Dg_insert_38 (by decide +kernel) ?_
  refine cw_iload_n C dd_Dg_insert_39 rfl ?_
  refine nw_ishl C dd_Dg_insert_40 (by first | omega | (simp [wx_u] <;> omega)) ?_
  refine nw_ior C dd_Dg_insert_41 ?_
  refine nw_iast C (is_27 hr) (by first | omega | (simp [wx_u] <;> omega)) (by decide) dd_Dg_insert_42 ?_
  refine cw_aload_n C dd_Dg_insert_43 rfl ?_
  refine cw_dup C dd_Dg_insert_44 rfl ?_
  refine nw_geti C wc_25 kF_Dg_47 (is_25 hr) (by decide) rfl dd_Dg_insert_45 ?_
  refine cw_iconst (v := nI 1) C dd_Dg_insert_48 (by decide +kernel) ?_
  refine nw_iadd C dd_Dg_insert_49 ?_
  refine nw_puti C wc_25 kF_Dg_47 (is_25 hr) (by decide) rfl rfl rfl rfl dd_Dg_insert_50 ?_
  exact cw_vreturn C dd_Dg_insert_53 (Nat.le_of_ble_eq_true rfl) (Nat.le_of_ble_eq_true rfl) ⟨_, rfl, rfl, ⟨rfl, by simp [wx_u]⟩⟩
def zc_par (X : wx_S) (r au w : Nat) : Nat → Nat
  | 0 => 0
  | i + 1 => if X (104 + r) (w * 4 + i) ≠ 4294967295 ∧ au / 2 ^ i % 2 = 1 then zc_par X r au w i ||| X 32 (X (104 + r) (w * 4 + i)) else zc_par X r au w i
def zc_std (X : wx_S) (r a w : Nat) : Nat → Nat
  | 0 => 0
  | i + 1 => if X (104 + r) ((w + 1) * 4 + i) ≠ 4294967295 ∧ X 32 (X (104 + r) ((w + 1) * 4 + i)) / 2 ^ a % 2 = 1 then zc_std X r a w i + 1 else zc_std X r a w i
set_option maxRecDepth 100000 in
set_option maxHeartbeats 4000000 in
theorem lp_Dg_parentsOf {p : Program} {l : Launch} {e : Env} {s : State} {m : MethodId} {args : Array Value} {below : List Frame} {meth : Method} {c : Code} {A : Nat → Prop} {g : wd_G} {G : State → Prop}  (X : wx_S) (r : Nat) (hr : r < 4) (au w : Nat) (hau : au < 2147483648) (hw : w ≤ 15) (hsl : ∀ i, i < 4 → X (104 + r) (w * 4 + i) < 90 ∨ X (104 + r) (w * 4 + i) = 4294967295) (C : cw_C p s m args meth c A wd_all g cc_Dg_parentsOf 6 "DagLedger$Dag" (some .int))  (hend : ∀ z : Option Value, cw_W p l e (cw_rm 2 0 0) s m args below meth c A wd_all g 0 0 G 6 58 [some (.ref (100 + r)), some (.int (nI au)), some (.int (nI w)), some (.int (nI (zc_par X r au w (4)))), some (.int (nI (4))), z] [] (wx_e X) (wx_l X)) : ∀ (j i : Nat) (z : Option Value), i + j = 4 → cw_W p l e (cw_rm 2 0 0) s m args below meth c A wd_all g 0 0 G 6 5 [some (.ref (100 + r)), some (.int (nI au)), some (.int (nI w)), some (.int (nI (zc_par X r au w (i)))), some (.int (nI (i))), z] [] (wx_e X) (wx_l X) := by
  intro j
  induction j with
  | zero =>
    intro i z hij
    refine cw_iload C dd_Dg_parentsOf_5 rfl ?_
    refine cw_iconst (v := nI 4) C dd_Dg_parentsOf_7 (by decide +kernel) ?_
    refine nw_icmp_ge (tgt := 58) C dd_Dg_parentsOf_8 (by decide) (by first | omega | (simp [wx_u] <;> omega)) (by first | omega | (simp [wx_u] <;> omega)) (fun h8 => ?_) (fun h8 => ?_)
    · have hi : i = 4 := by omega
      rw [hi]
      exact hend z
    · exact absurd h8 (by omega)
  | succ j ih =>
    intro i z hij
    have h9 := hsl i (by omega)
    refine cw_iload C dd_Dg_parentsOf_5 rfl ?_
    refine cw_iconst (v := nI 4) C dd_Dg_parentsOf_7 (by decide +kernel) ?_
    refine nw_icmp_ge (tgt := 58) C dd_Dg_parentsOf_8 (by decide) (by first | omega | (simp [wx_u] <;> omega)) (by first | omega | (simp [wx_u] <;> omega)) (fun h8 => ?_) (fun h8 => ?_)
    · exact absurd h8 (by omega)
    · refine cw_aload_n C dd_Dg_parentsOf_11 rfl ?_
      refine cw_gets (b := 100) (b' := 104) C hr rfl wc_25 kF_Dg_9 (is_25 hr) (by decide) rfl dd_Dg_parentsOf_12 rfl ?_
      refine cw_iload_n C dd_Dg_parentsOf_15 rfl ?_
      refine cw_iconst (v := nI 4) C dd_Dg_parentsOf_16 (by decide +kernel) ?_
      refine nw_imul C dd_Dg_parentsOf_17 ?_
      refine cw_iload C dd_Dg_parentsOf_18 rfl ?_
      refine nw_iadd C dd_Dg_parentsOf_20 ?_
      refine nw_iald C (is_26 hr) (by first | omega | (simp [wx_u] <;> omega)) (by decide) dd_Dg_parentsOf_21 ?_
      refine cw_istore C dd_Dg_parentsOf_22 (Nat.le_of_ble_eq_true rfl) ?_
      refine cw_iload C dd_Dg_parentsOf_24 rfl ?_
      refine cw_iconst (v := nI 4294967295) C dd_Dg_parentsOf_26 (by decide +kernel) ?_
      refine nw_icmp_eq (tgt := 52) C dd_Dg_parentsOf_27 (by decide) (by first | omega | (simp [wx_u] <;> omega)) (by first | omega | (simp [wx_u] <;> omega)) (fun h27 => ?_) (fun h27 => ?_)
      · refine nw_iinc (b := 1) C dd_Dg_parentsOf_52 (by decide +kernel) rfl (Nat.le_of_ble_eq_true rfl) ?_
        refine cw_goto (tgt := 5) C dd_Dg_parentsOf_55 (by decide) ?_
        have k9 := ih (i + 1)
        rw [show zc_par X r au w (i + 1) = zc_par X r au w i by simp [zc_par, h27]] at k9
        exact k9 _ (by omega)
      · refine cw_iload_n C dd_Dg_parentsOf_30 rfl ?_
        refine cw_iload C dd_Dg_parentsOf_31 rfl ?_
        refine cw_callSN (As := [_, _]) C kS_Dg_51 dd_Dg_parentsOf_33 rfl rfl (Nat.le_of_ble_eq_true rfl) ⟨(Nat.le_of_ble_eq_true rfl), (Nat.le_of_ble_eq_true rfl)⟩ ⟨(Nat.le_of_ble_eq_true rfl), (Nat.le_of_ble_eq_true rfl)⟩ (mm_Le_contains X au i hau (by omega)) (nw_ki ?_)
        refine nw_zeq (tgt := 52) C dd_Dg_parentsOf_36 (by decide) (fun h36 => ?_) (fun h36 => ?_)
        · refine nw_iinc (b := 1) C dd_Dg_parentsOf_52 (by decide +kernel) rfl (Nat.le_of_ble_eq_true rfl) ?_
          refine cw_goto (tgt := 5) C dd_Dg_parentsOf_55 (by decide) ?_
          have k9 := ih (i + 1)
          rw [show zc_par X r au w (i + 1) = zc_par X r au w i by simp [zc_par, h27, h36]] at k9
          exact k9 _ (by omega)
        · refine cw_iload_n C dd_Dg_parentsOf_39 rfl ?_
          refine cw_aload_n C dd_Dg_parentsOf_40 rfl ?_
          refine cw_getr (q' := 20) C wc_25 kF_Dg_18 (is_25 hr) (by decide) rfl dd_Dg_parentsOf_41 rfl ?_
          refine cw_getr (q' := 32) C wc_5 kF_Dg_44 is_5 (by decide) rfl dd_Dg_parentsOf_44 rfl ?_
          refine cw_iload C dd_Dg_parentsOf_47 rfl ?_
          refine nw_iald C is_8 (by first | omega | (simp [wx_u] <;> omega)) (by decide) dd_Dg_parentsOf_49 ?_
          refine nw_ior C dd_Dg_parentsOf_50 ?_
          refine cw_istore_n C dd_Dg_parentsOf_51 (Nat.le_of_ble_eq_true rfl) ?_
          refine nw_iinc (b := 1) C dd_Dg_parentsOf_52 (by decide +kernel) rfl (Nat.le_of_ble_eq_true rfl) ?_
          refine cw_goto (tgt := 5) C dd_Dg_parentsOf_55 (by decide) ?_
          have k9 := ih (i + 1)
          rw [show zc_par X r au w (i + 1) = zc_par X r au w i ||| X 32 (X (104 + r) (w * 4 + i)) by simp [zc_par, h27, h36]] at k9
          exact k9 _ (by omega)
set_option maxRecDepth 100000 in
set_option maxHeartbeats 4000000 in
theorem mm_Dg_parentsOf (X : wx_S) (r : Nat) (hr : r < 4) (au w : Nat) (hau : au < 2147483648) (hw : w ≤ 15) (hsl : ∀ i, i < 4 → X (104 + r) (w * 4 + i) < 90 ∨ X (104 + r) (w * 4 + i) = 4294967295) : nw_M wd_all yy_Dg_parentsOf cc_Dg_parentsOf 6 (some .int) 2 0 0 [.ref (100 + r), .int (nI au), .int (nI w)] X (fun v X' => v = some (.int (nI (zc_par X r au w 4))) ∧ X' = X) := by
  refine nw_of [some (.ref (100 + r)), some (.int (nI au)), some (.int (nI w)), none, none, none] (by decide +kernel) rfl (Nat.le_of_ble_eq_true rfl) rfl ?_
  intro p l e s m args below meth c A g C
  refine cw_iconst (v := nI 0) C dd_Dg_parentsOf_0 (by decide +kernel) ?_
  refine cw_istore_n C dd_Dg_parentsOf_1 (Nat.le_of_ble_eq_true rfl) ?_
  refine cw_iconst (v := nI 0) C dd_Dg_parentsOf_2 (by decide +kernel) ?_
  refine cw_istore C dd_Dg_parentsOf_3 (Nat.le_of_ble_eq_true rfl) ?_
  refine lp_Dg_parentsOf X r hr au w hau hw hsl C ?_ 4 0 _ (by omega)
  intro z
  refine cw_iload_n C dd_Dg_parentsOf_58 rfl ?_
  exact cw_ireturn C dd_Dg_parentsOf_59 (Nat.le_of_ble_eq_true rfl) (Nat.le_of_ble_eq_true rfl) ⟨_, rfl, rfl, ⟨rfl, rfl⟩⟩
set_option maxRecDepth 100000 in
set_option maxHeartbeats 4000000 in
theorem lp_Dg_countStandingOn {p : Program} {l : Launch} {e : Env} {s : State} {m : MethodId} {args : Array Value} {below : List Frame} {meth : Method} {c : Code} {A : Nat → Prop} {g : wd_G} {G : State → Prop}  (X : wx_S) (r : Nat) (hr : r < 4) (a w : Nat) (ha : a < 4) (hw : w ≤ 14) (hsl : ∀ i, i < 4 → X (104 + r) ((w + 1) * 4 + i) < 90 ∨ X (104 + r) ((w + 1) * 4 + i) = 4294967295) (hp : ∀ i, i < 90 → X 32 i < 2147483648) (C : cw_C p s m args meth c A wd_all g cc_Dg_countStandingOn 6 "DagLedger$Dag" (some .int))  (hend : ∀ z : Option Value, cw_W p l e (cw_rm 2 0 0) s m args below meth c A wd_all g 0 0 G 6 58 [some (.ref (100 + r)), some (.int (nI a)), some (.int (nI w)), some (.int (nI (zc_std X r a w (4)))), some (.int (nI (4))), z] [] (wx_e X) (wx_l X)) : ∀ (j i : Nat) (z : Option Value), i + j = 4 → cw_W p l e (cw_rm 2 0 0) s m args below meth c A wd_all g 0 0 G 6 5 [some (.ref (100 + r)), some (.int (nI a)), some (.int (nI w)), some (.int (nI (zc_std X r a w (i)))), some (.int (nI (i))), z] [] (wx_e X) (wx_l X) := by
  intro j
  induction j with
  | zero =>
    intro i z hij
    refine cw_iload C dd_Dg_countStandingOn_5 rfl ?_
    refine cw_iconst (v := nI 4) C dd_Dg_countStandingOn_7 (by decide +kernel) ?_
    refine nw_icmp_ge (tgt := 58) C dd_Dg_countStandingOn_8 (by decide) (by first | omega | (simp [wx_u] <;> omega)) (by first | omega | (simp [wx_u] <;> omega)) (fun h8 => ?_) (fun h8 => ?_)
    · have hi : i = 4 := by omega
      rw [hi]
      exact hend z
    · exact absurd h8 (by omega)
  | succ j ih =>
    intro i z hij
    have h9 := hsl i (by omega)
    refine cw_iload C dd_Dg_countStandingOn_5 rfl ?_
    refine cw_iconst (v := nI 4) C dd_Dg_countStandingOn_7 (by decide +kernel) ?_
    refine nw_icmp_ge (tgt := 58) C dd_Dg_countStandingOn_8 (by decide) (by first | omega | (simp [wx_u] <;> omega)) (by first | omega | (simp [wx_u] <;> omega)) (fun h8 => ?_) (fun h8 => ?_)
    · exact absurd h8 (by omega)
    · refine cw_aload_n C dd_Dg_countStandingOn_11 rfl ?_
      refine cw_gets (b := 100) (b' := 104) C hr rfl wc_25 kF_Dg_9 (is_25 hr) (by decide) rfl dd_Dg_countStandingOn_12 rfl ?_
      refine cw_iload_n C dd_Dg_countStandingOn_15 rfl ?_
      refine cw_iconst (v := nI 1) C dd_Dg_countStandingOn_16 (by decide +kernel) ?_
      refine nw_iadd C dd_Dg_countStandingOn_17 ?_
      refine cw_iconst (v := nI 4) C dd_Dg_countStandingOn_18 (by decide +kernel) ?_
      refine nw_imul C dd_Dg_countStandingOn_19 ?_
      refine cw_iload C dd_Dg_countStandingOn_20 rfl ?_
      refine nw_iadd C dd_Dg_countStandingOn_22 ?_
      refine nw_iald C (is_26 hr) (by first | omega | (simp [wx_u] <;> omega)) (by decide) dd_Dg_countStandingOn_23 ?_
      refine cw_istore C dd_Dg_countStandingOn_24 (Nat.le_of_ble_eq_true rfl) ?_
      refine cw_iload C dd_Dg_countStandingOn_26 rfl ?_
      refine cw_iconst (v := nI 4294967295) C dd_Dg_countStandingOn_28 (by decide +kernel) ?_
      refine nw_icmp_eq (tgt := 52) C dd_Dg_countStandingOn_29 (by decide) (by first | omega | (simp [wx_u] <;> omega)) (by first | omega | (simp [wx_u] <;> omega)) (fun h29 => ?_) (fun h29 => ?_)
      · refine nw_iinc (b := 1) C dd_Dg_countStandingOn_52 (by decide +kernel) rfl (Nat.le_of_ble_eq_true rfl) ?_
        refine cw_goto (tgt := 5) C dd_Dg_countStandingOn_55 (by decide) ?_
        have k9 := ih (i + 1)
        rw [show zc_std X r a w (i + 1) = zc_std X r a w i by simp [zc_std, h29]] at k9
        exact k9 _ (by omega)
      · refine cw_aload_n C dd_Dg_countStandingOn_32 rfl ?_
        refine cw_getr (q' := 20) C wc_25 kF_Dg_18 (is_25 hr) (by decide) rfl dd_Dg_countStandingOn_33 rfl ?_
        refine cw_getr (q' := 32) C wc_5 kF_Dg_44 is_5 (by decide) rfl dd_Dg_countStandingOn_36 rfl ?_
        refine cw_iload C dd_Dg_countStandingOn_39 rfl ?_
        refine nw_iald C is_8 (by first | omega | (simp [wx_u] <;> omega)) (by decide) dd_Dg_countStandingOn_41 ?_
        refine cw_iload_n C dd_Dg_countStandingOn_42 rfl ?_
        refine cw_callSN (As := [_, _]) C kS_Dg_51 dd_Dg_countStandingOn_43 rfl rfl (Nat.le_of_ble_eq_true rfl) ⟨(Nat.le_of_ble_eq_true rfl), (Nat.le_of_ble_eq_true rfl)⟩ ⟨(Nat.le_of_ble_eq_true rfl), (Nat.le_of_ble_eq_true rfl)⟩ (mm_Le_contains X _ a (hp _ (by omega)) (by omega)) (nw_ki ?_)
        refine nw_zeq (tgt := 52) C dd_Dg_countStandingOn_46 (by decide) (fun h46 => ?_) (fun h46 => ?_)
        · refine nw_iinc (b := 1) C dd_Dg_countStandingOn_52 (by decide +kernel) rfl (Nat.le_of_ble_eq_true rfl) ?_
          refine cw_goto (tgt := 5) C dd_Dg_countStandingOn_55 (by decide) ?_
          have k9 := ih (i + 1)
          rw [show zc_std X r a w (i + 1) = zc_std X r a w i by simp [zc_std, h29, h46]] at k9
          exact k9 _ (by omega)
        · refine nw_iinc (b := 1) C dd_Dg_countStandingOn_49 (by decide +kernel) rfl (Nat.le_of_ble_eq_true rfl) ?_
          refine nw_iinc (b := 1) C dd_Dg_countStandingOn_52 (by decide +kernel) rfl (Nat.le_of_ble_eq_true rfl) ?_
          refine cw_goto (tgt := 5) C dd_Dg_countStandingOn_55 (by decide) ?_
          have k9 := ih (i + 1)
          rw [show zc_std X r a w (i + 1) = zc_std X r a w i + 1 by simp [zc_std, h29, h46]] at k9
          exact k9 _ (by omega)
set_option maxRecDepth 100000 in
set_option maxHeartbeats 4000000 in
theorem mm_Dg_countStandingOn (X : wx_S) (r : Nat) (hr : r < 4) (a w : Nat) (ha : a < 4) (hw : w ≤ 14) (hsl : ∀ i, i < 4 → X (104 + r) ((w + 1) * 4 + i) < 90 ∨ X (104 + r) ((w + 1) * 4 + i) = 4294967295) (hp : ∀ i, i < 90 → X 32 i < 2147483648) : nw_M wd_all yy_Dg_countStandingOn cc_Dg_countStandingOn 6 (some .int) 2 0 0 [.ref (100 + r), .int (nI a), .int (nI w)] X (fun v X' => v = some (.int (nI (zc_std X r a w 4))) ∧ X' = X) := by
  refine nw_of [some (.ref (100 + r)), some (.int (nI a)), some (.int (nI w)), none, none, none] (by decide +kernel) rfl (Nat.le_of_ble_eq_true rfl) rfl ?_
  intro p l e s m args below meth c A g C
  refine cw_iconst (v := nI 0) C dd_Dg_countStandingOn_0 (by decide +kernel) ?_
  refine cw_istore_n C dd_Dg_countStandingOn_1 (Nat.le_of_ble_eq_true rfl) ?_
  refine cw_iconst (v := nI 0) C dd_Dg_countStandingOn_2 (by decide +kernel) ?_
  refine cw_istore C dd_Dg_countStandingOn_3 (Nat.le_of_ble_eq_true rfl) ?_
  refine lp_Dg_countStandingOn X r hr a w ha hw hsl hp C ?_ 4 0 _ (by omega)
  intro z
  refine cw_iload_n C dd_Dg_countStandingOn_58 rfl ?_
  exact cw_ireturn C dd_Dg_countStandingOn_59 (Nat.le_of_ble_eq_true rfl) (Nat.le_of_ble_eq_true rfl) ⟨_, rfl, rfl, ⟨rfl, rfl⟩⟩
set_option maxRecDepth 100000 in
set_option maxHeartbeats 4000000 in
theorem mm_Dg_clear (X : wx_S) (r : Nat) (hr : r < 4) : nw_M wd_all yy_Dg_clear cc_Dg_clear 1 none 2 0 0 [.ref (100 + r)] X (fun v X' => v = none ∧ X' = wx_u (zz_fill (zz_fill X (104 + r) 64 4294967295) (108 + r) 16 0) (100 + r) 3 0) := by
  refine nw_of [some (.ref (100 + r))] (by decide +kernel) rfl (Nat.le_of_ble_eq_true rfl) rfl ?_
  intro p l e s m args below meth c A g C
  refine cw_aload_n C dd_Dg_clear_0 rfl ?_
  refine cw_gets (b := 100) (b' := 104) C hr rfl wc_25 kF_Dg_9 (is_25 hr) (by decide) rfl dd_Dg_clear_1 rfl ?_
  refine cw_iconst (v := nI 4294967295) C dd_Dg_clear_4 (by decide +kernel) ?_
  refine cw_callS (As := [_, _]) C kS_Dg_22 dd_Dg_clear_5 rfl rfl (Nat.le_of_ble_eq_true rfl) ⟨(Nat.le_of_ble_eq_true rfl), (Nat.le_of_ble_eq_true rfl)⟩ ⟨(Nat.le_of_ble_eq_true rfl), (Nat.le_of_ble_eq_true rfl)⟩ (mm_Ar_fill _ (104 + r) 64 4294967295 _ (is_26 hr) (by decide)) (nw_kv ?_)
  refine cw_aload_n C dd_Dg_clear_8 rfl ?_
  refine cw_gets (b := 100) (b' := 108) C hr rfl wc_25 kF_Dg_15 (is_25 hr) (by decide) rfl dd_Dg_clear_9 rfl ?_
  refine cw_iconst (v := nI 0) C dd_Dg_clear_12 (by decide +kernel) ?_
  refine cw_callS (As := [_, _]) C kS_Dg_22 dd_Dg_clear_13 rfl rfl (Nat.le_of_ble_eq_true rfl) ⟨(Nat.le_of_ble_eq_true rfl), (Nat.le_of_ble_eq_true rfl)⟩ ⟨(Nat.le_of_ble_eq_true rfl), (Nat.le_of_ble_eq_true rfl)⟩ (mm_Ar_fill _ (108 + r) 16 0 _ (is_27 hr) (by decide)) (nw_kv ?_)
  refine cw_aload_n C dd_Dg_clear_16 rfl ?_
  refine cw_iconst (v := nI 0) C dd_Dg_clear_17 (by decide +kernel) ?_
  refine nw_puti C wc_25 kF_Dg_47 (is_25 hr) (by decide) rfl rfl rfl rfl dd_Dg_clear_18 ?_
  exact cw_vreturn C dd_Dg_clear_21 (Nat.le_of_ble_eq_true rfl) (Nat.le_of_ble_eq_true rfl) ⟨_, rfl, rfl, ⟨by first | rfl | simp [wx_u], by first | rfl | simp [wx_u]⟩⟩
set_option maxRecDepth 100000 in
set_option maxHeartbeats 4000000 in
theorem mm_Bk_open (X : wx_S) (r : Nat) (hr : r < 4) : nw_M wd_all yy_Bk_open cc_Bk_open 1 none 2 0 0 [.ref (112 + r)] X (fun v X' => v = none ∧ X' = zz_fill X (120 + r) 4 100) := by
  refine nw_of [some (.ref (112 + r))] (by decide +kernel) rfl (Nat.le_of_ble_eq_true rfl) rfl ?_
  intro p l e s m args below meth c A g C
  refine cw_aload_n C dd_Bk_open_0 rfl ?_
  refine cw_gets (b := 112) (b' := 120) C hr rfl wc_28 kF_Bk_15 (is_28 hr) (by decide) rfl dd_Bk_open_1 rfl ?_
  refine cw_bipush (v := nI 100) C dd_Bk_open_4 (by decide +kernel) ?_
  refine cw_callS (As := [_, _]) C kS_Bk_22 dd_Bk_open_6 rfl rfl (Nat.le_of_ble_eq_true rfl) ⟨(Nat.le_of_ble_eq_true rfl), (Nat.le_of_ble_eq_true rfl)⟩ ⟨(Nat.le_of_ble_eq_true rfl), (Nat.le_of_ble_eq_true rfl)⟩ (mm_Ar_fill _ (120 + r) 4 100 _ (is_30 hr) (by decide)) (nw_kv ?_)
  exact cw_vreturn C dd_Bk_open_9 (Nat.le_of_ble_eq_true rfl) (Nat.le_of_ble_eq_true rfl) ⟨_, rfl, rfl, ⟨by first | rfl | simp [wx_u], by first | rfl | simp [wx_u]⟩⟩
set_option maxRecDepth 100000 in
set_option maxHeartbeats 4000000 in
theorem mm_Bk_clear (X : wx_S) (r : Nat) (hr : r < 4) : nw_M wd_all yy_Bk_clear cc_Bk_clear 1 none 2 0 0 [.ref (112 + r)] X (fun v X' => v = none ∧ X' = wx_u (wx_u (zz_fill X (120 + r) 4 0) (112 + r) 2 0) (112 + r) 3 0) := by
  refine nw_of [some (.ref (112 + r))] (by decide +kernel) rfl (Nat.le_of_ble_eq_true rfl) rfl ?_
  intro p l e s m args below meth c A g C
  refine cw_aload_n C dd_Bk_clear_0 rfl ?_
  refine cw_gets (b := 112) (b' := 120) C hr rfl wc_28 kF_Bk_15 (is_28 hr) (by decide) rfl dd_Bk_clear_1 rfl ?_
  refine cw_iconst (v := nI 0) C dd_Bk_clear_4 (by decide +kernel) ?_
  refine cw_callS (As := [_, _]) C kS_Bk_22 dd_Bk_clear_5 rfl rfl (Nat.le_of_ble_eq_true rfl) ⟨(Nat.le_of_ble_eq_true rfl), (Nat.le_of_ble_eq_true rfl)⟩ ⟨(Nat.le_of_ble_eq_true rfl), (Nat.le_of_ble_eq_true rfl)⟩ (mm_Ar_fill _ (120 + r) 4 0 _ (is_30 hr) (by decide)) (nw_kv ?_)
  refine cw_aload_n C dd_Bk_clear_8 rfl ?_
  refine cw_iconst (v := nI 0) C dd_Bk_clear_9 (by decide +kernel) ?_
  refine nw_puti C wc_28 kF_Bk_32 (is_28 hr) (by decide) rfl rfl rfl rfl dd_Bk_clear_10 ?_
  refine cw_aload_n C dd_Bk_clear_13 rfl ?_
  refine cw_lconst (v := lN 0) C dd_Bk_clear_14 (by decide +kernel) ?_
  refine nw_putl C wc_28 kF_Bk_28 (is_28 hr) (by decide) rfl rfl rfl rfl dd_Bk_clear_15 ?_
  exact cw_vreturn C dd_Bk_clear_18 (Nat.le_of_ble_eq_true rfl) (Nat.le_of_ble_eq_true rfl) ⟨_, rfl, rfl, ⟨by first | rfl | simp [wx_u], by first | rfl | simp [wx_u]⟩⟩
end
section
/-! longs, and reads whose value is named -/
theorem wl_tb (n : Nat) : (lN n).toBitVec = BitVec.ofNat 64 n := rfl
theorem wl_inj {a b : Int64} (h : a.toBitVec = b.toBitVec) : a = b := Int64.toBitVec_inj.mp h
theorem wl_c : ∀ k, k < 64 → ((nI k).toInt64 &&& 63) = lN k := by decide +kernel
theorem wl_sm : ∀ k, k < 64 → (BitVec.ofNat 64 k).smod 64 = BitVec.ofNat 64 k := by decide +kernel
theorem wl_shl (n : Nat) {k : Nat} (hk : k < 64) : lN n <<< ((nI k).toInt64 &&& 63) = lN (n * 2 ^ k) := by
  rw [wl_c k hk]
  apply wl_inj
  rw [Int64.toBitVec_shiftLeft, wl_tb, wl_tb, wl_tb, wl_sm k hk]
  apply BitVec.eq_of_toNat_eq
  rw [BitVec.shiftLeft_eq', BitVec.toNat_shiftLeft, BitVec.toNat_ofNat, BitVec.toNat_ofNat, BitVec.toNat_ofNat, Nat.mod_eq_of_lt (show k < 2 ^ 64 by omega), Nat.shiftLeft_eq, Nat.mul_mod, Nat.mod_mod, ← Nat.mul_mod]
theorem wl_and {a b : Nat} (ha : a < 2 ^ 64) (hb : b < 2 ^ 64) : lN a &&& lN b = lN (a &&& b) := by
  apply wl_inj
  rw [Int64.toBitVec_and, wl_tb, wl_tb, wl_tb]
  apply BitVec.eq_of_toNat_eq
  rw [BitVec.toNat_and, BitVec.toNat_ofNat, BitVec.toNat_ofNat, BitVec.toNat_ofNat, Nat.mod_eq_of_lt ha, Nat.mod_eq_of_lt hb, Nat.mod_eq_of_lt (Nat.and_lt_two_pow _ hb)]
theorem wl_or {a b : Nat} (ha : a < 2 ^ 64) (hb : b < 2 ^ 64) : lN a ||| lN b = lN (a ||| b) := by
  apply wl_inj
  rw [Int64.toBitVec_or, wl_tb, wl_tb, wl_tb]
  apply BitVec.eq_of_toNat_eq
  rw [BitVec.toNat_or, BitVec.toNat_ofNat, BitVec.toNat_ofNat, BitVec.toNat_ofNat, Nat.mod_eq_of_lt ha, Nat.mod_eq_of_lt hb, Nat.mod_eq_of_lt (Nat.or_lt_two_pow ha hb)]
theorem wl_shr {a k : Nat} (h : a < 2 ^ 62) (hk : k < 64) : lN a >>> ((nI k).toInt64 &&& 63) = lN (a / 2 ^ k) := by
  have hd : a / 2 ^ k ≤ a := Nat.div_le_self _ _
  rw [wl_c k hk]
  apply Int64.toInt_inj.mp
  have hD : ((lN k).toBitVec.smod 64).toNat = k := by rw [wl_tb, wl_sm k hk, BitVec.toNat_ofNat, Nat.mod_eq_of_lt (by omega)]
  have e : (lN a >>> lN k).toInt = (lN a).toInt >>> k := by
    conv => rhs; rw [← hD]
    exact BitVec.toInt_sshiftRight ..
  rw [e, Int.shiftRight_eq_div_pow, pk_lT (by omega), pk_lT (by omega)]
  rfl
section
variable {p : Program} {l : Launch} {e : Env} {R : Room} {s : State} {m : MethodId} {args : Array Value} {below : List Frame} {meth : Method} {c : Code} {A : Nat → Prop} {ids : List Nat} {g : wd_G} {cells slots : Nat} {G : State → Prop} {cc : ByteArray} {nL pc : Nat} {own : String} {ret : Option FieldType} {ls : List (Option Value)} {st : List Value} {σ : wd_S} {τ : wd_L}
theorem nw_lshr (C : cw_C p s m args meth c A ids g cc nL own ret) {a k0 : Nat} (hd : decode cc pc = .ok (.lshr, 1)) (ha : a < 2 ^ 62) (hk : k0 < 64) (k : cw_W p l e R s m args below meth c A ids g cells slots G nL (pc + 1) ls (.long (lN (a / 2 ^ k0)) :: st) σ τ) : cw_W p l e R s m args below meth c A ids g cells slots G nL pc ls (.int (nI k0) :: .long (lN a) :: st) σ τ := cw_lshr C hd (wl_shr ha hk ▸ k)
theorem nw_lshl (C : cw_C p s m args meth c A ids g cc nL own ret) {a k0 : Nat} (hd : decode cc pc = .ok (.lshl, 1)) (hk : k0 < 64) (k : cw_W p l e R s m args below meth c A ids g cells slots G nL (pc + 1) ls (.long (lN (a * 2 ^ k0)) :: st) σ τ) : cw_W p l e R s m args below meth c A ids g cells slots G nL pc ls (.int (nI k0) :: .long (lN a) :: st) σ τ := cw_lshl C hd (wl_shl a hk ▸ k)
theorem nw_land1 (C : cw_C p s m args meth c A ids g cc nL own ret) {a : Nat} (hd : decode cc pc = .ok (.land, 1)) (ha : a < 2 ^ 62) (k : cw_W p l e R s m args below meth c A ids g cells slots G nL (pc + 1) ls (.long (lN (a % 2)) :: st) σ τ) : cw_W p l e R s m args below meth c A ids g cells slots G nL pc ls (.long (lN 1) :: .long (lN a) :: st) σ τ := cw_land C hd (by rw [wl_and (by omega) (by decide), Nat.and_one_is_mod]; exact k)
theorem nw_lor (C : cw_C p s m args meth c A ids g cc nL own ret) {a b : Nat} (hd : decode cc pc = .ok (.lor, 1)) (ha : a < 2 ^ 62) (hb : b < 2 ^ 62) (k : cw_W p l e R s m args below meth c A ids g cells slots G nL (pc + 1) ls (.long (lN (a ||| b)) :: st) σ τ) : cw_W p l e R s m args below meth c A ids g cells slots G nL pc ls (.long (lN b) :: .long (lN a) :: st) σ τ := cw_lor C hd (wl_or (a := a) (b := b) (by omega) (by omega) ▸ k)
theorem lg_cmp_0 {a b : Nat} (ha : a < 2 ^ 62) (hb : b < 2 ^ 62) : lg_cmp (lN a) (lN b) = 0 ↔ a = b := by
  unfold lg_cmp
  have h1 := pk_lEQ (a := a) (b := b) (by omega) (by omega)
  have h2 := pk_lLT (a := b) (b := a) (by omega) (by omega)
  constructor
  · intro h
    split at h
    · exact absurd h (by decide +kernel)
    · split at h
      · rename_i h3; exact h1.mp h3
      · exact absurd h (by decide +kernel)
  · rintro rfl
    rw [if_neg (fun q => by have := h2.mp q; omega), if_pos rfl]
/-- lcmp and ifne: the two numbers differ, or not -/
theorem nw_lcmp_ne (C : cw_C p s m args meth c A ids g cc nL own ret) {a b : Nat} {off : Int} {tgt : Nat} (hd1 : decode cc pc = .ok (.lcmp, 1)) (hd : decode cc (pc + 1) = .ok (.ifCond .ne off, 3)) (ht : ((pc + 1 : Nat) : Int) + off = (tgt : Int)) (ha : a < 2 ^ 62) (hb : b < 2 ^ 62) (kt : ¬ a = b → cw_W p l e R s m args below meth c A ids g cells slots G nL tgt ls st σ τ) (kf : a = b → cw_W p l e R s m args below meth c A ids g cells slots G nL (pc + 1 + 3) ls st σ τ) : cw_W p l e R s m args below meth c A ids g cells slots G nL pc ls (.long (lN b) :: .long (lN a) :: st) σ τ :=
  cw_lcmp C hd1 (cw_if_ne C hd ht (fun h => kt (fun q => h ((lg_cmp_0 ha hb).mpr q))) (fun h => kf ((lg_cmp_0 ha hb).mp h)))
variable {X : wx_S}
theorem nw_getiv (C : cw_C p s m args meth c A ids g cc nL own ret) {ci N k q idx j : Nat} (n : Nat) {K : String} {T : u_T} {ty0 : Nat → FieldType} {fl : List (Nat × Nat)} (hc : wd_cls ci K T N ty0) (hf : cw_kF own idx T k) (hi : wd_is ids q (4, ci, fl)) (hk : k < N) (hfl : fl[k]? = some (0, j)) (hd : decode cc pc = .ok (.getfield idx, 3)) (hv : X q k = n) (kk : cw_W p l e R s m args below meth c A ids g cells slots G nL (pc + 3) ls (.int (nI n) :: st) (wx_e X) (wx_l X)) : cw_W p l e R s m args below meth c A ids g cells slots G nL pc ls (.ref q :: st) (wx_e X) (wx_l X) := nw_geti C hc hf hi hk hfl hd (hv ▸ kk)
theorem nw_getlv (C : cw_C p s m args meth c A ids g cc nL own ret) {ci N k q idx j : Nat} (n : Nat) {K : String} {T : u_T} {ty0 : Nat → FieldType} {fl : List (Nat × Nat)} (hc : wd_cls ci K T N ty0) (hf : cw_kF own idx T k) (hi : wd_is ids q (4, ci, fl)) (hk : k < N) (hfl : fl[k]? = some (1, j)) (hd : decode cc pc = .ok (.getfield idx, 3)) (hv : X q k = n) (kk : cw_W p l e R s m args below meth c A ids g cells slots G nL (pc + 3) ls (.long (lN n) :: st) (wx_e X) (wx_l X)) : cw_W p l e R s m args below meth c A ids g cells slots G nL pc ls (.ref q :: st) (wx_e X) (wx_l X) := nw_getl C hc hf hi hk hfl hd (hv ▸ kk)
theorem nw_ialdv (C : cw_C p s m args meth c A ids g cc nL own ret) {q n i : Nat} (v : Nat) {fl : List (Nat × Nat)} (hi : wd_is ids q (0, n, fl)) (hin : i < n) (hn : n < 2 ^ 31) (hd : decode cc pc = .ok (.iaload, 1)) (hv : X q i = v) (kk : cw_W p l e R s m args below meth c A ids g cells slots G nL (pc + 1) ls (.int (nI v) :: st) (wx_e X) (wx_l X)) : cw_W p l e R s m args below meth c A ids g cells slots G nL pc ls (.int (nI i) :: .ref q :: st) (wx_e X) (wx_l X) := nw_iald C hi hin hn hd (hv ▸ kk)
theorem nw_zaldv (C : cw_C p s m args meth c A ids g cc nL own ret) {q n i : Nat} (v : Nat) {fl : List (Nat × Nat)} (hi : wd_is ids q (1, n, fl)) (hin : i < n) (hn : n < 2 ^ 31) (hd : decode cc pc = .ok (.baload, 1)) (hv : X q i = v) (kk : cw_W p l e R s m args below meth c A ids g cells slots G nL (pc + 1) ls (.int (nI v) :: st) (wx_e X) (wx_l X)) : cw_W p l e R s m args below meth c A ids g cells slots G nL pc ls (.int (nI i) :: .ref q :: st) (wx_e X) (wx_l X) := nw_zald C hi hin hn hd (hv ▸ kk)
end
end
section
def zc_place (X : wx_S) (r t : Nat) : wx_S :=
  if t = 4294967295 ∨ X (112 + r) 3 / 2 ^ t % 2 = 1 then X
  else if X 16 t ≤ X (120 + r) (X 8 t) then
    wx_u (wx_u (wx_u (wx_u (wx_u X (112 + r) 3 (X (112 + r) 3 ||| 2 ^ t)) (116 + r) (X (112 + r) 2) t) (112 + r) 2 (X (112 + r) 2 + 1)) (120 + r) (X 8 t) (X (120 + r) (X 8 t) - X 16 t)) (120 + r) (X 12 t) (X (120 + r) (X 12 t) + X 16 t)
  else wx_u (wx_u (wx_u X (112 + r) 3 (X (112 + r) 3 ||| 2 ^ t)) (116 + r) (X (112 + r) 2) t) (112 + r) 2 (X (112 + r) 2 + 1)
theorem zn_p40 {t : Nat} (h : t < 40) : 2 ^ t < 2 ^ 40 := Nat.pow_lt_pow_right (by decide) h
set_option maxRecDepth 100000 in
set_option maxHeartbeats 4000000 in
theorem mm_Bk_place (X : wx_S) (r : Nat) (hr : r < 4) (t : Nat) (ht : t < 40 ∨ t = 4294967295) (h3 : X (112 + r) 3 < 2 ^ 40) (hc : t < 40 → X (112 + r) 3 / 2 ^ t % 2 ≠ 1 → X (112 + r) 2 < 40) (hf : t < 40 → X 8 t < 4 ∧ X 12 t < 4 ∧ X 16 t < 2147483648 ∧ X 8 t ≠ X 12 t) (hb : ∀ a, a < 4 → X (120 + r) a < 2147483648) : nw_M wd_all yy_Bk_place cc_Bk_place 3 none 1 0 0 [.ref (112 + r), .int (nI t)] X (fun v X' => v = none ∧ X' = zc_place X r t) := by
  refine nw_of [some (.ref (112 + r)), some (.int (nI t)), none] (by decide +kernel) rfl (Nat.le_of_ble_eq_true rfl) rfl ?_
  intro p l e s m args below meth c A g C
  refine cw_iload_n C dd_Bk_place_0 rfl ?_
  refine cw_iconst (v := nI 4294967295) C dd_Bk_place_1 (by decide +kernel) ?_
  refine nw_icmp_eq (tgt := 18) C dd_Bk_place_2 (by decide) (by first | omega | (simp [wx_u] <;> omega)) (by first | omega | (simp [wx_u] <;> omega)) (fun h2 => ?_) (fun h2 => ?_)
  · exact cw_vreturn C dd_Bk_place_18 (Nat.le_of_ble_eq_true rfl) (Nat.le_of_ble_eq_true rfl) ⟨_, rfl, rfl, ⟨rfl, by first | exact (if_pos (Or.inl h2)).symm | exact (if_pos (Or.inr h14)).symm⟩⟩
  · refine cw_aload_n C dd_Bk_place_5 rfl ?_
    refine nw_getl C wc_28 kF_Bk_28 (is_28 hr) (by decide) rfl dd_Bk_place_6 ?_
    refine cw_iload_n C dd_Bk_place_9 rfl ?_
    have g1 : t < 40 := by omega
    have g2 := hf g1
    have g3 : X (112 + r) 3 / 2 ^ t ≤ X (112 + r) 3 := Nat.div_le_self _ _
    have g4 := zn_p40 g1
    refine nw_lshr C dd_Bk_place_10 (by first | omega | (simp [wx_u] <;> omega)) (by first | omega | (simp [wx_u] <;> omega)) ?_
    refine cw_lconst (v := lN 1) C dd_Bk_place_11 (by decide +kernel) ?_
    refine nw_land1 C dd_Bk_place_12 (by first | omega | (simp [wx_u] <;> omega)) ?_
    refine cw_lconst (v := lN 1) C dd_Bk_place_13 (by decide +kernel) ?_
    refine nw_lcmp_ne (tgt := 19) C dd_Bk_place_14 dd_Bk_place_15 (by decide) (by first | omega | (simp [wx_u] <;> omega)) (by first | omega | (simp [wx_u] <;> omega)) (fun h14 => ?_) (fun h14 => ?_)
    · have g5 := hc g1 h14
      refine cw_aload_n C dd_Bk_place_19 rfl ?_
      refine cw_dup C dd_Bk_place_20 rfl ?_
      refine nw_getl C wc_28 kF_Bk_28 (is_28 hr) (by decide) rfl dd_Bk_place_21 ?_
      refine cw_lconst (v := lN 1) C dd_Bk_place_24 (by decide +kernel) ?_
      refine cw_iload_n C dd_Bk_place_25 rfl ?_
      refine nw_lshl C dd_Bk_place_26 (by first | omega | (simp [wx_u] <;> omega)) ?_
      rw [Nat.one_mul]
      refine nw_lor C dd_Bk_place_27 (by first | omega | (simp [wx_u] <;> omega)) (by first | omega | (simp [wx_u] <;> omega)) ?_
      refine nw_putl C wc_28 kF_Bk_28 (is_28 hr) (by decide) rfl rfl rfl rfl dd_Bk_place_28 ?_
      refine cw_aload_n C dd_Bk_place_31 rfl ?_
      refine cw_gets (b := 112) (b' := 116) C hr rfl wc_28 kF_Bk_9 (is_28 hr) (by decide) rfl dd_Bk_place_32 rfl ?_
      refine cw_aload_n C dd_Bk_place_35 rfl ?_
      refine nw_getiv C (X (112 + r) 2) wc_28 kF_Bk_32 (is_28 hr) (by decide) rfl dd_Bk_place_36 (by repeat (first | rfl | rw [wx_u_eq] | rw [wx_u_nc (by omega)] | rw [wx_u_nk (by omega)])) ?_
      refine cw_iload_n C dd_Bk_place_39 rfl ?_
      refine nw_iast C (is_29 hr) (by first | omega | (simp [wx_u] <;> omega)) (by decide) dd_Bk_place_40 ?_
      refine cw_aload_n C dd_Bk_place_41 rfl ?_
      refine cw_dup C dd_Bk_place_42 rfl ?_
      refine nw_getiv C (X (112 + r) 2) wc_28 kF_Bk_32 (is_28 hr) (by decide) rfl dd_Bk_place_43 (by repeat (first | rfl | rw [wx_u_eq] | rw [wx_u_nc (by omega)] | rw [wx_u_nk (by omega)])) ?_
      refine cw_iconst (v := nI 1) C dd_Bk_place_46 (by decide +kernel) ?_
      refine nw_iadd C dd_Bk_place_47 ?_
      refine nw_puti C wc_28 kF_Bk_32 (is_28 hr) (by decide) rfl rfl rfl rfl dd_Bk_place_48 ?_
      refine cw_aload_n C dd_Bk_place_51 rfl ?_
      refine cw_getr (q' := 4) C wc_28 kF_Bk_18 (is_28 hr) (by decide) rfl dd_Bk_place_52 rfl ?_
      refine cw_getr (q' := 16) C wc_1 kF_Bk_36 is_1 (by decide) rfl dd_Bk_place_55 rfl ?_
      refine cw_iload_n C dd_Bk_place_58 rfl ?_
      refine nw_ialdv C (X 16 t) is_4 (by first | omega | (simp [wx_u] <;> omega)) (by decide) dd_Bk_place_59 (by repeat (first | rfl | rw [wx_u_eq] | rw [wx_u_nc (by omega)] | rw [wx_u_nk (by omega)])) ?_
      refine cw_istore_n C dd_Bk_place_60 (Nat.le_of_ble_eq_true rfl) ?_
      refine cw_aload_n C dd_Bk_place_61 rfl ?_
      refine cw_gets (b := 112) (b' := 120) C hr rfl wc_28 kF_Bk_15 (is_28 hr) (by decide) rfl dd_Bk_place_62 rfl ?_
      refine cw_aload_n C dd_Bk_place_65 rfl ?_
      refine cw_getr (q' := 4) C wc_28 kF_Bk_18 (is_28 hr) (by decide) rfl dd_Bk_place_66 rfl ?_
      refine cw_getr (q' := 8) C wc_1 kF_Bk_41 is_1 (by decide) rfl dd_Bk_place_69 rfl ?_
      refine cw_iload_n C dd_Bk_place_72 rfl ?_
      refine nw_ialdv C (X 8 t) is_2 (by first | omega | (simp [wx_u] <;> omega)) (by decide) dd_Bk_place_73 (by repeat (first | rfl | rw [wx_u_eq] | rw [wx_u_nc (by omega)] | rw [wx_u_nk (by omega)])) ?_
      have g6 := hb (X 8 t) g2.1
      refine nw_ialdv C (X (120 + r) (X 8 t)) (is_30 hr) (by first | omega | (simp [wx_u] <;> omega)) (by decide) dd_Bk_place_74 (by repeat (first | rfl | rw [wx_u_eq] | rw [wx_u_nc (by omega)] | rw [wx_u_nk (by omega)])) ?_
      refine cw_iload_n C dd_Bk_place_75 rfl ?_
      refine nw_icmp_lt (tgt := 115) C dd_Bk_place_76 (by decide) (by first | omega | (simp [wx_u] <;> omega)) (by first | omega | (simp [wx_u] <;> omega)) (fun h76 => ?_) (fun h76 => ?_)
      · exact cw_vreturn C dd_Bk_place_115 (Nat.le_of_ble_eq_true rfl) (Nat.le_of_ble_eq_true rfl) ⟨_, rfl, rfl, ⟨rfl, by rw [zc_place, if_neg (by omega)]; first | rw [if_pos (by omega)] | rw [if_neg (by omega)]⟩⟩
      · refine cw_aload_n C dd_Bk_place_79 rfl ?_
        refine cw_gets (b := 112) (b' := 120) C hr rfl wc_28 kF_Bk_15 (is_28 hr) (by decide) rfl dd_Bk_place_80 rfl ?_
        refine cw_aload_n C dd_Bk_place_83 rfl ?_
        refine cw_getr (q' := 4) C wc_28 kF_Bk_18 (is_28 hr) (by decide) rfl dd_Bk_place_84 rfl ?_
        refine cw_getr (q' := 8) C wc_1 kF_Bk_41 is_1 (by decide) rfl dd_Bk_place_87 rfl ?_
        refine cw_iload_n C dd_Bk_place_90 rfl ?_
        refine nw_ialdv C (X 8 t) is_2 (by first | omega | (simp [wx_u] <;> omega)) (by decide) dd_Bk_place_91 (by repeat (first | rfl | rw [wx_u_eq] | rw [wx_u_nc (by omega)] | rw [wx_u_nk (by omega)])) ?_
        refine cw_dup2 C dd_Bk_place_92 rfl rfl ?_
        refine nw_ialdv C (X (120 + r) (X 8 t)) (is_30 hr) (by first | omega | (simp [wx_u] <;> omega)) (by decide) dd_Bk_place_93 (by repeat (first | rfl | rw [wx_u_eq] | rw [wx_u_nc (by omega)] | rw [wx_u_nk (by omega)])) ?_
        refine cw_iload_n C dd_Bk_place_94 rfl ?_
        refine nw_isub C dd_Bk_place_95 (by first | omega | (simp [wx_u] <;> omega)) ?_
        refine nw_iast C (is_30 hr) (by first | omega | (simp [wx_u] <;> omega)) (by decide) dd_Bk_place_96 ?_
        refine cw_aload_n C dd_Bk_place_97 rfl ?_
        refine cw_gets (b := 112) (b' := 120) C hr rfl wc_28 kF_Bk_15 (is_28 hr) (by decide) rfl dd_Bk_place_98 rfl ?_
        refine cw_aload_n C dd_Bk_place_101 rfl ?_
        refine cw_getr (q' := 4) C wc_28 kF_Bk_18 (is_28 hr) (by decide) rfl dd_Bk_place_102 rfl ?_
        refine cw_getr (q' := 12) C wc_1 kF_Bk_44 is_1 (by decide) rfl dd_Bk_place_105 rfl ?_
        refine cw_iload_n C dd_Bk_place_108 rfl ?_
        refine nw_ialdv C (X 12 t) is_3 (by first | omega | (simp [wx_u] <;> omega)) (by decide) dd_Bk_place_109 (by repeat (first | rfl | rw [wx_u_eq] | rw [wx_u_nc (by omega)] | rw [wx_u_nk (by omega)])) ?_
        refine cw_dup2 C dd_Bk_place_110 rfl rfl ?_
        refine nw_ialdv C (X (120 + r) (X 12 t)) (is_30 hr) (by first | omega | (simp [wx_u] <;> omega)) (by decide) dd_Bk_place_111 (by repeat (first | rfl | rw [wx_u_eq] | rw [wx_u_nc (by omega)] | rw [wx_u_nk (by omega)])) ?_
        refine cw_iload_n C dd_Bk_place_112 rfl ?_
        refine nw_iadd C dd_Bk_place_113 ?_
        refine nw_iast C (is_30 hr) (by first | omega | (simp [wx_u] <;> omega)) (by decide) dd_Bk_place_114 ?_
        exact cw_vreturn C dd_Bk_place_115 (Nat.le_of_ble_eq_true rfl) (Nat.le_of_ble_eq_true rfl) ⟨_, rfl, rfl, ⟨rfl, by rw [zc_place, if_neg (by omega)]; first | rw [if_pos (by omega)] | rw [if_neg (by omega)]⟩⟩
    · exact cw_vreturn C dd_Bk_place_18 (Nat.le_of_ble_eq_true rfl) (Nat.le_of_ble_eq_true rfl) ⟨_, rfl, rfl, ⟨rfl, by first | exact (if_pos (Or.inl h2)).symm | exact (if_pos (Or.inr h14)).symm⟩⟩
end
section
/-! the class: what its cells always keep, as far as its methods need it to run -/
theorem zn_tb (n k : Nat) : n / 2 ^ k % 2 = 1 ↔ n.testBit k = true := by
  rw [Nat.testBit_eq_decide_div_mod_eq]
  simp
theorem zn_tb0 (n k : Nat) : n / 2 ^ k % 2 = if n.testBit k = true then 1 else 0 := by
  split
  · rename_i h; exact (zn_tb n k).mpr h
  · rename_i h
    have h1 : ¬ n / 2 ^ k % 2 = 1 := fun q => h ((zn_tb n k).mp q)
    omega
def zn_pop (n : Nat) : Nat → Nat
  | 0 => 0
  | k + 1 => zn_pop n k + n / 2 ^ k % 2
theorem zn_pop_le (n : Nat) : ∀ k, zn_pop n k ≤ k
  | 0 => Nat.le_refl _
  | k + 1 => by
    have := zn_pop_le n k
    simp only [zn_pop]
    omega
theorem zn_pop_lt {n t : Nat} (h : ¬ n / 2 ^ t % 2 = 1) : ∀ k, t < k → zn_pop n k < k
  | 0, hk => absurd hk (Nat.not_lt_zero _)
  | k + 1, hk => by
    simp only [zn_pop]
    by_cases e : t = k
    · subst e
      have := zn_pop_le n t
      omega
    · have := zn_pop_lt h k (by omega)
      omega
theorem zn_or_bit (n t k : Nat) : (n ||| 2 ^ t) / 2 ^ k % 2 = if k = t then 1 else n / 2 ^ k % 2 := by
  rw [zn_tb0, zn_tb0 n k, Nat.testBit_or, Nat.testBit_two_pow]
  by_cases h : k = t
  · subst h; simp
  · have : ¬ t = k := fun q => h q.symm
    simp [h, this]
theorem zn_pop_or {n t : Nat} (h : ¬ n / 2 ^ t % 2 = 1) : ∀ k, zn_pop (n ||| 2 ^ t) k = zn_pop n k + if t < k then 1 else 0
  | 0 => by simp [zn_pop]
  | k + 1 => by
    simp only [zn_pop]
    rw [zn_pop_or h k, zn_or_bit]
    by_cases e : k = t
    · subst e
      rw [if_neg (Nat.lt_irrefl _), if_pos rfl, if_pos (Nat.lt_succ_self _)]
      omega
    · rw [if_neg e]
      by_cases h1 : t < k
      · rw [if_pos h1, if_pos (by omega)]; omega
      · rw [if_neg h1, if_neg (by omega)]; omega
/-- transfers and vertices -/
def zc_V (X : wx_S) : Prop := X 20 5 ≤ 90 ∧ X 4 3 ≤ 40 ∧ (∀ u, u < X 20 5 → X 24 u < 4 ∧ 1 ≤ X 28 u ∧ X 28 u ≤ 14 ∧ X 32 u < 16 ∧ (X 36 u < X 4 3 ∨ X 36 u = 4294967295) ∧ (X 40 u < X 4 3 ∨ X 40 u = 4294967295)) ∧ ∀ t, t < X 4 3 → X 8 t < 4 ∧ X 12 t < 4 ∧ X 16 t ≤ 1000 ∧ X 8 t ≠ X 12 t
/-- a node's DAG: numbers of vertices, or none -/
def zc_S (X : wx_S) (r : Nat) : Prop := (∀ k, k < 64 → X (104 + r) k < X 20 5 ∨ X (104 + r) k = 4294967295) ∧ ∀ w, w < 16 → X (108 + r) w < 16
/-- a node's book -/
def zc_B (X : wx_S) (r : Nat) : Prop := X (112 + r) 3 < 2 ^ 40 ∧ X (112 + r) 2 = zn_pop (X (112 + r) 3) 40 ∧ X (120 + r) 0 + X (120 + r) 1 + X (120 + r) 2 + X (120 + r) 3 ≤ 400
theorem zc_B_bal {X : wx_S} {r : Nat} (h : zc_B X r) : ∀ a, a < 4 → X (120 + r) a ≤ 400 := by
  intro a ha
  have := h.2.2
  rcases (show a = 0 ∨ a = 1 ∨ a = 2 ∨ a = 3 by omega) with rfl | rfl | rfl | rfl <;> omega
theorem zc_place_oth (X : wx_S) (r t : Nat) {c : Nat} (k : Nat) (h1 : c ≠ 112 + r) (h2 : c ≠ 116 + r) (h3 : c ≠ 120 + r) : zc_place X r t c k = X c k := by
  unfold zc_place
  split
  · rfl
  · split <;> simp only [wx_u, h1, h2, h3, false_and, if_false]
theorem zc_place_V {X : wx_S} {r t : Nat} (h : zc_V X) : zc_V (zc_place X r t) := by
  unfold zc_V at *
  have e : ∀ c k, c < 112 → zc_place X r t c k = X c k := fun c k hc => zc_place_oth X r t k (by omega) (by omega) (by omega)
  simp only [e 20 _ (by omega), e 4 _ (by omega), e 24 _ (by omega), e 28 _ (by omega), e 32 _ (by omega), e 36 _ (by omega), e 40 _ (by omega), e 8 _ (by omega), e 12 _ (by omega), e 16 _ (by omega)]
  exact h
theorem zc_place_S {X : wx_S} {r t : Nat} (h : zc_S X r) : zc_S (zc_place X r t) r := by
  unfold zc_S at *
  have e : ∀ c k, c < 112 → zc_place X r t c k = X c k := fun c k hc => zc_place_oth X r t k (by omega) (by omega) (by omega)
  constructor
  · intro k hk
    rw [zc_place_oth X r t k (by omega) (by omega) (by omega), e 20 _ (by omega)]
    exact h.1 k hk
  · intro w hw
    rw [zc_place_oth X r t w (by omega) (by omega) (by omega)]
    exact h.2 w hw
theorem zc_sum_mv {f : Nat → Nat} {a b m : Nat} (ha : a < 4) (hb : b < 4) (hab : a ≠ b) (hm : m ≤ f a) :
    (if 0 = b then f b + m else if 0 = a then f a - m else f 0) + (if 1 = b then f b + m else if 1 = a then f a - m else f 1) + (if 2 = b then f b + m else if 2 = a then f a - m else f 2) + (if 3 = b then f b + m else if 3 = a then f a - m else f 3) = f 0 + f 1 + f 2 + f 3 := by
  rcases (show a = 0 ∨ a = 1 ∨ a = 2 ∨ a = 3 by omega) with rfl | rfl | rfl | rfl <;> rcases (show b = 0 ∨ b = 1 ∨ b = 2 ∨ b = 3 by omega) with rfl | rfl | rfl | rfl <;> simp at hab ⊢ <;> omega
theorem zc_place_B {X : wx_S} {r t : Nat} (hV : zc_V X) (ht : t < X 4 3 ∨ t = 4294967295) (h : zc_B X r) : zc_B (zc_place X r t) r := by
  unfold zc_place
  split
  · exact h
  · rename_i hn
    have hn1 : t ≠ 4294967295 := fun q => hn (Or.inl q)
    have hn2 : ¬ X (112 + r) 3 / 2 ^ t % 2 = 1 := fun q => hn (Or.inr q)
    have ht' : t < X 4 3 := by omega
    have h40 : t < 40 := Nat.lt_of_lt_of_le ht' hV.2.1
    have hf := hV.2.2.2 t ht'
    have hor : X (112 + r) 3 ||| 2 ^ t < 2 ^ 40 := Nat.or_lt_two_pow h.1 (zn_p40 h40)
    have hpop := zn_pop_or hn2 40
    rw [if_pos h40] at hpop
    split
    · rename_i hle
      refine ⟨?_, ?_, ?_⟩
      · have e : ∀ Z : wx_S, ∀ a b, wx_u Z (120 + r) a b (112 + r) 3 = Z (112 + r) 3 := fun Z a b => wx_u_nc (by omega)
        rw [e, e, wx_u_nk (by decide), wx_u_nc (by omega), wx_u_eq]
        exact hor
      · have e : ∀ Z : wx_S, ∀ a b k, wx_u Z (120 + r) a b (112 + r) k = Z (112 + r) k := fun Z a b k => wx_u_nc (by omega)
        rw [e, e, e, e, wx_u_eq, wx_u_nk (by decide), wx_u_nc (by omega), wx_u_eq, hpop, h.2.1]
      · have e : ∀ k, wx_u (wx_u (wx_u X (112 + r) 3 (X (112 + r) 3 ||| 2 ^ t)) (116 + r) (X (112 + r) 2) t) (112 + r) 2 (X (112 + r) 2 + 1) (120 + r) k = X (120 + r) k := fun k => by
          rw [wx_u_nc (by omega), wx_u_nc (by omega), wx_u_nc (by omega)]
        have key := zc_sum_mv (f := fun k => X (120 + r) k) hf.1 hf.2.1 hf.2.2.2 hle
        generalize wx_u (wx_u (wx_u X (112 + r) 3 (X (112 + r) 3 ||| 2 ^ t)) (116 + r) (X (112 + r) 2) t) (112 + r) 2 (X (112 + r) 2 + 1) = Y at e ⊢
        simp only [wx_u, true_and, e]
        have := h.2.2
        omega
    · refine ⟨?_, ?_, ?_⟩
      · rw [wx_u_nk (by decide), wx_u_nc (by omega), wx_u_eq]
        exact hor
      · rw [wx_u_eq, wx_u_nk (by decide), wx_u_nc (by omega), wx_u_eq, hpop, h.2.1]
      · have e : ∀ k, wx_u (wx_u (wx_u X (112 + r) 3 (X (112 + r) 3 ||| 2 ^ t)) (116 + r) (X (112 + r) 2) t) (112 + r) 2 (X (112 + r) 2 + 1) (120 + r) k = X (120 + r) k := fun k => by
          rw [wx_u_nc (by omega), wx_u_nc (by omega), wx_u_nc (by omega)]
        rw [e, e, e, e]
        exact h.2.2
def zc_ok (X : wx_S) (r : Nat) : Prop := zc_V X ∧ zc_S X r ∧ zc_B X r
theorem mm_Bk_place_ok (X : wx_S) (r : Nat) (hr : r < 4) (t : Nat) (h : zc_ok X r) (ht : t < X 4 3 ∨ t = 4294967295) : nw_M wd_all yy_Bk_place cc_Bk_place 3 none 1 0 0 [.ref (112 + r), .int (nI t)] X (fun v X' => v = none ∧ X' = zc_place X r t) := by
  have h40 := h.1.2.1
  refine mm_Bk_place X r hr t (by omega) h.2.2.1 (fun h1 h2 => ?_) (fun h1 => ?_) (fun a ha => ?_)
  · rw [h.2.2.2.1]; exact zn_pop_lt h2 40 h1
  · rcases ht with ht | ht
    · have := h.1.2.2.2 t ht
      exact ⟨this.1, this.2.1, by omega, this.2.2.2⟩
    · omega
  · have := zc_B_bal h.2.2 a ha
    omega
end
section
theorem zc_par_lt {X : wx_S} {r au w : Nat} (hp : ∀ k, k < 4 → X (104 + r) (w * 4 + k) = 4294967295 ∨ X 32 (X (104 + r) (w * 4 + k)) < 16) : ∀ i, i ≤ 4 → zc_par X r au w i < 16
  | 0, _ => by simp [zc_par]
  | i + 1, hi => by
    have ih := zc_par_lt (au := au) hp i (by omega)
    simp only [zc_par]
    split
    · rename_i h
      rcases hp i (by omega) with h1 | h1
      · exact absurd h1 h.1
      · exact zn_or16 ih h1
    · exact ih
theorem zc_ok_sl {X : wx_S} {r : Nat} (h : zc_ok X r) {w : Nat} (hw : w ≤ 15) : ∀ i, i < 4 → X (104 + r) (w * 4 + i) < 90 ∨ X (104 + r) (w * 4 + i) = 4294967295 := fun i hi => by
  have := h.2.1.1 (w * 4 + i) (by omega)
  have := h.1.1
  omega
theorem zc_ok_par {X : wx_S} {r : Nat} (h : zc_ok X r) {w : Nat} (hw : w ≤ 15) (au : Nat) : zc_par X r au w 4 < 16 := zc_par_lt (fun k hk => by
  rcases h.2.1.1 (w * 4 + k) (by omega) with h1 | h1
  · exact Or.inr (h.1.2.2.1 _ h1).2.2.2.1
  · exact Or.inl h1) 4 (Nat.le_refl _)
/-- a vertex of the DAG is put in order -/
def zc_emA (Z : wx_S) (r w au a : Nat) : wx_S :=
  if Z (104 + r) (w * 4 + a) ≠ 4294967295 ∧ au / 2 ^ a % 2 = 1 then zc_place (zc_place Z r (Z 36 (Z (104 + r) (w * 4 + a)))) r (Z 40 (Z (104 + r) (w * 4 + a))) else Z
def zc_emF (X : wx_S) (r w au : Nat) : Nat → wx_S
  | 0 => X
  | i + 1 => zc_emA (zc_emF X r w au i) r w au i
theorem zc_place_ok {X : wx_S} {r t : Nat} (h : zc_ok X r) (ht : t < X 4 3 ∨ t = 4294967295) : zc_ok (zc_place X r t) r := ⟨zc_place_V h.1, zc_place_S h.2.1, zc_place_B h.1 ht h.2.2⟩
theorem zc_emA_ok {Z : wx_S} {r w au a : Nat} (h : zc_ok Z r) (ha : w * 4 + a < 64) : zc_ok (zc_emA Z r w au a) r := by
  unfold zc_emA
  split
  · rename_i hc
    rcases h.2.1.1 _ ha with h1 | h1
    · have h2 := h.1.2.2.1 _ h1
      refine zc_place_ok (zc_place_ok h h2.2.2.2.2.1) ?_
      rw [zc_place_oth _ _ _ _ (by omega) (by omega) (by omega)]
      exact h2.2.2.2.2.2
    · exact absurd h1 hc.1
  · exact h
theorem zc_emF_ok {X : wx_S} {r w au : Nat} (h : zc_ok X r) (hw : w ≤ 15) : ∀ i, i ≤ 4 → zc_ok (zc_emF X r w au i) r
  | 0, _ => h
  | i + 1, hi => zc_emA_ok (zc_emF_ok h hw i (by omega)) (by omega)
theorem zc_emA_oth (Z : wx_S) (r w au a : Nat) {c : Nat} (k : Nat) (h1 : c ≠ 112 + r) (h2 : c ≠ 116 + r) (h3 : c ≠ 120 + r) : zc_emA Z r w au a c k = Z c k := by
  unfold zc_emA
  split
  · rw [zc_place_oth _ _ _ _ h1 h2 h3, zc_place_oth _ _ _ _ h1 h2 h3]
  · rfl
theorem zc_emF_oth (X : wx_S) (r w au : Nat) {c : Nat} (k : Nat) (h1 : c ≠ 112 + r) (h2 : c ≠ 116 + r) (h3 : c ≠ 120 + r) : ∀ i, zc_emF X r w au i c k = X c k
  | 0 => rfl
  | i + 1 => by rw [zc_emF, zc_emA_oth _ _ _ _ _ _ h1 h2 h3, zc_emF_oth X r w au k h1 h2 h3 i]
set_option maxRecDepth 100000 in
set_option maxHeartbeats 4000000 in
theorem lp_Co_emitRound {p : Program} {l : Launch} {e : Env} {s : State} {m : MethodId} {args : Array Value} {below : List Frame} {meth : Method} {c : Code} {A : Nat → Prop} {g : wd_G} {G : State → Prop} (X : wx_S) (r : Nat) (hr : r < 4) (w au : Nat) (hw : w ≤ 15) (hau : au < 2147483648) (hok : zc_ok X r) (C : cw_C p s m args meth c A wd_all g cc_Co_emitRound 5 "DagLedger$Commits" none)  (hend : ∀ z : Option Value, cw_W p l e (cw_rm 3 0 0) s m args below meth c A wd_all g 0 0 G 5 72 [some (.ref (124 + r)), some (.int (nI w)), some (.int (nI au)), some (.int (nI (4))), z] [] (wx_e (zc_emF X r w au (4))) (wx_l (zc_emF X r w au (4)))) : ∀ (j i : Nat) (z : Option Value), i + j = 4 → cw_W p l e (cw_rm 3 0 0) s m args below meth c A wd_all g 0 0 G 5 2 [some (.ref (124 + r)), some (.int (nI w)), some (.int (nI au)), some (.int (nI (i))), z] [] (wx_e (zc_emF X r w au (i))) (wx_l (zc_emF X r w au (i))) := by
  intro j
  induction j with
  | zero =>
    intro i z hij
    refine cw_iload_n C dd_Co_emitRound_2 rfl ?_
    refine cw_iconst (v := nI 4) C dd_Co_emitRound_3 (by decide +kernel) ?_
    refine nw_icmp_ge (tgt := 72) C dd_Co_emitRound_4 (by decide) (by first | omega | (simp [wx_u] <;> omega)) (by first | omega | (simp [wx_u] <;> omega)) (fun h4 => ?_) (fun h4 => ?_)
    · have hi : i = 4 := by omega
      rw [hi]
      exact hend z
    · exact absurd h4 (by omega)
  | succ j ih =>
    intro i z hij
    have hk := zc_emF_ok (w := w) (au := au) hok hw i (by omega)
    generalize hZ : (zc_emF X r w au i) = Z at hk
    have g1 := hk.2.1.1 (w * 4 + i) (by omega)
    have g2 := hk.1.1
    refine cw_iload_n C dd_Co_emitRound_2 rfl ?_
    refine cw_iconst (v := nI 4) C dd_Co_emitRound_3 (by decide +kernel) ?_
    refine nw_icmp_ge (tgt := 72) C dd_Co_emitRound_4 (by decide) (by first | omega | (simp [wx_u] <;> omega)) (by first | omega | (simp [wx_u] <;> omega)) (fun h4 => ?_) (fun h4 => ?_)
    · exact absurd h4 (by omega)
    · refine cw_aload_n C dd_Co_emitRound_7 rfl ?_
      refine cw_gets (b := 124) (b' := 100) C hr rfl wc_31 kF_Co_22 (is_31 hr) (by decide) rfl dd_Co_emitRound_8 rfl ?_
      refine cw_iload_n C dd_Co_emitRound_11 rfl ?_
      refine cw_iload_n C dd_Co_emitRound_12 rfl ?_
      refine cw_callV (As := [_, _]) C kV_Co_68 wc_25 (is_25 hr) dd_Co_emitRound_13 rfl rfl (Nat.le_of_ble_eq_true rfl) ⟨(Nat.le_of_ble_eq_true rfl), (Nat.le_of_ble_eq_true rfl)⟩ ⟨(Nat.le_of_ble_eq_true rfl), (Nat.le_of_ble_eq_true rfl)⟩ (mm_Dg_find Z r hr i w (by omega)) (nw_ki ?_)
      refine cw_istore C dd_Co_emitRound_16 (Nat.le_of_ble_eq_true rfl) ?_
      refine cw_iload C dd_Co_emitRound_18 rfl ?_
      refine cw_iconst (v := nI 4294967295) C dd_Co_emitRound_20 (by decide +kernel) ?_
      refine nw_icmp_eq (tgt := 66) C dd_Co_emitRound_21 (by decide) (by first | omega | (simp [wx_u] <;> omega)) (by first | omega | (simp [wx_u] <;> omega)) (fun h21 => ?_) (fun h21 => ?_)
      · refine nw_iinc (b := 1) C dd_Co_emitRound_66 (by decide +kernel) rfl (Nat.le_of_ble_eq_true rfl) ?_
        refine cw_goto (tgt := 2) C dd_Co_emitRound_69 (by decide) ?_
        have e9 : zc_emF X r w au (i + 1) = Z := by
          rw [zc_emF, hZ, zc_emA]
          exact if_neg (fun q => q.1 h21)
        exact nw_eqX e9.symm (ih (i + 1) _ (by omega))
      · have g3 : Z (104 + r) (w * 4 + i) < Z 20 5 := by omega
        have g4 := hk.1.2.2.1 _ g3
        refine cw_iload_n C dd_Co_emitRound_24 rfl ?_
        refine cw_iload_n C dd_Co_emitRound_25 rfl ?_
        refine cw_callSN (As := [_, _]) C kS_Co_42 dd_Co_emitRound_26 rfl rfl (Nat.le_of_ble_eq_true rfl) ⟨(Nat.le_of_ble_eq_true rfl), (Nat.le_of_ble_eq_true rfl)⟩ ⟨(Nat.le_of_ble_eq_true rfl), (Nat.le_of_ble_eq_true rfl)⟩ (mm_Le_contains Z au i hau (by omega)) (nw_ki ?_)
        refine nw_zeq (tgt := 66) C dd_Co_emitRound_29 (by decide) (fun h29 => ?_) (fun h29 => ?_)
        · refine nw_iinc (b := 1) C dd_Co_emitRound_66 (by decide +kernel) rfl (Nat.le_of_ble_eq_true rfl) ?_
          refine cw_goto (tgt := 2) C dd_Co_emitRound_69 (by decide) ?_
          have e9 : zc_emF X r w au (i + 1) = Z := by
            rw [zc_emF, hZ, zc_emA]
            exact if_neg (fun q => h29 q.2)
          exact nw_eqX e9.symm (ih (i + 1) _ (by omega))
        · refine cw_aload_n C dd_Co_emitRound_32 rfl ?_
          refine cw_gets (b := 124) (b' := 112) C hr rfl wc_31 kF_Co_26 (is_31 hr) (by decide) rfl dd_Co_emitRound_33 rfl ?_
          refine cw_aload_n C dd_Co_emitRound_36 rfl ?_
          refine cw_getr (q' := 20) C wc_31 kF_Co_18 (is_31 hr) (by decide) rfl dd_Co_emitRound_37 rfl ?_
          refine cw_getr (q' := 36) C wc_5 kF_Co_71 is_5 (by decide) rfl dd_Co_emitRound_40 rfl ?_
          refine cw_iload C dd_Co_emitRound_43 rfl ?_
          refine nw_iald C is_9 (by first | omega | (simp [wx_u] <;> omega)) (by decide) dd_Co_emitRound_45 ?_
          refine cw_callV (As := [_]) C kV_Co_76 wc_28 (is_28 hr) dd_Co_emitRound_46 rfl rfl (Nat.le_of_ble_eq_true rfl) ⟨(Nat.le_of_ble_eq_true rfl), (Nat.le_of_ble_eq_true rfl)⟩ ⟨(Nat.le_of_ble_eq_true rfl), (Nat.le_of_ble_eq_true rfl)⟩ (mm_Bk_place_ok Z r hr _ hk g4.2.2.2.2.1) (nw_kv ?_)
          refine cw_aload_n C dd_Co_emitRound_49 rfl ?_
          refine cw_gets (b := 124) (b' := 112) C hr rfl wc_31 kF_Co_26 (is_31 hr) (by decide) rfl dd_Co_emitRound_50 rfl ?_
          refine cw_aload_n C dd_Co_emitRound_53 rfl ?_
          refine cw_getr (q' := 20) C wc_31 kF_Co_18 (is_31 hr) (by decide) rfl dd_Co_emitRound_54 rfl ?_
          refine cw_getr (q' := 40) C wc_5 kF_Co_82 is_5 (by decide) rfl dd_Co_emitRound_57 rfl ?_
          refine cw_iload C dd_Co_emitRound_60 rfl ?_
          refine nw_ialdv C (Z 40 (Z (104 + r) (w * 4 + i))) is_10 (by omega) (by decide) dd_Co_emitRound_62 (zc_place_oth _ _ _ _ (by omega) (by omega) (by omega)) ?_
          refine cw_callV (As := [_]) C kV_Co_76 wc_28 (is_28 hr) dd_Co_emitRound_63 rfl rfl (Nat.le_of_ble_eq_true rfl) ⟨(Nat.le_of_ble_eq_true rfl), (Nat.le_of_ble_eq_true rfl)⟩ ⟨(Nat.le_of_ble_eq_true rfl), (Nat.le_of_ble_eq_true rfl)⟩ (mm_Bk_place_ok _ r hr _ (zc_place_ok hk g4.2.2.2.2.1) (by rw [zc_place_oth _ _ _ _ (by omega) (by omega) (by omega)]; exact g4.2.2.2.2.2)) (nw_kv ?_)
          refine nw_iinc (b := 1) C dd_Co_emitRound_66 (by decide +kernel) rfl (Nat.le_of_ble_eq_true rfl) ?_
          refine cw_goto (tgt := 2) C dd_Co_emitRound_69 (by decide) ?_
          have e9 : zc_emF X r w au (i + 1) = zc_place (zc_place Z r (Z 36 (Z (104 + r) (w * 4 + i)))) r (Z 40 (Z (104 + r) (w * 4 + i))) := by
            rw [zc_emF, hZ, zc_emA]
            exact if_pos ⟨h21, h29⟩
          exact nw_eqX e9.symm (ih (i + 1) _ (by omega))
set_option maxRecDepth 100000 in
set_option maxHeartbeats 4000000 in
theorem mm_Co_emitRound (X : wx_S) (r : Nat) (hr : r < 4) (w au : Nat) (hw : w ≤ 15) (hau : au < 2147483648) (hok : zc_ok X r) : nw_M wd_all yy_Co_emitRound cc_Co_emitRound 5 none 3 0 0 [.ref (124 + r), .int (nI w), .int (nI au)] X (fun v X' => v = none ∧ X' = zc_emF X r w au 4) := by
  refine nw_of [some (.ref (124 + r)), some (.int (nI w)), some (.int (nI au)), none, none] (by decide +kernel) rfl (Nat.le_of_ble_eq_true rfl) rfl ?_
  intro p l e s m args below meth c A g C
  refine cw_iconst (v := nI 0) C dd_Co_emitRound_0 (by decide +kernel) ?_
  refine cw_istore_n C dd_Co_emitRound_1 (Nat.le_of_ble_eq_true rfl) ?_
  refine lp_Co_emitRound X r hr w au hw hau hok C ?_ 4 0 _ (by omega)
  intro z
  exact cw_vreturn C dd_Co_emitRound_72 (Nat.le_of_ble_eq_true rfl) (Nat.le_of_ble_eq_true rfl) ⟨_, rfl, rfl, ⟨rfl, rfl⟩⟩
/-- cells that the emission's scratch does not touch -/
def zc_dn (X : wx_S) (r w a : Nat) : Nat → wx_S
  | 0 => wx_u X (132 + r) w (2 ^ a)
  | j + 1 => wx_u (zc_dn X r w a j) (132 + r) (w - 1 - j) (zc_par (zc_dn X r w a j) r (zc_dn X r w a j (132 + r) (w - j)) (w - j) 4)
theorem zc_dn_oth (X : wx_S) (r w a : Nat) {c : Nat} (k : Nat) (h : c ≠ 132 + r) : ∀ j, zc_dn X r w a j c k = X c k
  | 0 => wx_u_nc h
  | j + 1 => by rw [zc_dn, wx_u_nc h, zc_dn_oth X r w a k h j]
theorem zc_ok_same {X Y : wx_S} {r : Nat} (h : zc_ok X r) (e : ∀ c k, c ≠ 132 + r → c ≠ 128 + r → Y c k = X c k) (hr : r < 4) : zc_ok Y r := by
  have e1 : ∀ c k, c < 128 → Y c k = X c k := fun c k hc => e c k (by omega) (by omega)
  obtain ⟨hV, hS, hB⟩ := h
  refine ⟨?_, ?_, ?_⟩
  · unfold zc_V at *
    simp only [e1 20 _ (by omega), e1 4 _ (by omega), e1 24 _ (by omega), e1 28 _ (by omega), e1 32 _ (by omega), e1 36 _ (by omega), e1 40 _ (by omega), e1 8 _ (by omega), e1 12 _ (by omega), e1 16 _ (by omega)]
    exact hV
  · refine ⟨fun k hk => ?_, fun w hw => ?_⟩
    · rw [e1 _ _ (by omega), e1 _ _ (by omega)]; exact hS.1 k hk
    · rw [e1 _ _ (by omega)]; exact hS.2 w hw
  · unfold zc_B at *
    simp only [e1 (112 + r) _ (by omega), e1 (120 + r) _ (by omega)]
    exact hB
theorem zc_dn_ok {X : wx_S} {r w a : Nat} (hr : r < 4) (h : zc_ok X r) (j : Nat) : zc_ok (zc_dn X r w a j) r := zc_ok_same h (fun c k h1 _ => zc_dn_oth X r w a k h1 j) hr
theorem zc_dn_lt {X : wx_S} {r w a : Nat} (hr : r < 4) (h : zc_ok X r) (ha : a < 4) (hw : w ≤ 14) : ∀ j, j < w → zc_dn X r w a j (132 + r) (w - j) < 16
  | 0, _ => by rw [zc_dn, Nat.sub_zero, wx_u_eq]; exact zn_pow4 ha
  | j + 1, hj => by
    rw [zc_dn, show w - (j + 1) = w - 1 - j by omega, wx_u_eq]
    exact zc_ok_par (zc_dn_ok hr h j) (by omega) _
set_option maxRecDepth 100000 in
set_option maxHeartbeats 4000000 in
theorem lp_Co_emit1 {p : Program} {l : Launch} {e : Env} {s : State} {m : MethodId} {args : Array Value} {below : List Frame} {meth : Method} {c : Code} {A : Nat → Prop} {g : wd_G} {G : State → Prop} (X : wx_S) (r : Nat) (hr : r < 4) (a w : Nat) (ha : a < 4) (hw1 : 1 ≤ w) (hw : w ≤ 14) (hok : zc_ok X r) (C : cw_C p s m args meth c A wd_all g cc_Co_emit 4 "DagLedger$Commits" none)  (hend : cw_W p l e (cw_rm 4 0 0) s m args below meth c A wd_all g 0 0 G 4 48 [some (.ref (124 + r)), some (.int (nI a)), some (.int (nI w)), some (.int (nI (w - 1 - ((w - 1)))))] [] (wx_e (zc_dn X r w a ((w - 1)))) (wx_l (zc_dn X r w a ((w - 1))))) : ∀ (j i : Nat), i + j = (w - 1) → cw_W p l e (cw_rm 4 0 0) s m args below meth c A wd_all g 0 0 G 4 13 [some (.ref (124 + r)), some (.int (nI a)), some (.int (nI w)), some (.int (nI (w - 1 - (i))))] [] (wx_e (zc_dn X r w a (i))) (wx_l (zc_dn X r w a (i))) := by
  intro j
  induction j with
  | zero =>
    intro i hij
    refine cw_iload_n C dd_Co_emit_13 rfl ?_
    refine cw_iconst (v := nI 1) C dd_Co_emit_14 (by decide +kernel) ?_
    refine nw_icmp_lt (tgt := 48) C dd_Co_emit_15 (by decide) (by first | omega | (simp [wx_u] <;> omega)) (by first | omega | (simp [wx_u] <;> omega)) (fun h15 => ?_) (fun h15 => ?_)
    · have hi : i = (w - 1) := by omega
      rw [hi]
      exact hend
    · exact absurd h15 (by omega)
  | succ j ih =>
    intro i hij
    have hk := zc_dn_ok (w := w) (a := a) hr hok i
    have hl := zc_dn_lt hr hok ha hw i (by omega)
    have e1 : w - 1 - i + 1 = w - i := by omega
    refine cw_iload_n C dd_Co_emit_13 rfl ?_
    refine cw_iconst (v := nI 1) C dd_Co_emit_14 (by decide +kernel) ?_
    refine nw_icmp_lt (tgt := 48) C dd_Co_emit_15 (by decide) (by first | omega | (simp [wx_u] <;> omega)) (by first | omega | (simp [wx_u] <;> omega)) (fun h15 => ?_) (fun h15 => ?_)
    · exact absurd h15 (by omega)
    · refine cw_aload_n C dd_Co_emit_18 rfl ?_
      refine cw_gets (b := 124) (b' := 132) C hr rfl wc_31 kF_Co_15 (is_31 hr) (by decide) rfl dd_Co_emit_19 rfl ?_
      refine cw_iload_n C dd_Co_emit_22 rfl ?_
      refine cw_aload_n C dd_Co_emit_23 rfl ?_
      refine cw_gets (b := 124) (b' := 100) C hr rfl wc_31 kF_Co_22 (is_31 hr) (by decide) rfl dd_Co_emit_24 rfl ?_
      refine cw_aload_n C dd_Co_emit_27 rfl ?_
      refine cw_gets (b := 124) (b' := 132) C hr rfl wc_31 kF_Co_15 (is_31 hr) (by decide) rfl dd_Co_emit_28 rfl ?_
      refine cw_iload_n C dd_Co_emit_31 rfl ?_
      refine cw_iconst (v := nI 1) C dd_Co_emit_32 (by decide +kernel) ?_
      refine nw_iadd C dd_Co_emit_33 ?_
      rw [e1]
      refine nw_iald C (is_33 hr) (by omega) (by decide) dd_Co_emit_34 ?_
      refine cw_iload_n C dd_Co_emit_35 rfl ?_
      refine cw_iconst (v := nI 1) C dd_Co_emit_36 (by decide +kernel) ?_
      refine nw_iadd C dd_Co_emit_37 ?_
      rw [e1]
      refine cw_callV (As := [_, _]) C kV_Co_62 wc_25 (is_25 hr) dd_Co_emit_38 rfl rfl (Nat.le_of_ble_eq_true rfl) ⟨(Nat.le_of_ble_eq_true rfl), (Nat.le_of_ble_eq_true rfl)⟩ ⟨(Nat.le_of_ble_eq_true rfl), (Nat.le_of_ble_eq_true rfl)⟩ (mm_Dg_parentsOf (zc_dn X r w a i) r hr (zc_dn X r w a i (132 + r) (w - i)) (w - i) (by omega) (by omega) (zc_ok_sl hk (by omega))) (nw_ki ?_)
      refine nw_iast C (is_33 hr) (by first | omega | (simp [wx_u] <;> omega)) (by decide) dd_Co_emit_41 ?_
      refine nw_iincm (b := 1) C dd_Co_emit_42 (by decide +kernel) rfl (by omega) (Nat.le_of_ble_eq_true rfl) ?_
      refine cw_goto (tgt := 13) C dd_Co_emit_45 (by decide) ?_
      have e2 : w - 1 - i - 1 = w - 1 - (i + 1) := by omega
      rw [e2]
      exact ih (i + 1) (by omega)
theorem zc_dn_all {X : wx_S} {r w a : Nat} (hr : r < 4) (h : zc_ok X r) (ha : a < 4) (hw : w ≤ 14) : ∀ j, j < w → ∀ k, w - j ≤ k → k ≤ w → zc_dn X r w a j (132 + r) k < 16
  | 0, _, k, h1, h2 => by
    obtain rfl : k = w := by omega
    rw [zc_dn, wx_u_eq]; exact zn_pow4 ha
  | j + 1, hj, k, h1, h2 => by
    by_cases hk : k = w - 1 - j
    · rw [zc_dn, hk, wx_u_eq]
      exact zc_ok_par (zc_dn_ok hr h j) (by omega) _
    · rw [zc_dn, wx_u_nk hk]
      exact zc_dn_all hr h ha hw j (by omega) k (by omega) h2
def zc_e2 (Y : wx_S) (r : Nat) : Nat → wx_S
  | 0 => Y
  | i + 1 => wx_u (zc_emF (zc_e2 Y r i) r (i + 1) (zc_e2 Y r i (132 + r) (i + 1) &&& (zc_e2 Y r i (128 + r) (i + 1) ^^^ 4294967295)) 4) (128 + r) (i + 1) (zc_e2 Y r i (128 + r) (i + 1) ||| zc_e2 Y r i (132 + r) (i + 1))
theorem zc_e2_rch (Y : wx_S) (r k : Nat) : ∀ i, zc_e2 Y r i (132 + r) k = Y (132 + r) k
  | 0 => rfl
  | i + 1 => by rw [zc_e2, wx_u_nc (by omega), zc_emF_oth _ _ _ _ _ (by omega) (by omega) (by omega), zc_e2_rch Y r k i]
theorem zc_e2_ok {Y : wx_S} {r : Nat} (hr : r < 4) (h : zc_ok Y r) : ∀ i, i ≤ 15 → zc_ok (zc_e2 Y r i) r
  | 0, _ => h
  | i + 1, hi => zc_ok_same (zc_emF_ok (w := i + 1) (zc_e2_ok hr h i (by omega)) (by omega) 4 (Nat.le_refl _)) (fun c k _ h2 => wx_u_nc h2) hr
def zc_emit (X : wx_S) (r a w : Nat) : wx_S := zc_e2 (zc_dn X r w a (w - 1)) r w
set_option maxRecDepth 100000 in
set_option maxHeartbeats 4000000 in
theorem lp_Co_emit2 {p : Program} {l : Launch} {e : Env} {s : State} {m : MethodId} {args : Array Value} {below : List Frame} {meth : Method} {c : Code} {A : Nat → Prop} {g : wd_G} {G : State → Prop} (Y : wx_S) (r : Nat) (hr : r < 4) (a w : Nat) (hw : w ≤ 14) (hY : zc_ok Y r) (hy : ∀ k, 1 ≤ k → k ≤ w → Y (132 + r) k < 16) (C : cw_C p s m args meth c A wd_all g cc_Co_emit 4 "DagLedger$Commits" none)  (hend : cw_W p l e (cw_rm 4 0 0) s m args below meth c A wd_all g 0 0 G 4 96 [some (.ref (124 + r)), some (.int (nI a)), some (.int (nI w)), some (.int (nI (w + 1)))] [] (wx_e (zc_e2 Y r (w))) (wx_l (zc_e2 Y r (w)))) : ∀ (j i : Nat), i + j = w → cw_W p l e (cw_rm 4 0 0) s m args below meth c A wd_all g 0 0 G 4 50 [some (.ref (124 + r)), some (.int (nI a)), some (.int (nI w)), some (.int (nI (i + 1)))] [] (wx_e (zc_e2 Y r (i))) (wx_l (zc_e2 Y r (i))) := by
  intro j
  induction j with
  | zero =>
    intro i hij
    refine cw_iload_n C dd_Co_emit_50 rfl ?_
    refine cw_iload_n C dd_Co_emit_51 rfl ?_
    refine nw_icmp_gt (tgt := 96) C dd_Co_emit_52 (by decide) (by first | omega | (simp [wx_u] <;> omega)) (by first | omega | (simp [wx_u] <;> omega)) (fun h52 => ?_) (fun h52 => ?_)
    · have hi : i = w := by omega
      rw [hi]
      exact hend
    · exact absurd h52 (by omega)
  | succ j ih =>
    intro i hij
    have hk := zc_e2_ok hr hY i (by omega)
    have g1 : zc_e2 Y r i (132 + r) (i + 1) < 16 := by rw [zc_e2_rch]; exact hy _ (by omega) (by omega)
    refine cw_iload_n C dd_Co_emit_50 rfl ?_
    refine cw_iload_n C dd_Co_emit_51 rfl ?_
    refine nw_icmp_gt (tgt := 96) C dd_Co_emit_52 (by decide) (by first | omega | (simp [wx_u] <;> omega)) (by first | omega | (simp [wx_u] <;> omega)) (fun h52 => ?_) (fun h52 => ?_)
    · exact absurd h52 (by omega)
    · refine cw_aload_n C dd_Co_emit_55 rfl ?_
      refine cw_iload_n C dd_Co_emit_56 rfl ?_
      refine cw_aload_n C dd_Co_emit_57 rfl ?_
      refine cw_gets (b := 124) (b' := 132) C hr rfl wc_31 kF_Co_15 (is_31 hr) (by decide) rfl dd_Co_emit_58 rfl ?_
      refine cw_iload_n C dd_Co_emit_61 rfl ?_
      refine nw_iald C (is_33 hr) (by first | omega | (simp [wx_u] <;> omega)) (by decide) dd_Co_emit_62 ?_
      refine cw_aload_n C dd_Co_emit_63 rfl ?_
      refine cw_gets (b := 124) (b' := 128) C hr rfl wc_31 kF_Co_9 (is_31 hr) (by decide) rfl dd_Co_emit_64 rfl ?_
      refine cw_iload_n C dd_Co_emit_67 rfl ?_
      refine nw_iald C (is_32 hr) (by first | omega | (simp [wx_u] <;> omega)) (by decide) dd_Co_emit_68 ?_
      refine cw_iconst (v := nI 4294967295) C dd_Co_emit_69 (by decide +kernel) ?_
      refine nw_ixor C dd_Co_emit_70 ?_
      refine nw_iand C dd_Co_emit_71 ?_
      refine cw_callV (As := [_, _]) C kV_Co_65 wc_31 (is_31 hr) dd_Co_emit_72 rfl rfl (Nat.le_of_ble_eq_true rfl) ⟨(Nat.le_of_ble_eq_true rfl), (Nat.le_of_ble_eq_true rfl)⟩ ⟨(Nat.le_of_ble_eq_true rfl), (Nat.le_of_ble_eq_true rfl)⟩ (mm_Co_emitRound (zc_e2 Y r i) r hr (i + 1) _ (by omega) (Nat.lt_trans (zn_and_lt g1) (by decide)) hk) (nw_kv ?_)
      refine cw_aload_n C dd_Co_emit_75 rfl ?_
      refine cw_gets (b := 124) (b' := 128) C hr rfl wc_31 kF_Co_9 (is_31 hr) (by decide) rfl dd_Co_emit_76 rfl ?_
      refine cw_iload_n C dd_Co_emit_79 rfl ?_
      refine cw_dup2 C dd_Co_emit_80 rfl rfl ?_
      refine nw_ialdv C (zc_e2 Y r i (128 + r) (i + 1)) (is_32 hr) (by omega) (by decide) dd_Co_emit_81 (zc_emF_oth _ _ _ _ _ (by omega) (by omega) (by omega) _) ?_
      refine cw_aload_n C dd_Co_emit_82 rfl ?_
      refine cw_gets (b := 124) (b' := 132) C hr rfl wc_31 kF_Co_15 (is_31 hr) (by decide) rfl dd_Co_emit_83 rfl ?_
      refine cw_iload_n C dd_Co_emit_86 rfl ?_
      refine nw_ialdv C (zc_e2 Y r i (132 + r) (i + 1)) (is_33 hr) (by omega) (by decide) dd_Co_emit_87 (zc_emF_oth _ _ _ _ _ (by omega) (by omega) (by omega) _) ?_
      refine nw_ior C dd_Co_emit_88 ?_
      refine nw_iast C (is_32 hr) (by first | omega | (simp [wx_u] <;> omega)) (by decide) dd_Co_emit_89 ?_
      refine nw_iinc (b := 1) C dd_Co_emit_90 (by decide +kernel) rfl (Nat.le_of_ble_eq_true rfl) ?_
      refine cw_goto (tgt := 50) C dd_Co_emit_93 (by decide) ?_
      exact ih (i + 1) (by omega)
set_option maxRecDepth 100000 in
set_option maxHeartbeats 4000000 in
theorem mm_Co_emit (X : wx_S) (r : Nat) (hr : r < 4) (a w : Nat) (ha : a < 4) (hw1 : 1 ≤ w) (hw : w ≤ 14) (hok : zc_ok X r) : nw_M wd_all yy_Co_emit cc_Co_emit 4 none 4 0 0 [.ref (124 + r), .int (nI a), .int (nI w)] X (fun v X' => v = none ∧ X' = zc_emit X r a w) := by
  refine nw_of [some (.ref (124 + r)), some (.int (nI a)), some (.int (nI w)), none] (by decide +kernel) rfl (Nat.le_of_ble_eq_true rfl) rfl ?_
  intro p l e s m args below meth c A g C
  refine cw_aload_n C dd_Co_emit_0 rfl ?_
  refine cw_gets (b := 124) (b' := 132) C hr rfl wc_31 kF_Co_15 (is_31 hr) (by decide) rfl dd_Co_emit_1 rfl ?_
  refine cw_iload_n C dd_Co_emit_4 rfl ?_
  refine cw_iconst (v := nI 1) C dd_Co_emit_5 (by decide +kernel) ?_
  refine cw_iload_n C dd_Co_emit_6 rfl ?_
  refine nw_ishl C dd_Co_emit_7 (by first | omega | (simp [wx_u] <;> omega)) ?_
  rw [Nat.one_mul]
  refine nw_iast C (is_33 hr) (by first | omega | (simp [wx_u] <;> omega)) (by decide) dd_Co_emit_8 ?_
  refine cw_iload_n C dd_Co_emit_9 rfl ?_
  refine cw_iconst (v := nI 1) C dd_Co_emit_10 (by decide +kernel) ?_
  refine nw_isub C dd_Co_emit_11 (by first | omega | (simp [wx_u] <;> omega)) ?_
  refine cw_istore_n C dd_Co_emit_12 (Nat.le_of_ble_eq_true rfl) ?_
  refine lp_Co_emit1 X r hr a w ha hw1 hw hok C ?_ (w - 1) 0 (by omega)
  refine cw_iconst (v := nI 1) C dd_Co_emit_48 (by decide +kernel) ?_
  refine cw_istore_n C dd_Co_emit_49 (Nat.le_of_ble_eq_true rfl) ?_
  refine lp_Co_emit2 (zc_dn X r w a (w - 1)) r hr a w hw (zc_dn_ok hr hok _) (fun k h1 h2 => zc_dn_all hr hok ha hw _ (by omega) k (by omega) h2) C ?_ w 0 (by omega)
  exact cw_vreturn C dd_Co_emit_96 (Nat.le_of_ble_eq_true rfl) (Nat.le_of_ble_eq_true rfl) ⟨_, rfl, rfl, ⟨rfl, rfl⟩⟩
end
section
/-- the rounds whose leaders go with that of w, and the authors reached, after i rounds -/
def zc_lu (X : wx_S) (r w : Nat) : Nat → Nat × Nat
  | 0 => (2 ^ w, 2 ^ (w / 2 % 4))
  | i + 1 => if (w - 1 - i) % 2 = 0 ∧ zc_par X r (zc_lu X r w i).2 (w - i) 4 / 2 ^ ((w - 1 - i) / 2 % 4) % 2 = 1 then ((zc_lu X r w i).1 ||| 2 ^ (w - 1 - i), 2 ^ ((w - 1 - i) / 2 % 4)) else ((zc_lu X r w i).1, zc_par X r (zc_lu X r w i).2 (w - i) 4)
theorem zc_lu2_lt {X : wx_S} {r w : Nat} (h : zc_ok X r) (hw : w ≤ 14) : ∀ i, (zc_lu X r w i).2 < 16
  | 0 => zn_pow4 (by omega)
  | i + 1 => by
    simp only [zc_lu]
    split
    · exact zn_pow4 (by omega)
    · exact zc_ok_par h (by omega) _
theorem zn_p15 {t : Nat} (h : t < 15) : 2 ^ t < 2 ^ 15 := Nat.pow_lt_pow_right (by decide) h
theorem zc_lu1_lt {X : wx_S} {r w : Nat} (hw : w ≤ 14) : ∀ i, (zc_lu X r w i).1 < 2 ^ 15
  | 0 => zn_p15 (by omega)
  | i + 1 => by
    have ih := zc_lu1_lt (X := X) (r := r) hw i
    simp only [zc_lu]
    split
    · exact Nat.or_lt_two_pow ih (zn_p15 (by omega))
    · exact ih
set_option maxRecDepth 100000 in
set_option maxHeartbeats 4000000 in
theorem lp_Co_leadersUnder {p : Program} {l : Launch} {e : Env} {s : State} {m : MethodId} {args : Array Value} {below : List Frame} {meth : Method} {c : Code} {A : Nat → Prop} {g : wd_G} {G : State → Prop} (X : wx_S) (r : Nat) (hr : r < 4) (w : Nat) (hw1 : 1 ≤ w) (hw : w ≤ 14) (hlast : X (124 + r) 5 < w) (hok : zc_ok X r) (C : cw_C p s m args meth c A wd_all g cc_Co_leadersUnder 5 "DagLedger$Commits" (some .int))  (hend : cw_W p l e (cw_rm 3 0 0) s m args below meth c A wd_all g 0 0 G 5 78 [some (.ref (124 + r)), some (.int (nI w)), some (.int (nI (zc_lu X r w ((w - 1 - X (124 + r) 5))).1)), some (.int (nI (zc_lu X r w ((w - 1 - X (124 + r) 5))).2)), some (.int (nI (w - 1 - ((w - 1 - X (124 + r) 5)))))] [] (wx_e X) (wx_l X)) : ∀ (j i : Nat), i + j = (w - 1 - X (124 + r) 5) → cw_W p l e (cw_rm 3 0 0) s m args below meth c A wd_all g 0 0 G 5 16 [some (.ref (124 + r)), some (.int (nI w)), some (.int (nI (zc_lu X r w (i)).1)), some (.int (nI (zc_lu X r w (i)).2)), some (.int (nI (w - 1 - (i))))] [] (wx_e X) (wx_l X) := by
  intro j
  induction j with
  | zero =>
    intro i hij
    refine cw_iload C dd_Co_leadersUnder_16 rfl ?_
    refine cw_aload_n C dd_Co_leadersUnder_18 rfl ?_
    refine nw_geti C wc_31 kF_Co_38 (is_31 hr) (by decide) rfl dd_Co_leadersUnder_19 ?_
    refine nw_icmp_le (tgt := 78) C dd_Co_leadersUnder_22 (by decide) (by first | omega | (simp [wx_u] <;> omega)) (by first | omega | (simp [wx_u] <;> omega)) (fun h22 => ?_) (fun h22 => ?_)
    · have hi : i = (w - 1 - X (124 + r) 5) := by omega
      rw [hi]
      exact hend
    · exact absurd h22 (by omega)
  | succ j ih =>
    intro i hij
    have g1 := zc_lu2_lt (w := w) hok hw i
    have g2 := zc_ok_par hok (w := w - i) (by omega) (zc_lu X r w i).2
    have e1 : w - 1 - i + 1 = w - i := by omega
    refine cw_iload C dd_Co_leadersUnder_16 rfl ?_
    refine cw_aload_n C dd_Co_leadersUnder_18 rfl ?_
    refine nw_geti C wc_31 kF_Co_38 (is_31 hr) (by decide) rfl dd_Co_leadersUnder_19 ?_
    refine nw_icmp_le (tgt := 78) C dd_Co_leadersUnder_22 (by decide) (by first | omega | (simp [wx_u] <;> omega)) (by first | omega | (simp [wx_u] <;> omega)) (fun h22 => ?_) (fun h22 => ?_)
    · exact absurd h22 (by omega)
    · refine cw_aload_n C dd_Co_leadersUnder_25 rfl ?_
      refine cw_gets (b := 124) (b' := 100) C hr rfl wc_31 kF_Co_22 (is_31 hr) (by decide) rfl dd_Co_leadersUnder_26 rfl ?_
      refine cw_iload_n C dd_Co_leadersUnder_29 rfl ?_
      refine cw_iload C dd_Co_leadersUnder_30 rfl ?_
      refine cw_iconst (v := nI 1) C dd_Co_leadersUnder_32 (by decide +kernel) ?_
      refine nw_iadd C dd_Co_leadersUnder_33 ?_
      rw [e1]
      refine cw_callV (As := [_, _]) C kV_Co_62 wc_25 (is_25 hr) dd_Co_leadersUnder_34 rfl rfl (Nat.le_of_ble_eq_true rfl) ⟨(Nat.le_of_ble_eq_true rfl), (Nat.le_of_ble_eq_true rfl)⟩ ⟨(Nat.le_of_ble_eq_true rfl), (Nat.le_of_ble_eq_true rfl)⟩ (mm_Dg_parentsOf X r hr _ (w - i) (by omega) (by omega) (zc_ok_sl hok (by omega))) (nw_ki ?_)
      refine cw_istore_n C dd_Co_leadersUnder_37 (Nat.le_of_ble_eq_true rfl) ?_
      refine cw_iload C dd_Co_leadersUnder_38 rfl ?_
      refine cw_iconst (v := nI 2) C dd_Co_leadersUnder_40 (by decide +kernel) ?_
      refine nw_irem C dd_Co_leadersUnder_41 (by first | omega | (simp [wx_u] <;> omega)) (by decide) (by decide) ?_
      refine nw_if_ne (tgt := 72) C dd_Co_leadersUnder_42 (by decide) (by first | omega | (simp [wx_u] <;> omega)) (fun h42 => ?_) (fun h42 => ?_)
      · refine nw_iincm (b := 1) C dd_Co_leadersUnder_72 (by decide +kernel) rfl (by omega) (Nat.le_of_ble_eq_true rfl) ?_
        refine cw_goto (tgt := 16) C dd_Co_leadersUnder_75 (by decide) ?_
        have k9 := ih (i + 1) (by omega)
        have e9 : zc_lu X r w (i + 1) = ((zc_lu X r w i).1, zc_par X r (zc_lu X r w i).2 (w - i) 4) := by
          rw [zc_lu]
          exact if_neg (fun q => h42 q.1)
        rw [e9] at k9
        exact k9
      · refine cw_iload_n C dd_Co_leadersUnder_45 rfl ?_
        refine cw_iload C dd_Co_leadersUnder_46 rfl ?_
        refine cw_callSN (As := [_]) C kS_Co_46 dd_Co_leadersUnder_48 rfl rfl (Nat.le_of_ble_eq_true rfl) ⟨(Nat.le_of_ble_eq_true rfl), (Nat.le_of_ble_eq_true rfl)⟩ ⟨(Nat.le_of_ble_eq_true rfl), (Nat.le_of_ble_eq_true rfl)⟩ (mm_Le_leaderOf X _ (by omega)) (nw_ki ?_)
        refine cw_callSN (As := [_, _]) C kS_Co_42 dd_Co_leadersUnder_51 rfl rfl (Nat.le_of_ble_eq_true rfl) ⟨(Nat.le_of_ble_eq_true rfl), (Nat.le_of_ble_eq_true rfl)⟩ ⟨(Nat.le_of_ble_eq_true rfl), (Nat.le_of_ble_eq_true rfl)⟩ (mm_Le_contains X _ _ (by omega) (by omega)) (nw_ki ?_)
        refine nw_zeq (tgt := 72) C dd_Co_leadersUnder_54 (by decide) (fun h54 => ?_) (fun h54 => ?_)
        · refine nw_iincm (b := 1) C dd_Co_leadersUnder_72 (by decide +kernel) rfl (by omega) (Nat.le_of_ble_eq_true rfl) ?_
          refine cw_goto (tgt := 16) C dd_Co_leadersUnder_75 (by decide) ?_
          have k9 := ih (i + 1) (by omega)
          have e9 : zc_lu X r w (i + 1) = ((zc_lu X r w i).1, zc_par X r (zc_lu X r w i).2 (w - i) 4) := by
            rw [zc_lu]
            exact if_neg (fun q => h54 q.2)
          rw [e9] at k9
          exact k9
        · refine cw_iload_n C dd_Co_leadersUnder_57 rfl ?_
          refine cw_iconst (v := nI 1) C dd_Co_leadersUnder_58 (by decide +kernel) ?_
          refine cw_iload C dd_Co_leadersUnder_59 rfl ?_
          refine nw_ishl C dd_Co_leadersUnder_61 (by first | omega | (simp [wx_u] <;> omega)) ?_
          refine nw_ior C dd_Co_leadersUnder_62 ?_
          refine cw_istore_n C dd_Co_leadersUnder_63 (Nat.le_of_ble_eq_true rfl) ?_
          refine cw_iconst (v := nI 1) C dd_Co_leadersUnder_64 (by decide +kernel) ?_
          refine cw_iload C dd_Co_leadersUnder_65 rfl ?_
          refine cw_callSN (As := [_]) C kS_Co_46 dd_Co_leadersUnder_67 rfl rfl (Nat.le_of_ble_eq_true rfl) ⟨(Nat.le_of_ble_eq_true rfl), (Nat.le_of_ble_eq_true rfl)⟩ ⟨(Nat.le_of_ble_eq_true rfl), (Nat.le_of_ble_eq_true rfl)⟩ (mm_Le_leaderOf X _ (by omega)) (nw_ki ?_)
          refine nw_ishl C dd_Co_leadersUnder_70 (by first | omega | (simp [wx_u] <;> omega)) ?_
          refine cw_istore_n C dd_Co_leadersUnder_71 (Nat.le_of_ble_eq_true rfl) ?_
          refine nw_iincm (b := 1) C dd_Co_leadersUnder_72 (by decide +kernel) rfl (by omega) (Nat.le_of_ble_eq_true rfl) ?_
          refine cw_goto (tgt := 16) C dd_Co_leadersUnder_75 (by decide) ?_
          have k9 := ih (i + 1) (by omega)
          have e9 : zc_lu X r w (i + 1) = ((zc_lu X r w i).1 ||| 2 ^ (w - 1 - i), 2 ^ ((w - 1 - i) / 2 % 4)) := by
            rw [zc_lu]
            exact if_pos ⟨h42, h54⟩
          rw [e9] at k9
          rw [Nat.one_mul, Nat.one_mul]
          exact k9
set_option maxRecDepth 100000 in
set_option maxHeartbeats 4000000 in
theorem mm_Co_leadersUnder (X : wx_S) (r : Nat) (hr : r < 4) (w : Nat) (hw1 : 1 ≤ w) (hw : w ≤ 14) (hlast : X (124 + r) 5 < w) (hok : zc_ok X r) : nw_M wd_all yy_Co_leadersUnder cc_Co_leadersUnder 5 (some .int) 3 0 0 [.ref (124 + r), .int (nI w)] X (fun v X' => v = some (.int (nI (zc_lu X r w (w - 1 - X (124 + r) 5)).1)) ∧ X' = X) := by
  refine nw_of [some (.ref (124 + r)), some (.int (nI w)), none, none, none] (by decide +kernel) rfl (Nat.le_of_ble_eq_true rfl) rfl ?_
  intro p l e s m args below meth c A g C
  refine cw_iconst (v := nI 1) C dd_Co_leadersUnder_0 (by decide +kernel) ?_
  refine cw_iload_n C dd_Co_leadersUnder_1 rfl ?_
  refine nw_ishl C dd_Co_leadersUnder_2 (by first | omega | (simp [wx_u] <;> omega)) ?_
  refine cw_istore_n C dd_Co_leadersUnder_3 (Nat.le_of_ble_eq_true rfl) ?_
  refine cw_iconst (v := nI 1) C dd_Co_leadersUnder_4 (by decide +kernel) ?_
  refine cw_iload_n C dd_Co_leadersUnder_5 rfl ?_
  refine cw_callSN (As := [_]) C kS_Co_46 dd_Co_leadersUnder_6 rfl rfl (Nat.le_of_ble_eq_true rfl) ⟨(Nat.le_of_ble_eq_true rfl), (Nat.le_of_ble_eq_true rfl)⟩ ⟨(Nat.le_of_ble_eq_true rfl), (Nat.le_of_ble_eq_true rfl)⟩ (mm_Le_leaderOf X w (by omega)) (nw_ki ?_)
  refine nw_ishl C dd_Co_leadersUnder_9 (by first | omega | (simp [wx_u] <;> omega)) ?_
  refine cw_istore_n C dd_Co_leadersUnder_10 (Nat.le_of_ble_eq_true rfl) ?_
  refine cw_iload_n C dd_Co_leadersUnder_11 rfl ?_
  refine cw_iconst (v := nI 1) C dd_Co_leadersUnder_12 (by decide +kernel) ?_
  refine nw_isub C dd_Co_leadersUnder_13 (by first | omega | (simp [wx_u] <;> omega)) ?_
  refine cw_istore C dd_Co_leadersUnder_14 (Nat.le_of_ble_eq_true rfl) ?_
  rw [Nat.one_mul, Nat.one_mul]
  refine lp_Co_leadersUnder X r hr w hw1 hw hlast hok C ?_ (w - 1 - X (124 + r) 5) 0 (by omega)
  refine cw_iload_n C dd_Co_leadersUnder_78 rfl ?_
  exact cw_ireturn C dd_Co_leadersUnder_79 (Nat.le_of_ble_eq_true rfl) (Nat.le_of_ble_eq_true rfl) ⟨_, rfl, rfl, ⟨by first | rfl | simp [wx_u], by first | rfl | simp [wx_u]⟩⟩
abbrev zc_nrC (X : wx_S) (r w : Nat) : Prop := X (104 + r) (w * 4 + w / 2 % 4) ≠ 4294967295 ∧ 2 ≤ zc_std X r (w / 2 % 4) w 4
def zc_nrF (X : wx_S) (r : Nat) : Nat → Nat → Nat
  | _, 0 => 4294967295
  | w, n + 1 => if 14 < w then 4294967295 else if zc_nrC X r w then w else zc_nrF X r (w + 2) n
def zc_nr (X : wx_S) (r : Nat) : Nat := zc_nrF X r (X (124 + r) 5 + 2) 8
theorem zc_std_le (X : wx_S) (r a w : Nat) : ∀ i, zc_std X r a w i ≤ i
  | 0 => Nat.le_refl _
  | i + 1 => by
    have := zc_std_le X r a w i
    simp only [zc_std]
    split <;> omega
set_option maxRecDepth 100000 in
set_option maxHeartbeats 4000000 in
theorem lp_Co_nextRound {p : Program} {l : Launch} {e : Env} {s : State} {m : MethodId} {args : Array Value} {below : List Frame} {meth : Method} {c : Code} {A : Nat → Prop} {g : wd_G} {G : State → Prop} (X : wx_S) (r : Nat) (hr : r < 4) (hok : zc_ok X r) (hp : ∀ i, i < 90 → X 32 i < 2147483648) (RES : Nat) (C : cw_C p s m args meth c A wd_all g cc_Co_nextRound 3 "DagLedger$Commits" (some .int)) (hA : ∀ (w : Nat) (z : Option Value), w = RES → cw_W p l e (cw_rm 3 0 0) s m args below meth c A wd_all g 0 0 G 3 43 [some (.ref (124 + r)), some (.int (nI w)), z] [] (wx_e X) (wx_l X)) (hB : ∀ (w : Nat) (z : Option Value), 4294967295 = RES → cw_W p l e (cw_rm 3 0 0) s m args below meth c A wd_all g 0 0 G 3 51 [some (.ref (124 + r)), some (.int (nI w)), z] [] (wx_e X) (wx_l X)) : ∀ (n w : Nat) (z : Option Value), 14 < w + 2 * n ∧ w ≤ 16 → zc_nrF X r w n = RES → cw_W p l e (cw_rm 3 0 0) s m args below meth c A wd_all g 0 0 G 3 7 [some (.ref (124 + r)), some (.int (nI w)), z] [] (wx_e X) (wx_l X) := by
  intro n
  induction n with
  | zero =>
    intro w z hw hres
    refine cw_iload_n C dd_Co_nextRound_7 rfl ?_
    refine cw_bipush (v := nI 14) C dd_Co_nextRound_8 (by decide +kernel) ?_
    refine nw_icmp_gt (tgt := 51) C dd_Co_nextRound_10 (by decide) (by first | omega | (simp [wx_u] <;> omega)) (by first | omega | (simp [wx_u] <;> omega)) (fun h10 => ?_) (fun h10 => ?_)
    · exact hB w _ (by rw [← hres, zc_nrF])
    · exact absurd h10 (by omega)
  | succ n ih =>
    intro w z hw hres
    refine cw_iload_n C dd_Co_nextRound_7 rfl ?_
    refine cw_bipush (v := nI 14) C dd_Co_nextRound_8 (by decide +kernel) ?_
    refine nw_icmp_gt (tgt := 51) C dd_Co_nextRound_10 (by decide) (by first | omega | (simp [wx_u] <;> omega)) (by first | omega | (simp [wx_u] <;> omega)) (fun h10 => ?_) (fun h10 => ?_)
    · exact hB w _ (by rw [← hres, zc_nrF, if_pos (by omega)])
    · refine cw_iload_n C dd_Co_nextRound_13 rfl ?_
      refine cw_callSN (As := [_]) C kS_Co_46 dd_Co_nextRound_14 rfl rfl (Nat.le_of_ble_eq_true rfl) ⟨(Nat.le_of_ble_eq_true rfl), (Nat.le_of_ble_eq_true rfl)⟩ ⟨(Nat.le_of_ble_eq_true rfl), (Nat.le_of_ble_eq_true rfl)⟩ (mm_Le_leaderOf X w (by omega)) (nw_ki ?_)
      refine cw_istore_n C dd_Co_nextRound_17 (Nat.le_of_ble_eq_true rfl) ?_
      refine cw_aload_n C dd_Co_nextRound_18 rfl ?_
      refine cw_gets (b := 124) (b' := 100) C hr rfl wc_31 kF_Co_22 (is_31 hr) (by decide) rfl dd_Co_nextRound_19 rfl ?_
      refine cw_iload_n C dd_Co_nextRound_22 rfl ?_
      refine cw_iload_n C dd_Co_nextRound_23 rfl ?_
      refine cw_callV (As := [_, _]) C kV_Co_53 wc_25 (is_25 hr) dd_Co_nextRound_24 rfl rfl (Nat.le_of_ble_eq_true rfl) ⟨(Nat.le_of_ble_eq_true rfl), (Nat.le_of_ble_eq_true rfl)⟩ ⟨(Nat.le_of_ble_eq_true rfl), (Nat.le_of_ble_eq_true rfl)⟩ (mm_Dg_holds X r hr (w / 2 % 4) w (by omega) (by have := hok.2.1.1 (w * 4 + w / 2 % 4) (by omega); have := hok.1.1; omega)) (nw_ki ?_)
      refine nw_zeq (tgt := 45) C dd_Co_nextRound_27 (by decide) (fun h27 => ?_) (fun h27 => ?_)
      · refine nw_iinc (b := 2) C dd_Co_nextRound_45 (by decide +kernel) rfl (Nat.le_of_ble_eq_true rfl) ?_
        refine cw_goto (tgt := 7) C dd_Co_nextRound_48 (by decide) ?_
        refine ih (w + 2) _ (by omega) ?_
        rw [← hres]
        conv => rhs; rw [zc_nrF]
        rw [if_neg (by omega), if_neg (fun q => absurd q.1 h27)]
      · refine cw_aload_n C dd_Co_nextRound_30 rfl ?_
        refine cw_gets (b := 124) (b' := 100) C hr rfl wc_31 kF_Co_22 (is_31 hr) (by decide) rfl dd_Co_nextRound_31 rfl ?_
        refine cw_iload_n C dd_Co_nextRound_34 rfl ?_
        refine cw_iload_n C dd_Co_nextRound_35 rfl ?_
        refine cw_callV (As := [_, _]) C kV_Co_58 wc_25 (is_25 hr) dd_Co_nextRound_36 rfl rfl (Nat.le_of_ble_eq_true rfl) ⟨(Nat.le_of_ble_eq_true rfl), (Nat.le_of_ble_eq_true rfl)⟩ ⟨(Nat.le_of_ble_eq_true rfl), (Nat.le_of_ble_eq_true rfl)⟩ (mm_Dg_countStandingOn X r hr (w / 2 % 4) w (by omega) (by omega) (zc_ok_sl hok (w := w + 1) (by omega)) hp) (nw_ki ?_)
        refine cw_iconst (v := nI 2) C dd_Co_nextRound_39 (by decide +kernel) ?_
        have g1 := zc_std_le X r (w / 2 % 4) w 4
        refine nw_icmp_lt (tgt := 45) C dd_Co_nextRound_40 (by decide) (by first | omega | (simp [wx_u] <;> omega)) (by first | omega | (simp [wx_u] <;> omega)) (fun h40 => ?_) (fun h40 => ?_)
        · refine nw_iinc (b := 2) C dd_Co_nextRound_45 (by decide +kernel) rfl (Nat.le_of_ble_eq_true rfl) ?_
          refine cw_goto (tgt := 7) C dd_Co_nextRound_48 (by decide) ?_
          refine ih (w + 2) _ (by omega) ?_
          rw [← hres]
          conv => rhs; rw [zc_nrF]
          rw [if_neg (by omega), if_neg (fun q => absurd q.2 (by omega))]
        · exact hA w _ (by rw [← hres, zc_nrF, if_neg (by omega), if_pos ⟨h27, h40⟩])
set_option maxRecDepth 100000 in
set_option maxHeartbeats 4000000 in
theorem mm_Co_nextRound (X : wx_S) (r : Nat) (hr : r < 4) (hok : zc_ok X r) (hp : ∀ i, i < 90 → X 32 i < 2147483648) (hl : X (124 + r) 5 ≤ 14) : nw_M wd_all yy_Co_nextRound cc_Co_nextRound 3 (some .int) 3 0 0 [.ref (124 + r)] X (fun v X' => v = some (.int (nI (zc_nr X r))) ∧ X' = X) := by
  refine nw_of [some (.ref (124 + r)), none, none] (by decide +kernel) rfl (Nat.le_of_ble_eq_true rfl) rfl ?_
  intro p l e s m args below meth c A g C
  refine cw_aload_n C dd_Co_nextRound_0 rfl ?_
  refine nw_geti C wc_31 kF_Co_38 (is_31 hr) (by decide) rfl dd_Co_nextRound_1 ?_
  refine cw_iconst (v := nI 2) C dd_Co_nextRound_4 (by decide +kernel) ?_
  refine nw_iadd C dd_Co_nextRound_5 ?_
  refine cw_istore_n C dd_Co_nextRound_6 (Nat.le_of_ble_eq_true rfl) ?_
  refine lp_Co_nextRound X r hr hok hp (zc_nr X r) C (fun w z hw => ?_) (fun w z hw => ?_) 8 _ _ (by omega) rfl
  · refine cw_iload_n C dd_Co_nextRound_43 rfl ?_
    exact cw_ireturn C dd_Co_nextRound_44 (Nat.le_of_ble_eq_true rfl) (Nat.le_of_ble_eq_true rfl) ⟨_, rfl, rfl, ⟨by rw [hw], rfl⟩⟩
  · refine cw_iconst (v := nI 4294967295) C dd_Co_nextRound_51 (by decide +kernel) ?_
    exact cw_ireturn C dd_Co_nextRound_52 (Nat.le_of_ble_eq_true rfl) (Nat.le_of_ble_eq_true rfl) ⟨_, rfl, rfl, ⟨by rw [hw], rfl⟩⟩
set_option maxRecDepth 100000 in
set_option maxHeartbeats 4000000 in
theorem mm_Co_clear (X : wx_S) (r : Nat) (hr : r < 4) : nw_M wd_all yy_Co_clear cc_Co_clear 1 none 2 0 0 [.ref (124 + r)] X (fun v X' => v = none ∧ X' = wx_u (zz_fill X (128 + r) 15 0) (124 + r) 5 0) := by
  refine nw_of [some (.ref (124 + r))] (by decide +kernel) rfl (Nat.le_of_ble_eq_true rfl) rfl ?_
  intro p l e s m args below meth c A g C
  refine cw_aload_n C dd_Co_clear_0 rfl ?_
  refine cw_gets (b := 124) (b' := 128) C hr rfl wc_31 kF_Co_9 (is_31 hr) (by decide) rfl dd_Co_clear_1 rfl ?_
  refine cw_iconst (v := nI 0) C dd_Co_clear_4 (by decide +kernel) ?_
  refine cw_callS (As := [_, _]) C kS_Co_85 dd_Co_clear_5 rfl rfl (Nat.le_of_ble_eq_true rfl) ⟨(Nat.le_of_ble_eq_true rfl), (Nat.le_of_ble_eq_true rfl)⟩ ⟨(Nat.le_of_ble_eq_true rfl), (Nat.le_of_ble_eq_true rfl)⟩ (mm_Ar_fill _ (128 + r) 15 0 _ (is_32 hr) (by decide)) (nw_kv ?_)
  refine cw_aload_n C dd_Co_clear_8 rfl ?_
  refine cw_iconst (v := nI 0) C dd_Co_clear_9 (by decide +kernel) ?_
  refine nw_puti C wc_31 kF_Co_38 (is_31 hr) (by decide) rfl rfl rfl rfl dd_Co_clear_10 ?_
  exact cw_vreturn C dd_Co_clear_13 (Nat.le_of_ble_eq_true rfl) (Nat.le_of_ble_eq_true rfl) ⟨_, rfl, rfl, ⟨by first | rfl | simp [wx_u], by first | rfl | simp [wx_u]⟩⟩
end
section
theorem zc_e2_oth (Y : wx_S) (r : Nat) {c : Nat} (k : Nat) (h1 : c ≠ 112 + r) (h2 : c ≠ 116 + r) (h3 : c ≠ 120 + r) (h4 : c ≠ 128 + r) : ∀ i, zc_e2 Y r i c k = Y c k
  | 0 => rfl
  | i + 1 => by rw [zc_e2, wx_u_nc h4, zc_emF_oth _ _ _ _ _ h1 h2 h3, zc_e2_oth Y r k h1 h2 h3 h4 i]
theorem zc_emit_oth (X : wx_S) (r a w : Nat) {c : Nat} (k : Nat) (h1 : c ≠ 112 + r) (h2 : c ≠ 116 + r) (h3 : c ≠ 120 + r) (h4 : c ≠ 128 + r) (h5 : c ≠ 132 + r) : zc_emit X r a w c k = X c k := by
  rw [zc_emit, zc_e2_oth _ _ _ h1 h2 h3 h4, zc_dn_oth _ _ _ _ _ h5]
theorem zc_emit_ok {X : wx_S} {r a w : Nat} (hr : r < 4) (h : zc_ok X r) (hw : w ≤ 14) : zc_ok (zc_emit X r a w) r := zc_e2_ok hr (zc_dn_ok hr h _) w (by omega)
theorem zc_nrF_spec (X : wx_S) (r : Nat) : ∀ n w, zc_nrF X r w n = 4294967295 ∨ ∃ k, zc_nrF X r w n = w + 2 * k ∧ w + 2 * k ≤ 14 ∧ zc_nrC X r (w + 2 * k)
  | 0, w => Or.inl rfl
  | n + 1, w => by
    rw [zc_nrF]
    by_cases h1 : 14 < w
    · rw [if_pos h1]; exact Or.inl rfl
    · rw [if_neg h1]
      by_cases h2 : zc_nrC X r w
      · rw [if_pos h2]; exact Or.inr ⟨0, rfl, by omega, h2⟩
      · rw [if_neg h2]
        rcases zc_nrF_spec X r n (w + 2) with h | ⟨k, h3, h4, h5⟩
        · exact Or.inl h
        · exact Or.inr ⟨k + 1, by rw [h3]; omega, by omega, by rw [show w + 2 * (k + 1) = w + 2 + 2 * k by omega]; exact h5⟩
/-- the emissions of a commit: i of the rounds l + 2, l + 4 .. -/
def zc_cm (X : wx_S) (r ch l : Nat) : Nat → wx_S
  | 0 => X
  | i + 1 => if ch / 2 ^ (l + 2 + 2 * i) % 2 = 1 then zc_emit (zc_cm X r ch l i) r ((l + 2 + 2 * i) / 2 % 4) (l + 2 + 2 * i) else zc_cm X r ch l i
theorem zc_cm_ok {X : wx_S} {r ch l : Nat} (hr : r < 4) (h : zc_ok X r) : ∀ i, l + 2 * i ≤ 14 → zc_ok (zc_cm X r ch l i) r
  | 0, _ => h
  | i + 1, hi => by
    simp only [zc_cm]
    split
    · exact zc_emit_ok hr (zc_cm_ok hr h i (by omega)) (by omega)
    · exact zc_cm_ok hr h i (by omega)
theorem zc_cm_oth (X : wx_S) (r ch l : Nat) {c : Nat} (k : Nat) (h1 : c ≠ 112 + r) (h2 : c ≠ 116 + r) (h3 : c ≠ 120 + r) (h4 : c ≠ 128 + r) (h5 : c ≠ 132 + r) : ∀ i, zc_cm X r ch l i c k = X c k
  | 0 => rfl
  | i + 1 => by
    simp only [zc_cm]
    split
    · rw [zc_emit_oth _ _ _ _ _ h1 h2 h3 h4 h5, zc_cm_oth X r ch l k h1 h2 h3 h4 h5 i]
    · exact zc_cm_oth X r ch l k h1 h2 h3 h4 h5 i
def zc_ch (X : wx_S) (r w : Nat) : Nat := (zc_lu X r w (w - 1 - X (124 + r) 5)).1
def zc_commit (X : wx_S) (r w : Nat) : wx_S := wx_u (zc_cm X r (zc_ch X r w) (X (124 + r) 5) ((w - X (124 + r) 5) / 2)) (124 + r) 5 w
set_option maxRecDepth 100000 in
set_option maxHeartbeats 4000000 in
theorem lp_Co_commitNext {p : Program} {l : Launch} {e : Env} {s : State} {m : MethodId} {args : Array Value} {below : List Frame} {meth : Method} {c : Code} {A : Nat → Prop} {g : wd_G} {G : State → Prop} (X : wx_S) (r : Nat) (hr : r < 4) (ch L w : Nat) (hL : L + 2 ≤ w) (he : (w - L) % 2 = 0) (hw : w ≤ 14) (hch : ch < 2 ^ 15) (hok : zc_ok X r) (C : cw_C p s m args meth c A wd_all g cc_Co_commitNext 4 "DagLedger$Commits" (some .boolean))  (hend : cw_W p l e (cw_rm 5 0 0) s m args below meth c A wd_all g 0 0 G 4 53 [some (.ref (124 + r)), some (.int (nI w)), some (.int (nI ch)), some (.int (nI (L + 2 + 2 * (((w - L) / 2)))))] [] (wx_e (zc_cm X r ch L (((w - L) / 2)))) (wx_l (zc_cm X r ch L (((w - L) / 2))))) : ∀ (j i : Nat), i + j = ((w - L) / 2) → cw_W p l e (cw_rm 5 0 0) s m args below meth c A wd_all g 0 0 G 4 25 [some (.ref (124 + r)), some (.int (nI w)), some (.int (nI ch)), some (.int (nI (L + 2 + 2 * (i))))] [] (wx_e (zc_cm X r ch L (i))) (wx_l (zc_cm X r ch L (i))) := by
  intro j
  induction j with
  | zero =>
    intro i hij
    refine cw_iload_n C dd_Co_commitNext_25 rfl ?_
    refine cw_iload_n C dd_Co_commitNext_26 rfl ?_
    refine nw_icmp_gt (tgt := 53) C dd_Co_commitNext_27 (by decide) (by first | omega | (simp [wx_u] <;> omega)) (by first | omega | (simp [wx_u] <;> omega)) (fun h27 => ?_) (fun h27 => ?_)
    · have hi : i = ((w - L) / 2) := by omega
      rw [hi]
      exact hend
    · exact absurd h27 (by omega)
  | succ j ih =>
    intro i hij
    have hk := zc_cm_ok (ch := ch) (l := L) hr hok i (by omega)
    refine cw_iload_n C dd_Co_commitNext_25 rfl ?_
    refine cw_iload_n C dd_Co_commitNext_26 rfl ?_
    refine nw_icmp_gt (tgt := 53) C dd_Co_commitNext_27 (by decide) (by first | omega | (simp [wx_u] <;> omega)) (by first | omega | (simp [wx_u] <;> omega)) (fun h27 => ?_) (fun h27 => ?_)
    · exact absurd h27 (by omega)
    · refine cw_iload_n C dd_Co_commitNext_30 rfl ?_
      refine cw_iload_n C dd_Co_commitNext_31 rfl ?_
      refine cw_callSN (As := [_, _]) C kS_Co_42 dd_Co_commitNext_32 rfl rfl (Nat.le_of_ble_eq_true rfl) ⟨(Nat.le_of_ble_eq_true rfl), (Nat.le_of_ble_eq_true rfl)⟩ ⟨(Nat.le_of_ble_eq_true rfl), (Nat.le_of_ble_eq_true rfl)⟩ (mm_Le_contains _ ch _ (by omega) (by omega)) (nw_ki ?_)
      refine nw_zeq (tgt := 47) C dd_Co_commitNext_35 (by decide) (fun h35 => ?_) (fun h35 => ?_)
      · refine nw_iinc (b := 2) C dd_Co_commitNext_47 (by decide +kernel) rfl (Nat.le_of_ble_eq_true rfl) ?_
        refine cw_goto (tgt := 25) C dd_Co_commitNext_50 (by decide) ?_
        have e2 : L + 2 + 2 * i + 2 = L + 2 + 2 * (i + 1) := by omega
        rw [e2]
        exact nw_eqX (if_neg h35 : zc_cm X r ch L (i + 1) = _).symm (ih (i + 1) (by omega))
      · refine cw_aload_n C dd_Co_commitNext_38 rfl ?_
        refine cw_iload_n C dd_Co_commitNext_39 rfl ?_
        refine cw_callSN (As := [_]) C kS_Co_46 dd_Co_commitNext_40 rfl rfl (Nat.le_of_ble_eq_true rfl) ⟨(Nat.le_of_ble_eq_true rfl), (Nat.le_of_ble_eq_true rfl)⟩ ⟨(Nat.le_of_ble_eq_true rfl), (Nat.le_of_ble_eq_true rfl)⟩ (mm_Le_leaderOf _ _ (by omega)) (nw_ki ?_)
        refine cw_iload_n C dd_Co_commitNext_43 rfl ?_
        refine cw_callV (As := [_, _]) C kV_Co_49 wc_31 (is_31 hr) dd_Co_commitNext_44 rfl rfl (Nat.le_of_ble_eq_true rfl) ⟨(Nat.le_of_ble_eq_true rfl), (Nat.le_of_ble_eq_true rfl)⟩ ⟨(Nat.le_of_ble_eq_true rfl), (Nat.le_of_ble_eq_true rfl)⟩ (mm_Co_emit _ r hr _ _ (by omega) (by omega) (by omega) hk) (nw_kv ?_)
        refine nw_iinc (b := 2) C dd_Co_commitNext_47 (by decide +kernel) rfl (Nat.le_of_ble_eq_true rfl) ?_
        refine cw_goto (tgt := 25) C dd_Co_commitNext_50 (by decide) ?_
        have e2 : L + 2 + 2 * i + 2 = L + 2 + 2 * (i + 1) := by omega
        rw [e2]
        exact nw_eqX (if_pos h35 : zc_cm X r ch L (i + 1) = _).symm (ih (i + 1) (by omega))
set_option maxRecDepth 100000 in
set_option maxHeartbeats 4000000 in
theorem mm_Co_commitNext (X : wx_S) (r : Nat) (hr : r < 4) (hok : zc_ok X r) (hp : ∀ i, i < 90 → X 32 i < 2147483648) (hl : X (124 + r) 5 ≤ 14) : nw_M wd_all yy_Co_commitNext cc_Co_commitNext 4 (some .boolean) 5 0 0 [.ref (124 + r)] X (fun v X' => v = some (.int (nI (zb_n (zc_nr X r ≠ 4294967295)))) ∧ X' = if zc_nr X r = 4294967295 then X else zc_commit X r (zc_nr X r)) := by
  refine nw_of [some (.ref (124 + r)), none, none, none] (by decide +kernel) rfl (Nat.le_of_ble_eq_true rfl) rfl ?_
  intro p l e s m args below meth c A g C
  have hs := zc_nrF_spec X r 8 (X (124 + r) 5 + 2)
  change zc_nr X r = 4294967295 ∨ ∃ k, zc_nr X r = X (124 + r) 5 + 2 + 2 * k ∧ X (124 + r) 5 + 2 + 2 * k ≤ 14 ∧ _ at hs
  refine cw_aload_n C dd_Co_commitNext_0 rfl ?_
  refine cw_callV (As := []) C kV_Co_30 wc_31 (is_31 hr) dd_Co_commitNext_1 rfl rfl (Nat.le_of_ble_eq_true rfl) ⟨(Nat.le_of_ble_eq_true rfl), (Nat.le_of_ble_eq_true rfl)⟩ ⟨(Nat.le_of_ble_eq_true rfl), (Nat.le_of_ble_eq_true rfl)⟩ (mm_Co_nextRound X r hr hok hp hl) (nw_ki ?_)
  refine cw_istore_n C dd_Co_commitNext_4 (Nat.le_of_ble_eq_true rfl) ?_
  refine cw_iload_n C dd_Co_commitNext_5 rfl ?_
  refine cw_iconst (v := nI 4294967295) C dd_Co_commitNext_6 (by decide +kernel) ?_
  refine nw_icmp_ne (tgt := 12) C dd_Co_commitNext_7 (by decide) (by rcases hs with h | ⟨k, h1, h2, _⟩ <;> omega) (by first | omega | (simp [wx_u] <;> omega)) (fun h7 => ?_) (fun h7 => ?_)
  · obtain ⟨k0, q1, q2, -⟩ := hs.resolve_left h7
    refine cw_aload_n C dd_Co_commitNext_12 rfl ?_
    refine cw_iload_n C dd_Co_commitNext_13 rfl ?_
    refine cw_callV (As := [_]) C kV_Co_34 wc_31 (is_31 hr) dd_Co_commitNext_14 rfl rfl (Nat.le_of_ble_eq_true rfl) ⟨(Nat.le_of_ble_eq_true rfl), (Nat.le_of_ble_eq_true rfl)⟩ ⟨(Nat.le_of_ble_eq_true rfl), (Nat.le_of_ble_eq_true rfl)⟩ (mm_Co_leadersUnder X r hr (zc_nr X r) (by omega) (by omega) (by omega) hok) (nw_ki ?_)
    refine cw_istore_n C dd_Co_commitNext_17 (Nat.le_of_ble_eq_true rfl) ?_
    refine cw_aload_n C dd_Co_commitNext_18 rfl ?_
    refine nw_geti C wc_31 kF_Co_38 (is_31 hr) (by decide) rfl dd_Co_commitNext_19 ?_
    refine cw_iconst (v := nI 2) C dd_Co_commitNext_22 (by decide +kernel) ?_
    refine nw_iadd C dd_Co_commitNext_23 ?_
    refine cw_istore_n C dd_Co_commitNext_24 (Nat.le_of_ble_eq_true rfl) ?_
    refine lp_Co_commitNext X r hr (zc_ch X r (zc_nr X r)) (X (124 + r) 5) (zc_nr X r) (by omega) (by omega) (by omega) (zc_lu1_lt (by omega) _) hok C ?_ ((zc_nr X r - X (124 + r) 5) / 2) 0 (by omega)
    refine cw_aload_n C dd_Co_commitNext_53 rfl ?_
    refine cw_iload_n C dd_Co_commitNext_54 rfl ?_
    refine nw_puti C wc_31 kF_Co_38 (is_31 hr) (by decide) rfl rfl rfl rfl dd_Co_commitNext_55 ?_
    refine cw_iconst (v := nI 1) C dd_Co_commitNext_58 (by decide +kernel) ?_
    exact cw_zreturn C dd_Co_commitNext_59 (nw_zn (by decide)) (Nat.le_of_ble_eq_true rfl) (Nat.le_of_ble_eq_true rfl) ⟨_, rfl, rfl, ⟨congrArg (fun z => some (Value.int z)) (zb_t h7), (if_neg h7).symm⟩⟩
  · refine cw_iconst (v := nI 0) C dd_Co_commitNext_10 (by decide +kernel) ?_
    exact cw_zreturn C dd_Co_commitNext_11 (nw_zn (by decide)) (Nat.le_of_ble_eq_true rfl) (Nat.le_of_ble_eq_true rfl) ⟨_, rfl, rfl, ⟨congrArg (fun z => some (Value.int z)) (zb_f (fun q => q h7)), (if_pos h7).symm⟩⟩
end
section
abbrev zc_cut (X : wx_S) (r : Nat) : Prop := X (64 + r) 11 ≠ 0 ∧ X (64 + r) 12 = 0
def zc_goDown (X : wx_S) (r : Nat) : wx_S :=
  let X0 := wx_u (wx_u (wx_u (wx_u X (64 + r) 8 0) (64 + r) 11 0) (64 + r) 9 0) (64 + r) 10 0
  let X1 := wx_u (zz_fill (zz_fill X0 (88 + r) 90 0) (92 + r) 90 0) (84 + r) 3 0
  let X2 := wx_u (zz_fill (zz_fill X1 (104 + r) 64 4294967295) (108 + r) 16 0) (100 + r) 3 0
  let X3 := wx_u (zz_fill X2 (128 + r) 15 0) (124 + r) 5 0
  wx_u (wx_u (zz_fill X3 (120 + r) 4 0) (112 + r) 2 0) (112 + r) 3 0
def zc_wrote (X : wx_S) (r : Nat) : wx_S := wx_u (if X (64 + r) 11 = 0 then X else wx_u X (64 + r) 12 (X (64 + r) 12 - 1)) (68 + r) 6 (X (68 + r) 6 + 1)
theorem zc_wrote_oth (X : wx_S) (r : Nat) {c : Nat} (k : Nat) (h1 : c ≠ 64 + r) (h2 : c ≠ 68 + r) : zc_wrote X r c k = X c k := by
  rw [zc_wrote, wx_u_nc h2]
  split
  · rfl
  · exact wx_u_nc h1
def zc_post (X : wx_S) (k q u : Nat) : wx_S := wx_u (wx_u (wx_u (wx_u X 48 (X 44 3) k) 52 (X 44 3) q) 56 (X 44 3) u) 44 3 (X 44 3 + 1)
set_option maxRecDepth 100000 in
set_option maxHeartbeats 4000000 in
theorem mm_Re_isUp (X : wx_S) (r : Nat) (hr : r < 4) (h : X (64 + r) 8 < 4294967296) : nw_M wd_all yy_Re_isUp cc_Re_isUp 1 (some .boolean) 1 0 0 [.ref (64 + r)] X (fun v X' => v = some (.int (nI (zb_n (X (64 + r) 8 = 1)))) ∧ X' = X) := by
  refine nw_of [some (.ref (64 + r))] (by decide +kernel) rfl (Nat.le_of_ble_eq_true rfl) rfl ?_
  intro p l e s m args below meth c A g C
  refine cw_aload_n C dd_Re_isUp_0 rfl ?_
  refine nw_geti C wc_16 kF_Re_25 (is_16 hr) (by decide) rfl dd_Re_isUp_1 ?_
  refine cw_iconst (v := nI 1) C dd_Re_isUp_4 (by decide +kernel) ?_
  refine nw_icmp_ne (tgt := 12) C dd_Re_isUp_5 (by decide) (by first | omega | (simp [wx_u] <;> omega)) (by first | omega | (simp [wx_u] <;> omega)) (fun h5 => ?_) (fun h5 => ?_)
  · refine cw_iconst (v := nI 0) C dd_Re_isUp_12 (by decide +kernel) ?_
    exact cw_zreturn C dd_Re_isUp_13 (nw_zn (by decide)) (Nat.le_of_ble_eq_true rfl) (Nat.le_of_ble_eq_true rfl) ⟨_, rfl, rfl, ⟨by first | exact congrArg (fun z => some (Value.int z)) (zb_t (by first | omega | (simp [wx_u] <;> omega))) | exact congrArg (fun z => some (Value.int z)) (zb_f (by first | omega | (simp [wx_u] <;> omega))), by first | rfl | simp [wx_u]⟩⟩
  · refine cw_iconst (v := nI 1) C dd_Re_isUp_8 (by decide +kernel) ?_
    refine cw_goto (tgt := 13) C dd_Re_isUp_9 (by decide) ?_
    exact cw_zreturn C dd_Re_isUp_13 (nw_zn (by decide)) (Nat.le_of_ble_eq_true rfl) (Nat.le_of_ble_eq_true rfl) ⟨_, rfl, rfl, ⟨by first | exact congrArg (fun z => some (Value.int z)) (zb_t (by first | omega | (simp [wx_u] <;> omega))) | exact congrArg (fun z => some (Value.int z)) (zb_f (by first | omega | (simp [wx_u] <;> omega))), by first | rfl | simp [wx_u]⟩⟩
set_option maxRecDepth 100000 in
set_option maxHeartbeats 4000000 in
theorem mm_Re_goDown (X : wx_S) (r : Nat) (hr : r < 4) : nw_M wd_all yy_Re_goDown cc_Re_goDown 1 none 3 0 0 [.ref (64 + r)] X (fun v X' => v = none ∧ X' = zc_goDown X r) := by
  refine nw_of [some (.ref (64 + r))] (by decide +kernel) rfl (Nat.le_of_ble_eq_true rfl) rfl ?_
  intro p l e s m args below meth c A g C
  refine cw_aload_n C dd_Re_goDown_0 rfl ?_
  refine cw_iconst (v := nI 0) C dd_Re_goDown_1 (by decide +kernel) ?_
  refine nw_puti C wc_16 kF_Re_25 (is_16 hr) (by decide) rfl rfl rfl rfl dd_Re_goDown_2 ?_
  refine cw_aload_n C dd_Re_goDown_5 rfl ?_
  refine cw_iconst (v := nI 0) C dd_Re_goDown_6 (by decide +kernel) ?_
  refine nw_puti C wc_16 kF_Re_67 (is_16 hr) (by decide) rfl rfl (nw_zn (by decide)) (nw_zf (by decide)) dd_Re_goDown_7 ?_
  refine cw_aload_n C dd_Re_goDown_10 rfl ?_
  refine cw_iconst (v := nI 0) C dd_Re_goDown_11 (by decide +kernel) ?_
  refine nw_puti C wc_16 kF_Re_71 (is_16 hr) (by decide) rfl rfl rfl rfl dd_Re_goDown_12 ?_
  refine cw_aload_n C dd_Re_goDown_15 rfl ?_
  refine cw_iconst (v := nI 0) C dd_Re_goDown_16 (by decide +kernel) ?_
  refine nw_puti C wc_16 kF_Re_74 (is_16 hr) (by decide) rfl rfl rfl rfl dd_Re_goDown_17 ?_
  refine cw_aload_n C dd_Re_goDown_20 rfl ?_
  refine cw_gets (b := 64) (b' := 84) C hr rfl wc_16 kF_Re_21 (is_16 hr) (by decide) rfl dd_Re_goDown_21 rfl ?_
  refine cw_callV (As := []) C kV_Re_77 wc_21 (is_21 hr) dd_Re_goDown_24 rfl rfl (Nat.le_of_ble_eq_true rfl) ⟨(Nat.le_of_ble_eq_true rfl), (Nat.le_of_ble_eq_true rfl)⟩ ⟨(Nat.le_of_ble_eq_true rfl), (Nat.le_of_ble_eq_true rfl)⟩ (mm_No_clear _ r hr) (nw_kv ?_)
  refine cw_aload_n C dd_Re_goDown_27 rfl ?_
  refine cw_gets (b := 64) (b' := 100) C hr rfl wc_16 kF_Re_45 (is_16 hr) (by decide) rfl dd_Re_goDown_28 rfl ?_
  refine cw_callV (As := []) C kV_Re_80 wc_25 (is_25 hr) dd_Re_goDown_31 rfl rfl (Nat.le_of_ble_eq_true rfl) ⟨(Nat.le_of_ble_eq_true rfl), (Nat.le_of_ble_eq_true rfl)⟩ ⟨(Nat.le_of_ble_eq_true rfl), (Nat.le_of_ble_eq_true rfl)⟩ (mm_Dg_clear _ r hr) (nw_kv ?_)
  refine cw_aload_n C dd_Re_goDown_34 rfl ?_
  refine cw_gets (b := 64) (b' := 124) C hr rfl wc_16 kF_Re_63 (is_16 hr) (by decide) rfl dd_Re_goDown_35 rfl ?_
  refine cw_callV (As := []) C kV_Re_81 wc_31 (is_31 hr) dd_Re_goDown_38 rfl rfl (Nat.le_of_ble_eq_true rfl) ⟨(Nat.le_of_ble_eq_true rfl), (Nat.le_of_ble_eq_true rfl)⟩ ⟨(Nat.le_of_ble_eq_true rfl), (Nat.le_of_ble_eq_true rfl)⟩ (mm_Co_clear _ r hr) (nw_kv ?_)
  refine cw_aload_n C dd_Re_goDown_41 rfl ?_
  refine cw_gets (b := 64) (b' := 112) C hr rfl wc_16 kF_Re_54 (is_16 hr) (by decide) rfl dd_Re_goDown_42 rfl ?_
  refine cw_callV (As := []) C kV_Re_82 wc_28 (is_28 hr) dd_Re_goDown_45 rfl rfl (Nat.le_of_ble_eq_true rfl) ⟨(Nat.le_of_ble_eq_true rfl), (Nat.le_of_ble_eq_true rfl)⟩ ⟨(Nat.le_of_ble_eq_true rfl), (Nat.le_of_ble_eq_true rfl)⟩ (mm_Bk_clear _ r hr) (nw_kv ?_)
  exact cw_vreturn C dd_Re_goDown_48 (Nat.le_of_ble_eq_true rfl) (Nat.le_of_ble_eq_true rfl) ⟨_, rfl, rfl, ⟨rfl, rfl⟩⟩
set_option maxRecDepth 100000 in
set_option maxHeartbeats 4000000 in
theorem mm_Re_writeRecord_dn (X : wx_S) (r : Nat) (hr : r < 4) (h1 : X (64 + r) 11 < 4294967296) (h2 : X (64 + r) 12 < 4294967296) (hc : zc_cut X r) : nw_M wd_all yy_Re_writeRecord cc_Re_writeRecord 1 (some .boolean) 4 0 0 [.ref (64 + r)] X (fun v X' => v = some (.int (nI 0)) ∧ X' = zc_goDown X r) := by
  refine nw_of [some (.ref (64 + r))] (by decide +kernel) rfl (Nat.le_of_ble_eq_true rfl) rfl ?_
  intro p l e s m args below meth c A g C
  refine cw_aload_n C dd_Re_writeRecord_0 rfl ?_
  refine nw_geti C wc_16 kF_Re_67 (is_16 hr) (by decide) rfl dd_Re_writeRecord_1 ?_
  refine nw_if_eq (tgt := 20) C dd_Re_writeRecord_4 (by decide) (by first | omega | (simp [wx_u] <;> omega)) (fun h4 => ?_) (fun h4 => ?_)
  · exact absurd h4 hc.1
  · refine cw_aload_n C dd_Re_writeRecord_7 rfl ?_
    refine nw_geti C wc_16 kF_Re_86 (is_16 hr) (by decide) rfl dd_Re_writeRecord_8 ?_
    refine nw_if_ne (tgt := 20) C dd_Re_writeRecord_11 (by decide) (by first | omega | (simp [wx_u] <;> omega)) (fun h11 => ?_) (fun h11 => ?_)
    · exact absurd hc.2 h11
    · refine cw_aload_n C dd_Re_writeRecord_14 rfl ?_
      refine cw_callV (As := []) C kV_Re_89 wc_16 (is_16 hr) dd_Re_writeRecord_15 rfl rfl (Nat.le_of_ble_eq_true rfl) ⟨(Nat.le_of_ble_eq_true rfl), (Nat.le_of_ble_eq_true rfl)⟩ ⟨(Nat.le_of_ble_eq_true rfl), (Nat.le_of_ble_eq_true rfl)⟩ (mm_Re_goDown X r hr) (nw_kv ?_)
      refine cw_iconst (v := nI 0) C dd_Re_writeRecord_18 (by decide +kernel) ?_
      exact cw_zreturn C dd_Re_writeRecord_19 (nw_zn (by decide)) (Nat.le_of_ble_eq_true rfl) (Nat.le_of_ble_eq_true rfl) ⟨_, rfl, rfl, ⟨rfl, rfl⟩⟩
set_option maxRecDepth 100000 in
set_option maxHeartbeats 4000000 in
theorem mm_Re_writeRecord_ok (X : wx_S) (r : Nat) (hr : r < 4) (h1 : X (64 + r) 11 < 4294967296) (h2 : X (64 + r) 12 < 4294967296) (hc : ¬ zc_cut X r) : nw_M wd_all yy_Re_writeRecord cc_Re_writeRecord 1 (some .boolean) 4 0 0 [.ref (64 + r)] X (fun v X' => v = some (.int (nI 1)) ∧ X' = zc_wrote X r) := by
  refine nw_of [some (.ref (64 + r))] (by decide +kernel) rfl (Nat.le_of_ble_eq_true rfl) rfl ?_
  intro p l e s m args below meth c A g C
  refine cw_aload_n C dd_Re_writeRecord_0 rfl ?_
  refine nw_geti C wc_16 kF_Re_67 (is_16 hr) (by decide) rfl dd_Re_writeRecord_1 ?_
  refine nw_if_eq (tgt := 20) C dd_Re_writeRecord_4 (by decide) (by first | omega | (simp [wx_u] <;> omega)) (fun h4 => ?_) (fun h4 => ?_)
  · refine cw_aload_n C dd_Re_writeRecord_20 rfl ?_
    refine nw_geti C wc_16 kF_Re_67 (is_16 hr) (by decide) rfl dd_Re_writeRecord_21 ?_
    refine nw_if_eq (tgt := 37) C dd_Re_writeRecord_24 (by decide) (by first | omega | (simp [wx_u] <;> omega)) (fun h24 => ?_) (fun h24 => ?_)
    · refine cw_aload_n C dd_Re_writeRecord_37 rfl ?_
      refine cw_gets (b := 64) (b' := 68) C hr rfl wc_16 kF_Re_12 (is_16 hr) (by decide) rfl dd_Re_writeRecord_38 rfl ?_
      refine cw_dup C dd_Re_writeRecord_41 rfl ?_
      refine nw_geti C wc_17 kF_Re_92 (is_17 hr) (by decide) rfl dd_Re_writeRecord_42 ?_
      refine cw_iconst (v := nI 1) C dd_Re_writeRecord_45 (by decide +kernel) ?_
      refine nw_iadd C dd_Re_writeRecord_46 ?_
      refine nw_puti C wc_17 kF_Re_92 (is_17 hr) (by decide) rfl rfl rfl rfl dd_Re_writeRecord_47 ?_
      refine cw_iconst (v := nI 1) C dd_Re_writeRecord_50 (by decide +kernel) ?_
      exact cw_zreturn C dd_Re_writeRecord_51 (nw_zn (by decide)) (Nat.le_of_ble_eq_true rfl) (Nat.le_of_ble_eq_true rfl) ⟨_, rfl, rfl, ⟨rfl, by first | (rw [zc_wrote, if_pos h24]; done) | (rw [zc_wrote, if_neg h24])⟩⟩
    · refine cw_aload_n C dd_Re_writeRecord_27 rfl ?_
      refine cw_dup C dd_Re_writeRecord_28 rfl ?_
      refine nw_geti C wc_16 kF_Re_86 (is_16 hr) (by decide) rfl dd_Re_writeRecord_29 ?_
      refine cw_iconst (v := nI 1) C dd_Re_writeRecord_32 (by decide +kernel) ?_
      refine nw_isub C dd_Re_writeRecord_33 (by first | omega | (simp [wx_u] <;> omega)) ?_
      refine nw_puti C wc_16 kF_Re_86 (is_16 hr) (by decide) rfl rfl rfl rfl dd_Re_writeRecord_34 ?_
      refine cw_aload_n C dd_Re_writeRecord_37 rfl ?_
      refine cw_gets (b := 64) (b' := 68) C hr rfl wc_16 kF_Re_12 (is_16 hr) (by decide) rfl dd_Re_writeRecord_38 rfl ?_
      refine cw_dup C dd_Re_writeRecord_41 rfl ?_
      refine nw_getiv C (X (68 + r) 6) wc_17 kF_Re_92 (is_17 hr) (by decide) rfl dd_Re_writeRecord_42 (by repeat (first | rfl | rw [wx_u_eq] | rw [wx_u_nc (by omega)] | rw [wx_u_nk (by omega)])) ?_
      refine cw_iconst (v := nI 1) C dd_Re_writeRecord_45 (by decide +kernel) ?_
      refine nw_iadd C dd_Re_writeRecord_46 ?_
      refine nw_puti C wc_17 kF_Re_92 (is_17 hr) (by decide) rfl rfl rfl rfl dd_Re_writeRecord_47 ?_
      refine cw_iconst (v := nI 1) C dd_Re_writeRecord_50 (by decide +kernel) ?_
      exact cw_zreturn C dd_Re_writeRecord_51 (nw_zn (by decide)) (Nat.le_of_ble_eq_true rfl) (Nat.le_of_ble_eq_true rfl) ⟨_, rfl, rfl, ⟨rfl, by first | (rw [zc_wrote, if_pos h24]; done) | (rw [zc_wrote, if_neg h24])⟩⟩
  · refine cw_aload_n C dd_Re_writeRecord_7 rfl ?_
    refine nw_geti C wc_16 kF_Re_86 (is_16 hr) (by decide) rfl dd_Re_writeRecord_8 ?_
    refine nw_if_ne (tgt := 20) C dd_Re_writeRecord_11 (by decide) (by first | omega | (simp [wx_u] <;> omega)) (fun h11 => ?_) (fun h11 => ?_)
    · refine cw_aload_n C dd_Re_writeRecord_20 rfl ?_
      refine nw_geti C wc_16 kF_Re_67 (is_16 hr) (by decide) rfl dd_Re_writeRecord_21 ?_
      refine nw_if_eq (tgt := 37) C dd_Re_writeRecord_24 (by decide) (by first | omega | (simp [wx_u] <;> omega)) (fun h24 => ?_) (fun h24 => ?_)
      · refine cw_aload_n C dd_Re_writeRecord_37 rfl ?_
        refine cw_gets (b := 64) (b' := 68) C hr rfl wc_16 kF_Re_12 (is_16 hr) (by decide) rfl dd_Re_writeRecord_38 rfl ?_
        refine cw_dup C dd_Re_writeRecord_41 rfl ?_
        refine nw_geti C wc_17 kF_Re_92 (is_17 hr) (by decide) rfl dd_Re_writeRecord_42 ?_
        refine cw_iconst (v := nI 1) C dd_Re_writeRecord_45 (by decide +kernel) ?_
        refine nw_iadd C dd_Re_writeRecord_46 ?_
        refine nw_puti C wc_17 kF_Re_92 (is_17 hr) (by decide) rfl rfl rfl rfl dd_Re_writeRecord_47 ?_
        refine cw_iconst (v := nI 1) C dd_Re_writeRecord_50 (by decide +kernel) ?_
        exact cw_zreturn C dd_Re_writeRecord_51 (nw_zn (by decide)) (Nat.le_of_ble_eq_true rfl) (Nat.le_of_ble_eq_true rfl) ⟨_, rfl, rfl, ⟨rfl, by first | (rw [zc_wrote, if_pos h24]; done) | (rw [zc_wrote, if_neg h24])⟩⟩
      · refine cw_aload_n C dd_Re_writeRecord_27 rfl ?_
        refine cw_dup C dd_Re_writeRecord_28 rfl ?_
        refine nw_geti C wc_16 kF_Re_86 (is_16 hr) (by decide) rfl dd_Re_writeRecord_29 ?_
        refine cw_iconst (v := nI 1) C dd_Re_writeRecord_32 (by decide +kernel) ?_
        refine nw_isub C dd_Re_writeRecord_33 (by first | omega | (simp [wx_u] <;> omega)) ?_
        refine nw_puti C wc_16 kF_Re_86 (is_16 hr) (by decide) rfl rfl rfl rfl dd_Re_writeRecord_34 ?_
        refine cw_aload_n C dd_Re_writeRecord_37 rfl ?_
        refine cw_gets (b := 64) (b' := 68) C hr rfl wc_16 kF_Re_12 (is_16 hr) (by decide) rfl dd_Re_writeRecord_38 rfl ?_
        refine cw_dup C dd_Re_writeRecord_41 rfl ?_
        refine nw_getiv C (X (68 + r) 6) wc_17 kF_Re_92 (is_17 hr) (by decide) rfl dd_Re_writeRecord_42 (by repeat (first | rfl | rw [wx_u_eq] | rw [wx_u_nc (by omega)] | rw [wx_u_nk (by omega)])) ?_
        refine cw_iconst (v := nI 1) C dd_Re_writeRecord_45 (by decide +kernel) ?_
        refine nw_iadd C dd_Re_writeRecord_46 ?_
        refine nw_puti C wc_17 kF_Re_92 (is_17 hr) (by decide) rfl rfl rfl rfl dd_Re_writeRecord_47 ?_
        refine cw_iconst (v := nI 1) C dd_Re_writeRecord_50 (by decide +kernel) ?_
        exact cw_zreturn C dd_Re_writeRecord_51 (nw_zn (by decide)) (Nat.le_of_ble_eq_true rfl) (Nat.le_of_ble_eq_true rfl) ⟨_, rfl, rfl, ⟨rfl, by first | (rw [zc_wrote, if_pos h24]; done) | (rw [zc_wrote, if_neg h24])⟩⟩
    · exact absurd ⟨h4, h11⟩ hc
set_option maxRecDepth 100000 in
set_option maxHeartbeats 4000000 in
theorem mm_Re_comeUp (X : wx_S) (r : Nat) (hr : r < 4) : nw_M wd_all yy_Re_comeUp cc_Re_comeUp 1 none 3 0 0 [.ref (64 + r)] X (fun v X' => v = none ∧ X' = zz_fill (wx_u X (64 + r) 8 1) (120 + r) 4 100) := by
  refine nw_of [some (.ref (64 + r))] (by decide +kernel) rfl (Nat.le_of_ble_eq_true rfl) rfl ?_
  intro p l e s m args below meth c A g C
  refine cw_aload_n C dd_Re_comeUp_0 rfl ?_
  refine cw_iconst (v := nI 1) C dd_Re_comeUp_1 (by decide +kernel) ?_
  refine nw_puti C wc_16 kF_Re_25 (is_16 hr) (by decide) rfl rfl rfl rfl dd_Re_comeUp_2 ?_
  refine cw_aload_n C dd_Re_comeUp_5 rfl ?_
  refine cw_gets (b := 64) (b' := 112) C hr rfl wc_16 kF_Re_54 (is_16 hr) (by decide) rfl dd_Re_comeUp_6 rfl ?_
  refine cw_callV (As := []) C kV_Re_83 wc_28 (is_28 hr) dd_Re_comeUp_9 rfl rfl (Nat.le_of_ble_eq_true rfl) ⟨(Nat.le_of_ble_eq_true rfl), (Nat.le_of_ble_eq_true rfl)⟩ ⟨(Nat.le_of_ble_eq_true rfl), (Nat.le_of_ble_eq_true rfl)⟩ (mm_Bk_open _ r hr) (nw_kv ?_)
  exact cw_vreturn C dd_Re_comeUp_12 (Nat.le_of_ble_eq_true rfl) (Nat.le_of_ble_eq_true rfl) ⟨_, rfl, rfl, ⟨by first | rfl | simp [wx_u], by first | rfl | simp [wx_u]⟩⟩
set_option maxRecDepth 100000 in
set_option maxHeartbeats 4000000 in
theorem mm_Re_setCut (X : wx_S) (r : Nat) (hr : r < 4) (k : Nat) : nw_M wd_all yy_Re_setCut cc_Re_setCut 2 none 1 0 0 [.ref (64 + r), .int (nI k)] X (fun v X' => v = none ∧ X' = wx_u (wx_u X (64 + r) 11 1) (64 + r) 12 k) := by
  refine nw_of [some (.ref (64 + r)), some (.int (nI k))] (by decide +kernel) rfl (Nat.le_of_ble_eq_true rfl) rfl ?_
  intro p l e s m args below meth c A g C
  refine cw_aload_n C dd_Re_setCut_0 rfl ?_
  refine cw_iconst (v := nI 1) C dd_Re_setCut_1 (by decide +kernel) ?_
  refine nw_puti C wc_16 kF_Re_67 (is_16 hr) (by decide) rfl rfl (nw_zn (by decide)) (nw_zf (by decide)) dd_Re_setCut_2 ?_
  refine cw_aload_n C dd_Re_setCut_5 rfl ?_
  refine cw_iload_n C dd_Re_setCut_6 rfl ?_
  refine nw_puti C wc_16 kF_Re_86 (is_16 hr) (by decide) rfl rfl rfl rfl dd_Re_setCut_7 ?_
  exact cw_vreturn C dd_Re_setCut_10 (Nat.le_of_ble_eq_true rfl) (Nat.le_of_ble_eq_true rfl) ⟨_, rfl, rfl, ⟨by first | rfl | simp [wx_u], by first | rfl | simp [wx_u]⟩⟩
end
section
/-- a vertex's echo or ready goes out: b is the disk's array (76 + r or 80 + r), k the kind -/
def zc_ans (X : wx_S) (r b k u : Nat) : wx_S := if zc_cut X r then zc_goDown X r else zc_post (wx_u (zc_wrote X r) b (X 24 u) (X b (X 24 u) ||| 2 ^ X 28 u)) k r u
def zc_tkS (X : wx_S) (r u q : Nat) : wx_S := if q = X 24 u ∧ zc_wf X u ∧ ¬ X (76 + r) (X 24 u) / 2 ^ X 28 u % 2 = 1 then zc_ans X r (76 + r) 1 u else X
def zc_bec (X : wx_S) (r u : Nat) : wx_S := if X (80 + r) (X 24 u) / 2 ^ X 28 u % 2 = 1 then X else zc_ans X r (80 + r) 2 u
theorem mm_Bo_post' (X : wx_S) (k q u : Nat) (hc : X 44 3 < 802) : nw_M wd_all yy_Bo_post cc_Bo_post 4 (some .int) 1 0 0 [.ref 44, .int (nI k), .int (nI q), .int (nI u)] X (fun v X' => v = some (.int (nI (X 44 3))) ∧ X' = zc_post X k q u) := mm_Bo_post X k q u hc
/-- what a node needs to take something: ranges of its own cells -/
def zc_N (X : wx_S) (r : Nat) : Prop := X (64 + r) 0 = r ∧ X (64 + r) 11 < 4294967296 ∧ X (64 + r) 12 < 4294967296 ∧ (∀ a, a < 4 → X (76 + r) a < 2 ^ 15 ∧ X (80 + r) a < 2 ^ 15) ∧ (∀ u, u < 90 → X (88 + r) u < 16 ∧ X (92 + r) u < 16)
set_option maxRecDepth 100000 in
set_option maxHeartbeats 4000000 in
theorem mm_Re_takeSend (X : wx_S) (r : Nat) (hr : r < 4) (u q : Nat) (hV : zc_V X) (hN : zc_N X r) (hu : u < X 20 5) (hm : X 44 3 < 802) (hq : q < 4294967296) : nw_M wd_all yy_Re_takeSend cc_Re_takeSend 5 none 5 0 0 [.ref (64 + r), .int (nI u), .int (nI q)] X (fun v X' => v = none ∧ X' = zc_tkS X r u q) := by
  refine nw_of [some (.ref (64 + r)), some (.int (nI u)), some (.int (nI q)), none, none] (by decide +kernel) rfl (Nat.le_of_ble_eq_true rfl) rfl ?_
  intro p l e s m args below meth c A g C
  obtain ⟨hid, hc1, hc2, hdk, hnt⟩ := hN
  have g1 := hV.2.2.1 u hu
  have g2 := hV.1
  have g3 := hdk (X 24 u) g1.1
  refine cw_aload_n C dd_Re_takeSend_0 rfl ?_
  refine cw_getr (q' := 20) C wc_16 kF_Re_36 (is_16 hr) (by decide) rfl dd_Re_takeSend_1 rfl ?_
  refine cw_getr (q' := 24) C wc_5 kF_Re_126 is_5 (by decide) rfl dd_Re_takeSend_4 rfl ?_
  refine cw_iload_n C dd_Re_takeSend_7 rfl ?_
  refine nw_iald C is_6 (by first | omega | (simp [wx_u] <;> omega)) (by decide) dd_Re_takeSend_8 ?_
  refine cw_istore_n C dd_Re_takeSend_9 (Nat.le_of_ble_eq_true rfl) ?_
  refine cw_aload_n C dd_Re_takeSend_10 rfl ?_
  refine cw_getr (q' := 20) C wc_16 kF_Re_36 (is_16 hr) (by decide) rfl dd_Re_takeSend_11 rfl ?_
  refine cw_getr (q' := 28) C wc_5 kF_Re_131 is_5 (by decide) rfl dd_Re_takeSend_14 rfl ?_
  refine cw_iload_n C dd_Re_takeSend_17 rfl ?_
  refine nw_iald C is_7 (by first | omega | (simp [wx_u] <;> omega)) (by decide) dd_Re_takeSend_18 ?_
  refine cw_istore C dd_Re_takeSend_19 (Nat.le_of_ble_eq_true rfl) ?_
  refine cw_iload_n C dd_Re_takeSend_21 rfl ?_
  refine cw_iload_n C dd_Re_takeSend_22 rfl ?_
  refine nw_icmp_ne (tgt := 54) C dd_Re_takeSend_23 (by decide) (by first | omega | (simp [wx_u] <;> omega)) (by first | omega | (simp [wx_u] <;> omega)) (fun h23 => ?_) (fun h23 => ?_)
  · exact cw_vreturn C dd_Re_takeSend_54 (Nat.le_of_ble_eq_true rfl) (Nat.le_of_ble_eq_true rfl) ⟨_, rfl, rfl, ⟨rfl, by first | exact (if_neg (fun z => h23 z.1)).symm | exact (if_neg (fun z => h34 z.2.1)).symm | exact (if_neg (fun z => z.2.2 h51)).symm⟩⟩
  · refine cw_aload_n C dd_Re_takeSend_26 rfl ?_
    refine cw_getr (q' := 20) C wc_16 kF_Re_36 (is_16 hr) (by decide) rfl dd_Re_takeSend_27 rfl ?_
    refine cw_iload_n C dd_Re_takeSend_30 rfl ?_
    refine cw_callV (As := [_]) C kV_Re_134 wc_5 is_5 dd_Re_takeSend_31 rfl rfl (Nat.le_of_ble_eq_true rfl) ⟨(Nat.le_of_ble_eq_true rfl), (Nat.le_of_ble_eq_true rfl)⟩ ⟨(Nat.le_of_ble_eq_true rfl), (Nat.le_of_ble_eq_true rfl)⟩ (mm_Ve_isWellFormed X u (by omega) (by omega) g1.2.2.2.1) (nw_ki ?_)
    refine nw_zeq (tgt := 54) C dd_Re_takeSend_34 (by decide) (fun h34 => ?_) (fun h34 => ?_)
    · exact cw_vreturn C dd_Re_takeSend_54 (Nat.le_of_ble_eq_true rfl) (Nat.le_of_ble_eq_true rfl) ⟨_, rfl, rfl, ⟨rfl, by first | exact (if_neg (fun z => h23 z.1)).symm | exact (if_neg (fun z => h34 z.2.1)).symm | exact (if_neg (fun z => z.2.2 h51)).symm⟩⟩
    · refine cw_aload_n C dd_Re_takeSend_37 rfl ?_
      refine cw_gets (b := 64) (b' := 68) C hr rfl wc_16 kF_Re_12 (is_16 hr) (by decide) rfl dd_Re_takeSend_38 rfl ?_
      refine cw_gets (b := 68) (b' := 76) C hr rfl wc_17 kF_Re_138 (is_17 hr) (by decide) rfl dd_Re_takeSend_41 rfl ?_
      refine cw_iload_n C dd_Re_takeSend_44 rfl ?_
      refine nw_iald C (is_19 hr) (by first | omega | (simp [wx_u] <;> omega)) (by decide) dd_Re_takeSend_45 ?_
      refine cw_iload C dd_Re_takeSend_46 rfl ?_
      refine cw_callSN (As := [_, _]) C kS_Re_141 dd_Re_takeSend_48 rfl rfl (Nat.le_of_ble_eq_true rfl) ⟨(Nat.le_of_ble_eq_true rfl), (Nat.le_of_ble_eq_true rfl)⟩ ⟨(Nat.le_of_ble_eq_true rfl), (Nat.le_of_ble_eq_true rfl)⟩ (mm_Le_contains X _ _ (by omega) (by omega)) (nw_ki ?_)
      refine nw_zeq (tgt := 55) C dd_Re_takeSend_51 (by decide) (fun h51 => ?_) (fun h51 => ?_)
      · refine cw_aload_n C dd_Re_takeSend_55 rfl ?_
        by_cases hcut : zc_cut X r
        · refine cw_callV (As := []) C kV_Re_145 wc_16 (is_16 hr) dd_Re_takeSend_56 rfl rfl (Nat.le_of_ble_eq_true rfl) ⟨(Nat.le_of_ble_eq_true rfl), (Nat.le_of_ble_eq_true rfl)⟩ ⟨(Nat.le_of_ble_eq_true rfl), (Nat.le_of_ble_eq_true rfl)⟩ (mm_Re_writeRecord_dn X r hr hc1 hc2 hcut) (nw_ki ?_)
          refine nw_if_eq (tgt := 92) C dd_Re_takeSend_59 (by decide) (by decide) (fun h59 => ?_) (fun h59 => ?_)
          · exact cw_vreturn C dd_Re_takeSend_92 (Nat.le_of_ble_eq_true rfl) (Nat.le_of_ble_eq_true rfl) ⟨_, rfl, rfl, ⟨rfl, by rw [zc_tkS, if_pos ⟨h23, h34, h51⟩, zc_ans]; first | (rw [if_pos hcut]; done) | (rw [if_neg hcut])⟩⟩
          · exact absurd rfl h59
        · refine cw_callV (As := []) C kV_Re_145 wc_16 (is_16 hr) dd_Re_takeSend_56 rfl rfl (Nat.le_of_ble_eq_true rfl) ⟨(Nat.le_of_ble_eq_true rfl), (Nat.le_of_ble_eq_true rfl)⟩ ⟨(Nat.le_of_ble_eq_true rfl), (Nat.le_of_ble_eq_true rfl)⟩ (mm_Re_writeRecord_ok X r hr hc1 hc2 hcut) (nw_ki ?_)
          refine nw_if_eq (tgt := 92) C dd_Re_takeSend_59 (by decide) (by decide) (fun h59 => ?_) (fun h59 => ?_)
          · exact absurd h59 (by decide)
          · refine cw_aload_n C dd_Re_takeSend_62 rfl ?_
            refine cw_gets (b := 64) (b' := 68) C hr rfl wc_16 kF_Re_12 (is_16 hr) (by decide) rfl dd_Re_takeSend_63 rfl ?_
            refine cw_gets (b := 68) (b' := 76) C hr rfl wc_17 kF_Re_138 (is_17 hr) (by decide) rfl dd_Re_takeSend_66 rfl ?_
            refine cw_iload_n C dd_Re_takeSend_69 rfl ?_
            refine cw_dup2 C dd_Re_takeSend_70 rfl rfl ?_
            refine nw_ialdv C (X (76 + r) (X 24 u)) (is_19 hr) (by omega) (by decide) dd_Re_takeSend_71 (zc_wrote_oth _ _ _ (by omega) (by omega)) ?_
            refine cw_iconst (v := nI 1) C dd_Re_takeSend_72 (by decide +kernel) ?_
            refine cw_iload C dd_Re_takeSend_73 rfl ?_
            refine nw_ishl C dd_Re_takeSend_75 (by first | omega | (simp [wx_u] <;> omega)) ?_
            refine nw_ior C dd_Re_takeSend_76 ?_
            rw [Nat.one_mul]
            refine nw_iast C (is_19 hr) (by first | omega | (simp [wx_u] <;> omega)) (by decide) dd_Re_takeSend_77 ?_
            refine cw_aload_n C dd_Re_takeSend_78 rfl ?_
            refine cw_getr (q' := 44) C wc_16 kF_Re_32 (is_16 hr) (by decide) rfl dd_Re_takeSend_79 rfl ?_
            refine cw_iconst (v := nI 1) C dd_Re_takeSend_82 (by decide +kernel) ?_
            refine cw_aload_n C dd_Re_takeSend_83 rfl ?_
            refine nw_getiv C r wc_16 kF_Re_29 (is_16 hr) (by decide) rfl dd_Re_takeSend_84 (by rw [wx_u_nc (by omega)]; rw [zc_wrote]; rw [wx_u_nc (by omega)]; split; exact hid; rw [wx_u_nk (by decide)]; exact hid) ?_
            refine cw_iload_n C dd_Re_takeSend_87 rfl ?_
            refine cw_callV (As := [_, _, _]) C kV_Re_149 wc_11 is_11 dd_Re_takeSend_88 rfl rfl (Nat.le_of_ble_eq_true rfl) ⟨(Nat.le_of_ble_eq_true rfl), (Nat.le_of_ble_eq_true rfl)⟩ ⟨(Nat.le_of_ble_eq_true rfl), (Nat.le_of_ble_eq_true rfl)⟩ (mm_Bo_post' _ _ _ _ (by rw [wx_u_nc (by omega), zc_wrote_oth _ _ _ (by omega) (by omega)]; exact hm)) (nw_ki ?_)
            refine cw_pop C dd_Re_takeSend_91 rfl ?_
            exact cw_vreturn C dd_Re_takeSend_92 (Nat.le_of_ble_eq_true rfl) (Nat.le_of_ble_eq_true rfl) ⟨_, rfl, rfl, ⟨rfl, by rw [zc_tkS, if_pos ⟨h23, h34, h51⟩, zc_ans]; first | (rw [if_pos hcut]; done) | (rw [if_neg hcut])⟩⟩
      · exact cw_vreturn C dd_Re_takeSend_54 (Nat.le_of_ble_eq_true rfl) (Nat.le_of_ble_eq_true rfl) ⟨_, rfl, rfl, ⟨rfl, by first | exact (if_neg (fun z => h23 z.1)).symm | exact (if_neg (fun z => h34 z.2.1)).symm | exact (if_neg (fun z => z.2.2 h51)).symm⟩⟩
set_option maxRecDepth 100000 in
set_option maxHeartbeats 4000000 in
theorem mm_Re_becomeReady (X : wx_S) (r : Nat) (hr : r < 4) (u : Nat) (hV : zc_V X) (hN : zc_N X r) (hu : u < X 20 5) (hm : X 44 3 < 802) : nw_M wd_all yy_Re_becomeReady cc_Re_becomeReady 4 none 5 0 0 [.ref (64 + r), .int (nI u)] X (fun v X' => v = none ∧ X' = zc_bec X r u) := by
  refine nw_of [some (.ref (64 + r)), some (.int (nI u)), none, none] (by decide +kernel) rfl (Nat.le_of_ble_eq_true rfl) rfl ?_
  intro p l e s m args below meth c A g C
  obtain ⟨hid, hc1, hc2, hdk, hnt⟩ := hN
  have g1 := hV.2.2.1 u hu
  have g2 := hV.1
  have g3 := hdk (X 24 u) g1.1
  refine cw_aload_n C dd_Re_becomeReady_0 rfl ?_
  refine cw_getr (q' := 20) C wc_16 kF_Re_36 (is_16 hr) (by decide) rfl dd_Re_becomeReady_1 rfl ?_
  refine cw_getr (q' := 24) C wc_5 kF_Re_126 is_5 (by decide) rfl dd_Re_becomeReady_4 rfl ?_
  refine cw_iload_n C dd_Re_becomeReady_7 rfl ?_
  refine nw_iald C is_6 (by first | omega | (simp [wx_u] <;> omega)) (by decide) dd_Re_becomeReady_8 ?_
  refine cw_istore_n C dd_Re_becomeReady_9 (Nat.le_of_ble_eq_true rfl) ?_
  refine cw_aload_n C dd_Re_becomeReady_10 rfl ?_
  refine cw_getr (q' := 20) C wc_16 kF_Re_36 (is_16 hr) (by decide) rfl dd_Re_becomeReady_11 rfl ?_
  refine cw_getr (q' := 28) C wc_5 kF_Re_131 is_5 (by decide) rfl dd_Re_becomeReady_14 rfl ?_
  refine cw_iload_n C dd_Re_becomeReady_17 rfl ?_
  refine nw_iald C is_7 (by first | omega | (simp [wx_u] <;> omega)) (by decide) dd_Re_becomeReady_18 ?_
  refine cw_istore_n C dd_Re_becomeReady_19 (Nat.le_of_ble_eq_true rfl) ?_
  refine cw_aload_n C dd_Re_becomeReady_20 rfl ?_
  refine cw_gets (b := 64) (b' := 68) C hr rfl wc_16 kF_Re_12 (is_16 hr) (by decide) rfl dd_Re_becomeReady_21 rfl ?_
  refine cw_gets (b := 68) (b' := 80) C hr rfl wc_17 kF_Re_163 (is_17 hr) (by decide) rfl dd_Re_becomeReady_24 rfl ?_
  refine cw_iload_n C dd_Re_becomeReady_27 rfl ?_
  refine nw_iald C (is_20 hr) (by first | omega | (simp [wx_u] <;> omega)) (by decide) dd_Re_becomeReady_28 ?_
  refine cw_iload_n C dd_Re_becomeReady_29 rfl ?_
  refine cw_callSN (As := [_, _]) C kS_Re_141 dd_Re_becomeReady_30 rfl rfl (Nat.le_of_ble_eq_true rfl) ⟨(Nat.le_of_ble_eq_true rfl), (Nat.le_of_ble_eq_true rfl)⟩ ⟨(Nat.le_of_ble_eq_true rfl), (Nat.le_of_ble_eq_true rfl)⟩ (mm_Le_contains X _ _ (by omega) (by omega)) (nw_ki ?_)
  refine nw_zeq (tgt := 37) C dd_Re_becomeReady_33 (by decide) (fun h33 => ?_) (fun h33 => ?_)
  · refine cw_aload_n C dd_Re_becomeReady_37 rfl ?_
    by_cases hcut : zc_cut X r
    · refine cw_callV (As := []) C kV_Re_145 wc_16 (is_16 hr) dd_Re_becomeReady_38 rfl rfl (Nat.le_of_ble_eq_true rfl) ⟨(Nat.le_of_ble_eq_true rfl), (Nat.le_of_ble_eq_true rfl)⟩ ⟨(Nat.le_of_ble_eq_true rfl), (Nat.le_of_ble_eq_true rfl)⟩ (mm_Re_writeRecord_dn X r hr hc1 hc2 hcut) (nw_ki ?_)
      refine nw_if_eq (tgt := 73) C dd_Re_becomeReady_41 (by decide) (by decide) (fun h41 => ?_) (fun h41 => ?_)
      · exact cw_vreturn C dd_Re_becomeReady_73 (Nat.le_of_ble_eq_true rfl) (Nat.le_of_ble_eq_true rfl) ⟨_, rfl, rfl, ⟨rfl, by rw [zc_bec, if_neg h33, zc_ans]; first | (rw [if_pos hcut]; done) | (rw [if_neg hcut])⟩⟩
      · exact absurd rfl h41
    · refine cw_callV (As := []) C kV_Re_145 wc_16 (is_16 hr) dd_Re_becomeReady_38 rfl rfl (Nat.le_of_ble_eq_true rfl) ⟨(Nat.le_of_ble_eq_true rfl), (Nat.le_of_ble_eq_true rfl)⟩ ⟨(Nat.le_of_ble_eq_true rfl), (Nat.le_of_ble_eq_true rfl)⟩ (mm_Re_writeRecord_ok X r hr hc1 hc2 hcut) (nw_ki ?_)
      refine nw_if_eq (tgt := 73) C dd_Re_becomeReady_41 (by decide) (by decide) (fun h41 => ?_) (fun h41 => ?_)
      · exact absurd h41 (by decide)
      · refine cw_aload_n C dd_Re_becomeReady_44 rfl ?_
        refine cw_gets (b := 64) (b' := 68) C hr rfl wc_16 kF_Re_12 (is_16 hr) (by decide) rfl dd_Re_becomeReady_45 rfl ?_
        refine cw_gets (b := 68) (b' := 80) C hr rfl wc_17 kF_Re_163 (is_17 hr) (by decide) rfl dd_Re_becomeReady_48 rfl ?_
        refine cw_iload_n C dd_Re_becomeReady_51 rfl ?_
        refine cw_dup2 C dd_Re_becomeReady_52 rfl rfl ?_
        refine nw_ialdv C (X (80 + r) (X 24 u)) (is_20 hr) (by omega) (by decide) dd_Re_becomeReady_53 (zc_wrote_oth _ _ _ (by omega) (by omega)) ?_
        refine cw_iconst (v := nI 1) C dd_Re_becomeReady_54 (by decide +kernel) ?_
        refine cw_iload_n C dd_Re_becomeReady_55 rfl ?_
        refine nw_ishl C dd_Re_becomeReady_56 (by first | omega | (simp [wx_u] <;> omega)) ?_
        refine nw_ior C dd_Re_becomeReady_57 ?_
        rw [Nat.one_mul]
        refine nw_iast C (is_20 hr) (by first | omega | (simp [wx_u] <;> omega)) (by decide) dd_Re_becomeReady_58 ?_
        refine cw_aload_n C dd_Re_becomeReady_59 rfl ?_
        refine cw_getr (q' := 44) C wc_16 kF_Re_32 (is_16 hr) (by decide) rfl dd_Re_becomeReady_60 rfl ?_
        refine cw_iconst (v := nI 2) C dd_Re_becomeReady_63 (by decide +kernel) ?_
        refine cw_aload_n C dd_Re_becomeReady_64 rfl ?_
        refine nw_getiv C r wc_16 kF_Re_29 (is_16 hr) (by decide) rfl dd_Re_becomeReady_65 (by rw [wx_u_nc (by omega)]; rw [zc_wrote]; rw [wx_u_nc (by omega)]; split; exact hid; rw [wx_u_nk (by decide)]; exact hid) ?_
        refine cw_iload_n C dd_Re_becomeReady_68 rfl ?_
        refine cw_callV (As := [_, _, _]) C kV_Re_149 wc_11 is_11 dd_Re_becomeReady_69 rfl rfl (Nat.le_of_ble_eq_true rfl) ⟨(Nat.le_of_ble_eq_true rfl), (Nat.le_of_ble_eq_true rfl)⟩ ⟨(Nat.le_of_ble_eq_true rfl), (Nat.le_of_ble_eq_true rfl)⟩ (mm_Bo_post' _ _ _ _ (by rw [wx_u_nc (by omega), zc_wrote_oth _ _ _ (by omega) (by omega)]; exact hm)) (nw_ki ?_)
        refine cw_pop C dd_Re_becomeReady_72 rfl ?_
        exact cw_vreturn C dd_Re_becomeReady_73 (Nat.le_of_ble_eq_true rfl) (Nat.le_of_ble_eq_true rfl) ⟨_, rfl, rfl, ⟨rfl, by rw [zc_bec, if_neg h33, zc_ans]; first | (rw [if_pos hcut]; done) | (rw [if_neg hcut])⟩⟩
  · exact cw_vreturn C dd_Re_becomeReady_36 (Nat.le_of_ble_eq_true rfl) (Nat.le_of_ble_eq_true rfl) ⟨_, rfl, rfl, ⟨rfl, (if_pos h33).symm⟩⟩
end
section
theorem zc_V_ext {X Y : wx_S} (e : ∀ c k, c < 44 → Y c k = X c k) (h : zc_V X) : zc_V Y := by
  unfold zc_V at *
  simp only [e 20 _ (by omega), e 4 _ (by omega), e 24 _ (by omega), e 28 _ (by omega), e 32 _ (by omega), e 36 _ (by omega), e 40 _ (by omega), e 8 _ (by omega), e 12 _ (by omega), e 16 _ (by omega)]
  exact h
def zc_nE (X : wx_S) (r u q : Nat) : wx_S := wx_u X (88 + r) u (X (88 + r) u ||| 2 ^ q)
def zc_nR (X : wx_S) (r u q : Nat) : wx_S := if zn_ones (X (92 + r) u) < 3 ∧ 3 ≤ zn_ones (X (92 + r) u ||| 2 ^ q) then wx_u (wx_u (wx_u X (92 + r) u (X (92 + r) u ||| 2 ^ q)) (96 + r) (X (84 + r) 3) u) (84 + r) 3 (X (84 + r) 3 + 1) else wx_u X (92 + r) u (X (92 + r) u ||| 2 ^ q)
theorem zc_nE_oth (X : wx_S) (r u q : Nat) {c : Nat} (k : Nat) (h : c ≠ 88 + r) : zc_nE X r u q c k = X c k := wx_u_nc h
theorem zc_nR_oth (X : wx_S) (r u q : Nat) {c : Nat} (k : Nat) (h1 : c ≠ 92 + r) (h2 : c ≠ 96 + r) (h3 : c ≠ 84 + r) : zc_nR X r u q c k = X c k := by
  unfold zc_nR
  split
  · rw [wx_u_nc h3, wx_u_nc h2, wx_u_nc h1]
  · rw [wx_u_nc h1]
theorem zc_nE_N {X : wx_S} {r u q : Nat} (hr : r < 4) (hu : u < 90) (hq : q < 4) (h : zc_N X r) : zc_N (zc_nE X r u q) r := by
  obtain ⟨h1, h2, h3, h4, h5⟩ := h
  refine ⟨?_, ?_, ?_, fun a ha => ?_, fun v hv => ?_⟩
  · rw [zc_nE_oth _ _ _ _ _ (by omega)]; exact h1
  · rw [zc_nE_oth _ _ _ _ _ (by omega)]; exact h2
  · rw [zc_nE_oth _ _ _ _ _ (by omega)]; exact h3
  · rw [zc_nE_oth _ _ _ _ _ (by omega), zc_nE_oth _ _ _ _ _ (by omega)]; exact h4 a ha
  · rw [zc_nE_oth (c := 92 + r) _ _ _ _ _ (by omega)]
    refine ⟨?_, (h5 v hv).2⟩
    by_cases e : v = u
    · subst e; rw [zc_nE, wx_u_eq]; exact zn_or16 (h5 v hv).1 (zn_pow4 hq)
    · rw [zc_nE, wx_u_nk e]; exact (h5 v hv).1
theorem zc_nR_rd (X : wx_S) (r u q v : Nat) (hr : r < 4) : zc_nR X r u q (92 + r) v = if v = u then X (92 + r) u ||| 2 ^ q else X (92 + r) v := by
  have e : ∀ Z : wx_S, (∀ k, Z (92 + r) k = wx_u X (92 + r) u (X (92 + r) u ||| 2 ^ q) (92 + r) k) → Z (92 + r) v = if v = u then X (92 + r) u ||| 2 ^ q else X (92 + r) v := by
    intro Z hZ
    rw [hZ]
    by_cases h : v = u
    · subst h; rw [wx_u_eq, if_pos rfl]
    · rw [wx_u_nk h, if_neg h]
  unfold zc_nR
  split
  · exact e _ (fun k => by rw [wx_u_nc (by omega), wx_u_nc (by omega)])
  · exact e _ (fun k => rfl)
theorem zc_nR_N {X : wx_S} {r u q : Nat} (hr : r < 4) (hu : u < 90) (hq : q < 4) (h : zc_N X r) : zc_N (zc_nR X r u q) r := by
  obtain ⟨h1, h2, h3, h4, h5⟩ := h
  refine ⟨?_, ?_, ?_, fun a ha => ?_, fun v hv => ?_⟩
  · rw [zc_nR_oth _ _ _ _ _ (by omega) (by omega) (by omega)]; exact h1
  · rw [zc_nR_oth _ _ _ _ _ (by omega) (by omega) (by omega)]; exact h2
  · rw [zc_nR_oth _ _ _ _ _ (by omega) (by omega) (by omega)]; exact h3
  · rw [zc_nR_oth _ _ _ _ _ (by omega) (by omega) (by omega), zc_nR_oth _ _ _ _ _ (by omega) (by omega) (by omega)]; exact h4 a ha
  · rw [zc_nR_oth (c := 88 + r) _ _ _ _ _ (by omega) (by omega) (by omega), zc_nR_rd _ _ _ _ _ hr]
    refine ⟨(h5 v hv).1, ?_⟩
    split
    · rename_i e; subst e; exact zn_or16 (h5 v hv).2 (zn_pow4 hq)
    · exact (h5 v hv).2
def zc_tkE (X : wx_S) (r u q : Nat) : wx_S := if zn_ones (X (88 + r) u ||| 2 ^ q) < 3 then zc_nE X r u q else zc_bec (zc_nE X r u q) r u
def zc_tkR (X : wx_S) (r u q : Nat) : wx_S := if zn_ones (X (92 + r) u ||| 2 ^ q) < 2 then zc_nR X r u q else zc_bec (zc_nR X r u q) r u
set_option maxRecDepth 100000 in
set_option maxHeartbeats 4000000 in
theorem mm_Re_takeEcho (X : wx_S) (r : Nat) (hr : r < 4) (u q : Nat) (hV : zc_V X) (hN : zc_N X r) (hu : u < X 20 5) (hq : q < 4) (hm : X 44 3 < 802) : nw_M wd_all yy_Re_takeEcho cc_Re_takeEcho 3 none 6 0 0 [.ref (64 + r), .int (nI u), .int (nI q)] X (fun v X' => v = none ∧ X' = zc_tkE X r u q) := by
  refine nw_of [some (.ref (64 + r)), some (.int (nI u)), some (.int (nI q))] (by decide +kernel) rfl (Nat.le_of_ble_eq_true rfl) rfl ?_
  intro p l e s m args below meth c A g C
  have g2 := hV.1
  have g3 := hN.2.2.2.2 u (by omega)
  refine cw_aload_n C dd_Re_takeEcho_0 rfl ?_
  refine cw_gets (b := 64) (b' := 84) C hr rfl wc_16 kF_Re_21 (is_16 hr) (by decide) rfl dd_Re_takeEcho_1 rfl ?_
  refine cw_iload_n C dd_Re_takeEcho_4 rfl ?_
  refine cw_iload_n C dd_Re_takeEcho_5 rfl ?_
  refine cw_callV (As := [_, _]) C kV_Re_153 wc_21 (is_21 hr) dd_Re_takeEcho_6 rfl rfl (Nat.le_of_ble_eq_true rfl) ⟨(Nat.le_of_ble_eq_true rfl), (Nat.le_of_ble_eq_true rfl)⟩ ⟨(Nat.le_of_ble_eq_true rfl), (Nat.le_of_ble_eq_true rfl)⟩ (mm_No_noteEcho X r hr u q (by omega) hq g3.1) (nw_ki ?_)
  refine cw_iconst (v := nI 3) C dd_Re_takeEcho_9 (by decide +kernel) ?_
  refine nw_icmp_lt (tgt := 18) C dd_Re_takeEcho_10 (by decide) (by have := zn_ones_le (X (88 + r) u ||| 2 ^ q); omega) (by first | omega | (simp [wx_u] <;> omega)) (fun h10 => ?_) (fun h10 => ?_)
  · exact cw_vreturn C dd_Re_takeEcho_18 (Nat.le_of_ble_eq_true rfl) (Nat.le_of_ble_eq_true rfl) ⟨_, rfl, rfl, ⟨rfl, by first | exact (if_pos h10).symm | exact (if_neg (by omega)).symm⟩⟩
  · refine cw_aload_n C dd_Re_takeEcho_13 rfl ?_
    refine cw_iload_n C dd_Re_takeEcho_14 rfl ?_
    refine cw_callV (As := [_]) C kV_Re_156 wc_16 (is_16 hr) dd_Re_takeEcho_15 rfl rfl (Nat.le_of_ble_eq_true rfl) ⟨(Nat.le_of_ble_eq_true rfl), (Nat.le_of_ble_eq_true rfl)⟩ ⟨(Nat.le_of_ble_eq_true rfl), (Nat.le_of_ble_eq_true rfl)⟩ (mm_Re_becomeReady (zc_nE X r u q) r hr u (zc_V_ext (fun c k hc => zc_nE_oth _ _ _ _ _ (by omega)) hV) (zc_nE_N hr (by omega) hq hN) (by rw [zc_nE_oth _ _ _ _ _ (by omega)]; exact hu) (by rw [zc_nE_oth _ _ _ _ _ (by omega)]; exact hm)) (nw_kv ?_)
    exact cw_vreturn C dd_Re_takeEcho_18 (Nat.le_of_ble_eq_true rfl) (Nat.le_of_ble_eq_true rfl) ⟨_, rfl, rfl, ⟨rfl, by first | exact (if_pos h10).symm | exact (if_neg (by omega)).symm⟩⟩
set_option maxRecDepth 100000 in
set_option maxHeartbeats 4000000 in
theorem mm_Re_takeReady (X : wx_S) (r : Nat) (hr : r < 4) (u q : Nat) (hV : zc_V X) (hN : zc_N X r) (hu : u < X 20 5) (hq : q < 4) (hm : X 44 3 < 802) (hw : X (84 + r) 3 < 90) : nw_M wd_all yy_Re_takeReady cc_Re_takeReady 3 none 6 0 0 [.ref (64 + r), .int (nI u), .int (nI q)] X (fun v X' => v = none ∧ X' = zc_tkR X r u q) := by
  refine nw_of [some (.ref (64 + r)), some (.int (nI u)), some (.int (nI q))] (by decide +kernel) rfl (Nat.le_of_ble_eq_true rfl) rfl ?_
  intro p l e s m args below meth c A g C
  have g2 := hV.1
  have g3 := hN.2.2.2.2 u (by omega)
  refine cw_aload_n C dd_Re_takeReady_0 rfl ?_
  refine cw_gets (b := 64) (b' := 84) C hr rfl wc_16 kF_Re_21 (is_16 hr) (by decide) rfl dd_Re_takeReady_1 rfl ?_
  refine cw_iload_n C dd_Re_takeReady_4 rfl ?_
  refine cw_iload_n C dd_Re_takeReady_5 rfl ?_
  refine cw_callV (As := [_, _]) C kV_Re_160 wc_21 (is_21 hr) dd_Re_takeReady_6 rfl rfl (Nat.le_of_ble_eq_true rfl) ⟨(Nat.le_of_ble_eq_true rfl), (Nat.le_of_ble_eq_true rfl)⟩ ⟨(Nat.le_of_ble_eq_true rfl), (Nat.le_of_ble_eq_true rfl)⟩ (mm_No_noteReady X r hr u q (by omega) hq g3.2 hw) (nw_ki ?_)
  refine cw_iconst (v := nI 2) C dd_Re_takeReady_9 (by decide +kernel) ?_
  refine nw_icmp_lt (tgt := 18) C dd_Re_takeReady_10 (by decide) (by have := zn_ones_le (X (92 + r) u ||| 2 ^ q); omega) (by first | omega | (simp [wx_u] <;> omega)) (fun h10 => ?_) (fun h10 => ?_)
  · exact cw_vreturn C dd_Re_takeReady_18 (Nat.le_of_ble_eq_true rfl) (Nat.le_of_ble_eq_true rfl) ⟨_, rfl, rfl, ⟨rfl, by first | exact (if_pos h10).symm | exact (if_neg (by omega)).symm⟩⟩
  · refine cw_aload_n C dd_Re_takeReady_13 rfl ?_
    refine cw_iload_n C dd_Re_takeReady_14 rfl ?_
    refine cw_callV (As := [_]) C kV_Re_156 wc_16 (is_16 hr) dd_Re_takeReady_15 rfl rfl (Nat.le_of_ble_eq_true rfl) ⟨(Nat.le_of_ble_eq_true rfl), (Nat.le_of_ble_eq_true rfl)⟩ ⟨(Nat.le_of_ble_eq_true rfl), (Nat.le_of_ble_eq_true rfl)⟩ (mm_Re_becomeReady (zc_nR X r u q) r hr u (zc_V_ext (fun c k hc => zc_nR_oth _ _ _ _ _ (by omega) (by omega) (by omega)) hV) (zc_nR_N hr (by omega) hq hN) (by rw [zc_nR_oth _ _ _ _ _ (by omega) (by omega) (by omega)]; exact hu) (by rw [zc_nR_oth _ _ _ _ _ (by omega) (by omega) (by omega)]; exact hm)) (nw_kv ?_)
    exact cw_vreturn C dd_Re_takeReady_18 (Nat.le_of_ble_eq_true rfl) (Nat.le_of_ble_eq_true rfl) ⟨_, rfl, rfl, ⟨rfl, by first | exact (if_pos h10).symm | exact (if_neg (by omega)).symm⟩⟩
abbrev zc_key (X : wx_S) (u : Nat) : Nat := 4 * X 28 u + X 24 u
def zc_nx (X : wx_S) (r : Nat) : Nat → Nat
  | 0 => 4294967295
  | i + 1 => if zc_can X r (X (96 + r) i) ∧ (zc_nx X r i = 4294967295 ∨ zc_key X (X (96 + r) i) < zc_key X (X (96 + r) (zc_nx X r i))) then i else zc_nx X r i
theorem zc_nx_lt (X : wx_S) (r : Nat) : ∀ i, zc_nx X r i < i ∨ zc_nx X r i = 4294967295
  | 0 => Or.inr rfl
  | i + 1 => by
    have := zc_nx_lt X r i
    simp only [zc_nx]
    split <;> omega
def zc_insert (X : wx_S) (r u : Nat) : wx_S := wx_u (wx_u (wx_u X (104 + r) (X 28 u * 4 + X 24 u) u) (108 + r) (X 28 u) (X (108 + r) (X 28 u) ||| 2 ^ X 24 u)) (100 + r) 3 (X (100 + r) 3 + 1)
theorem zc_insert_oth (X : wx_S) (r u : Nat) {c : Nat} (k : Nat) (h1 : c ≠ 104 + r) (h2 : c ≠ 108 + r) (h3 : c ≠ 100 + r) : zc_insert X r u c k = X c k := by
  rw [zc_insert, wx_u_nc h3, wx_u_nc h2, wx_u_nc h1]
def zc_ins (X : wx_S) (r i : Nat) : wx_S := wx_u (wx_u (zc_insert X r (X (96 + r) i)) (84 + r) 3 (X (84 + r) 3 - 1)) (96 + r) i (X (96 + r) (X (84 + r) 3 - 1))
set_option maxRecDepth 100000 in
set_option maxHeartbeats 4000000 in
theorem lp_Re_insertNext {p : Program} {l : Launch} {e : Env} {s : State} {m : MethodId} {args : Array Value} {below : List Frame} {meth : Method} {c : Code} {A : Nat → Prop} {g : wd_G} {G : State → Prop} (X : wx_S) (r : Nat) (hr : r < 4) (hok : zc_ok X r) (hw : X (84 + r) 3 ≤ 90) (hwt : ∀ i, i < X (84 + r) 3 → X (96 + r) i < X 20 5) (C : cw_C p s m args meth c A wd_all g cc_Re_insertNext 4 "DagLedger$Replica" (some .boolean))  (hend : ∀ z : Option Value, cw_W p l e (cw_rm 4 0 0) s m args below meth c A wd_all g 0 0 G 4 69 [some (.ref (64 + r)), some (.int (nI (zc_nx X r ((X (84 + r) 3))))), some (.int (nI ((X (84 + r) 3)))), z] [] (wx_e X) (wx_l X)) : ∀ (j i : Nat) (z : Option Value), i + j = (X (84 + r) 3) → cw_W p l e (cw_rm 4 0 0) s m args below meth c A wd_all g 0 0 G 4 4 [some (.ref (64 + r)), some (.int (nI (zc_nx X r (i)))), some (.int (nI (i))), z] [] (wx_e X) (wx_l X) := by
  intro j
  induction j with
  | zero =>
    intro i z hij
    refine cw_iload_n C dd_Re_insertNext_4 rfl ?_
    refine cw_aload_n C dd_Re_insertNext_5 rfl ?_
    refine cw_gets (b := 64) (b' := 84) C hr rfl wc_16 kF_Re_21 (is_16 hr) (by decide) rfl dd_Re_insertNext_6 rfl ?_
    refine nw_geti C wc_21 kF_Re_178 (is_21 hr) (by decide) rfl dd_Re_insertNext_9 ?_
    refine nw_icmp_ge (tgt := 69) C dd_Re_insertNext_12 (by decide) (by first | omega | (simp [wx_u] <;> omega)) (by first | omega | (simp [wx_u] <;> omega)) (fun h12 => ?_) (fun h12 => ?_)
    · have hi : i = (X (84 + r) 3) := by omega
      rw [hi]
      exact hend z
    · exact absurd h12 (by omega)
  | succ j ih =>
    intro i z hij
    have g0 := hok.1.1
    have g1 := hwt i (by omega)
    have g2 := hok.1.2.2.1 _ g1
    have g3 := zc_nx_lt X r i
    refine cw_iload_n C dd_Re_insertNext_4 rfl ?_
    refine cw_aload_n C dd_Re_insertNext_5 rfl ?_
    refine cw_gets (b := 64) (b' := 84) C hr rfl wc_16 kF_Re_21 (is_16 hr) (by decide) rfl dd_Re_insertNext_6 rfl ?_
    refine nw_geti C wc_21 kF_Re_178 (is_21 hr) (by decide) rfl dd_Re_insertNext_9 ?_
    refine nw_icmp_ge (tgt := 69) C dd_Re_insertNext_12 (by decide) (by first | omega | (simp [wx_u] <;> omega)) (by first | omega | (simp [wx_u] <;> omega)) (fun h12 => ?_) (fun h12 => ?_)
    · exact absurd h12 (by omega)
    · refine cw_aload_n C dd_Re_insertNext_15 rfl ?_
      refine cw_gets (b := 64) (b' := 84) C hr rfl wc_16 kF_Re_21 (is_16 hr) (by decide) rfl dd_Re_insertNext_16 rfl ?_
      refine cw_gets (b := 84) (b' := 96) C hr rfl wc_21 kF_Re_181 (is_21 hr) (by decide) rfl dd_Re_insertNext_19 rfl ?_
      refine cw_iload_n C dd_Re_insertNext_22 rfl ?_
      refine nw_iald C (is_24 hr) (by first | omega | (simp [wx_u] <;> omega)) (by decide) dd_Re_insertNext_23 ?_
      refine cw_istore_n C dd_Re_insertNext_24 (Nat.le_of_ble_eq_true rfl) ?_
      refine cw_aload_n C dd_Re_insertNext_25 rfl ?_
      refine cw_gets (b := 64) (b' := 100) C hr rfl wc_16 kF_Re_45 (is_16 hr) (by decide) rfl dd_Re_insertNext_26 rfl ?_
      refine cw_iload_n C dd_Re_insertNext_29 rfl ?_
      refine cw_callV (As := [_]) C kV_Re_184 wc_25 (is_25 hr) dd_Re_insertNext_30 rfl rfl (Nat.le_of_ble_eq_true rfl) ⟨(Nat.le_of_ble_eq_true rfl), (Nat.le_of_ble_eq_true rfl)⟩ ⟨(Nat.le_of_ble_eq_true rfl), (Nat.le_of_ble_eq_true rfl)⟩ (mm_Dg_canTake X r hr (X (96 + r) i) (by omega) ⟨g2.2.1, g2.2.2.1⟩ g2.1 g2.2.2.2.1 (by have := hok.2.1.1 (X 28 (X (96 + r) i) * 4 + X 24 (X (96 + r) i)) (by omega); omega)) (nw_ki ?_)
      refine nw_zeq (tgt := 63) C dd_Re_insertNext_33 (by decide) (fun h33 => ?_) (fun h33 => ?_)
      · refine nw_iinc (b := 1) C dd_Re_insertNext_63 (by decide +kernel) rfl (Nat.le_of_ble_eq_true rfl) ?_
        refine cw_goto (tgt := 4) C dd_Re_insertNext_66 (by decide) ?_
        have k9 := ih (i + 1)
        rw [show zc_nx X r (i + 1) = zc_nx X r i from if_neg (fun z => h33 z.1)] at k9
        exact k9 _ (by omega)
      · refine cw_iload_n C dd_Re_insertNext_36 rfl ?_
        refine cw_iconst (v := nI 4294967295) C dd_Re_insertNext_37 (by decide +kernel) ?_
        refine nw_icmp_eq (tgt := 61) C dd_Re_insertNext_38 (by decide) (by first | omega | (simp [wx_u] <;> omega)) (by first | omega | (simp [wx_u] <;> omega)) (fun h38 => ?_) (fun h38 => ?_)
        · refine cw_iload_n C dd_Re_insertNext_61 rfl ?_
          refine cw_istore_n C dd_Re_insertNext_62 (Nat.le_of_ble_eq_true rfl) ?_
          refine nw_iinc (b := 1) C dd_Re_insertNext_63 (by decide +kernel) rfl (Nat.le_of_ble_eq_true rfl) ?_
          refine cw_goto (tgt := 4) C dd_Re_insertNext_66 (by decide) ?_
          have k9 := ih (i + 1)
          rw [show zc_nx X r (i + 1) = i from if_pos ⟨h33, Or.inl h38⟩] at k9
          exact k9 _ (by omega)
        · have g4 : zc_nx X r i < i := by omega
          have g5 := hwt (zc_nx X r i) (by omega)
          have g6 := hok.1.2.2.1 _ g5
          refine cw_aload_n C dd_Re_insertNext_41 rfl ?_
          refine cw_getr (q' := 20) C wc_16 kF_Re_36 (is_16 hr) (by decide) rfl dd_Re_insertNext_42 rfl ?_
          refine cw_iload_n C dd_Re_insertNext_45 rfl ?_
          refine cw_aload_n C dd_Re_insertNext_46 rfl ?_
          refine cw_gets (b := 64) (b' := 84) C hr rfl wc_16 kF_Re_21 (is_16 hr) (by decide) rfl dd_Re_insertNext_47 rfl ?_
          refine cw_gets (b := 84) (b' := 96) C hr rfl wc_21 kF_Re_181 (is_21 hr) (by decide) rfl dd_Re_insertNext_50 rfl ?_
          refine cw_iload_n C dd_Re_insertNext_53 rfl ?_
          refine nw_iald C (is_24 hr) (by first | omega | (simp [wx_u] <;> omega)) (by decide) dd_Re_insertNext_54 ?_
          refine cw_callV (As := [_, _]) C kV_Re_187 wc_5 is_5 dd_Re_insertNext_55 rfl rfl (Nat.le_of_ble_eq_true rfl) ⟨(Nat.le_of_ble_eq_true rfl), (Nat.le_of_ble_eq_true rfl)⟩ ⟨(Nat.le_of_ble_eq_true rfl), (Nat.le_of_ble_eq_true rfl)⟩ (mm_Ve_comesBefore X _ _ (by omega) (by omega) (by omega) (by omega) g2.1 g6.1) (nw_ki ?_)
          refine nw_zeq (tgt := 63) C dd_Re_insertNext_58 (by decide) (fun h58 => ?_) (fun h58 => ?_)
          · refine nw_iinc (b := 1) C dd_Re_insertNext_63 (by decide +kernel) rfl (Nat.le_of_ble_eq_true rfl) ?_
            refine cw_goto (tgt := 4) C dd_Re_insertNext_66 (by decide) ?_
            have k9 := ih (i + 1)
            rw [show zc_nx X r (i + 1) = zc_nx X r i from if_neg (fun z => z.2.elim h38 h58)] at k9
            exact k9 _ (by omega)
          · refine cw_iload_n C dd_Re_insertNext_61 rfl ?_
            refine cw_istore_n C dd_Re_insertNext_62 (Nat.le_of_ble_eq_true rfl) ?_
            refine nw_iinc (b := 1) C dd_Re_insertNext_63 (by decide +kernel) rfl (Nat.le_of_ble_eq_true rfl) ?_
            refine cw_goto (tgt := 4) C dd_Re_insertNext_66 (by decide) ?_
            have k9 := ih (i + 1)
            rw [show zc_nx X r (i + 1) = i from if_pos ⟨h33, Or.inr h58⟩] at k9
            exact k9 _ (by omega)
set_option maxRecDepth 100000 in
set_option maxHeartbeats 4000000 in
theorem mm_Re_insertNext (X : wx_S) (r : Nat) (hr : r < 4) (hok : zc_ok X r) (hw : X (84 + r) 3 ≤ 90) (hwt : ∀ i, i < X (84 + r) 3 → X (96 + r) i < X 20 5) : nw_M wd_all yy_Re_insertNext cc_Re_insertNext 4 (some .boolean) 4 0 0 [.ref (64 + r)] X (fun v X' => v = some (.int (nI (zb_n (zc_nx X r (X (84 + r) 3) ≠ 4294967295)))) ∧ X' = if zc_nx X r (X (84 + r) 3) = 4294967295 then X else zc_ins X r (zc_nx X r (X (84 + r) 3))) := by
  refine nw_of [some (.ref (64 + r)), none, none, none] (by decide +kernel) rfl (Nat.le_of_ble_eq_true rfl) rfl ?_
  intro p l e s m args below meth c A g C
  have g0 := hok.1.1
  have g3 := zc_nx_lt X r (X (84 + r) 3)
  refine cw_iconst (v := nI 4294967295) C dd_Re_insertNext_0 (by decide +kernel) ?_
  refine cw_istore_n C dd_Re_insertNext_1 (Nat.le_of_ble_eq_true rfl) ?_
  refine cw_iconst (v := nI 0) C dd_Re_insertNext_2 (by decide +kernel) ?_
  refine cw_istore_n C dd_Re_insertNext_3 (Nat.le_of_ble_eq_true rfl) ?_
  refine lp_Re_insertNext X r hr hok hw hwt C ?_ (X (84 + r) 3) 0 _ (by omega)
  intro z
  refine cw_iload_n C dd_Re_insertNext_69 rfl ?_
  refine cw_iconst (v := nI 4294967295) C dd_Re_insertNext_70 (by decide +kernel) ?_
  refine nw_icmp_ne (tgt := 76) C dd_Re_insertNext_71 (by decide) (by first | omega | (simp [wx_u] <;> omega)) (by first | omega | (simp [wx_u] <;> omega)) (fun h71 => ?_) (fun h71 => ?_)
  · have g4 := hwt (zc_nx X r (X (84 + r) 3)) (by omega)
    have g5 := hok.1.2.2.1 _ g4
    refine cw_aload_n C dd_Re_insertNext_76 rfl ?_
    refine cw_gets (b := 64) (b' := 100) C hr rfl wc_16 kF_Re_45 (is_16 hr) (by decide) rfl dd_Re_insertNext_77 rfl ?_
    refine cw_aload_n C dd_Re_insertNext_80 rfl ?_
    refine cw_gets (b := 64) (b' := 84) C hr rfl wc_16 kF_Re_21 (is_16 hr) (by decide) rfl dd_Re_insertNext_81 rfl ?_
    refine cw_gets (b := 84) (b' := 96) C hr rfl wc_21 kF_Re_181 (is_21 hr) (by decide) rfl dd_Re_insertNext_84 rfl ?_
    refine cw_iload_n C dd_Re_insertNext_87 rfl ?_
    refine nw_iald C (is_24 hr) (by first | omega | (simp [wx_u] <;> omega)) (by decide) dd_Re_insertNext_88 ?_
    refine cw_callV (As := [_]) C kV_Re_190 wc_25 (is_25 hr) dd_Re_insertNext_89 rfl rfl (Nat.le_of_ble_eq_true rfl) ⟨(Nat.le_of_ble_eq_true rfl), (Nat.le_of_ble_eq_true rfl)⟩ ⟨(Nat.le_of_ble_eq_true rfl), (Nat.le_of_ble_eq_true rfl)⟩ (mm_Dg_insert X r hr _ (by omega) ⟨g5.2.1, g5.2.2.1⟩ g5.1) (nw_kv ?_)
    refine cw_aload_n C dd_Re_insertNext_92 rfl ?_
    refine cw_gets (b := 64) (b' := 84) C hr rfl wc_16 kF_Re_21 (is_16 hr) (by decide) rfl dd_Re_insertNext_93 rfl ?_
    refine cw_iload_n C dd_Re_insertNext_96 rfl ?_
    refine cw_callV (As := [_]) C kV_Re_193 wc_21 (is_21 hr) dd_Re_insertNext_97 rfl rfl (Nat.le_of_ble_eq_true rfl) ⟨(Nat.le_of_ble_eq_true rfl), (Nat.le_of_ble_eq_true rfl)⟩ ⟨(Nat.le_of_ble_eq_true rfl), (Nat.le_of_ble_eq_true rfl)⟩ (mm_No_stopWaiting (zc_insert X r (X (96 + r) (zc_nx X r (X (84 + r) 3)))) r hr _ (by rw [zc_insert_oth _ _ _ _ (by omega) (by omega) (by omega)]; omega) (by rw [zc_insert_oth _ _ _ _ (by omega) (by omega) (by omega)]; omega)) (nw_kv ?_)
    refine cw_iconst (v := nI 1) C dd_Re_insertNext_100 (by decide +kernel) ?_
    exact cw_zreturn C dd_Re_insertNext_101 (nw_zn (by decide)) (Nat.le_of_ble_eq_true rfl) (Nat.le_of_ble_eq_true rfl) ⟨_, rfl, rfl, ⟨congrArg (fun z => some (Value.int z)) (zb_t h71), by rw [if_neg h71, zc_ins, zc_insert_oth _ _ _ _ (by omega) (by omega) (by omega), zc_insert_oth _ _ _ _ (by omega) (by omega) (by omega)]⟩⟩
  · refine cw_iconst (v := nI 0) C dd_Re_insertNext_74 (by decide +kernel) ?_
    exact cw_zreturn C dd_Re_insertNext_75 (nw_zn (by decide)) (Nat.le_of_ble_eq_true rfl) (Nat.le_of_ble_eq_true rfl) ⟨_, rfl, rfl, ⟨congrArg (fun z => some (Value.int z)) (zb_f (fun q => q h71)), (if_pos h71).symm⟩⟩
end
section
/-- ADVANCE may happen -/
abbrev zc_may (X : wx_S) (r : Nat) : Prop := X 20 5 < 90 ∧ X (68 + r) 5 < 14 ∧ ((X (68 + r) 5 = 0 ∧ X (64 + r) 10 ≠ 0) ∨ (X (68 + r) 5 ≠ 0 ∧ X (104 + r) (X (68 + r) 5 * 4 + r) ≠ 4294967295 ∧ 3 ≤ zn_ones (X (108 + r) (X (68 + r) 5)) ∧ (X (68 + r) 5 % 2 = 1 ∨ X (104 + r) (X (68 + r) 5 * 4 + X (68 + r) 5 / 2 % 4) ≠ 4294967295 ∨ 3 ≤ X (64 + r) 10)))
set_option maxRecDepth 100000 in
set_option maxHeartbeats 4000000 in
theorem mm_Re_mayAdvance (X : wx_S) (r : Nat) (hr : r < 4) (hok : zc_ok X r) (hid : X (64 + r) 0 = r) (hrd : X (68 + r) 5 ≤ 14) (htm : X (64 + r) 10 < 2147483648) : nw_M wd_all yy_Re_mayAdvance cc_Re_mayAdvance 2 (some .boolean) 3 0 0 [.ref (64 + r)] X (fun v X' => v = some (.int (nI (zb_n (zc_may X r)))) ∧ X' = X) := by
  refine nw_of [some (.ref (64 + r)), none] (by decide +kernel) rfl (Nat.le_of_ble_eq_true rfl) rfl ?_
  intro p l e s m args below meth c A g C
  have g0 := hok.1.1
  have gs : ∀ k, k < 64 → X (104 + r) k < 4294967296 := fun k hk => by have := hok.2.1.1 k hk; omega
  refine cw_aload_n C dd_Re_mayAdvance_0 rfl ?_
  refine cw_gets (b := 64) (b' := 68) C hr rfl wc_16 kF_Re_12 (is_16 hr) (by decide) rfl dd_Re_mayAdvance_1 rfl ?_
  refine nw_geti C wc_17 kF_Re_199 (is_17 hr) (by decide) rfl dd_Re_mayAdvance_4 ?_
  refine cw_istore_n C dd_Re_mayAdvance_7 (Nat.le_of_ble_eq_true rfl) ?_
  refine cw_aload_n C dd_Re_mayAdvance_8 rfl ?_
  refine cw_getr (q' := 20) C wc_16 kF_Re_36 (is_16 hr) (by decide) rfl dd_Re_mayAdvance_9 rfl ?_
  refine cw_callV (As := []) C kV_Re_214 wc_5 is_5 dd_Re_mayAdvance_12 rfl rfl (Nat.le_of_ble_eq_true rfl) ⟨(Nat.le_of_ble_eq_true rfl), (Nat.le_of_ble_eq_true rfl)⟩ ⟨(Nat.le_of_ble_eq_true rfl), (Nat.le_of_ble_eq_true rfl)⟩ (mm_Ve_isFull X (by omega)) (nw_ki ?_)
  refine nw_zne (tgt := 24) C dd_Re_mayAdvance_15 (by decide) (fun h15 => ?_) (fun h15 => ?_)
  · refine cw_iconst (v := nI 0) C dd_Re_mayAdvance_24 (by decide +kernel) ?_
    exact cw_zreturn C dd_Re_mayAdvance_25 (nw_zn (by decide)) (Nat.le_of_ble_eq_true rfl) (Nat.le_of_ble_eq_true rfl) ⟨_, rfl, rfl, ⟨by first | exact congrArg (fun z => some (Value.int z)) (zb_f (fun q => absurd q.1 (by omega))) | exact congrArg (fun z => some (Value.int z)) (zb_f (fun q => absurd q.2.1 (by omega))), rfl⟩⟩
  · refine cw_iload_n C dd_Re_mayAdvance_18 rfl ?_
    refine cw_bipush (v := nI 14) C dd_Re_mayAdvance_19 (by decide +kernel) ?_
    refine nw_icmp_lt (tgt := 26) C dd_Re_mayAdvance_21 (by decide) (by first | omega | (simp [wx_u] <;> omega)) (by first | omega | (simp [wx_u] <;> omega)) (fun h21 => ?_) (fun h21 => ?_)
    · refine cw_iload_n C dd_Re_mayAdvance_26 rfl ?_
      refine nw_if_ne (tgt := 43) C dd_Re_mayAdvance_27 (by decide) (by first | omega | (simp [wx_u] <;> omega)) (fun h27 => ?_) (fun h27 => ?_)
      · refine cw_aload_n C dd_Re_mayAdvance_43 rfl ?_
        refine cw_gets (b := 64) (b' := 100) C hr rfl wc_16 kF_Re_45 (is_16 hr) (by decide) rfl dd_Re_mayAdvance_44 rfl ?_
        refine cw_aload_n C dd_Re_mayAdvance_47 rfl ?_
        refine nw_getiv C r wc_16 kF_Re_29 (is_16 hr) (by decide) rfl dd_Re_mayAdvance_48 hid ?_
        refine cw_iload_n C dd_Re_mayAdvance_51 rfl ?_
        refine cw_callV (As := [_, _]) C kV_Re_217 wc_25 (is_25 hr) dd_Re_mayAdvance_52 rfl rfl (Nat.le_of_ble_eq_true rfl) ⟨(Nat.le_of_ble_eq_true rfl), (Nat.le_of_ble_eq_true rfl)⟩ ⟨(Nat.le_of_ble_eq_true rfl), (Nat.le_of_ble_eq_true rfl)⟩ (mm_Dg_holds X r hr r _ (by omega) (gs _ (by omega))) (nw_ki ?_)
        refine nw_zeq (tgt := 73) C dd_Re_mayAdvance_55 (by decide) (fun h55 => ?_) (fun h55 => ?_)
        · refine cw_iconst (v := nI 0) C dd_Re_mayAdvance_73 (by decide +kernel) ?_
          exact cw_zreturn C dd_Re_mayAdvance_74 (nw_zn (by decide)) (Nat.le_of_ble_eq_true rfl) (Nat.le_of_ble_eq_true rfl) ⟨_, rfl, rfl, ⟨by first | exact congrArg (fun z => some (Value.int z)) (zb_f (fun q => q.2.2.elim (fun z => h27 z.1) (fun z => h55 z.2.1))) | exact congrArg (fun z => some (Value.int z)) (zb_f (fun q => q.2.2.elim (fun z => h27 z.1) (fun z => absurd z.2.2.1 (by omega)))), rfl⟩⟩
        · refine cw_aload_n C dd_Re_mayAdvance_58 rfl ?_
          refine cw_gets (b := 64) (b' := 100) C hr rfl wc_16 kF_Re_45 (is_16 hr) (by decide) rfl dd_Re_mayAdvance_59 rfl ?_
          refine cw_iload_n C dd_Re_mayAdvance_62 rfl ?_
          refine cw_callV (As := [_]) C kV_Re_202 wc_25 (is_25 hr) dd_Re_mayAdvance_63 rfl rfl (Nat.le_of_ble_eq_true rfl) ⟨(Nat.le_of_ble_eq_true rfl), (Nat.le_of_ble_eq_true rfl)⟩ ⟨(Nat.le_of_ble_eq_true rfl), (Nat.le_of_ble_eq_true rfl)⟩ (mm_Dg_authorsOf X r hr _ (by omega)) (nw_ki ?_)
          refine cw_callS (As := [_]) C kS_Re_220 dd_Re_mayAdvance_66 rfl rfl (Nat.le_of_ble_eq_true rfl) ⟨(Nat.le_of_ble_eq_true rfl), (Nat.le_of_ble_eq_true rfl)⟩ ⟨(Nat.le_of_ble_eq_true rfl), (Nat.le_of_ble_eq_true rfl)⟩ (mm_In_bitCount X _ (hok.2.1.2 _ (by omega))) (nw_ki ?_)
          refine cw_iconst (v := nI 3) C dd_Re_mayAdvance_69 (by decide +kernel) ?_
          have g9 := zn_ones_le (X (108 + r) (X (68 + r) 5))
          refine nw_icmp_ge (tgt := 75) C dd_Re_mayAdvance_70 (by decide) (by first | omega | (simp [wx_u] <;> omega)) (by first | omega | (simp [wx_u] <;> omega)) (fun h70 => ?_) (fun h70 => ?_)
          · refine cw_iload_n C dd_Re_mayAdvance_75 rfl ?_
            refine cw_iconst (v := nI 2) C dd_Re_mayAdvance_76 (by decide +kernel) ?_
            refine nw_irem C dd_Re_mayAdvance_77 (by first | omega | (simp [wx_u] <;> omega)) (by decide) (by decide) ?_
            refine cw_iconst (v := nI 1) C dd_Re_mayAdvance_78 (by decide +kernel) ?_
            refine nw_icmp_eq (tgt := 105) C dd_Re_mayAdvance_79 (by decide) (by first | omega | (simp [wx_u] <;> omega)) (by first | omega | (simp [wx_u] <;> omega)) (fun h79 => ?_) (fun h79 => ?_)
            · refine cw_iconst (v := nI 1) C dd_Re_mayAdvance_105 (by decide +kernel) ?_
              refine cw_goto (tgt := 110) C dd_Re_mayAdvance_106 (by decide) ?_
              exact cw_zreturn C dd_Re_mayAdvance_110 (nw_zn (by decide)) (Nat.le_of_ble_eq_true rfl) (Nat.le_of_ble_eq_true rfl) ⟨_, rfl, rfl, ⟨by first | exact congrArg (fun z => some (Value.int z)) (zb_t ⟨by omega, by omega, Or.inr ⟨h27, h55, by omega, Or.inl h79⟩⟩) | exact congrArg (fun z => some (Value.int z)) (zb_t ⟨by omega, by omega, Or.inr ⟨h27, h55, by omega, Or.inr (Or.inl h94)⟩⟩) | exact congrArg (fun z => some (Value.int z)) (zb_t ⟨by omega, by omega, Or.inr ⟨h27, h55, by omega, Or.inr (Or.inr (by omega))⟩⟩) | exact congrArg (fun z => some (Value.int z)) (zb_f (fun q => q.2.2.elim (fun z => h27 z.1) (fun z => z.2.2.2.elim h79 (fun y => y.elim h94 (fun x => absurd x (by omega)))))), rfl⟩⟩
            · refine cw_aload_n C dd_Re_mayAdvance_82 rfl ?_
              refine cw_gets (b := 64) (b' := 100) C hr rfl wc_16 kF_Re_45 (is_16 hr) (by decide) rfl dd_Re_mayAdvance_83 rfl ?_
              refine cw_iload_n C dd_Re_mayAdvance_86 rfl ?_
              refine cw_callSN (As := [_]) C kS_Re_225 dd_Re_mayAdvance_87 rfl rfl (Nat.le_of_ble_eq_true rfl) ⟨(Nat.le_of_ble_eq_true rfl), (Nat.le_of_ble_eq_true rfl)⟩ ⟨(Nat.le_of_ble_eq_true rfl), (Nat.le_of_ble_eq_true rfl)⟩ (mm_Le_leaderOf X _ (by omega)) (nw_ki ?_)
              refine cw_iload_n C dd_Re_mayAdvance_90 rfl ?_
              refine cw_callV (As := [_, _]) C kV_Re_217 wc_25 (is_25 hr) dd_Re_mayAdvance_91 rfl rfl (Nat.le_of_ble_eq_true rfl) ⟨(Nat.le_of_ble_eq_true rfl), (Nat.le_of_ble_eq_true rfl)⟩ ⟨(Nat.le_of_ble_eq_true rfl), (Nat.le_of_ble_eq_true rfl)⟩ (mm_Dg_holds X r hr _ _ (by omega) (gs _ (by omega))) (nw_ki ?_)
              refine nw_zne (tgt := 105) C dd_Re_mayAdvance_94 (by decide) (fun h94 => ?_) (fun h94 => ?_)
              · refine cw_iconst (v := nI 1) C dd_Re_mayAdvance_105 (by decide +kernel) ?_
                refine cw_goto (tgt := 110) C dd_Re_mayAdvance_106 (by decide) ?_
                exact cw_zreturn C dd_Re_mayAdvance_110 (nw_zn (by decide)) (Nat.le_of_ble_eq_true rfl) (Nat.le_of_ble_eq_true rfl) ⟨_, rfl, rfl, ⟨by first | exact congrArg (fun z => some (Value.int z)) (zb_t ⟨by omega, by omega, Or.inr ⟨h27, h55, by omega, Or.inl h79⟩⟩) | exact congrArg (fun z => some (Value.int z)) (zb_t ⟨by omega, by omega, Or.inr ⟨h27, h55, by omega, Or.inr (Or.inl h94)⟩⟩) | exact congrArg (fun z => some (Value.int z)) (zb_t ⟨by omega, by omega, Or.inr ⟨h27, h55, by omega, Or.inr (Or.inr (by omega))⟩⟩) | exact congrArg (fun z => some (Value.int z)) (zb_f (fun q => q.2.2.elim (fun z => h27 z.1) (fun z => z.2.2.2.elim h79 (fun y => y.elim h94 (fun x => absurd x (by omega)))))), rfl⟩⟩
              · refine cw_aload_n C dd_Re_mayAdvance_97 rfl ?_
                refine nw_geti C wc_16 kF_Re_74 (is_16 hr) (by decide) rfl dd_Re_mayAdvance_98 ?_
                refine cw_iconst (v := nI 3) C dd_Re_mayAdvance_101 (by decide +kernel) ?_
                refine nw_icmp_lt (tgt := 109) C dd_Re_mayAdvance_102 (by decide) (by first | omega | (simp [wx_u] <;> omega)) (by first | omega | (simp [wx_u] <;> omega)) (fun h102 => ?_) (fun h102 => ?_)
                · refine cw_iconst (v := nI 0) C dd_Re_mayAdvance_109 (by decide +kernel) ?_
                  exact cw_zreturn C dd_Re_mayAdvance_110 (nw_zn (by decide)) (Nat.le_of_ble_eq_true rfl) (Nat.le_of_ble_eq_true rfl) ⟨_, rfl, rfl, ⟨by first | exact congrArg (fun z => some (Value.int z)) (zb_t ⟨by omega, by omega, Or.inr ⟨h27, h55, by omega, Or.inl h79⟩⟩) | exact congrArg (fun z => some (Value.int z)) (zb_t ⟨by omega, by omega, Or.inr ⟨h27, h55, by omega, Or.inr (Or.inl h94)⟩⟩) | exact congrArg (fun z => some (Value.int z)) (zb_t ⟨by omega, by omega, Or.inr ⟨h27, h55, by omega, Or.inr (Or.inr (by omega))⟩⟩) | exact congrArg (fun z => some (Value.int z)) (zb_f (fun q => q.2.2.elim (fun z => h27 z.1) (fun z => z.2.2.2.elim h79 (fun y => y.elim h94 (fun x => absurd x (by omega)))))), rfl⟩⟩
                · refine cw_iconst (v := nI 1) C dd_Re_mayAdvance_105 (by decide +kernel) ?_
                  refine cw_goto (tgt := 110) C dd_Re_mayAdvance_106 (by decide) ?_
                  exact cw_zreturn C dd_Re_mayAdvance_110 (nw_zn (by decide)) (Nat.le_of_ble_eq_true rfl) (Nat.le_of_ble_eq_true rfl) ⟨_, rfl, rfl, ⟨by first | exact congrArg (fun z => some (Value.int z)) (zb_t ⟨by omega, by omega, Or.inr ⟨h27, h55, by omega, Or.inl h79⟩⟩) | exact congrArg (fun z => some (Value.int z)) (zb_t ⟨by omega, by omega, Or.inr ⟨h27, h55, by omega, Or.inr (Or.inl h94)⟩⟩) | exact congrArg (fun z => some (Value.int z)) (zb_t ⟨by omega, by omega, Or.inr ⟨h27, h55, by omega, Or.inr (Or.inr (by omega))⟩⟩) | exact congrArg (fun z => some (Value.int z)) (zb_f (fun q => q.2.2.elim (fun z => h27 z.1) (fun z => z.2.2.2.elim h79 (fun y => y.elim h94 (fun x => absurd x (by omega)))))), rfl⟩⟩
          · refine cw_iconst (v := nI 0) C dd_Re_mayAdvance_73 (by decide +kernel) ?_
            exact cw_zreturn C dd_Re_mayAdvance_74 (nw_zn (by decide)) (Nat.le_of_ble_eq_true rfl) (Nat.le_of_ble_eq_true rfl) ⟨_, rfl, rfl, ⟨by first | exact congrArg (fun z => some (Value.int z)) (zb_f (fun q => q.2.2.elim (fun z => h27 z.1) (fun z => h55 z.2.1))) | exact congrArg (fun z => some (Value.int z)) (zb_f (fun q => q.2.2.elim (fun z => h27 z.1) (fun z => absurd z.2.2.1 (by omega)))), rfl⟩⟩
      · refine cw_aload_n C dd_Re_mayAdvance_30 rfl ?_
        refine nw_geti C wc_16 kF_Re_74 (is_16 hr) (by decide) rfl dd_Re_mayAdvance_31 ?_
        refine nw_if_eq (tgt := 41) C dd_Re_mayAdvance_34 (by decide) (by first | omega | (simp [wx_u] <;> omega)) (fun h34 => ?_) (fun h34 => ?_)
        · refine cw_iconst (v := nI 0) C dd_Re_mayAdvance_41 (by decide +kernel) ?_
          exact cw_zreturn C dd_Re_mayAdvance_42 (nw_zn (by decide)) (Nat.le_of_ble_eq_true rfl) (Nat.le_of_ble_eq_true rfl) ⟨_, rfl, rfl, ⟨by first | exact congrArg (fun z => some (Value.int z)) (zb_t ⟨by omega, by omega, Or.inl ⟨h27, h34⟩⟩) | exact congrArg (fun z => some (Value.int z)) (zb_f (fun q => q.2.2.elim (fun z => z.2 h34) (fun z => z.1 h27))), rfl⟩⟩
        · refine cw_iconst (v := nI 1) C dd_Re_mayAdvance_37 (by decide +kernel) ?_
          refine cw_goto (tgt := 42) C dd_Re_mayAdvance_38 (by decide) ?_
          exact cw_zreturn C dd_Re_mayAdvance_42 (nw_zn (by decide)) (Nat.le_of_ble_eq_true rfl) (Nat.le_of_ble_eq_true rfl) ⟨_, rfl, rfl, ⟨by first | exact congrArg (fun z => some (Value.int z)) (zb_t ⟨by omega, by omega, Or.inl ⟨h27, h34⟩⟩) | exact congrArg (fun z => some (Value.int z)) (zb_f (fun q => q.2.2.elim (fun z => z.2 h34) (fun z => z.1 h27))), rfl⟩⟩
    · refine cw_iconst (v := nI 0) C dd_Re_mayAdvance_24 (by decide +kernel) ?_
      exact cw_zreturn C dd_Re_mayAdvance_25 (nw_zn (by decide)) (Nat.le_of_ble_eq_true rfl) (Nat.le_of_ble_eq_true rfl) ⟨_, rfl, rfl, ⟨by first | exact congrArg (fun z => some (Value.int z)) (zb_f (fun q => absurd q.1 (by omega))) | exact congrArg (fun z => some (Value.int z)) (zb_f (fun q => absurd q.2.1 (by omega))), rfl⟩⟩
def zc_q1 (X : wx_S) (r : Nat) : Nat := if X (68 + r) 1 ≤ X (68 + r) 2 then 4294967295 else X (72 + r) (X (68 + r) 2)
def zc_qX (X : wx_S) (r : Nat) : wx_S := if X (68 + r) 1 ≤ X (68 + r) 2 then X else wx_u X (68 + r) 2 (X (68 + r) 2 + 1)
theorem zc_qX_oth (X : wx_S) (r : Nat) {c k : Nat} (h : ¬ (c = 68 + r ∧ k = 2)) : zc_qX X r c k = X c k := by
  unfold zc_qX
  split
  · rfl
  · exact wx_u_ne h
def zc_vadd (X : wx_S) (a w q f u : Nat) : wx_S := wx_u (wx_u (wx_u (wx_u (wx_u (wx_u X 24 (X 20 5) a) 28 (X 20 5) w) 32 (X 20 5) q) 36 (X 20 5) f) 40 (X 20 5) u) 20 5 (X 20 5 + 1)
theorem zc_vadd_oth (X : wx_S) (a w q f u : Nat) {c k : Nat} (h1 : 44 ≤ c) : zc_vadd X a w q f u c k = X c k := by
  rw [zc_vadd, wx_u_nc (by omega), wx_u_nc (by omega), wx_u_nc (by omega), wx_u_nc (by omega), wx_u_nc (by omega), wx_u_nc (by omega)]
theorem mm_Di_nextOfQueue' (X : wx_S) (r : Nat) (hr : r < 4) (hc : X (68 + r) 1 ≤ 40) (hh : X (68 + r) 2 ≤ 40) : nw_M wd_all yy_Di_nextOfQueue cc_Di_nextOfQueue 1 (some .int) 1 0 0 [.ref (68 + r)] X (fun v X' => v = some (.int (nI (zc_q1 X r))) ∧ X' = zc_qX X r) := mm_Di_nextOfQueue X r hr hc hh
theorem mm_Ve_add' (X : wx_S) (a w q f u : Nat) (hc : X 20 5 < 90) : nw_M wd_all yy_Ve_add cc_Ve_add 6 (some .int) 1 0 0 [.ref 20, .int (nI a), .int (nI w), .int (nI q), .int (nI f), .int (nI u)] X (fun v X' => v = some (.int (nI (X 20 5))) ∧ X' = zc_vadd X a w q f u) := mm_Ve_add X a w q f u hc
/-- the vertex is made and sent, behind the record: Y is the world then -/
def zc_made (Y : wx_S) (r : Nat) : wx_S :=
  let Y2 := zc_qX (zc_qX Y r) r
  let Y3 := wx_u Y2 (68 + r) 5 (Y (68 + r) 5 + 1)
  wx_u (zc_post (zc_vadd Y3 r (Y (68 + r) 5 + 1) (Y (108 + r) (Y (68 + r) 5)) (zc_q1 Y r) (zc_q1 (zc_qX Y r) r)) 0 r (Y 20 5)) (64 + r) 10 0
def zc_advance (X : wx_S) (r : Nat) : wx_S := if zc_cut X r then zc_goDown X r else zc_made (zc_wrote X r) r
set_option maxRecDepth 100000 in
set_option maxHeartbeats 4000000 in
theorem mm_Re_advance (X : wx_S) (r : Nat) (hr : r < 4) (hok : zc_ok X r) (hid : X (64 + r) 0 = r) (hrd : X (68 + r) 5 ≤ 14) (htm : X (64 + r) 10 < 2147483648) (hc1 : X (64 + r) 11 < 4294967296) (hc2 : X (64 + r) 12 < 4294967296) (ho : X (68 + r) 1 ≤ 40 ∧ X (68 + r) 2 ≤ X (68 + r) 1) (hm : zc_may X r → ¬ zc_cut X r → X 44 3 < 802) : nw_M wd_all yy_Re_advance cc_Re_advance 4 (some .boolean) 5 0 0 [.ref (64 + r)] X (fun v X' => v = some (.int (nI (zb_n (zc_may X r)))) ∧ X' = if zc_may X r then zc_advance X r else X) := by
  refine nw_of [some (.ref (64 + r)), none, none, none] (by decide +kernel) rfl (Nat.le_of_ble_eq_true rfl) rfl ?_
  intro p l e s m args below meth c A g C
  have e0 : ∀ c k, c ≠ 64 + r → c ≠ 68 + r → zc_wrote X r c k = X c k := fun c k h1 h2 => zc_wrote_oth X r k h1 h2
  have e1 : ∀ k, k ≠ 6 → zc_wrote X r (68 + r) k = X (68 + r) k := fun k hk => by
    rw [zc_wrote, wx_u_nk hk]
    split
    · rfl
    · rw [wx_u_nc (by omega)]
  have e2 : ∀ k, k ≠ 12 → zc_wrote X r (64 + r) k = X (64 + r) k := fun k hk => by
    rw [zc_wrote, wx_u_nc (by omega)]
    split
    · rfl
    · rw [wx_u_nk hk]
  refine cw_aload_n C dd_Re_advance_0 rfl ?_
  refine cw_callV (As := []) C kV_Re_196 wc_16 (is_16 hr) dd_Re_advance_1 rfl rfl (Nat.le_of_ble_eq_true rfl) ⟨(Nat.le_of_ble_eq_true rfl), (Nat.le_of_ble_eq_true rfl)⟩ ⟨(Nat.le_of_ble_eq_true rfl), (Nat.le_of_ble_eq_true rfl)⟩ (mm_Re_mayAdvance X r hr hok hid hrd htm) (nw_ki ?_)
  refine nw_zne (tgt := 9) C dd_Re_advance_4 (by decide) (fun h4 => ?_) (fun h4 => ?_)
  · refine cw_aload_n C dd_Re_advance_9 rfl ?_
    by_cases hcut : zc_cut X r
    · refine cw_callV (As := []) C kV_Re_145 wc_16 (is_16 hr) dd_Re_advance_10 rfl rfl (Nat.le_of_ble_eq_true rfl) ⟨(Nat.le_of_ble_eq_true rfl), (Nat.le_of_ble_eq_true rfl)⟩ ⟨(Nat.le_of_ble_eq_true rfl), (Nat.le_of_ble_eq_true rfl)⟩ (mm_Re_writeRecord_dn X r hr hc1 hc2 hcut) (nw_ki ?_)
      refine nw_if_eq (tgt := 99) C dd_Re_advance_13 (by decide) (by decide) (fun h13 => ?_) (fun h13 => ?_)
      · refine cw_iconst (v := nI 1) C dd_Re_advance_99 (by decide +kernel) ?_
        exact cw_zreturn C dd_Re_advance_100 (nw_zn (by decide)) (Nat.le_of_ble_eq_true rfl) (Nat.le_of_ble_eq_true rfl) ⟨_, rfl, rfl, ⟨congrArg (fun z => some (Value.int z)) (zb_t h4), by rw [if_pos h4, zc_advance]; first | (rw [if_pos hcut]; done) | (rw [if_neg hcut, zc_made, e1 5 (by decide), e0 (108 + r) _ (by omega) (by omega), e0 20 _ (by omega) (by omega)])⟩⟩
      · exact absurd rfl h13
    · refine cw_callV (As := []) C kV_Re_145 wc_16 (is_16 hr) dd_Re_advance_10 rfl rfl (Nat.le_of_ble_eq_true rfl) ⟨(Nat.le_of_ble_eq_true rfl), (Nat.le_of_ble_eq_true rfl)⟩ ⟨(Nat.le_of_ble_eq_true rfl), (Nat.le_of_ble_eq_true rfl)⟩ (mm_Re_writeRecord_ok X r hr hc1 hc2 hcut) (nw_ki ?_)
      refine nw_if_eq (tgt := 99) C dd_Re_advance_13 (by decide) (by decide) (fun h13 => ?_) (fun h13 => ?_)
      · exact absurd h13 (by decide)
      · refine cw_aload_n C dd_Re_advance_16 rfl ?_
        refine cw_gets (b := 64) (b' := 100) C hr rfl wc_16 kF_Re_45 (is_16 hr) (by decide) rfl dd_Re_advance_17 rfl ?_
        refine cw_aload_n C dd_Re_advance_20 rfl ?_
        refine cw_gets (b := 64) (b' := 68) C hr rfl wc_16 kF_Re_12 (is_16 hr) (by decide) rfl dd_Re_advance_21 rfl ?_
        refine nw_getiv C (X (68 + r) 5) wc_17 kF_Re_199 (is_17 hr) (by decide) rfl dd_Re_advance_24 (e1 _ (by decide)) ?_
        refine cw_callV (As := [_]) C kV_Re_202 wc_25 (is_25 hr) dd_Re_advance_27 rfl rfl (Nat.le_of_ble_eq_true rfl) ⟨(Nat.le_of_ble_eq_true rfl), (Nat.le_of_ble_eq_true rfl)⟩ ⟨(Nat.le_of_ble_eq_true rfl), (Nat.le_of_ble_eq_true rfl)⟩ (mm_Dg_authorsOf (zc_wrote X r) r hr (X (68 + r) 5) (by omega)) (nw_ki ?_)
        rw [e0 (108 + r) _ (by omega) (by omega)]
        refine cw_istore_n C dd_Re_advance_30 (Nat.le_of_ble_eq_true rfl) ?_
        refine cw_aload_n C dd_Re_advance_31 rfl ?_
        refine cw_gets (b := 64) (b' := 68) C hr rfl wc_16 kF_Re_12 (is_16 hr) (by decide) rfl dd_Re_advance_32 rfl ?_
        refine cw_callV (As := []) C kV_Re_206 wc_17 (is_17 hr) dd_Re_advance_35 rfl rfl (Nat.le_of_ble_eq_true rfl) ⟨(Nat.le_of_ble_eq_true rfl), (Nat.le_of_ble_eq_true rfl)⟩ ⟨(Nat.le_of_ble_eq_true rfl), (Nat.le_of_ble_eq_true rfl)⟩ (mm_Di_nextOfQueue' (zc_wrote X r) r hr (by rw [e1 _ (by decide)]; omega) (by rw [e1 _ (by decide)]; omega)) (nw_ki ?_)
        refine cw_istore_n C dd_Re_advance_38 (Nat.le_of_ble_eq_true rfl) ?_
        refine cw_aload_n C dd_Re_advance_39 rfl ?_
        refine cw_gets (b := 64) (b' := 68) C hr rfl wc_16 kF_Re_12 (is_16 hr) (by decide) rfl dd_Re_advance_40 rfl ?_
        refine cw_callV (As := []) C kV_Re_206 wc_17 (is_17 hr) dd_Re_advance_43 rfl rfl (Nat.le_of_ble_eq_true rfl) ⟨(Nat.le_of_ble_eq_true rfl), (Nat.le_of_ble_eq_true rfl)⟩ ⟨(Nat.le_of_ble_eq_true rfl), (Nat.le_of_ble_eq_true rfl)⟩ (mm_Di_nextOfQueue' (zc_qX (zc_wrote X r) r) r hr (by rw [zc_qX_oth _ _ (by omega), e1 _ (by decide)]; omega) (by rw [zc_qX]; split; rw [e1 _ (by decide)]; omega; rw [wx_u_eq, e1 _ (by decide)]; rename_i hq; rw [e1 _ (by decide), e1 _ (by decide)] at hq; omega)) (nw_ki ?_)
        refine cw_istore_n C dd_Re_advance_46 (Nat.le_of_ble_eq_true rfl) ?_
        refine cw_aload_n C dd_Re_advance_47 rfl ?_
        refine cw_gets (b := 64) (b' := 68) C hr rfl wc_16 kF_Re_12 (is_16 hr) (by decide) rfl dd_Re_advance_48 rfl ?_
        refine cw_dup C dd_Re_advance_51 rfl ?_
        refine nw_getiv C (X (68 + r) 5) wc_17 kF_Re_199 (is_17 hr) (by decide) rfl dd_Re_advance_52 (by rw [zc_qX_oth _ _ (by omega), zc_qX_oth _ _ (by omega)]; exact e1 _ (by decide)) ?_
        refine cw_iconst (v := nI 1) C dd_Re_advance_55 (by decide +kernel) ?_
        refine nw_iadd C dd_Re_advance_56 ?_
        refine nw_puti C wc_17 kF_Re_199 (is_17 hr) (by decide) rfl rfl rfl rfl dd_Re_advance_57 ?_
        refine cw_aload_n C dd_Re_advance_60 rfl ?_
        refine cw_getr (q' := 44) C wc_16 kF_Re_32 (is_16 hr) (by decide) rfl dd_Re_advance_61 rfl ?_
        refine cw_iconst (v := nI 0) C dd_Re_advance_64 (by decide +kernel) ?_
        refine cw_aload_n C dd_Re_advance_65 rfl ?_
        refine nw_getiv C r wc_16 kF_Re_29 (is_16 hr) (by decide) rfl dd_Re_advance_66 (by rw [wx_u_nc (by omega), zc_qX_oth _ _ (by omega), zc_qX_oth _ _ (by omega), e2 _ (by decide)]; exact hid) ?_
        refine cw_aload_n C dd_Re_advance_69 rfl ?_
        refine cw_getr (q' := 20) C wc_16 kF_Re_36 (is_16 hr) (by decide) rfl dd_Re_advance_70 rfl ?_
        refine cw_aload_n C dd_Re_advance_73 rfl ?_
        refine nw_getiv C r wc_16 kF_Re_29 (is_16 hr) (by decide) rfl dd_Re_advance_74 (by rw [wx_u_nc (by omega), zc_qX_oth _ _ (by omega), zc_qX_oth _ _ (by omega), e2 _ (by decide)]; exact hid) ?_
        refine cw_aload_n C dd_Re_advance_77 rfl ?_
        refine cw_gets (b := 64) (b' := 68) C hr rfl wc_16 kF_Re_12 (is_16 hr) (by decide) rfl dd_Re_advance_78 rfl ?_
        refine nw_getiv C (X (68 + r) 5 + 1) wc_17 kF_Re_199 (is_17 hr) (by decide) rfl dd_Re_advance_81 (wx_u_eq _ _ _ _) ?_
        refine cw_iload_n C dd_Re_advance_84 rfl ?_
        refine cw_iload_n C dd_Re_advance_85 rfl ?_
        refine cw_iload_n C dd_Re_advance_86 rfl ?_
        refine cw_callV (As := [_, _, _, _, _]) C kV_Re_210 wc_5 is_5 dd_Re_advance_87 rfl rfl (Nat.le_of_ble_eq_true rfl) ⟨(Nat.le_of_ble_eq_true rfl), (Nat.le_of_ble_eq_true rfl)⟩ ⟨(Nat.le_of_ble_eq_true rfl), (Nat.le_of_ble_eq_true rfl)⟩ (mm_Ve_add' _ _ _ _ _ _ (by rw [wx_u_nc (by omega), zc_qX_oth _ _ (by omega), zc_qX_oth _ _ (by omega), e0 _ _ (by omega) (by omega)]; exact h4.1)) (nw_ki ?_)
        rw [wx_u_nc (by omega), zc_qX_oth _ _ (by omega), zc_qX_oth _ _ (by omega), e0 20 _ (by omega) (by omega)]
        refine cw_callV (As := [_, _, _]) C kV_Re_149 wc_11 is_11 dd_Re_advance_90 rfl rfl (Nat.le_of_ble_eq_true rfl) ⟨(Nat.le_of_ble_eq_true rfl), (Nat.le_of_ble_eq_true rfl)⟩ ⟨(Nat.le_of_ble_eq_true rfl), (Nat.le_of_ble_eq_true rfl)⟩ (mm_Bo_post' _ _ _ _ (by rw [zc_vadd_oth _ _ _ _ _ _ (by omega), wx_u_nc (by omega), zc_qX_oth _ _ (by omega), zc_qX_oth _ _ (by omega), e0 _ _ (by omega) (by omega)]; exact hm h4 hcut)) (nw_ki ?_)
        refine cw_pop C dd_Re_advance_93 rfl ?_
        refine cw_aload_n C dd_Re_advance_94 rfl ?_
        refine cw_iconst (v := nI 0) C dd_Re_advance_95 (by decide +kernel) ?_
        refine nw_puti C wc_16 kF_Re_74 (is_16 hr) (by decide) rfl rfl rfl rfl dd_Re_advance_96 ?_
        refine cw_iconst (v := nI 1) C dd_Re_advance_99 (by decide +kernel) ?_
        exact cw_zreturn C dd_Re_advance_100 (nw_zn (by decide)) (Nat.le_of_ble_eq_true rfl) (Nat.le_of_ble_eq_true rfl) ⟨_, rfl, rfl, ⟨congrArg (fun z => some (Value.int z)) (zb_t h4), by rw [if_pos h4, zc_advance]; first | (rw [if_pos hcut]; done) | (rw [if_neg hcut, zc_made, e1 5 (by decide), e0 (108 + r) _ (by omega) (by omega), e0 20 _ (by omega) (by omega)])⟩⟩
  · refine cw_iconst (v := nI 0) C dd_Re_advance_7 (by decide +kernel) ?_
    exact cw_zreturn C dd_Re_advance_8 (nw_zn (by decide)) (Nat.le_of_ble_eq_true rfl) (Nat.le_of_ble_eq_true rfl) ⟨_, rfl, rfl, ⟨congrArg (fun z => some (Value.int z)) (zb_f h4), (if_neg h4).symm⟩⟩
end
section
/-- what act's calls need -/
def zc_I0 (X : wx_S) (r : Nat) : Prop := zc_ok X r ∧ X (84 + r) 3 ≤ 90 ∧ (∀ i, i < X (84 + r) 3 → X (96 + r) i < X 20 5) ∧ (∀ i, i < 90 → X 32 i < 2147483648) ∧ X (124 + r) 5 ≤ 14 ∧ X (64 + r) 0 = r ∧ X (68 + r) 5 ≤ 14 ∧ X (64 + r) 10 < 2147483648 ∧ X (64 + r) 11 < 4294967296 ∧ X (64 + r) 12 < 4294967296 ∧ (X (68 + r) 1 ≤ 40 ∧ X (68 + r) 2 ≤ X (68 + r) 1) ∧ (zc_may X r → ¬ zc_cut X r → X 44 3 < 802) ∧ X (64 + r) 8 < 4294967296
def zc_step (X : wx_S) (r : Nat) : Option wx_S :=
  if (zc_nx X r (X (84 + r) 3)) ≠ 4294967295 then some (zc_ins X r (zc_nx X r (X (84 + r) 3)))
  else if (zc_nr X r) ≠ 4294967295 then some (zc_commit X r (zc_nr X r))
  else if zc_may X r then some (zc_advance X r) else none
def zc_actF (r : Nat) : Nat → wx_S → wx_S
  | 0, X => X
  | n + 1, X => if X (64 + r) 8 = 1 then (match zc_step X r with | some Y => zc_actF r n Y | none => X) else X
def zc_act (X : wx_S) (r : Nat) : wx_S := zc_actF r 1000 X
theorem mm_Re_insertNext_no (X : wx_S) (r : Nat) (hr : r < 4) (h : zc_I0 X r) (hx : (zc_nx X r (X (84 + r) 3)) = 4294967295) : nw_M wd_all yy_Re_insertNext cc_Re_insertNext 4 (some .boolean) 4 0 0 [.ref (64 + r)] X (fun v X' => v = some (.int (nI 0)) ∧ X' = X) := by
  have h9 := mm_Re_insertNext X r hr h.1 h.2.1 h.2.2.1
  rw [if_pos hx, show zb_n ((zc_nx X r (X (84 + r) 3)) ≠ 4294967295) = 0 from if_neg (fun q => q hx)] at h9
  exact h9
theorem mm_Re_insertNext_yes (X : wx_S) (r : Nat) (hr : r < 4) (h : zc_I0 X r) (hx : ¬ (zc_nx X r (X (84 + r) 3)) = 4294967295) : nw_M wd_all yy_Re_insertNext cc_Re_insertNext 4 (some .boolean) 4 0 0 [.ref (64 + r)] X (fun v X' => v = some (.int (nI 1)) ∧ X' = zc_ins X r (zc_nx X r (X (84 + r) 3))) := by
  have h9 := mm_Re_insertNext X r hr h.1 h.2.1 h.2.2.1
  rw [if_neg hx, show zb_n ((zc_nx X r (X (84 + r) 3)) ≠ 4294967295) = 1 from if_pos hx] at h9
  exact h9
theorem mm_Co_commitNext_no (X : wx_S) (r : Nat) (hr : r < 4) (h : zc_I0 X r) (hx : (zc_nr X r) = 4294967295) : nw_M wd_all yy_Co_commitNext cc_Co_commitNext 4 (some .boolean) 5 0 0 [.ref (124 + r)] X (fun v X' => v = some (.int (nI 0)) ∧ X' = X) := by
  have h9 := mm_Co_commitNext X r hr h.1 h.2.2.2.1 h.2.2.2.2.1
  rw [if_pos hx, show zb_n ((zc_nr X r) ≠ 4294967295) = 0 from if_neg (fun q => q hx)] at h9
  exact h9
theorem mm_Co_commitNext_yes (X : wx_S) (r : Nat) (hr : r < 4) (h : zc_I0 X r) (hx : ¬ (zc_nr X r) = 4294967295) : nw_M wd_all yy_Co_commitNext cc_Co_commitNext 4 (some .boolean) 5 0 0 [.ref (124 + r)] X (fun v X' => v = some (.int (nI 1)) ∧ X' = zc_commit X r (zc_nr X r)) := by
  have h9 := mm_Co_commitNext X r hr h.1 h.2.2.2.1 h.2.2.2.2.1
  rw [if_neg hx, show zb_n ((zc_nr X r) ≠ 4294967295) = 1 from if_pos hx] at h9
  exact h9
theorem mm_Re_advance_no (X : wx_S) (r : Nat) (hr : r < 4) (h : zc_I0 X r) (hx : ¬ zc_may X r) : nw_M wd_all yy_Re_advance cc_Re_advance 4 (some .boolean) 5 0 0 [.ref (64 + r)] X (fun v X' => v = some (.int (nI 0)) ∧ X' = X) := by
  obtain ⟨a1, a2, a3, a4, a5, a6, a7, a8, a9, a10, a11, a12, a13⟩ := h
  have h9 := mm_Re_advance X r hr a1 a6 a7 a8 a9 a10 a11 a12
  rw [if_neg hx, show zb_n (zc_may X r) = 0 from if_neg hx] at h9
  exact h9
theorem mm_Re_advance_yes (X : wx_S) (r : Nat) (hr : r < 4) (h : zc_I0 X r) (hx : zc_may X r) : nw_M wd_all yy_Re_advance cc_Re_advance 4 (some .boolean) 5 0 0 [.ref (64 + r)] X (fun v X' => v = some (.int (nI 1)) ∧ X' = zc_advance X r) := by
  obtain ⟨a1, a2, a3, a4, a5, a6, a7, a8, a9, a10, a11, a12, a13⟩ := h
  have h9 := mm_Re_advance X r hr a1 a6 a7 a8 a9 a10 a11 a12
  rw [if_pos hx, show zb_n (zc_may X r) = 1 from if_pos hx] at h9
  exact h9
set_option maxRecDepth 100000 in
set_option maxHeartbeats 4000000 in
theorem lp_Re_act {p : Program} {l : Launch} {e : Env} {s : State} {m : MethodId} {args : Array Value} {below : List Frame} {meth : Method} {c : Code} {A : Nat → Prop} {g : wd_G} {G : State → Prop} (r : Nat) (hr : r < 4) (I : wx_S → Prop) (hI : ∀ X, I X → zc_I0 X r) (hstep : ∀ X Y, I X → X (64 + r) 8 = 1 → zc_step X r = some Y → I Y) (RES : wx_S) (C : cw_C p s m args meth c A wd_all g cc_Re_act 2 "DagLedger$Replica" none) (hA : ∀ (i : Nat), cw_W p l e (cw_rm 6 0 0) s m args below meth c A wd_all g 0 0 G 2 47 [some (.ref (64 + r)), some (.int (nI i))] [] (wx_e RES) (wx_l RES)) (hB : ∀ (i : Nat), cw_W p l e (cw_rm 6 0 0) s m args below meth c A wd_all g 0 0 G 2 40 [some (.ref (64 + r)), some (.int (nI i))] [] (wx_e RES) (wx_l RES)) : ∀ (n i : Nat) (X : wx_S), i + n = 1000 → I X → zc_actF r n X = RES → cw_W p l e (cw_rm 6 0 0) s m args below meth c A wd_all g 0 0 G 2 2 [some (.ref (64 + r)), some (.int (nI i))] [] (wx_e X) (wx_l X) := by
  intro n
  induction n with
  | zero =>
    intro i X hi hX hres
    refine cw_iload_n C dd_Re_act_2 rfl ?_
    refine cw_sipush (v := nI 1000) C dd_Re_act_3 (by decide +kernel) ?_
    refine nw_icmp_ge (tgt := 47) C dd_Re_act_6 (by decide) (by first | omega | (simp [wx_u] <;> omega)) (by first | omega | (simp [wx_u] <;> omega)) (fun h6 => ?_) (fun h6 => ?_)
    · exact nw_eqX hres (hA i)
    · exact absurd h6 (by omega)
  | succ n ih =>
    intro i X hi hX hres
    have h0 := hI X hX
    refine cw_iload_n C dd_Re_act_2 rfl ?_
    refine cw_sipush (v := nI 1000) C dd_Re_act_3 (by decide +kernel) ?_
    refine nw_icmp_ge (tgt := 47) C dd_Re_act_6 (by decide) (by first | omega | (simp [wx_u] <;> omega)) (by first | omega | (simp [wx_u] <;> omega)) (fun h6 => ?_) (fun h6 => ?_)
    · exact absurd h6 (by omega)
    · refine cw_aload_n C dd_Re_act_9 rfl ?_
      refine cw_callV (As := []) C kV_Re_166 wc_16 (is_16 hr) dd_Re_act_10 rfl rfl (Nat.le_of_ble_eq_true rfl) ⟨(Nat.le_of_ble_eq_true rfl), (Nat.le_of_ble_eq_true rfl)⟩ ⟨(Nat.le_of_ble_eq_true rfl), (Nat.le_of_ble_eq_true rfl)⟩ (mm_Re_isUp X r hr h0.2.2.2.2.2.2.2.2.2.2.2.2) (nw_ki ?_)
      refine nw_zeq (tgt := 47) C dd_Re_act_13 (by decide) (fun h13 => ?_) (fun h13 => ?_)
      · exact nw_eqX (by rw [← hres, zc_actF, if_neg h13]) (hA i)
      · refine cw_aload_n C dd_Re_act_16 rfl ?_
        by_cases hx : (zc_nx X r (X (84 + r) 3)) = 4294967295
        · refine cw_callV (As := []) C kV_Re_169 wc_16 (is_16 hr) dd_Re_act_17 rfl rfl (Nat.le_of_ble_eq_true rfl) ⟨(Nat.le_of_ble_eq_true rfl), (Nat.le_of_ble_eq_true rfl)⟩ ⟨(Nat.le_of_ble_eq_true rfl), (Nat.le_of_ble_eq_true rfl)⟩ (mm_Re_insertNext_no X r hr h0 hx) (nw_ki ?_)
          refine nw_if_ne (tgt := 41) C dd_Re_act_20 (by decide) (by decide) (fun h20 => ?_) (fun h20 => ?_)
          · exact absurd rfl h20
          · refine cw_aload_n C dd_Re_act_23 rfl ?_
            refine cw_gets (b := 64) (b' := 124) C hr rfl wc_16 kF_Re_63 (is_16 hr) (by decide) rfl dd_Re_act_24 rfl ?_
            by_cases hy : (zc_nr X r) = 4294967295
            · refine cw_callV (As := []) C kV_Re_172 wc_31 (is_31 hr) dd_Re_act_27 rfl rfl (Nat.le_of_ble_eq_true rfl) ⟨(Nat.le_of_ble_eq_true rfl), (Nat.le_of_ble_eq_true rfl)⟩ ⟨(Nat.le_of_ble_eq_true rfl), (Nat.le_of_ble_eq_true rfl)⟩ (mm_Co_commitNext_no X r hr h0 hy) (nw_ki ?_)
              refine nw_if_ne (tgt := 41) C dd_Re_act_30 (by decide) (by decide) (fun h30 => ?_) (fun h30 => ?_)
              · exact absurd rfl h30
              · refine cw_aload_n C dd_Re_act_33 rfl ?_
                by_cases hz : zc_may X r
                · refine cw_callV (As := []) C kV_Re_175 wc_16 (is_16 hr) dd_Re_act_34 rfl rfl (Nat.le_of_ble_eq_true rfl) ⟨(Nat.le_of_ble_eq_true rfl), (Nat.le_of_ble_eq_true rfl)⟩ ⟨(Nat.le_of_ble_eq_true rfl), (Nat.le_of_ble_eq_true rfl)⟩ (mm_Re_advance_yes X r hr h0 hz) (nw_ki ?_)
                  have hs : zc_step X r = some (zc_advance X r) := by
                    rw [zc_step, if_neg (fun q => q hx), if_neg (fun q => q hy), if_pos hz]
                  refine nw_if_ne (tgt := 41) C dd_Re_act_37 (by decide) (by decide) (fun h37 => ?_) (fun h37 => ?_)
                  · refine nw_iinc (b := 1) C dd_Re_act_41 (by decide +kernel) rfl (Nat.le_of_ble_eq_true rfl) ?_
                    refine cw_goto (tgt := 2) C dd_Re_act_44 (by decide) ?_
                    exact ih (i + 1) _ (by omega) (hstep X _ hX h13 hs) (by rw [← hres, zc_actF, if_pos h13, hs])
                  · exact absurd h37 (by decide)
                · refine cw_callV (As := []) C kV_Re_175 wc_16 (is_16 hr) dd_Re_act_34 rfl rfl (Nat.le_of_ble_eq_true rfl) ⟨(Nat.le_of_ble_eq_true rfl), (Nat.le_of_ble_eq_true rfl)⟩ ⟨(Nat.le_of_ble_eq_true rfl), (Nat.le_of_ble_eq_true rfl)⟩ (mm_Re_advance_no X r hr h0 hz) (nw_ki ?_)
                  refine nw_if_ne (tgt := 41) C dd_Re_act_37 (by decide) (by decide) (fun h37 => ?_) (fun h37 => ?_)
                  · exact absurd rfl h37
                  · exact nw_eqX (by rw [← hres, zc_actF, if_pos h13, zc_step, if_neg (fun q => q hx), if_neg (fun q => q hy), if_neg hz]) (hB i)
            · refine cw_callV (As := []) C kV_Re_172 wc_31 (is_31 hr) dd_Re_act_27 rfl rfl (Nat.le_of_ble_eq_true rfl) ⟨(Nat.le_of_ble_eq_true rfl), (Nat.le_of_ble_eq_true rfl)⟩ ⟨(Nat.le_of_ble_eq_true rfl), (Nat.le_of_ble_eq_true rfl)⟩ (mm_Co_commitNext_yes X r hr h0 hy) (nw_ki ?_)
              have hs : zc_step X r = some (zc_commit X r (zc_nr X r)) := by
                rw [zc_step, if_neg (fun q => q hx), if_pos hy]
              refine nw_if_ne (tgt := 41) C dd_Re_act_30 (by decide) (by decide) (fun h30 => ?_) (fun h30 => ?_)
              · refine nw_iinc (b := 1) C dd_Re_act_41 (by decide +kernel) rfl (Nat.le_of_ble_eq_true rfl) ?_
                refine cw_goto (tgt := 2) C dd_Re_act_44 (by decide) ?_
                exact ih (i + 1) _ (by omega) (hstep X _ hX h13 hs) (by rw [← hres, zc_actF, if_pos h13, hs])
              · exact absurd h30 (by decide)
        · refine cw_callV (As := []) C kV_Re_169 wc_16 (is_16 hr) dd_Re_act_17 rfl rfl (Nat.le_of_ble_eq_true rfl) ⟨(Nat.le_of_ble_eq_true rfl), (Nat.le_of_ble_eq_true rfl)⟩ ⟨(Nat.le_of_ble_eq_true rfl), (Nat.le_of_ble_eq_true rfl)⟩ (mm_Re_insertNext_yes X r hr h0 hx) (nw_ki ?_)
          have hs : zc_step X r = some (zc_ins X r (zc_nx X r (X (84 + r) 3))) := if_pos hx
          refine nw_if_ne (tgt := 41) C dd_Re_act_20 (by decide) (by decide) (fun h20 => ?_) (fun h20 => ?_)
          · refine nw_iinc (b := 1) C dd_Re_act_41 (by decide +kernel) rfl (Nat.le_of_ble_eq_true rfl) ?_
            refine cw_goto (tgt := 2) C dd_Re_act_44 (by decide) ?_
            exact ih (i + 1) _ (by omega) (hstep X _ hX h13 hs) (by rw [← hres, zc_actF, if_pos h13, hs])
          · exact absurd h20 (by decide)
set_option maxRecDepth 100000 in
set_option maxHeartbeats 4000000 in
theorem mm_Re_act (X : wx_S) (r : Nat) (hr : r < 4) (I : wx_S → Prop) (hI : ∀ X, I X → zc_I0 X r) (hstep : ∀ X Y, I X → X (64 + r) 8 = 1 → zc_step X r = some Y → I Y) (hX : I X) : nw_M wd_all yy_Re_act cc_Re_act 2 none 6 0 0 [.ref (64 + r)] X (fun v X' => v = none ∧ X' = zc_act X r) := by
  refine nw_of [some (.ref (64 + r)), none] (by decide +kernel) rfl (Nat.le_of_ble_eq_true rfl) rfl ?_
  intro p l e s m args below meth c A g C
  refine cw_iconst (v := nI 0) C dd_Re_act_0 (by decide +kernel) ?_
  refine cw_istore_n C dd_Re_act_1 (Nat.le_of_ble_eq_true rfl) ?_
  refine lp_Re_act r hr I hI hstep (zc_act X r) C (fun i => ?_) (fun i => ?_) 1000 0 X (by omega) hX rfl
  · exact cw_vreturn C dd_Re_act_47 (Nat.le_of_ble_eq_true rfl) (Nat.le_of_ble_eq_true rfl) ⟨_, rfl, rfl, ⟨rfl, rfl⟩⟩
  · exact cw_vreturn C dd_Re_act_40 (Nat.le_of_ble_eq_true rfl) (Nat.le_of_ble_eq_true rfl) ⟨_, rfl, rfl, ⟨rfl, rfl⟩⟩
set_option maxRecDepth 100000 in
set_option maxHeartbeats 4000000 in
theorem mm_Re_passTime (X : wx_S) (r : Nat) (hr : r < 4) (ht : X (64 + r) 10 ≤ 3) (I : wx_S → Prop) (hI : ∀ X, I X → zc_I0 X r) (hstep : ∀ X Y, I X → X (64 + r) 8 = 1 → zc_step X r = some Y → I Y) (hX : I (wx_u X (64 + r) 10 (if X (64 + r) 10 < 3 then X (64 + r) 10 + 1 else 3))) : nw_M wd_all yy_Re_passTime cc_Re_passTime 1 none 7 0 0 [.ref (64 + r)] X (fun v X' => v = none ∧ X' = zc_act (wx_u X (64 + r) 10 (if X (64 + r) 10 < 3 then X (64 + r) 10 + 1 else 3)) r) := by
  refine nw_of [some (.ref (64 + r))] (by decide +kernel) rfl (Nat.le_of_ble_eq_true rfl) rfl ?_
  intro p l e s m args below meth c A g C
  have hmin : (if nI 3 < nI (X (64 + r) 10 + 1) then nI 3 else nI (X (64 + r) 10 + 1)) = nI (if X (64 + r) 10 < 3 then X (64 + r) 10 + 1 else 3) := by
    by_cases h : X (64 + r) 10 < 3
    · rw [if_neg (fun q => absurd ((wx_lt (by decide) (by omega)).mp q) (by omega)), if_pos h]
    · rw [if_pos ((wx_lt (by decide) (by omega)).mpr (by omega)), if_neg h]
  refine cw_aload_n C dd_Re_passTime_0 rfl ?_
  refine cw_aload_n C dd_Re_passTime_1 rfl ?_
  refine nw_geti C wc_16 kF_Re_74 (is_16 hr) (by decide) rfl dd_Re_passTime_2 ?_
  refine cw_iconst (v := nI 1) C dd_Re_passTime_5 (by decide +kernel) ?_
  refine nw_iadd C dd_Re_passTime_6 ?_
  refine cw_iconst (v := nI 3) C dd_Re_passTime_7 (by decide +kernel) ?_
  refine cw_mmin C (wd_in (wd_c2 (List.mem_of_getElem? (i := 186) rfl)) rfl) (wd_in (wd_c2 (List.mem_of_getElem? (i := 187) rfl)) rfl) (wd_in (wd_c0 (List.mem_of_getElem? (i := 19) rfl)) rfl) (wd_in (wd_c2 (List.mem_of_getElem? (i := 188) rfl)) rfl) ⟨(Nat.le_of_ble_eq_true rfl), (Nat.le_of_ble_eq_true rfl), (Nat.le_of_ble_eq_true rfl), (Nat.le_of_ble_eq_true rfl)⟩ dd_Re_passTime_8 ?_
  rw [hmin]
  refine nw_puti C wc_16 kF_Re_74 (is_16 hr) (by decide) rfl rfl rfl rfl dd_Re_passTime_11 ?_
  refine cw_aload_n C dd_Re_passTime_14 rfl ?_
  refine cw_callV (As := []) C kV_Re_101 wc_16 (is_16 hr) dd_Re_passTime_15 rfl rfl (Nat.le_of_ble_eq_true rfl) ⟨(Nat.le_of_ble_eq_true rfl), (Nat.le_of_ble_eq_true rfl)⟩ ⟨(Nat.le_of_ble_eq_true rfl), (Nat.le_of_ble_eq_true rfl)⟩ (mm_Re_act _ r hr I hI hstep hX) (nw_kv ?_)
  exact cw_vreturn C dd_Re_passTime_18 (Nat.le_of_ble_eq_true rfl) (Nat.le_of_ble_eq_true rfl) ⟨_, rfl, rfl, ⟨by first | rfl | simp [wx_u], by first | rfl | simp [wx_u]⟩⟩
def zc_tk (X : wx_S) (r m : Nat) : wx_S := if X 48 m = 0 then zc_tkS X r (X 56 m) (X 52 m) else if X 48 m = 1 then zc_tkE X r (X 56 m) (X 52 m) else zc_tkR X r (X 56 m) (X 52 m)
def zc_take (X : wx_S) (r m : Nat) : wx_S := zc_act (zc_tk X r m) r
set_option maxRecDepth 100000 in
set_option maxHeartbeats 4000000 in
theorem mm_Re_take (X : wx_S) (r : Nat) (hr : r < 4) (k : Nat) (hk8 : k < 802) (hV : zc_V X) (hN : zc_N X r) (hu : X 56 k < X 20 5) (hq : X 52 k < 4) (hkd : X 48 k < 3) (hm : X 44 3 < 802) (hw : X (84 + r) 3 < 90) (I : wx_S → Prop) (hI : ∀ X, I X → zc_I0 X r) (hstep : ∀ X Y, I X → X (64 + r) 8 = 1 → zc_step X r = some Y → I Y) (hX : I (zc_tk X r k)) : nw_M wd_all yy_Re_take cc_Re_take 4 none 7 0 0 [.ref (64 + r), .int (nI k)] X (fun v X' => v = none ∧ X' = zc_take X r k) := by
  refine nw_of [some (.ref (64 + r)), some (.int (nI k)), none, none] (by decide +kernel) rfl (Nat.le_of_ble_eq_true rfl) rfl ?_
  intro p l e s m args below meth c A g C
  refine cw_aload_n C dd_Re_take_0 rfl ?_
  refine cw_getr (q' := 44) C wc_16 kF_Re_32 (is_16 hr) (by decide) rfl dd_Re_take_1 rfl ?_
  refine cw_getr (q' := 56) C wc_11 kF_Re_104 is_11 (by decide) rfl dd_Re_take_4 rfl ?_
  refine cw_iload_n C dd_Re_take_7 rfl ?_
  refine nw_iald C is_14 (by first | omega | (simp [wx_u] <;> omega)) (by decide) dd_Re_take_8 ?_
  refine cw_istore_n C dd_Re_take_9 (Nat.le_of_ble_eq_true rfl) ?_
  refine cw_aload_n C dd_Re_take_10 rfl ?_
  refine cw_getr (q' := 44) C wc_16 kF_Re_32 (is_16 hr) (by decide) rfl dd_Re_take_11 rfl ?_
  refine cw_getr (q' := 52) C wc_11 kF_Re_110 is_11 (by decide) rfl dd_Re_take_14 rfl ?_
  refine cw_iload_n C dd_Re_take_17 rfl ?_
  refine nw_iald C is_13 (by first | omega | (simp [wx_u] <;> omega)) (by decide) dd_Re_take_18 ?_
  refine cw_istore_n C dd_Re_take_19 (Nat.le_of_ble_eq_true rfl) ?_
  refine cw_aload_n C dd_Re_take_20 rfl ?_
  refine cw_getr (q' := 44) C wc_16 kF_Re_32 (is_16 hr) (by decide) rfl dd_Re_take_21 rfl ?_
  refine cw_getr (q' := 48) C wc_11 kF_Re_113 is_11 (by decide) rfl dd_Re_take_24 rfl ?_
  refine cw_iload_n C dd_Re_take_27 rfl ?_
  refine nw_iald C is_12 (by first | omega | (simp [wx_u] <;> omega)) (by decide) dd_Re_take_28 ?_
  rcases (show X 48 k = 0 ∨ X 48 k = 1 ∨ X 48 k = 2 by omega) with hk | hk | hk
  · have e9 : zc_tk X r k = zc_tkS X r (X 56 k) (X 52 k) := if_pos hk
    refine cw_lookup (off := 27) (tgt := 56) C dd_Re_take_29 (by decide) (by rw [hk]; decide +kernel) (by decide) ?_
    refine cw_aload_n C dd_Re_take_56 rfl ?_
    refine cw_iload_n C dd_Re_take_57 rfl ?_
    refine cw_iload_n C dd_Re_take_58 rfl ?_
    refine cw_callV (As := [_, _]) C kV_Re_116 wc_16 (is_16 hr) dd_Re_take_59 rfl rfl (Nat.le_of_ble_eq_true rfl) ⟨(Nat.le_of_ble_eq_true rfl), (Nat.le_of_ble_eq_true rfl)⟩ ⟨(Nat.le_of_ble_eq_true rfl), (Nat.le_of_ble_eq_true rfl)⟩ (mm_Re_takeSend X r hr (X 56 k) (X 52 k) hV hN hu hm (by omega)) (nw_kv ?_)
    refine cw_goto (tgt := 80) C dd_Re_take_62 (by decide) ?_
    refine cw_aload_n C dd_Re_take_80 rfl ?_
    refine cw_callV (As := []) C kV_Re_101 wc_16 (is_16 hr) dd_Re_take_81 rfl rfl (Nat.le_of_ble_eq_true rfl) ⟨(Nat.le_of_ble_eq_true rfl), (Nat.le_of_ble_eq_true rfl)⟩ ⟨(Nat.le_of_ble_eq_true rfl), (Nat.le_of_ble_eq_true rfl)⟩ (mm_Re_act _ r hr I hI hstep (by rw [e9] at hX; exact hX)) (nw_kv ?_)
    exact cw_vreturn C dd_Re_take_84 (Nat.le_of_ble_eq_true rfl) (Nat.le_of_ble_eq_true rfl) ⟨_, rfl, rfl, ⟨rfl, by rw [zc_take, e9]⟩⟩
  · have e9 : zc_tk X r k = zc_tkE X r (X 56 k) (X 52 k) := by rw [zc_tk, if_neg (by omega), if_pos hk]
    refine cw_lookup (off := 36) (tgt := 65) C dd_Re_take_29 (by decide) (by rw [hk]; decide +kernel) (by decide) ?_
    refine cw_aload_n C dd_Re_take_65 rfl ?_
    refine cw_iload_n C dd_Re_take_66 rfl ?_
    refine cw_iload_n C dd_Re_take_67 rfl ?_
    refine cw_callV (As := [_, _]) C kV_Re_120 wc_16 (is_16 hr) dd_Re_take_68 rfl rfl (Nat.le_of_ble_eq_true rfl) ⟨(Nat.le_of_ble_eq_true rfl), (Nat.le_of_ble_eq_true rfl)⟩ ⟨(Nat.le_of_ble_eq_true rfl), (Nat.le_of_ble_eq_true rfl)⟩ (mm_Re_takeEcho X r hr (X 56 k) (X 52 k) hV hN hu hq hm) (nw_kv ?_)
    refine cw_goto (tgt := 80) C dd_Re_take_71 (by decide) ?_
    refine cw_aload_n C dd_Re_take_80 rfl ?_
    refine cw_callV (As := []) C kV_Re_101 wc_16 (is_16 hr) dd_Re_take_81 rfl rfl (Nat.le_of_ble_eq_true rfl) ⟨(Nat.le_of_ble_eq_true rfl), (Nat.le_of_ble_eq_true rfl)⟩ ⟨(Nat.le_of_ble_eq_true rfl), (Nat.le_of_ble_eq_true rfl)⟩ (mm_Re_act _ r hr I hI hstep (by rw [e9] at hX; exact hX)) (nw_kv ?_)
    exact cw_vreturn C dd_Re_take_84 (Nat.le_of_ble_eq_true rfl) (Nat.le_of_ble_eq_true rfl) ⟨_, rfl, rfl, ⟨rfl, by rw [zc_take, e9]⟩⟩
  · have e9 : zc_tk X r k = zc_tkR X r (X 56 k) (X 52 k) := by rw [zc_tk, if_neg (by omega), if_neg (by omega)]
    refine cw_lookup (off := 45) (tgt := 74) C dd_Re_take_29 (by decide) (by rw [hk]; decide +kernel) (by decide) ?_
    refine cw_aload_n C dd_Re_take_74 rfl ?_
    refine cw_iload_n C dd_Re_take_75 rfl ?_
    refine cw_iload_n C dd_Re_take_76 rfl ?_
    refine cw_callV (As := [_, _]) C kV_Re_123 wc_16 (is_16 hr) dd_Re_take_77 rfl rfl (Nat.le_of_ble_eq_true rfl) ⟨(Nat.le_of_ble_eq_true rfl), (Nat.le_of_ble_eq_true rfl)⟩ ⟨(Nat.le_of_ble_eq_true rfl), (Nat.le_of_ble_eq_true rfl)⟩ (mm_Re_takeReady X r hr (X 56 k) (X 52 k) hV hN hu hq hm hw) (nw_kv ?_)
    refine cw_aload_n C dd_Re_take_80 rfl ?_
    refine cw_callV (As := []) C kV_Re_101 wc_16 (is_16 hr) dd_Re_take_81 rfl rfl (Nat.le_of_ble_eq_true rfl) ⟨(Nat.le_of_ble_eq_true rfl), (Nat.le_of_ble_eq_true rfl)⟩ ⟨(Nat.le_of_ble_eq_true rfl), (Nat.le_of_ble_eq_true rfl)⟩ (mm_Re_act _ r hr I hI hstep (by rw [e9] at hX; exact hX)) (nw_kv ?_)
    exact cw_vreturn C dd_Re_take_84 (Nat.le_of_ble_eq_true rfl) (Nat.le_of_ble_eq_true rfl) ⟨_, rfl, rfl, ⟨rfl, by rw [zc_take, e9]⟩⟩
end
