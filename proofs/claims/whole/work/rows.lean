section
-- ===== PART A: goes FIRST, ahead of the names: the tables' words, and 'selects' of the private methods out of them =====
/-- a private method of a class that the tables say can be made, by its rows of tables_1 -/
def lw_okq (q : MethodName × Nat) : Prop := (q.1.cls ≠ "java/lang/invoke/MethodHandle" ∧ q.1.cls ≠ "java/lang/invoke/VarHandle") ∧ Cond.instantiable q.1.cls q.2 ∈ tables_1 ∧ Cond.privateMethod q.1 ∈ tables_1 ∧ Cond.instanceMethod q.1 ∈ tables_1
theorem lw_p0 : lw_okq (⟨"DagLedger", "isTransferOrNone", "(I)Z"⟩, 5) := ⟨⟨by decide +kernel, by decide +kernel⟩, List.mem_of_getElem? (i := 21) (by decide +kernel), List.mem_of_getElem? (i := 316) (by decide +kernel), List.mem_of_getElem? (i := 317) (by decide +kernel)⟩
theorem lw_p1 : lw_okq (⟨"DagLedger", "upReplica", "(I)LDagLedger$Replica;"⟩, 5) := ⟨⟨by decide +kernel, by decide +kernel⟩, List.mem_of_getElem? (i := 21) (by decide +kernel), List.mem_of_getElem? (i := 369) (by decide +kernel), List.mem_of_getElem? (i := 370) (by decide +kernel)⟩
theorem lw_p2 : lw_okq (⟨"DagLedger", "replicaOf", "(I)LDagLedger$Replica;"⟩, 5) := ⟨⟨by decide +kernel, by decide +kernel⟩, List.mem_of_getElem? (i := 21) (by decide +kernel), List.mem_of_getElem? (i := 373) (by decide +kernel), List.mem_of_getElem? (i := 374) (by decide +kernel)⟩
theorem lw_p3 : lw_okq (⟨"java/lang/Throwable", "fillInStackTrace", "(I)Ljava/lang/Throwable;"⟩, 6) := ⟨⟨by decide +kernel, by decide +kernel⟩, List.mem_of_getElem? (i := 414) (by decide +kernel), List.mem_of_getElem? (i := 412) (by decide +kernel), List.mem_of_getElem? (i := 413) (by decide +kernel)⟩
theorem lw_p4 : lw_okq (⟨"DagLedger$Replica", "takeSend", "(II)V"⟩, 13) := ⟨⟨by decide +kernel, by decide +kernel⟩, List.mem_of_getElem? (i := 115) (by decide +kernel), List.mem_of_getElem? (i := 516) (by decide +kernel), List.mem_of_getElem? (i := 517) (by decide +kernel)⟩
theorem lw_p5 : lw_okq (⟨"DagLedger$Replica", "takeEcho", "(II)V"⟩, 13) := ⟨⟨by decide +kernel, by decide +kernel⟩, List.mem_of_getElem? (i := 115) (by decide +kernel), List.mem_of_getElem? (i := 535) (by decide +kernel), List.mem_of_getElem? (i := 536) (by decide +kernel)⟩
theorem lw_p6 : lw_okq (⟨"DagLedger$Replica", "becomeReady", "(I)V"⟩, 13) := ⟨⟨by decide +kernel, by decide +kernel⟩, List.mem_of_getElem? (i := 115) (by decide +kernel), List.mem_of_getElem? (i := 544) (by decide +kernel), List.mem_of_getElem? (i := 545) (by decide +kernel)⟩
theorem lw_p7 : lw_okq (⟨"DagLedger$Replica", "takeReady", "(II)V"⟩, 13) := ⟨⟨by decide +kernel, by decide +kernel⟩, List.mem_of_getElem? (i := 115) (by decide +kernel), List.mem_of_getElem? (i := 548) (by decide +kernel), List.mem_of_getElem? (i := 549) (by decide +kernel)⟩
theorem lw_p8 : lw_okq (⟨"DagLedger$Replica", "insertNext", "()Z"⟩, 13) := ⟨⟨by decide +kernel, by decide +kernel⟩, List.mem_of_getElem? (i := 115) (by decide +kernel), List.mem_of_getElem? (i := 561) (by decide +kernel), List.mem_of_getElem? (i := 562) (by decide +kernel)⟩
theorem lw_p9 : lw_okq (⟨"DagLedger$Commits", "nextRound", "()I"⟩, 6) := ⟨⟨by decide +kernel, by decide +kernel⟩, List.mem_of_getElem? (i := 223) (by decide +kernel), List.mem_of_getElem? (i := 590) (by decide +kernel), List.mem_of_getElem? (i := 591) (by decide +kernel)⟩
theorem lw_p10 : lw_okq (⟨"DagLedger$Commits", "leadersUnder", "(I)I"⟩, 6) := ⟨⟨by decide +kernel, by decide +kernel⟩, List.mem_of_getElem? (i := 223) (by decide +kernel), List.mem_of_getElem? (i := 603) (by decide +kernel), List.mem_of_getElem? (i := 604) (by decide +kernel)⟩
theorem lw_p11 : lw_okq (⟨"DagLedger$Commits", "emit", "(II)V"⟩, 6) := ⟨⟨by decide +kernel, by decide +kernel⟩, List.mem_of_getElem? (i := 223) (by decide +kernel), List.mem_of_getElem? (i := 612) (by decide +kernel), List.mem_of_getElem? (i := 613) (by decide +kernel)⟩
theorem lw_p12 : lw_okq (⟨"DagLedger$Commits", "emitRound", "(II)V"⟩, 6) := ⟨⟨by decide +kernel, by decide +kernel⟩, List.mem_of_getElem? (i := 223) (by decide +kernel), List.mem_of_getElem? (i := 616) (by decide +kernel), List.mem_of_getElem? (i := 617) (by decide +kernel)⟩
theorem lw_p13 : lw_okq (⟨"DagLedger$Replica", "advance", "()Z"⟩, 13) := ⟨⟨by decide +kernel, by decide +kernel⟩, List.mem_of_getElem? (i := 115) (by decide +kernel), List.mem_of_getElem? (i := 628) (by decide +kernel), List.mem_of_getElem? (i := 629) (by decide +kernel)⟩
theorem lw_p14 : lw_okq (⟨"DagLedger$Replica", "mayAdvance", "()Z"⟩, 13) := ⟨⟨by decide +kernel, by decide +kernel⟩, List.mem_of_getElem? (i := 115) (by decide +kernel), List.mem_of_getElem? (i := 632) (by decide +kernel), List.mem_of_getElem? (i := 633) (by decide +kernel)⟩
theorem lw_p15 : lw_okq (⟨"DagLedgerModel", "fresh", "(I)V"⟩, 35) := ⟨⟨by decide +kernel, by decide +kernel⟩, List.mem_of_getElem? (i := 745) (by decide +kernel), List.mem_of_getElem? (i := 751) (by decide +kernel), List.mem_of_getElem? (i := 752) (by decide +kernel)⟩
def lw_privs_1 : List (MethodName × Nat) := [(⟨"DagLedger", "isTransferOrNone", "(I)Z"⟩, 5), (⟨"DagLedger", "upReplica", "(I)LDagLedger$Replica;"⟩, 5), (⟨"DagLedger", "replicaOf", "(I)LDagLedger$Replica;"⟩, 5), (⟨"java/lang/Throwable", "fillInStackTrace", "(I)Ljava/lang/Throwable;"⟩, 6), (⟨"DagLedger$Replica", "takeSend", "(II)V"⟩, 13), (⟨"DagLedger$Replica", "takeEcho", "(II)V"⟩, 13), (⟨"DagLedger$Replica", "becomeReady", "(I)V"⟩, 13), (⟨"DagLedger$Replica", "takeReady", "(II)V"⟩, 13), (⟨"DagLedger$Replica", "insertNext", "()Z"⟩, 13), (⟨"DagLedger$Commits", "nextRound", "()I"⟩, 6), (⟨"DagLedger$Commits", "leadersUnder", "(I)I"⟩, 6), (⟨"DagLedger$Commits", "emit", "(II)V"⟩, 6), (⟨"DagLedger$Commits", "emitRound", "(II)V"⟩, 6), (⟨"DagLedger$Replica", "advance", "()Z"⟩, 13), (⟨"DagLedger$Replica", "mayAdvance", "()Z"⟩, 13), (⟨"DagLedgerModel", "fresh", "(I)V"⟩, 35)]
theorem lw_r1 : ∀ q ∈ lw_privs_1, lw_okq q := List.forall_mem_cons.mpr ⟨lw_p0, List.forall_mem_cons.mpr ⟨lw_p1, List.forall_mem_cons.mpr ⟨lw_p2, List.forall_mem_cons.mpr ⟨lw_p3, List.forall_mem_cons.mpr ⟨lw_p4, List.forall_mem_cons.mpr ⟨lw_p5, List.forall_mem_cons.mpr ⟨lw_p6, List.forall_mem_cons.mpr ⟨lw_p7, List.forall_mem_cons.mpr ⟨lw_p8, List.forall_mem_cons.mpr ⟨lw_p9, List.forall_mem_cons.mpr ⟨lw_p10, List.forall_mem_cons.mpr ⟨lw_p11, List.forall_mem_cons.mpr ⟨lw_p12, List.forall_mem_cons.mpr ⟨lw_p13, List.forall_mem_cons.mpr ⟨lw_p14, List.forall_mem_cons.mpr ⟨lw_p15, fun _ h => absurd h List.not_mem_nil⟩⟩⟩⟩⟩⟩⟩⟩⟩⟩⟩⟩⟩⟩⟩⟩
theorem lw_p16 : lw_okq (⟨"DagLedgerModel", "isNode", "(I)Z"⟩, 35) := ⟨⟨by decide +kernel, by decide +kernel⟩, List.mem_of_getElem? (i := 745) (by decide +kernel), List.mem_of_getElem? (i := 870) (by decide +kernel), List.mem_of_getElem? (i := 871) (by decide +kernel)⟩
theorem lw_p17 : lw_okq (⟨"DagLedgerModel", "record", "(I)Z"⟩, 35) := ⟨⟨by decide +kernel, by decide +kernel⟩, List.mem_of_getElem? (i := 745) (by decide +kernel), List.mem_of_getElem? (i := 877) (by decide +kernel), List.mem_of_getElem? (i := 878) (by decide +kernel)⟩
theorem lw_p18 : lw_okq (⟨"DagLedgerModel", "fall", "(I)V"⟩, 35) := ⟨⟨by decide +kernel, by decide +kernel⟩, List.mem_of_getElem? (i := 745) (by decide +kernel), List.mem_of_getElem? (i := 881) (by decide +kernel), List.mem_of_getElem? (i := 882) (by decide +kernel)⟩
theorem lw_p19 : lw_okq (⟨"DagLedgerModel", "works", "(I)Z"⟩, 35) := ⟨⟨by decide +kernel, by decide +kernel⟩, List.mem_of_getElem? (i := 745) (by decide +kernel), List.mem_of_getElem? (i := 889) (by decide +kernel), List.mem_of_getElem? (i := 890) (by decide +kernel)⟩
theorem lw_p20 : lw_okq (⟨"DagLedgerModel", "full", "()Z"⟩, 35) := ⟨⟨by decide +kernel, by decide +kernel⟩, List.mem_of_getElem? (i := 745) (by decide +kernel), List.mem_of_getElem? (i := 893) (by decide +kernel), List.mem_of_getElem? (i := 894) (by decide +kernel)⟩
theorem lw_p21 : lw_okq (⟨"DagLedgerModel", "take", "(II)V"⟩, 35) := ⟨⟨by decide +kernel, by decide +kernel⟩, List.mem_of_getElem? (i := 745) (by decide +kernel), List.mem_of_getElem? (i := 897) (by decide +kernel), List.mem_of_getElem? (i := 898) (by decide +kernel)⟩
theorem lw_p22 : lw_okq (⟨"DagLedgerModel", "formed", "(I)Z"⟩, 35) := ⟨⟨by decide +kernel, by decide +kernel⟩, List.mem_of_getElem? (i := 745) (by decide +kernel), List.mem_of_getElem? (i := 901) (by decide +kernel), List.mem_of_getElem? (i := 902) (by decide +kernel)⟩
theorem lw_p23 : lw_okq (⟨"DagLedgerModel", "spot", "(II)I"⟩, 35) := ⟨⟨by decide +kernel, by decide +kernel⟩, List.mem_of_getElem? (i := 745) (by decide +kernel), List.mem_of_getElem? (i := 908) (by decide +kernel), List.mem_of_getElem? (i := 909) (by decide +kernel)⟩
theorem lw_p24 : lw_okq (⟨"DagLedgerModel", "say", "(III)I"⟩, 35) := ⟨⟨by decide +kernel, by decide +kernel⟩, List.mem_of_getElem? (i := 745) (by decide +kernel), List.mem_of_getElem? (i := 912) (by decide +kernel), List.mem_of_getElem? (i := 913) (by decide +kernel)⟩
theorem lw_p25 : lw_okq (⟨"DagLedgerModel", "act", "(I)V"⟩, 35) := ⟨⟨by decide +kernel, by decide +kernel⟩, List.mem_of_getElem? (i := 745) (by decide +kernel), List.mem_of_getElem? (i := 916) (by decide +kernel), List.mem_of_getElem? (i := 917) (by decide +kernel)⟩
theorem lw_p26 : lw_okq (⟨"DagLedgerModel", "insertable", "(I)I"⟩, 35) := ⟨⟨by decide +kernel, by decide +kernel⟩, List.mem_of_getElem? (i := 745) (by decide +kernel), List.mem_of_getElem? (i := 920) (by decide +kernel), List.mem_of_getElem? (i := 921) (by decide +kernel)⟩
theorem lw_p27 : lw_okq (⟨"DagLedgerModel", "there", "(II)I"⟩, 35) := ⟨⟨by decide +kernel, by decide +kernel⟩, List.mem_of_getElem? (i := 745) (by decide +kernel), List.mem_of_getElem? (i := 924) (by decide +kernel), List.mem_of_getElem? (i := 925) (by decide +kernel)⟩
theorem lw_p28 : lw_okq (⟨"DagLedgerModel", "committable", "(I)I"⟩, 35) := ⟨⟨by decide +kernel, by decide +kernel⟩, List.mem_of_getElem? (i := 745) (by decide +kernel), List.mem_of_getElem? (i := 928) (by decide +kernel), List.mem_of_getElem? (i := 929) (by decide +kernel)⟩
theorem lw_p29 : lw_okq (⟨"DagLedgerModel", "hasLeader", "(II)Z"⟩, 35) := ⟨⟨by decide +kernel, by decide +kernel⟩, List.mem_of_getElem? (i := 745) (by decide +kernel), List.mem_of_getElem? (i := 935) (by decide +kernel), List.mem_of_getElem? (i := 936) (by decide +kernel)⟩
theorem lw_p30 : lw_okq (⟨"DagLedgerModel", "commit", "(II)V"⟩, 35) := ⟨⟨by decide +kernel, by decide +kernel⟩, List.mem_of_getElem? (i := 745) (by decide +kernel), List.mem_of_getElem? (i := 939) (by decide +kernel), List.mem_of_getElem? (i := 940) (by decide +kernel)⟩
theorem lw_p31 : lw_okq (⟨"DagLedgerModel", "spread", "(III)V"⟩, 35) := ⟨⟨by decide +kernel, by decide +kernel⟩, List.mem_of_getElem? (i := 745) (by decide +kernel), List.mem_of_getElem? (i := 943) (by decide +kernel), List.mem_of_getElem? (i := 944) (by decide +kernel)⟩
def lw_privs_2 : List (MethodName × Nat) := [(⟨"DagLedgerModel", "isNode", "(I)Z"⟩, 35), (⟨"DagLedgerModel", "record", "(I)Z"⟩, 35), (⟨"DagLedgerModel", "fall", "(I)V"⟩, 35), (⟨"DagLedgerModel", "works", "(I)Z"⟩, 35), (⟨"DagLedgerModel", "full", "()Z"⟩, 35), (⟨"DagLedgerModel", "take", "(II)V"⟩, 35), (⟨"DagLedgerModel", "formed", "(I)Z"⟩, 35), (⟨"DagLedgerModel", "spot", "(II)I"⟩, 35), (⟨"DagLedgerModel", "say", "(III)I"⟩, 35), (⟨"DagLedgerModel", "act", "(I)V"⟩, 35), (⟨"DagLedgerModel", "insertable", "(I)I"⟩, 35), (⟨"DagLedgerModel", "there", "(II)I"⟩, 35), (⟨"DagLedgerModel", "committable", "(I)I"⟩, 35), (⟨"DagLedgerModel", "hasLeader", "(II)Z"⟩, 35), (⟨"DagLedgerModel", "commit", "(II)V"⟩, 35), (⟨"DagLedgerModel", "spread", "(III)V"⟩, 35)]
theorem lw_r2 : ∀ q ∈ lw_privs_2, lw_okq q := List.forall_mem_cons.mpr ⟨lw_p16, List.forall_mem_cons.mpr ⟨lw_p17, List.forall_mem_cons.mpr ⟨lw_p18, List.forall_mem_cons.mpr ⟨lw_p19, List.forall_mem_cons.mpr ⟨lw_p20, List.forall_mem_cons.mpr ⟨lw_p21, List.forall_mem_cons.mpr ⟨lw_p22, List.forall_mem_cons.mpr ⟨lw_p23, List.forall_mem_cons.mpr ⟨lw_p24, List.forall_mem_cons.mpr ⟨lw_p25, List.forall_mem_cons.mpr ⟨lw_p26, List.forall_mem_cons.mpr ⟨lw_p27, List.forall_mem_cons.mpr ⟨lw_p28, List.forall_mem_cons.mpr ⟨lw_p29, List.forall_mem_cons.mpr ⟨lw_p30, List.forall_mem_cons.mpr ⟨lw_p31, fun _ h => absurd h List.not_mem_nil⟩⟩⟩⟩⟩⟩⟩⟩⟩⟩⟩⟩⟩⟩⟩⟩
theorem lw_p32 : lw_okq (⟨"DagLedgerModel", "emit", "(II)V"⟩, 35) := ⟨⟨by decide +kernel, by decide +kernel⟩, List.mem_of_getElem? (i := 745) (by decide +kernel), List.mem_of_getElem? (i := 947) (by decide +kernel), List.mem_of_getElem? (i := 948) (by decide +kernel)⟩
theorem lw_p33 : lw_okq (⟨"DagLedgerModel", "place", "(II)V"⟩, 35) := ⟨⟨by decide +kernel, by decide +kernel⟩, List.mem_of_getElem? (i := 745) (by decide +kernel), List.mem_of_getElem? (i := 951) (by decide +kernel), List.mem_of_getElem? (i := 952) (by decide +kernel)⟩
theorem lw_p34 : lw_okq (⟨"DagLedgerModel", "advances", "(I)Z"⟩, 35) := ⟨⟨by decide +kernel, by decide +kernel⟩, List.mem_of_getElem? (i := 745) (by decide +kernel), List.mem_of_getElem? (i := 955) (by decide +kernel), List.mem_of_getElem? (i := 956) (by decide +kernel)⟩
theorem lw_p35 : lw_okq (⟨"DagLedgerModel", "advance", "(I)V"⟩, 35) := ⟨⟨by decide +kernel, by decide +kernel⟩, List.mem_of_getElem? (i := 745) (by decide +kernel), List.mem_of_getElem? (i := 959) (by decide +kernel), List.mem_of_getElem? (i := 960) (by decide +kernel)⟩
theorem lw_p36 : lw_okq (⟨"DagLedgerModel", "queued", "(II)I"⟩, 35) := ⟨⟨by decide +kernel, by decide +kernel⟩, List.mem_of_getElem? (i := 745) (by decide +kernel), List.mem_of_getElem? (i := 963) (by decide +kernel), List.mem_of_getElem? (i := 964) (by decide +kernel)⟩
theorem lw_p37 : lw_okq (⟨"DagLedgerModel", "make", "(IIIII)I"⟩, 35) := ⟨⟨by decide +kernel, by decide +kernel⟩, List.mem_of_getElem? (i := 745) (by decide +kernel), List.mem_of_getElem? (i := 967) (by decide +kernel), List.mem_of_getElem? (i := 968) (by decide +kernel)⟩
theorem lw_p38 : lw_okq (⟨"DagLedgerModel", "faulty", "()I"⟩, 35) := ⟨⟨by decide +kernel, by decide +kernel⟩, List.mem_of_getElem? (i := 745) (by decide +kernel), List.mem_of_getElem? (i := 995) (by decide +kernel), List.mem_of_getElem? (i := 996) (by decide +kernel)⟩
theorem lw_p39 : lw_okq (⟨"DagLedgerModel", "isTransfer", "(I)Z"⟩, 35) := ⟨⟨by decide +kernel, by decide +kernel⟩, List.mem_of_getElem? (i := 745) (by decide +kernel), List.mem_of_getElem? (i := 1003) (by decide +kernel), List.mem_of_getElem? (i := 1004) (by decide +kernel)⟩
def lw_privs_3 : List (MethodName × Nat) := [(⟨"DagLedgerModel", "emit", "(II)V"⟩, 35), (⟨"DagLedgerModel", "place", "(II)V"⟩, 35), (⟨"DagLedgerModel", "advances", "(I)Z"⟩, 35), (⟨"DagLedgerModel", "advance", "(I)V"⟩, 35), (⟨"DagLedgerModel", "queued", "(II)I"⟩, 35), (⟨"DagLedgerModel", "make", "(IIIII)I"⟩, 35), (⟨"DagLedgerModel", "faulty", "()I"⟩, 35), (⟨"DagLedgerModel", "isTransfer", "(I)Z"⟩, 35)]
theorem lw_r3 : ∀ q ∈ lw_privs_3, lw_okq q := List.forall_mem_cons.mpr ⟨lw_p32, List.forall_mem_cons.mpr ⟨lw_p33, List.forall_mem_cons.mpr ⟨lw_p34, List.forall_mem_cons.mpr ⟨lw_p35, List.forall_mem_cons.mpr ⟨lw_p36, List.forall_mem_cons.mpr ⟨lw_p37, List.forall_mem_cons.mpr ⟨lw_p38, List.forall_mem_cons.mpr ⟨lw_p39, fun _ h => absurd h List.not_mem_nil⟩⟩⟩⟩⟩⟩⟩⟩
def lw_privs : List (MethodName × Nat) := lw_privs_1 ++ (lw_privs_2 ++ (lw_privs_3))
def lw_tbl : List Cond := k2_sels lw_privs ++ tables_1
theorem lw_privs_ok : ∀ q ∈ lw_privs, lw_okq q := by
  show ∀ q ∈ lw_privs_1 ++ (lw_privs_2 ++ (lw_privs_3)), lw_okq q
  exact List.forall_mem_append.mpr ⟨lw_r1, List.forall_mem_append.mpr ⟨lw_r2, lw_r3⟩⟩
end
section
/-! names of methods and codes, the plan of the world, the words that are used (written by wip/whole/gen02.py) -/
abbrev cc_Le_init : ByteArray := prog_1_method_1_code
def yy_Le_init : MethodName := ⟨"DagLedger", "<init>", "()V"⟩
abbrev cc_Tr_init : ByteArray := prog_9_method_1_code
def yy_Tr_init : MethodName := ⟨"DagLedger$Transfers", "<init>", "()V"⟩
abbrev cc_Ve_init : ByteArray := prog_10_method_1_code
def yy_Ve_init : MethodName := ⟨"DagLedger$Vertices", "<init>", "()V"⟩
abbrev cc_Bo_init : ByteArray := prog_2_method_1_code
def yy_Bo_init : MethodName := ⟨"DagLedger$Board", "<init>", "()V"⟩
abbrev cc_Re_init : ByteArray := prog_8_method_1_code
def yy_Re_init : MethodName := ⟨"DagLedger$Replica", "<init>", "(ILDagLedger$Board;LDagLedger$Vertices;LDagLedger$Transfers;)V"⟩
abbrev cc_Di_init : ByteArray := prog_6_method_1_code
def yy_Di_init : MethodName := ⟨"DagLedger$Disk", "<init>", "()V"⟩
abbrev cc_No_init : ByteArray := prog_7_method_1_code
def yy_No_init : MethodName := ⟨"DagLedger$Notes", "<init>", "()V"⟩
abbrev cc_Dg_init : ByteArray := prog_5_method_1_code
def yy_Dg_init : MethodName := ⟨"DagLedger$Dag", "<init>", "(LDagLedger$Vertices;)V"⟩
abbrev cc_Ar_fill : ByteArray := prog_21_method_103_code
def yy_Ar_fill : MethodName := ⟨"java/util/Arrays", "fill", "([II)V"⟩
abbrev cc_Bk_init : ByteArray := prog_3_method_1_code
def yy_Bk_init : MethodName := ⟨"DagLedger$Book", "<init>", "(LDagLedger$Transfers;)V"⟩
abbrev cc_Co_init : ByteArray := prog_4_method_1_code
def yy_Co_init : MethodName := ⟨"DagLedger$Commits", "<init>", "(LDagLedger$Vertices;LDagLedger$Dag;LDagLedger$Book;)V"⟩
abbrev cc_Le_forge : ByteArray := prog_1_method_10_code
def yy_Le_forge : MethodName := ⟨"DagLedger", "forge", "(IIII)I"⟩
abbrev cc_Le_isTransferOrNone : ByteArray := prog_1_method_20_code
def yy_Le_isTransferOrNone : MethodName := ⟨"DagLedger", "isTransferOrNone", "(I)Z"⟩
abbrev cc_Tr_has : ByteArray := prog_9_method_2_code
def yy_Tr_has : MethodName := ⟨"DagLedger$Transfers", "has", "(I)Z"⟩
abbrev cc_Ve_isFull : ByteArray := prog_10_method_3_code
def yy_Ve_isFull : MethodName := ⟨"DagLedger$Vertices", "isFull", "()Z"⟩
abbrev cc_Bo_isFull : ByteArray := prog_2_method_3_code
def yy_Bo_isFull : MethodName := ⟨"DagLedger$Board", "isFull", "()Z"⟩
abbrev cc_Ve_add : ByteArray := prog_10_method_4_code
def yy_Ve_add : MethodName := ⟨"DagLedger$Vertices", "add", "(IIIII)I"⟩
abbrev cc_Bo_post : ByteArray := prog_2_method_4_code
def yy_Bo_post : MethodName := ⟨"DagLedger$Board", "post", "(III)I"⟩
abbrev cc_Le_send : ByteArray := prog_1_method_11_code
def yy_Le_send : MethodName := ⟨"DagLedger", "send", "(II)I"⟩
abbrev cc_Ve_has : ByteArray := prog_10_method_2_code
def yy_Ve_has : MethodName := ⟨"DagLedger$Vertices", "has", "(I)Z"⟩
abbrev cc_Le_message : ByteArray := prog_1_method_12_code
def yy_Le_message : MethodName := ⟨"DagLedger", "message", "(II)I"⟩
abbrev cc_Bo_has : ByteArray := prog_2_method_2_code
def yy_Bo_has : MethodName := ⟨"DagLedger$Board", "has", "(I)Z"⟩
abbrev cc_Le_vertex : ByteArray := prog_1_method_13_code
def yy_Le_vertex : MethodName := ⟨"DagLedger", "vertex", "(II)I"⟩
abbrev cc_La_submit : ByteArray := method_3_code
def yy_La_submit : MethodName := ⟨"DagLedgerLaw", "submit", "(LDagLedger;IIII[J)I"⟩
abbrev cc_Le_submit : ByteArray := prog_1_method_2_code
def yy_Le_submit : MethodName := ⟨"DagLedger", "submit", "(IIII)I"⟩
abbrev cc_Le_upReplica : ByteArray := prog_1_method_19_code
def yy_Le_upReplica : MethodName := ⟨"DagLedger", "upReplica", "(I)LDagLedger$Replica;"⟩
abbrev cc_Le_replicaOf : ByteArray := prog_1_method_18_code
def yy_Le_replicaOf : MethodName := ⟨"DagLedger", "replicaOf", "(I)LDagLedger$Replica;"⟩
abbrev cc_Re_isUp : ByteArray := prog_8_method_2_code
def yy_Re_isUp : MethodName := ⟨"DagLedger$Replica", "isUp", "()Z"⟩
abbrev cc_Tr_isFull : ByteArray := prog_9_method_3_code
def yy_Tr_isFull : MethodName := ⟨"DagLedger$Transfers", "isFull", "()Z"⟩
abbrev cc_Le_isAccount : ByteArray := prog_1_method_21_code
def yy_Le_isAccount : MethodName := ⟨"DagLedger", "isAccount", "(I)Z"⟩
abbrev cc_Re_writeRecord : ByteArray := prog_8_method_6_code
def yy_Re_writeRecord : MethodName := ⟨"DagLedger$Replica", "writeRecord", "()Z"⟩
abbrev cc_Re_goDown : ByteArray := prog_8_method_3_code
def yy_Re_goDown : MethodName := ⟨"DagLedger$Replica", "goDown", "()V"⟩
abbrev cc_No_clear : ByteArray := prog_7_method_5_code
def yy_No_clear : MethodName := ⟨"DagLedger$Notes", "clear", "()V"⟩
abbrev cc_Dg_clear : ByteArray := prog_5_method_9_code
def yy_Dg_clear : MethodName := ⟨"DagLedger$Dag", "clear", "()V"⟩
abbrev cc_Co_clear : ByteArray := prog_4_method_7_code
def yy_Co_clear : MethodName := ⟨"DagLedger$Commits", "clear", "()V"⟩
abbrev cc_Bk_clear : ByteArray := prog_3_method_4_code
def yy_Bk_clear : MethodName := ⟨"DagLedger$Book", "clear", "()V"⟩
abbrev cc_Tr_add : ByteArray := prog_9_method_4_code
def yy_Tr_add : MethodName := ⟨"DagLedger$Transfers", "add", "(III)I"⟩
abbrev cc_Di_keepTransfer : ByteArray := prog_6_method_2_code
def yy_Di_keepTransfer : MethodName := ⟨"DagLedger$Disk", "keepTransfer", "(I)V"⟩
abbrev cc_La_deliver : ByteArray := method_4_code
def yy_La_deliver : MethodName := ⟨"DagLedgerLaw", "deliver", "(LDagLedger;II[J)I"⟩
abbrev cc_Le_deliver : ByteArray := prog_1_method_3_code
def yy_Le_deliver : MethodName := ⟨"DagLedger", "deliver", "(II)Z"⟩
abbrev cc_Re_take : ByteArray := prog_8_method_8_code
def yy_Re_take : MethodName := ⟨"DagLedger$Replica", "take", "(I)V"⟩
abbrev cc_Re_takeSend : ByteArray := prog_8_method_9_code
def yy_Re_takeSend : MethodName := ⟨"DagLedger$Replica", "takeSend", "(II)V"⟩
abbrev cc_Ve_isWellFormed : ByteArray := prog_10_method_5_code
def yy_Ve_isWellFormed : MethodName := ⟨"DagLedger$Vertices", "isWellFormed", "(I)Z"⟩
abbrev cc_In_bitCount : ByteArray := prog_16_method_49_code
def yy_In_bitCount : MethodName := ⟨"java/lang/Integer", "bitCount", "(I)I"⟩
abbrev cc_Le_contains : ByteArray := prog_1_method_23_code
def yy_Le_contains : MethodName := ⟨"DagLedger", "contains", "(II)Z"⟩
abbrev cc_Re_takeEcho : ByteArray := prog_8_method_10_code
def yy_Re_takeEcho : MethodName := ⟨"DagLedger$Replica", "takeEcho", "(II)V"⟩
abbrev cc_No_noteEcho : ByteArray := prog_7_method_2_code
def yy_No_noteEcho : MethodName := ⟨"DagLedger$Notes", "noteEcho", "(II)I"⟩
abbrev cc_Re_becomeReady : ByteArray := prog_8_method_12_code
def yy_Re_becomeReady : MethodName := ⟨"DagLedger$Replica", "becomeReady", "(I)V"⟩
abbrev cc_Re_takeReady : ByteArray := prog_8_method_11_code
def yy_Re_takeReady : MethodName := ⟨"DagLedger$Replica", "takeReady", "(II)V"⟩
abbrev cc_No_noteReady : ByteArray := prog_7_method_3_code
def yy_No_noteReady : MethodName := ⟨"DagLedger$Notes", "noteReady", "(II)I"⟩
abbrev cc_Re_act : ByteArray := prog_8_method_13_code
def yy_Re_act : MethodName := ⟨"DagLedger$Replica", "act", "()V"⟩
abbrev cc_Re_insertNext : ByteArray := prog_8_method_14_code
def yy_Re_insertNext : MethodName := ⟨"DagLedger$Replica", "insertNext", "()Z"⟩
abbrev cc_Dg_canTake : ByteArray := prog_5_method_5_code
def yy_Dg_canTake : MethodName := ⟨"DagLedger$Dag", "canTake", "(I)Z"⟩
abbrev cc_Dg_holds : ByteArray := prog_5_method_3_code
def yy_Dg_holds : MethodName := ⟨"DagLedger$Dag", "holds", "(II)Z"⟩
abbrev cc_Ve_comesBefore : ByteArray := prog_10_method_6_code
def yy_Ve_comesBefore : MethodName := ⟨"DagLedger$Vertices", "comesBefore", "(II)Z"⟩
abbrev cc_Dg_insert : ByteArray := prog_5_method_6_code
def yy_Dg_insert : MethodName := ⟨"DagLedger$Dag", "insert", "(I)V"⟩
abbrev cc_No_stopWaiting : ByteArray := prog_7_method_4_code
def yy_No_stopWaiting : MethodName := ⟨"DagLedger$Notes", "stopWaiting", "(I)V"⟩
abbrev cc_Co_commitNext : ByteArray := prog_4_method_2_code
def yy_Co_commitNext : MethodName := ⟨"DagLedger$Commits", "commitNext", "()Z"⟩
abbrev cc_Co_nextRound : ByteArray := prog_4_method_3_code
def yy_Co_nextRound : MethodName := ⟨"DagLedger$Commits", "nextRound", "()I"⟩
abbrev cc_Le_leaderOf : ByteArray := prog_1_method_22_code
def yy_Le_leaderOf : MethodName := ⟨"DagLedger", "leaderOf", "(I)I"⟩
abbrev cc_Dg_countStandingOn : ByteArray := prog_5_method_8_code
def yy_Dg_countStandingOn : MethodName := ⟨"DagLedger$Dag", "countStandingOn", "(II)I"⟩
abbrev cc_Co_leadersUnder : ByteArray := prog_4_method_4_code
def yy_Co_leadersUnder : MethodName := ⟨"DagLedger$Commits", "leadersUnder", "(I)I"⟩
abbrev cc_Dg_parentsOf : ByteArray := prog_5_method_7_code
def yy_Dg_parentsOf : MethodName := ⟨"DagLedger$Dag", "parentsOf", "(II)I"⟩
abbrev cc_Co_emit : ByteArray := prog_4_method_5_code
def yy_Co_emit : MethodName := ⟨"DagLedger$Commits", "emit", "(II)V"⟩
abbrev cc_Co_emitRound : ByteArray := prog_4_method_6_code
def yy_Co_emitRound : MethodName := ⟨"DagLedger$Commits", "emitRound", "(II)V"⟩
abbrev cc_Dg_find : ByteArray := prog_5_method_2_code
def yy_Dg_find : MethodName := ⟨"DagLedger$Dag", "find", "(II)I"⟩
abbrev cc_Bk_place : ByteArray := prog_3_method_2_code
def yy_Bk_place : MethodName := ⟨"DagLedger$Book", "place", "(I)V"⟩
abbrev cc_Re_advance : ByteArray := prog_8_method_15_code
def yy_Re_advance : MethodName := ⟨"DagLedger$Replica", "advance", "()Z"⟩
abbrev cc_Re_mayAdvance : ByteArray := prog_8_method_16_code
def yy_Re_mayAdvance : MethodName := ⟨"DagLedger$Replica", "mayAdvance", "()Z"⟩
abbrev cc_Dg_authorsOf : ByteArray := prog_5_method_4_code
def yy_Dg_authorsOf : MethodName := ⟨"DagLedger$Dag", "authorsOf", "(I)I"⟩
abbrev cc_Di_nextOfQueue : ByteArray := prog_6_method_4_code
def yy_Di_nextOfQueue : MethodName := ⟨"DagLedger$Disk", "nextOfQueue", "()I"⟩
abbrev cc_La_pump : ByteArray := method_5_code
def yy_La_pump : MethodName := ⟨"DagLedgerLaw", "pump", "(LDagLedger;II[J)I"⟩
abbrev cc_Le_pump : ByteArray := prog_1_method_4_code
def yy_Le_pump : MethodName := ⟨"DagLedger", "pump", "(II)I"⟩
abbrev cc_La_tick : ByteArray := method_6_code
def yy_La_tick : MethodName := ⟨"DagLedgerLaw", "tick", "(LDagLedger;I[J)I"⟩
abbrev cc_Le_tick : ByteArray := prog_1_method_5_code
def yy_Le_tick : MethodName := ⟨"DagLedger", "tick", "(I)Z"⟩
abbrev cc_Re_passTime : ByteArray := prog_8_method_7_code
def yy_Re_passTime : MethodName := ⟨"DagLedger$Replica", "passTime", "()V"⟩
abbrev cc_Ma_min : ByteArray := prog_17_method_69_code
def yy_Ma_min : MethodName := ⟨"java/lang/Math", "min", "(II)I"⟩
abbrev cc_La_crash : ByteArray := method_7_code
def yy_La_crash : MethodName := ⟨"DagLedgerLaw", "crash", "(LDagLedger;I[J)I"⟩
abbrev cc_Le_crash : ByteArray := prog_1_method_6_code
def yy_Le_crash : MethodName := ⟨"DagLedger", "crash", "(I)Z"⟩
abbrev cc_La_restart : ByteArray := method_8_code
def yy_La_restart : MethodName := ⟨"DagLedgerLaw", "restart", "(LDagLedger;I[J)I"⟩
abbrev cc_Le_restart : ByteArray := prog_1_method_7_code
def yy_Le_restart : MethodName := ⟨"DagLedger", "restart", "(I)Z"⟩
abbrev cc_Re_comeUp : ByteArray := prog_8_method_4_code
def yy_Re_comeUp : MethodName := ⟨"DagLedger$Replica", "comeUp", "()V"⟩
abbrev cc_Bk_open : ByteArray := prog_3_method_3_code
def yy_Bk_open : MethodName := ⟨"DagLedger$Book", "open", "()V"⟩
abbrev cc_La_cut : ByteArray := method_9_code
def yy_La_cut : MethodName := ⟨"DagLedgerLaw", "cut", "(LDagLedger;II[J)I"⟩
abbrev cc_Le_cut : ByteArray := prog_1_method_8_code
def yy_Le_cut : MethodName := ⟨"DagLedger", "cut", "(II)Z"⟩
abbrev cc_Re_setCut : ByteArray := prog_8_method_5_code
def yy_Re_setCut : MethodName := ⟨"DagLedger$Replica", "setCut", "(I)V"⟩
abbrev cc_La_corrupt : ByteArray := method_10_code
def yy_La_corrupt : MethodName := ⟨"DagLedgerLaw", "corrupt", "(LDagLedger;I[J)I"⟩
abbrev cc_Le_corrupt : ByteArray := prog_1_method_9_code
def yy_Le_corrupt : MethodName := ⟨"DagLedger", "corrupt", "(I)Z"⟩
abbrev cc_La_node : ByteArray := method_11_code
def yy_La_node : MethodName := ⟨"DagLedgerLaw", "node", "(LDagLedger;II[J)I"⟩
abbrev cc_Le_node : ByteArray := prog_1_method_14_code
def yy_Le_node : MethodName := ⟨"DagLedger", "node", "(II)I"⟩
abbrev cc_Di_queueLength : ByteArray := prog_6_method_3_code
def yy_Di_queueLength : MethodName := ⟨"DagLedger$Disk", "queueLength", "()I"⟩
abbrev cc_La_dag : ByteArray := method_12_code
def yy_La_dag : MethodName := ⟨"DagLedgerLaw", "dag", "(LDagLedger;III[J)I"⟩
abbrev cc_Le_dag : ByteArray := prog_1_method_15_code
def yy_Le_dag : MethodName := ⟨"DagLedger", "dag", "(III)I"⟩
abbrev cc_La_at : ByteArray := method_13_code
def yy_La_at : MethodName := ⟨"DagLedgerLaw", "at", "(LDagLedger;II[J)I"⟩
abbrev cc_Le_at : ByteArray := prog_1_method_16_code
def yy_Le_at : MethodName := ⟨"DagLedger", "at", "(II)I"⟩
abbrev cc_La_balance : ByteArray := method_14_code
def yy_La_balance : MethodName := ⟨"DagLedgerLaw", "balance", "(LDagLedger;II[J)I"⟩
abbrev cc_Le_balance : ByteArray := prog_1_method_17_code
def yy_Le_balance : MethodName := ⟨"DagLedger", "balance", "(II)I"⟩
abbrev cc_Mo_init : ByteArray := prog_12_method_1_code
def yy_Mo_init : MethodName := ⟨"DagLedgerModel", "<init>", "()V"⟩
abbrev cc_Mo_fresh : ByteArray := prog_12_method_4_code
def yy_Mo_fresh : MethodName := ⟨"DagLedgerModel", "fresh", "(I)V"⟩
abbrev cc_Mo_thrown : ByteArray := prog_12_method_2_code
def yy_Mo_thrown : MethodName := ⟨"DagLedgerModel", "thrown", "()I"⟩
abbrev cc_Mo_submit : ByteArray := prog_12_method_29_code
def yy_Mo_submit : MethodName := ⟨"DagLedgerModel", "submit", "(IIII)I"⟩
abbrev cc_Mo_isNode : ByteArray := prog_12_method_26_code
def yy_Mo_isNode : MethodName := ⟨"DagLedgerModel", "isNode", "(I)Z"⟩
abbrev cc_Mo_in : ByteArray := prog_12_method_3_code
def yy_Mo_in : MethodName := ⟨"DagLedgerModel", "in", "(III)Z"⟩
abbrev cc_Mo_record : ByteArray := prog_12_method_6_code
def yy_Mo_record : MethodName := ⟨"DagLedgerModel", "record", "(I)Z"⟩
abbrev cc_Mo_fall : ByteArray := prog_12_method_5_code
def yy_Mo_fall : MethodName := ⟨"DagLedgerModel", "fall", "(I)V"⟩
abbrev cc_Mo_deliver : ByteArray := prog_12_method_30_code
def yy_Mo_deliver : MethodName := ⟨"DagLedgerModel", "deliver", "(II)Z"⟩
abbrev cc_Mo_works : ByteArray := prog_12_method_27_code
def yy_Mo_works : MethodName := ⟨"DagLedgerModel", "works", "(I)Z"⟩
abbrev cc_Mo_full : ByteArray := prog_12_method_28_code
def yy_Mo_full : MethodName := ⟨"DagLedgerModel", "full", "()Z"⟩
abbrev cc_Mo_take : ByteArray := prog_12_method_11_code
def yy_Mo_take : MethodName := ⟨"DagLedgerModel", "take", "(II)V"⟩
abbrev cc_Mo_formed : ByteArray := prog_12_method_9_code
def yy_Mo_formed : MethodName := ⟨"DagLedgerModel", "formed", "(I)Z"⟩
abbrev cc_Mo_ones : ByteArray := prog_12_method_8_code
def yy_Mo_ones : MethodName := ⟨"DagLedgerModel", "ones", "(I)I"⟩
abbrev cc_Mo_spot : ByteArray := prog_12_method_10_code
def yy_Mo_spot : MethodName := ⟨"DagLedgerModel", "spot", "(II)I"⟩
abbrev cc_Mo_say : ByteArray := prog_12_method_7_code
def yy_Mo_say : MethodName := ⟨"DagLedgerModel", "say", "(III)I"⟩
abbrev cc_Mo_act : ByteArray := prog_12_method_12_code
def yy_Mo_act : MethodName := ⟨"DagLedgerModel", "act", "(I)V"⟩
abbrev cc_Mo_insertable : ByteArray := prog_12_method_14_code
def yy_Mo_insertable : MethodName := ⟨"DagLedgerModel", "insertable", "(I)I"⟩
abbrev cc_Mo_there : ByteArray := prog_12_method_13_code
def yy_Mo_there : MethodName := ⟨"DagLedgerModel", "there", "(II)I"⟩
abbrev cc_Mo_committable : ByteArray := prog_12_method_17_code
def yy_Mo_committable : MethodName := ⟨"DagLedgerModel", "committable", "(I)I"⟩
abbrev cc_Mo_leader : ByteArray := prog_12_method_15_code
def yy_Mo_leader : MethodName := ⟨"DagLedgerModel", "leader", "(I)I"⟩
abbrev cc_Mo_hasLeader : ByteArray := prog_12_method_16_code
def yy_Mo_hasLeader : MethodName := ⟨"DagLedgerModel", "hasLeader", "(II)Z"⟩
abbrev cc_Mo_commit : ByteArray := prog_12_method_19_code
def yy_Mo_commit : MethodName := ⟨"DagLedgerModel", "commit", "(II)V"⟩
abbrev cc_Mo_spread : ByteArray := prog_12_method_18_code
def yy_Mo_spread : MethodName := ⟨"DagLedgerModel", "spread", "(III)V"⟩
abbrev cc_Mo_emit : ByteArray := prog_12_method_20_code
def yy_Mo_emit : MethodName := ⟨"DagLedgerModel", "emit", "(II)V"⟩
abbrev cc_Mo_place : ByteArray := prog_12_method_21_code
def yy_Mo_place : MethodName := ⟨"DagLedgerModel", "place", "(II)V"⟩
abbrev cc_Mo_advances : ByteArray := prog_12_method_22_code
def yy_Mo_advances : MethodName := ⟨"DagLedgerModel", "advances", "(I)Z"⟩
abbrev cc_Mo_advance : ByteArray := prog_12_method_24_code
def yy_Mo_advance : MethodName := ⟨"DagLedgerModel", "advance", "(I)V"⟩
abbrev cc_Mo_queued : ByteArray := prog_12_method_23_code
def yy_Mo_queued : MethodName := ⟨"DagLedgerModel", "queued", "(II)I"⟩
abbrev cc_Mo_make : ByteArray := prog_12_method_25_code
def yy_Mo_make : MethodName := ⟨"DagLedgerModel", "make", "(IIIII)I"⟩
abbrev cc_Mo_pump : ByteArray := prog_12_method_31_code
def yy_Mo_pump : MethodName := ⟨"DagLedgerModel", "pump", "(II)I"⟩
abbrev cc_Mo_tick : ByteArray := prog_12_method_32_code
def yy_Mo_tick : MethodName := ⟨"DagLedgerModel", "tick", "(I)Z"⟩
abbrev cc_Mo_crash : ByteArray := prog_12_method_33_code
def yy_Mo_crash : MethodName := ⟨"DagLedgerModel", "crash", "(I)Z"⟩
abbrev cc_Mo_restart : ByteArray := prog_12_method_34_code
def yy_Mo_restart : MethodName := ⟨"DagLedgerModel", "restart", "(I)Z"⟩
abbrev cc_Mo_cut : ByteArray := prog_12_method_35_code
def yy_Mo_cut : MethodName := ⟨"DagLedgerModel", "cut", "(II)Z"⟩
abbrev cc_Mo_corrupt : ByteArray := prog_12_method_37_code
def yy_Mo_corrupt : MethodName := ⟨"DagLedgerModel", "corrupt", "(I)Z"⟩
abbrev cc_Mo_faulty : ByteArray := prog_12_method_36_code
def yy_Mo_faulty : MethodName := ⟨"DagLedgerModel", "faulty", "()I"⟩
abbrev cc_Mo_forge : ByteArray := prog_12_method_39_code
def yy_Mo_forge : MethodName := ⟨"DagLedgerModel", "forge", "(IIII)I"⟩
abbrev cc_Mo_isTransfer : ByteArray := prog_12_method_38_code
def yy_Mo_isTransfer : MethodName := ⟨"DagLedgerModel", "isTransfer", "(I)Z"⟩
abbrev cc_Mo_send : ByteArray := prog_12_method_40_code
def yy_Mo_send : MethodName := ⟨"DagLedgerModel", "send", "(II)I"⟩
abbrev cc_Mo_message : ByteArray := prog_12_method_41_code
def yy_Mo_message : MethodName := ⟨"DagLedgerModel", "message", "(II)I"⟩
abbrev cc_Mo_vertex : ByteArray := prog_12_method_42_code
def yy_Mo_vertex : MethodName := ⟨"DagLedgerModel", "vertex", "(II)I"⟩
abbrev cc_Mo_node : ByteArray := prog_12_method_43_code
def yy_Mo_node : MethodName := ⟨"DagLedgerModel", "node", "(II)I"⟩
abbrev cc_Mo_dag : ByteArray := prog_12_method_44_code
def yy_Mo_dag : MethodName := ⟨"DagLedgerModel", "dag", "(III)I"⟩
abbrev cc_Mo_at : ByteArray := prog_12_method_45_code
def yy_Mo_at : MethodName := ⟨"DagLedgerModel", "at", "(II)I"⟩
abbrev cc_Mo_balance : ByteArray := prog_12_method_46_code
def yy_Mo_balance : MethodName := ⟨"DagLedgerModel", "balance", "(II)I"⟩
def tt_Le : u_T := fun k => match k with
  | 0 => ("DagLedger", "transfers", "LDagLedger$Transfers;", true)
  | 1 => ("DagLedger", "vertices", "LDagLedger$Vertices;", true)
  | 2 => ("DagLedger", "board", "LDagLedger$Board;", true)
  | 3 => ("DagLedger", "replicas", "[LDagLedger$Replica;", true)
  | _ => ("DagLedger", "faulty", "I", false)
def ty_Le : Nat → FieldType := fun k => match k with
  | 0 => .object "DagLedger$Transfers"
  | 1 => .object "DagLedger$Vertices"
  | 2 => .object "DagLedger$Board"
  | 3 => .array (.object "DagLedger$Replica")
  | _ => .int
theorem nm_Le : ∀ a, a < 5 → ∀ b, b < 5 → a ≠ b → (tt_Le a).2.1 ≠ (tt_Le b).2.1 := by decide +kernel
theorem ty_Le_ok : ∀ k, k < 5 → parseFieldDescriptor (tt_Le k).2.2.1 = some (ty_Le k) := by decide +kernel
def tt_Tr : u_T := fun k => match k with
  | 0 => ("DagLedger$Transfers", "froms", "[I", true)
  | 1 => ("DagLedger$Transfers", "tos", "[I", true)
  | 2 => ("DagLedger$Transfers", "amounts", "[I", true)
  | _ => ("DagLedger$Transfers", "count", "I", false)
def ty_Tr : Nat → FieldType := fun k => match k with
  | 0 => .array .int
  | 1 => .array .int
  | 2 => .array .int
  | _ => .int
theorem nm_Tr : ∀ a, a < 4 → ∀ b, b < 4 → a ≠ b → (tt_Tr a).2.1 ≠ (tt_Tr b).2.1 := by decide +kernel
theorem ty_Tr_ok : ∀ k, k < 4 → parseFieldDescriptor (tt_Tr k).2.2.1 = some (ty_Tr k) := by decide +kernel
def tt_Ve : u_T := fun k => match k with
  | 0 => ("DagLedger$Vertices", "authors", "[I", true)
  | 1 => ("DagLedger$Vertices", "rounds", "[I", true)
  | 2 => ("DagLedger$Vertices", "parents", "[I", true)
  | 3 => ("DagLedger$Vertices", "firsts", "[I", true)
  | 4 => ("DagLedger$Vertices", "seconds", "[I", true)
  | _ => ("DagLedger$Vertices", "count", "I", false)
def ty_Ve : Nat → FieldType := fun k => match k with
  | 0 => .array .int
  | 1 => .array .int
  | 2 => .array .int
  | 3 => .array .int
  | 4 => .array .int
  | _ => .int
theorem nm_Ve : ∀ a, a < 6 → ∀ b, b < 6 → a ≠ b → (tt_Ve a).2.1 ≠ (tt_Ve b).2.1 := by decide +kernel
theorem ty_Ve_ok : ∀ k, k < 6 → parseFieldDescriptor (tt_Ve k).2.2.1 = some (ty_Ve k) := by decide +kernel
def tt_Bo : u_T := fun k => match k with
  | 0 => ("DagLedger$Board", "kinds", "[I", true)
  | 1 => ("DagLedger$Board", "senders", "[I", true)
  | 2 => ("DagLedger$Board", "subjects", "[I", true)
  | _ => ("DagLedger$Board", "count", "I", false)
def ty_Bo : Nat → FieldType := fun k => match k with
  | 0 => .array .int
  | 1 => .array .int
  | 2 => .array .int
  | _ => .int
theorem nm_Bo : ∀ a, a < 4 → ∀ b, b < 4 → a ≠ b → (tt_Bo a).2.1 ≠ (tt_Bo b).2.1 := by decide +kernel
theorem ty_Bo_ok : ∀ k, k < 4 → parseFieldDescriptor (tt_Bo k).2.2.1 = some (ty_Bo k) := by decide +kernel
def tt_Re : u_T := fun k => match k with
  | 0 => ("DagLedger$Replica", "id", "I", true)
  | 1 => ("DagLedger$Replica", "board", "LDagLedger$Board;", true)
  | 2 => ("DagLedger$Replica", "vertices", "LDagLedger$Vertices;", true)
  | 3 => ("DagLedger$Replica", "disk", "LDagLedger$Disk;", true)
  | 4 => ("DagLedger$Replica", "notes", "LDagLedger$Notes;", true)
  | 5 => ("DagLedger$Replica", "dag", "LDagLedger$Dag;", true)
  | 6 => ("DagLedger$Replica", "book", "LDagLedger$Book;", true)
  | 7 => ("DagLedger$Replica", "commits", "LDagLedger$Commits;", true)
  | 8 => ("DagLedger$Replica", "state", "I", false)
  | 9 => ("DagLedger$Replica", "mark", "I", false)
  | 10 => ("DagLedger$Replica", "timer", "I", false)
  | 11 => ("DagLedger$Replica", "cutIsSet", "Z", false)
  | _ => ("DagLedger$Replica", "recordsBeforeCut", "I", false)
def ty_Re : Nat → FieldType := fun k => match k with
  | 0 => .int
  | 1 => .object "DagLedger$Board"
  | 2 => .object "DagLedger$Vertices"
  | 3 => .object "DagLedger$Disk"
  | 4 => .object "DagLedger$Notes"
  | 5 => .object "DagLedger$Dag"
  | 6 => .object "DagLedger$Book"
  | 7 => .object "DagLedger$Commits"
  | 8 => .int
  | 9 => .int
  | 10 => .int
  | 11 => .boolean
  | _ => .int
theorem nm_Re : ∀ a, a < 13 → ∀ b, b < 13 → a ≠ b → (tt_Re a).2.1 ≠ (tt_Re b).2.1 := by decide +kernel
theorem ty_Re_ok : ∀ k, k < 13 → parseFieldDescriptor (tt_Re k).2.2.1 = some (ty_Re k) := by decide +kernel
def tt_Di : u_T := fun k => match k with
  | 0 => ("DagLedger$Disk", "own", "[I", true)
  | 1 => ("DagLedger$Disk", "ownCount", "I", false)
  | 2 => ("DagLedger$Disk", "queueHead", "I", false)
  | 3 => ("DagLedger$Disk", "echoedRounds", "[I", true)
  | 4 => ("DagLedger$Disk", "readiedRounds", "[I", true)
  | 5 => ("DagLedger$Disk", "round", "I", false)
  | _ => ("DagLedger$Disk", "records", "I", false)
def ty_Di : Nat → FieldType := fun k => match k with
  | 0 => .array .int
  | 1 => .int
  | 2 => .int
  | 3 => .array .int
  | 4 => .array .int
  | 5 => .int
  | _ => .int
theorem nm_Di : ∀ a, a < 7 → ∀ b, b < 7 → a ≠ b → (tt_Di a).2.1 ≠ (tt_Di b).2.1 := by decide +kernel
theorem ty_Di_ok : ∀ k, k < 7 → parseFieldDescriptor (tt_Di k).2.2.1 = some (ty_Di k) := by decide +kernel
def tt_No : u_T := fun k => match k with
  | 0 => ("DagLedger$Notes", "echoes", "[I", true)
  | 1 => ("DagLedger$Notes", "readies", "[I", true)
  | 2 => ("DagLedger$Notes", "waiting", "[I", true)
  | _ => ("DagLedger$Notes", "waitingCount", "I", false)
def ty_No : Nat → FieldType := fun k => match k with
  | 0 => .array .int
  | 1 => .array .int
  | 2 => .array .int
  | _ => .int
theorem nm_No : ∀ a, a < 4 → ∀ b, b < 4 → a ≠ b → (tt_No a).2.1 ≠ (tt_No b).2.1 := by decide +kernel
theorem ty_No_ok : ∀ k, k < 4 → parseFieldDescriptor (tt_No k).2.2.1 = some (ty_No k) := by decide +kernel
def tt_Dg : u_T := fun k => match k with
  | 0 => ("DagLedger$Dag", "vertices", "LDagLedger$Vertices;", true)
  | 1 => ("DagLedger$Dag", "slots", "[I", true)
  | 2 => ("DagLedger$Dag", "authorSets", "[I", true)
  | _ => ("DagLedger$Dag", "count", "I", false)
def ty_Dg : Nat → FieldType := fun k => match k with
  | 0 => .object "DagLedger$Vertices"
  | 1 => .array .int
  | 2 => .array .int
  | _ => .int
theorem nm_Dg : ∀ a, a < 4 → ∀ b, b < 4 → a ≠ b → (tt_Dg a).2.1 ≠ (tt_Dg b).2.1 := by decide +kernel
theorem ty_Dg_ok : ∀ k, k < 4 → parseFieldDescriptor (tt_Dg k).2.2.1 = some (ty_Dg k) := by decide +kernel
def tt_Bk : u_T := fun k => match k with
  | 0 => ("DagLedger$Book", "transfers", "LDagLedger$Transfers;", true)
  | 1 => ("DagLedger$Book", "order", "[I", true)
  | 2 => ("DagLedger$Book", "count", "I", false)
  | 3 => ("DagLedger$Book", "placed", "J", false)
  | _ => ("DagLedger$Book", "balances", "[I", true)
def ty_Bk : Nat → FieldType := fun k => match k with
  | 0 => .object "DagLedger$Transfers"
  | 1 => .array .int
  | 2 => .int
  | 3 => .long
  | _ => .array .int
theorem nm_Bk : ∀ a, a < 5 → ∀ b, b < 5 → a ≠ b → (tt_Bk a).2.1 ≠ (tt_Bk b).2.1 := by decide +kernel
theorem ty_Bk_ok : ∀ k, k < 5 → parseFieldDescriptor (tt_Bk k).2.2.1 = some (ty_Bk k) := by decide +kernel
def tt_Co : u_T := fun k => match k with
  | 0 => ("DagLedger$Commits", "vertices", "LDagLedger$Vertices;", true)
  | 1 => ("DagLedger$Commits", "dag", "LDagLedger$Dag;", true)
  | 2 => ("DagLedger$Commits", "book", "LDagLedger$Book;", true)
  | 3 => ("DagLedger$Commits", "emitted", "[I", true)
  | 4 => ("DagLedger$Commits", "reached", "[I", true)
  | _ => ("DagLedger$Commits", "last", "I", false)
def ty_Co : Nat → FieldType := fun k => match k with
  | 0 => .object "DagLedger$Vertices"
  | 1 => .object "DagLedger$Dag"
  | 2 => .object "DagLedger$Book"
  | 3 => .array .int
  | 4 => .array .int
  | _ => .int
theorem nm_Co : ∀ a, a < 6 → ∀ b, b < 6 → a ≠ b → (tt_Co a).2.1 ≠ (tt_Co b).2.1 := by decide +kernel
theorem ty_Co_ok : ∀ k, k < 6 → parseFieldDescriptor (tt_Co k).2.2.1 = some (ty_Co k) := by decide +kernel
def tt_Mo : u_T := fun k => match k with
  | 0 => ("DagLedgerModel", "thrown", "I", false)
  | 1 => ("DagLedgerModel", "transfers", "I", false)
  | 2 => ("DagLedgerModel", "from", "[I", true)
  | 3 => ("DagLedgerModel", "to", "[I", true)
  | 4 => ("DagLedgerModel", "amount", "[I", true)
  | 5 => ("DagLedgerModel", "owner", "[I", true)
  | 6 => ("DagLedgerModel", "placed", "[Z", true)
  | 7 => ("DagLedgerModel", "vertices", "I", false)
  | 8 => ("DagLedgerModel", "author", "[I", true)
  | 9 => ("DagLedgerModel", "round", "[I", true)
  | 10 => ("DagLedgerModel", "parents", "[I", true)
  | 11 => ("DagLedgerModel", "first", "[I", true)
  | 12 => ("DagLedgerModel", "second", "[I", true)
  | 13 => ("DagLedgerModel", "messages", "I", false)
  | 14 => ("DagLedgerModel", "sender", "[I", true)
  | 15 => ("DagLedgerModel", "about", "[I", true)
  | 16 => ("DagLedgerModel", "kind", "[I", true)
  | 17 => ("DagLedgerModel", "state", "[I", true)
  | 18 => ("DagLedgerModel", "records", "[I", true)
  | 19 => ("DagLedgerModel", "cutAt", "[I", true)
  | 20 => ("DagLedgerModel", "made", "[I", true)
  | 21 => ("DagLedgerModel", "echoed", "[Z", true)
  | 22 => ("DagLedgerModel", "readied", "[Z", true)
  | 23 => ("DagLedgerModel", "timer", "[I", true)
  | 24 => ("DagLedgerModel", "mark", "[I", true)
  | 25 => ("DagLedgerModel", "last", "[I", true)
  | 26 => ("DagLedgerModel", "dag", "[I", true)
  | 27 => ("DagLedgerModel", "echoes", "[I", true)
  | 28 => ("DagLedgerModel", "readies", "[I", true)
  | 29 => ("DagLedgerModel", "emitted", "[Z", true)
  | 30 => ("DagLedgerModel", "order", "[I", true)
  | 31 => ("DagLedgerModel", "positions", "[I", true)
  | 32 => ("DagLedgerModel", "balances", "[I", true)
  | 33 => ("DagLedgerModel", "reach", "[I", true)
  | _ => ("DagLedgerModel", "wasDown", "Z", false)
def ty_Mo : Nat → FieldType := fun k => match k with
  | 0 => .int
  | 1 => .int
  | 2 => .array .int
  | 3 => .array .int
  | 4 => .array .int
  | 5 => .array .int
  | 6 => .array .boolean
  | 7 => .int
  | 8 => .array .int
  | 9 => .array .int
  | 10 => .array .int
  | 11 => .array .int
  | 12 => .array .int
  | 13 => .int
  | 14 => .array .int
  | 15 => .array .int
  | 16 => .array .int
  | 17 => .array .int
  | 18 => .array .int
  | 19 => .array .int
  | 20 => .array .int
  | 21 => .array .boolean
  | 22 => .array .boolean
  | 23 => .array .int
  | 24 => .array .int
  | 25 => .array .int
  | 26 => .array .int
  | 27 => .array .int
  | 28 => .array .int
  | 29 => .array .boolean
  | 30 => .array .int
  | 31 => .array .int
  | 32 => .array .int
  | 33 => .array .int
  | _ => .boolean
theorem nm_Mo : ∀ a, a < 35 → ∀ b, b < 35 → a ≠ b → (tt_Mo a).2.1 ≠ (tt_Mo b).2.1 := by decide +kernel
theorem ty_Mo_ok : ∀ k, k < 35 → parseFieldDescriptor (tt_Mo k).2.2.1 = some (ty_Mo k) := by decide +kernel
def wd_cl : List vw_C := [("DagLedger", tt_Le, 5), ("DagLedger$Transfers", tt_Tr, 4), ("DagLedger$Vertices", tt_Ve, 6), ("DagLedger$Board", tt_Bo, 4), ("DagLedger$Replica", tt_Re, 13), ("DagLedger$Disk", tt_Di, 7), ("DagLedger$Notes", tt_No, 4), ("DagLedger$Dag", tt_Dg, 4), ("DagLedger$Book", tt_Bk, 5), ("DagLedger$Commits", tt_Co, 6), ("DagLedgerModel", tt_Mo, 35)]
abbrev wd_R : String := "DagLedger$Replica"
def wd_kd : Nat → Nat × Nat × List (Nat × Nat)
  | 0 => (4, 0, [(2, 1), (2, 5), (2, 11), (2, 15), (0, 0)])
  | 1 => (4, 1, [(2, 2), (2, 3), (2, 4), (0, 0)])
  | 2 => (0, 40, [])
  | 3 => (0, 40, [])
  | 4 => (0, 40, [])
  | 5 => (4, 2, [(2, 6), (2, 7), (2, 8), (2, 9), (2, 10), (0, 0)])
  | 6 => (0, 90, [])
  | 7 => (0, 90, [])
  | 8 => (0, 90, [])
  | 9 => (0, 90, [])
  | 10 => (0, 90, [])
  | 11 => (4, 3, [(2, 12), (2, 13), (2, 14), (0, 0)])
  | 12 => (0, 802, [])
  | 13 => (0, 802, [])
  | 14 => (0, 802, [])
  | 15 => (3, 4, [(0, 16)])
  | 16 => (4, 4, [(0, 0), (2, 11), (2, 5), (3, 17), (3, 21), (3, 25), (3, 28), (3, 31), (0, 0), (0, 0), (0, 0), (0, 0), (0, 0)])
  | 17 => (4, 5, [(3, 18), (0, 0), (0, 0), (3, 19), (3, 20), (0, 0), (0, 0)])
  | 18 => (0, 40, [])
  | 19 => (0, 4, [])
  | 20 => (0, 4, [])
  | 21 => (4, 6, [(3, 22), (3, 23), (3, 24), (0, 0)])
  | 22 => (0, 90, [])
  | 23 => (0, 90, [])
  | 24 => (0, 90, [])
  | 25 => (4, 7, [(2, 5), (3, 26), (3, 27), (0, 0)])
  | 26 => (0, 64, [])
  | 27 => (0, 16, [])
  | 28 => (4, 8, [(2, 1), (3, 29), (0, 0), (1, 0), (3, 30)])
  | 29 => (0, 40, [])
  | 30 => (0, 4, [])
  | 31 => (4, 9, [(2, 5), (3, 25), (3, 28), (3, 32), (3, 33), (0, 0)])
  | 32 => (0, 15, [])
  | 33 => (0, 15, [])
  | 34 => (4, 10, [(0, 0), (0, 0), (2, 35), (2, 36), (2, 37), (2, 38), (2, 39), (0, 0), (2, 40), (2, 41), (2, 42), (2, 43), (2, 44), (0, 0), (2, 45), (2, 46), (2, 47), (2, 48), (2, 49), (2, 50), (2, 51), (2, 52), (2, 53), (2, 54), (2, 55), (2, 56), (2, 57), (2, 58), (2, 59), (2, 60), (2, 61), (2, 62), (2, 63), (2, 64), (0, 0)])
  | 35 => (0, 40, [])
  | 36 => (0, 40, [])
  | 37 => (0, 40, [])
  | 38 => (0, 40, [])
  | 39 => (1, 40, [])
  | 40 => (0, 90, [])
  | 41 => (0, 90, [])
  | 42 => (0, 90, [])
  | 43 => (0, 90, [])
  | 44 => (0, 90, [])
  | 45 => (0, 840, [])
  | 46 => (0, 840, [])
  | 47 => (0, 840, [])
  | 48 => (0, 4, [])
  | 49 => (0, 4, [])
  | 50 => (0, 4, [])
  | 51 => (0, 4, [])
  | 52 => (1, 240, [])
  | 53 => (1, 240, [])
  | 54 => (0, 4, [])
  | 55 => (0, 4, [])
  | 56 => (0, 4, [])
  | 57 => (0, 240, [])
  | 58 => (0, 360, [])
  | 59 => (0, 360, [])
  | 60 => (1, 360, [])
  | 61 => (0, 160, [])
  | 62 => (0, 4, [])
  | 63 => (0, 16, [])
  | 64 => (0, 16, [])
  | 65 => (2, 1, [])
  | _ => (5, 0, [])
def wd_all : List Nat := [0, 4, 8, 12, 16, 20, 24, 28, 32, 36, 40, 44, 48, 52, 56, 60, 64, 65, 66, 67, 68, 69, 70, 71, 72, 73, 74, 75, 76, 77, 78, 79, 80, 81, 82, 83, 84, 85, 86, 87, 88, 89, 90, 91, 92, 93, 94, 95, 96, 97, 98, 99, 100, 101, 102, 103, 104, 105, 106, 107, 108, 109, 110, 111, 112, 113, 114, 115, 116, 117, 118, 119, 120, 121, 122, 123, 124, 125, 126, 127, 128, 129, 130, 131, 132, 133, 134, 135, 136, 140, 144, 148, 152, 156, 160, 164, 168, 172, 176, 180, 184, 188, 192, 196, 200, 204, 208, 212, 216, 220, 224, 228, 232, 236, 240, 244, 248, 252, 256, 260]
theorem wd_nd : wd_all.Nodup := by decide +kernel
def wd_tb : List Cond := lw_tbl.filter goodWord
theorem wd_good : ∀ w ∈ wd_tb, (w.onTables && w.keeps) = true ∨ ∃ ty, w = .arrayClass ty := fun w hw => good_of_word (List.mem_filter.mp hw).2
theorem wd_in {w : Cond} (h : w ∈ tables_1) (hg : goodWord w = true) : w ∈ wd_tb := List.mem_filter.mpr ⟨List.mem_append_right _ h, hg⟩
theorem wd_se {w : Cond} (h : w ∈ k2_sels lw_privs) (hg : goodWord w = true) : w ∈ wd_tb := List.mem_filter.mpr ⟨List.mem_append_left _ h, hg⟩
theorem wd_c0 {w : Cond} (h : w ∈ tables_1_1) : w ∈ tables_1 := by
  show w ∈ tables_1_1 ++ (tables_1_2 ++ (tables_1_3 ++ (tables_1_4 ++ (tables_1_5))))
  exact (List.mem_append_left _ h)
theorem wd_c1 {w : Cond} (h : w ∈ tables_1_2) : w ∈ tables_1 := by
  show w ∈ tables_1_1 ++ (tables_1_2 ++ (tables_1_3 ++ (tables_1_4 ++ (tables_1_5))))
  exact (List.mem_append_right _ (List.mem_append_left _ h))
theorem wd_c2 {w : Cond} (h : w ∈ tables_1_3) : w ∈ tables_1 := by
  show w ∈ tables_1_1 ++ (tables_1_2 ++ (tables_1_3 ++ (tables_1_4 ++ (tables_1_5))))
  exact (List.mem_append_right _ (List.mem_append_right _ (List.mem_append_left _ h)))
theorem wd_c3 {w : Cond} (h : w ∈ tables_1_4) : w ∈ tables_1 := by
  show w ∈ tables_1_1 ++ (tables_1_2 ++ (tables_1_3 ++ (tables_1_4 ++ (tables_1_5))))
  exact (List.mem_append_right _ (List.mem_append_right _ (List.mem_append_right _ (List.mem_append_left _ h))))
theorem wd_c4 {w : Cond} (h : w ∈ tables_1_5) : w ∈ tables_1 := by
  show w ∈ tables_1_1 ++ (tables_1_2 ++ (tables_1_3 ++ (tables_1_4 ++ (tables_1_5))))
  exact (List.mem_append_right _ (List.mem_append_right _ (List.mem_append_right _ (List.mem_append_right _ h))))
def wd_nb : List Cond := [(Cond.methodLinkNest "DagLedger" (11 : Nat) ({ cls := "DagLedger$Transfers", name := "<init>", desc := "()V" } : MethodName) "DagLedger"), (Cond.methodLinkNest "DagLedger" (18 : Nat) ({ cls := "DagLedger$Vertices", name := "<init>", desc := "()V" } : MethodName) "DagLedger"), (Cond.methodLinkNest "DagLedger" (25 : Nat) ({ cls := "DagLedger$Board", name := "<init>", desc := "()V" } : MethodName) "DagLedger"), (Cond.methodLinkNest "DagLedger$Replica" (11 : Nat) ({ cls := "DagLedger$Disk", name := "<init>", desc := "()V" } : MethodName) "DagLedger"), (Cond.methodLinkNest "DagLedger$Replica" (20 : Nat) ({ cls := "DagLedger$Notes", name := "<init>", desc := "()V" } : MethodName) "DagLedger"), (Cond.methodLinkNest "DagLedger$Replica" (141 : Nat) ({ cls := "DagLedger", name := "contains", desc := "(II)Z" } : MethodName) "DagLedger"), (Cond.methodLinkNest "DagLedger$Commits" (46 : Nat) ({ cls := "DagLedger", name := "leaderOf", desc := "(I)I" } : MethodName) "DagLedger"), (Cond.methodLinkNest "DagLedger$Dag" (51 : Nat) ({ cls := "DagLedger", name := "contains", desc := "(II)Z" } : MethodName) "DagLedger"), (Cond.methodLinkNest "DagLedger$Commits" (42 : Nat) ({ cls := "DagLedger", name := "contains", desc := "(II)Z" } : MethodName) "DagLedger"), (Cond.methodLinkNest "DagLedger$Replica" (225 : Nat) ({ cls := "DagLedger", name := "leaderOf", desc := "(I)I" } : MethodName) "DagLedger")]
theorem wd_nb_in : ∀ w ∈ wd_nb, w ∈ tables_1 := List.forall_mem_cons.mpr ⟨wd_c0 (List.mem_of_getElem? (i := 30) rfl), List.forall_mem_cons.mpr ⟨wd_c0 (List.mem_of_getElem? (i := 53) rfl), List.forall_mem_cons.mpr ⟨wd_c0 (List.mem_of_getElem? (i := 90) rfl), List.forall_mem_cons.mpr ⟨wd_c0 (List.mem_of_getElem? (i := 122) rfl), List.forall_mem_cons.mpr ⟨wd_c0 (List.mem_of_getElem? (i := 154) rfl), List.forall_mem_cons.mpr ⟨wd_c2 (List.mem_of_getElem? (i := 49) rfl), List.forall_mem_cons.mpr ⟨wd_c2 (List.mem_of_getElem? (i := 113) rfl), List.forall_mem_cons.mpr ⟨wd_c2 (List.mem_of_getElem? (i := 121) rfl), List.forall_mem_cons.mpr ⟨wd_c2 (List.mem_of_getElem? (i := 130) rfl), List.forall_mem_cons.mpr ⟨wd_c2 (List.mem_of_getElem? (i := 162) rfl), fun _ h => absurd h List.not_mem_nil⟩⟩⟩⟩⟩⟩⟩⟩⟩⟩
end
section
/-! The clean layer: the machine's walk W seen through ONE world (all cells of the class, of the reference and of the law's out array): cells have numbers, their int contents are σ, their long contents τ; addresses stay behind g. -/
abbrev wd_G : Type := (Nat → Nat) × va_G × (Nat → ClassId)
abbrev wd_S : Type := Nat → Nat → Int32
abbrev wd_L : Type := Nat → Nat → Int64
/-- a value of the clean layer: .ref k is cell number k, .retAddr a is a cell outside the world -/
def cw_v (ad : Nat → Nat) : Value → Value
  | .ref k => .ref (ad k)
  | .retAddr a => .ref a
  | .int x => .int x
  | .long x => .long x
  | .float x => .float x
  | .double x => .double x
  | .null => .null
def cw_up (σ : wd_S) (c k : Nat) (x : Int32) : wd_S := fun c' k' => if c' = c ∧ k' = k then x else σ c' k'
def cw_uq (τ : wd_L) (c k : Nat) (x : Int64) : wd_L := fun c' k' => if c' = c ∧ k' = k then x else τ c' k'
theorem cw_up_eq (σ : wd_S) (c k : Nat) (x : Int32) : cw_up σ c k x c k = x := by simp [cw_up]
theorem cw_up_ne {σ : wd_S} {c k c' k' : Nat} {x : Int32} (h : ¬ (c' = c ∧ k' = k)) : cw_up σ c k x c' k' = σ c' k' := by simp [cw_up, h]
theorem cw_up_nc {σ : wd_S} {c k c' k' : Nat} {x : Int32} (h : c' ≠ c) : cw_up σ c k x c' k' = σ c' k' := by simp [cw_up, h]
theorem cw_up_nk {σ : wd_S} {c k c' k' : Nat} {x : Int32} (h : k' ≠ k) : cw_up σ c k x c' k' = σ c' k' := by simp [cw_up, h]
theorem cw_up_c {σ : wd_S} {c k c' : Nat} {x : Int32} (h : c' ≠ c) : cw_up σ c k x c' = σ c' := by funext k'; simp [cw_up, h]
theorem cw_up_u (σ : wd_S) (c k : Nat) (x : Int32) : cw_up σ c k x c = upd (σ c) k x := by funext k'; simp [cw_up, upd]
theorem cw_uq_c {τ : wd_L} {c k c' : Nat} {x : Int64} (h : c' ≠ c) : cw_uq τ c k x c' = τ c' := by funext k'; simp [cw_uq, h]
theorem cw_uq_u (τ : wd_L) (c k : Nat) (x : Int64) : cw_uq τ c k x c = vp_updL (τ c) k x := by funext k'; simp [cw_uq, vp_updL]
/-- a field: kind 0 an int, 1 a long, 2 the one cell of kind j, 3 the cell of kind j of the same number -/
def wd_fv (c : Nat) (σ : wd_S) (τ : wd_L) (k : Nat) (f : Nat × Nat) : Value :=
  match f.1 with
  | 0 => .int (σ c k)
  | 1 => .long (τ c k)
  | 2 => .ref (4 * f.2)
  | _ => .ref (4 * f.2 + c % 4)
def wd_fs (c : Nat) (σ : wd_S) (τ : wd_L) (fl : List (Nat × Nat)) : List Value := fl.zipIdx.map (fun q => wd_fv c σ τ q.2 q.1)
theorem wd_fs_at {c k : Nat} {σ : wd_S} {τ : wd_L} {fl : List (Nat × Nat)} {f : Nat × Nat} (h : fl[k]? = some f) : (wd_fs c σ τ fl)[k]? = some (wd_fv c σ τ k f) := by
  simp [wd_fs, List.getElem?_zipIdx, h]
theorem wd_fs_len (c : Nat) (σ : wd_S) (τ : wd_L) (fl : List (Nat × Nat)) : (wd_fs c σ τ fl).length = fl.length := by simp [wd_fs]
theorem wd_fs_up {c k j : Nat} {σ : wd_S} {τ : wd_L} {fl : List (Nat × Nat)} {x : Int32} (h : fl[k]? = some (0, j)) : (wd_fs c σ τ fl).set k (.int x) = wd_fs c (cw_up σ c k x) τ fl := by
  apply List.ext_getElem?
  intro i
  rw [List.getElem?_set]
  by_cases hi : k = i
  · subst hi
    have hl : k < fl.length := (List.getElem?_eq_some_iff.mp h).1
    rw [if_pos rfl, if_pos (by rw [wd_fs_len]; exact hl), wd_fs_at h]
    simp [wd_fv, cw_up]
  · rw [if_neg hi]
    cases hf : fl[i]? with
    | none => simp [wd_fs, List.getElem?_zipIdx, hf]
    | some f =>
      rw [wd_fs_at hf, wd_fs_at hf]
      have e : cw_up σ c k x c i = σ c i := cw_up_nk (fun q => hi q.symm)
      simp only [wd_fv, e]
theorem wd_fs_uq {c k j : Nat} {σ : wd_S} {τ : wd_L} {fl : List (Nat × Nat)} {x : Int64} (h : fl[k]? = some (1, j)) : (wd_fs c σ τ fl).set k (.long x) = wd_fs c σ (cw_uq τ c k x) fl := by
  apply List.ext_getElem?
  intro i
  rw [List.getElem?_set]
  by_cases hi : k = i
  · subst hi
    have hl : k < fl.length := (List.getElem?_eq_some_iff.mp h).1
    rw [if_pos rfl, if_pos (by rw [wd_fs_len]; exact hl), wd_fs_at h]
    simp [wd_fv, cw_uq]
  · rw [if_neg hi]
    cases hf : fl[i]? with
    | none => simp [wd_fs, List.getElem?_zipIdx, hf]
    | some f =>
      rw [wd_fs_at hf, wd_fs_at hf]
      have hne : i ≠ k := fun q => hi q.symm
      have e : cw_uq τ c k x c i = τ c i := by simp [cw_uq, hne]
      simp only [wd_fv, e]
/-- the cell number c, as the machine has it -/
def wd_ce (g : wd_G) (σ : wd_S) (τ : wd_L) (c : Nat) : va_E :=
  match wd_kd (c / 4) with
  | (0, n, _) => .inl (g.2.2 0, n, .inl (σ c))
  | (1, n, _) => .inl (g.2.2 1, n, .inl (σ c))
  | (2, n, _) => .inl (g.2.2 2, n, .inr (.inl (τ c)))
  | (3, n, fl) => .inl (g.2.2 3, n, .inr (.inr (.inr (.inr (fun i => some (g.1 (4 * (fl.headD (0, 0)).2 + i)))))))
  | (_, ci, fl) => .inr (ci, (wd_fs c σ τ fl).map (cw_v g.1))
theorem wd_ce_i {g : wd_G} {σ : wd_S} {τ : wd_L} {c n : Nat} {fl : List (Nat × Nat)} (h : wd_kd (c / 4) = (0, n, fl)) : wd_ce g σ τ c = .inl (g.2.2 0, n, .inl (σ c)) := by simp only [wd_ce, h]
theorem wd_ce_z {g : wd_G} {σ : wd_S} {τ : wd_L} {c n : Nat} {fl : List (Nat × Nat)} (h : wd_kd (c / 4) = (1, n, fl)) : wd_ce g σ τ c = .inl (g.2.2 1, n, .inl (σ c)) := by simp only [wd_ce, h]
theorem wd_ce_l {g : wd_G} {σ : wd_S} {τ : wd_L} {c n : Nat} {fl : List (Nat × Nat)} (h : wd_kd (c / 4) = (2, n, fl)) : wd_ce g σ τ c = .inl (g.2.2 2, n, .inr (.inl (τ c))) := by simp only [wd_ce, h]
theorem wd_ce_r {g : wd_G} {σ : wd_S} {τ : wd_L} {c n : Nat} {fl : List (Nat × Nat)} (h : wd_kd (c / 4) = (3, n, fl)) : wd_ce g σ τ c = .inl (g.2.2 3, n, .inr (.inr (.inr (.inr (fun i => some (g.1 (4 * (fl.headD (0, 0)).2 + i))))))) := by simp only [wd_ce, h]
theorem wd_ce_o {g : wd_G} {σ : wd_S} {τ : wd_L} {c n : Nat} {fl : List (Nat × Nat)} (h : wd_kd (c / 4) = (4, n, fl)) : wd_ce g σ τ c = .inr (n, (wd_fs c σ τ fl).map (cw_v g.1)) := by simp only [wd_ce, h]
theorem wd_fs_ext {c : Nat} {σ σ' : wd_S} {τ τ' : wd_L} (h1 : σ' c = σ c) (h2 : τ' c = τ c) (fl : List (Nat × Nat)) : wd_fs c σ' τ' fl = wd_fs c σ τ fl := by
  unfold wd_fs
  congr 1
  funext q
  simp only [wd_fv, h1, h2]
theorem wd_ce_ext {g : wd_G} {σ σ' : wd_S} {τ τ' : wd_L} {c : Nat} (h1 : σ' c = σ c) (h2 : τ' c = τ c) : wd_ce g σ' τ' c = wd_ce g σ τ c := by
  simp only [wd_ce, h1, h2, wd_fs_ext h1 h2]
def wd_w (ids : List Nat) (g : wd_G) (σ : wd_S) (τ : wd_L) : va_W := ids.map (fun c => (g.1 c, wd_ce g σ τ c))
theorem wd_at {ids : List Nat} {g : wd_G} {σ : wd_S} {τ : wd_L} {i c : Nat} (h : ids[i]? = some c) : (wd_w ids g σ τ)[i]? = some (g.1 c, wd_ce g σ τ c) := by simp [wd_w, h]
theorem wd_inj {ids : List Nat} (hn : ids.Nodup) {i j c : Nat} (h1 : ids[i]? = some c) (h2 : ids[j]? = some c) : i = j := by
  obtain ⟨a1, b1⟩ := List.getElem?_eq_some_iff.mp h1
  obtain ⟨a2, b2⟩ := List.getElem?_eq_some_iff.mp h2
  have hp := List.pairwise_iff_getElem.mp hn
  rcases Nat.lt_trichotomy i j with h | h | h
  · exact absurd (b1.trans b2.symm) (hp i j a1 a2 h)
  · exact h
  · exact absurd (b2.trans b1.symm) (hp j i a2 a1 h)
theorem wd_set {ids : List Nat} (hn : ids.Nodup) {g : wd_G} {σ σ' : wd_S} {τ τ' : wd_L} {i c : Nat} {x : va_E} (h : ids[i]? = some c) (hs : ∀ c', c' ≠ c → σ' c' = σ c') (ht : ∀ c', c' ≠ c → τ' c' = τ c') (hx : x = wd_ce g σ' τ' c) : (wd_w ids g σ τ).set i (g.1 c, x) = wd_w ids g σ' τ' := by
  apply List.ext_getElem?
  intro j
  rw [List.getElem?_set]
  by_cases hj : i = j
  · subst hj
    rw [if_pos rfl, wd_at h, if_pos (by have := (List.getElem?_eq_some_iff.mp (wd_at (g := g) (σ := σ) (τ := τ) h)).1; exact this), hx]
  · rw [if_neg hj]
    cases hc : ids[j]? with
    | none => simp [wd_w, hc]
    | some c' =>
      have hne : c' ≠ c := fun q => hj (wd_inj hn h (q ▸ hc))
      rw [wd_at hc, wd_at hc, wd_ce_ext (hs c' hne) (ht c' hne)]
theorem wd_D {ids : List Nat} {A : Nat → Prop} {g : wd_G} {σ σ' : wd_S} {τ τ' : wd_L} (h : va_D A (wd_w ids g σ τ)) : va_D A (wd_w ids g σ' τ') := by
  have key : ∀ (i : Nat) (q : Nat × va_E), (wd_w ids g σ' τ')[i]? = some q → ∃ q', (wd_w ids g σ τ)[i]? = some q' ∧ q'.1 = q.1 := by
    intro i q hq
    cases hc : ids[i]? with
    | none => simp [wd_w, hc] at hq
    | some c =>
      rw [wd_at hc] at hq
      cases hq
      exact ⟨_, wd_at hc, rfl⟩
  refine ⟨fun i j a b ha hb hab => ?_, fun k q hk => ?_⟩
  · obtain ⟨a', ha', ea⟩ := key i a ha
    obtain ⟨b', hb', eb⟩ := key j b hb
    exact h.1 i j a' b' ha' hb' (by rw [ea, eb]; exact hab)
  · obtain ⟨q', hq', eq'⟩ := key k q hk
    rw [← eq']
    exact h.2 k q' hq'
abbrev wd_ty (g : wd_G) : List (ClassId × FieldType) := [(g.2.2 0, .int), (g.2.2 1, .boolean), (g.2.2 2, .long), (g.2.2 3, .object wd_R)]
/-- cell c is there, and of that kind -/
def wd_is (ids : List Nat) (c : Nat) (k : Nat × Nat × List (Nat × Nat)) : Prop := c ∈ ids ∧ wd_kd (c / 4) = k
/-- the locals, as far as they are known -/
def cw_lh (ad : Nat → Nat) (nL : Nat) (ls : List (Option Value)) (la : Array Slot) : Prop := la.size = nL ∧ lv_wf la ∧ ∀ (i : Nat) (v : Value), ls[i]? = some (some v) → la[i]? = some (.val (cw_v ad v)) ∧ (cw_v ad v).category = 1
def cw_pr (ad : Nat → Nat) (ls : List (Option Value)) : List (Nat × Value) := (List.range ls.length).filterMap (fun i => match ls[i]? with | some (some v) => some (i, cw_v ad v) | _ => none)
theorem cw_pr_mem {ad : Nat → Nat} {ls : List (Option Value)} {q : Nat × Value} : q ∈ cw_pr ad ls ↔ ∃ v, ls[q.1]? = some (some v) ∧ q.2 = cw_v ad v := by
  unfold cw_pr
  rw [List.mem_filterMap]
  constructor
  · rintro ⟨i, hi, h⟩
    split at h
    · rename_i v hv
      cases h
      exact ⟨v, hv, rfl⟩
    · cases h
  · rintro ⟨v, hv, h2⟩
    refine ⟨q.1, List.mem_range.mpr (List.getElem?_eq_some_iff.mp hv).1, ?_⟩
    simp only [hv, ← h2]
/-- all values of one word -/
def cw_c1 : Value → Bool
  | .long _ => false
  | .double _ => false
  | _ => true
theorem cw_c1_cat {v : Value} (h : cw_c1 v = true) (ad : Nat → Nat) : (cw_v ad v).category = 1 := by
  cases v <;> first | rfl | (simp [cw_c1] at h)
theorem cw_lh_has {ad : Nat → Nat} {nL : Nat} {ls : List (Option Value)} {la : Array Slot} (h : cw_lh ad nL ls la) : lv_has la nL (cw_pr ad ls) := by
  refine ⟨h.1, h.2.1, fun q hq => ?_⟩
  obtain ⟨v, h1, h2⟩ := cw_pr_mem.mp hq
  rw [h2]
  exact (h.2.2 _ _ h1).1
theorem cw_lh_set {ad : Nat → Nat} {nL i : Nat} {ls : List (Option Value)} {la la' : Array Slot} {v : Value} (h : cw_lh ad nL ls la) (hc : (cw_v ad v).category = 1)
    (h' : lv_has la' nL ((i, cw_v ad v) :: (cw_pr ad ls).filter (fun q => !(q.1 == i) && !(q.1 + 1 == i && q.2.category == 2)))) : cw_lh ad nL (ls.set i (some v)) la' := by
  refine ⟨h'.1, h'.2.1, fun j w hj => ?_⟩
  rw [List.getElem?_set] at hj
  by_cases hij : i = j
  · subst hij
    rw [if_pos rfl] at hj
    split at hj
    · cases hj
      exact ⟨h'.2.2 (i, cw_v ad v) List.mem_cons_self, hc⟩
    · cases hj
  · rw [if_neg hij] at hj
    have hc2 := (h.2.2 _ _ hj).2
    refine ⟨h'.2.2 (j, cw_v ad w) (List.mem_cons_of_mem _ (List.mem_filter.mpr ⟨cw_pr_mem.mpr ⟨w, hj, rfl⟩, ?_⟩)), hc2⟩
    have hne : j ≠ i := fun q => hij q.symm
    simp [hc2, hne]
def cw_in (av : List Value) (nL : Nat) : List (Option Value) := av.map some ++ List.replicate (nL - av.length) none
theorem cw_args_at : ∀ (vs : List Value) (k i : Nat) (v : Value), (∀ w ∈ vs, w.category = 1) → vs[i]? = some v → (k + i, v) ∈ lv_args k vs := by
  intro vs
  induction vs with
  | nil => intro k i v _ h; simp at h
  | cons w t ih =>
    intro k i v hc h
    have hw : ¬ w.category = 2 := by rw [hc w List.mem_cons_self]; decide
    simp only [lv_args, if_neg hw]
    cases i with
    | zero => simp at h; subst h; exact List.mem_cons_self
    | succ n =>
      have := ih (k + 1) n v (fun x hx => hc x (List.mem_cons_of_mem _ hx)) (by simpa using h)
      rw [show k + (n + 1) = k + 1 + n by omega]
      exact List.mem_cons_of_mem _ this
theorem cw_sl_len : ∀ (vs : List Value), (∀ w ∈ vs, w.category = 1) → (lg_sl vs).length = vs.length := by
  intro vs
  induction vs with
  | nil => intro _; rfl
  | cons w t ih =>
    intro hc
    have hw : ¬ w.category = 2 := by rw [hc w List.mem_cons_self]; decide
    have e : lg_sl (w :: t) = [.val w] ++ lg_sl t := by simp [lg_sl, hw]
    rw [e, List.length_append, ih (fun x hx => hc x (List.mem_cons_of_mem _ hx))]
    simp; omega
theorem cw_lh_in {ad : Nat → Nat} {nL : Nat} {av : List Value} (hc : ∀ w ∈ av, (cw_v ad w).category = 1) (hn : av.length ≤ nL) :
    cw_lh ad nL (cw_in av nL) ((lg_sl (av.map (cw_v ad)) ++ List.replicate (nL - (lg_sl (av.map (cw_v ad))).length) Slot.unset).toArray) := by
  have hc' : ∀ w ∈ av.map (cw_v ad), w.category = 1 := fun w hw => by
    obtain ⟨x, hx, rfl⟩ := List.mem_map.mp hw
    exact hc x hx
  have h := lv_entry (av.map (cw_v ad)) (n := nL) (by rw [cw_sl_len _ hc', List.length_map]; exact hn)
  refine ⟨h.1, h.2.1, fun i v hi => ?_⟩
  have hv : av[i]? = some v := by
    unfold cw_in at hi
    rw [List.getElem?_append] at hi
    split at hi
    · simpa using hi
    · rw [List.getElem?_replicate] at hi
      split at hi <;> cases hi
  have hm : (cw_v ad v) ∈ av.map (cw_v ad) := List.mem_map_of_mem (List.mem_of_getElem? hv)
  refine ⟨?_, hc' _ hm⟩
  have := cw_args_at (av.map (cw_v ad)) 0 i (cw_v ad v) hc' (by simp [hv])
  rw [Nat.zero_add] at this
  exact h.2.2 _ this
def cw_isN : Cond → Bool
  | .fieldLinkNest .. => true
  | .methodLinkNest .. => true
  | _ => false
theorem cw_N_on {w : Cond} (h : cw_isN w = true) : w.onTables = true := by
  cases w <;> first | rfl | (simp [cw_isN] at h)
theorem cw_N_warm {w : Cond} (h : cw_isN w = true) {s U : State} (hW : s.WarmedH U.vm) (hz : va_Nw w s) : va_Nw w U := by
  cases w <;> first | exact va_Nw.warmF hW hz | exact va_Nw.warmM hW hz | (simp [cw_isN] at h)
theorem wd_nbN : ∀ w ∈ wd_nb, cw_isN w = true := fun w hw => List.all_eq_true.mp (show wd_nb.all cw_isN = true from rfl) w hw
def cw_rm (d mc ms : Nat) : Room := { frames := d, cells := mc, slots := ms, locals := 40 * d }
/-- what a method finds -/
def cw_B (ids : List Nat) (g : wd_G) (sz : Nat) (σ : wd_S) (τ : wd_L) (U : State) : Prop := U.heap.size = sz ∧ va_P g.2.1 wd_cl (wd_w ids g σ τ) U.heap ∧ va_K g.2.1 wd_cl (wd_ty g) U ∧ va_D (fun _ => True) (wd_w ids g σ τ) ∧ (∀ w ∈ wd_nb, va_Nw w U) ∧ ids.Nodup
/-- what it leaves -/
def cw_Q (ids : List Nat) (g : wd_G) (A : Nat → Prop) (Q : Option Value → wd_S → wd_L → Prop) : Array Value → State → Outcome → State → Prop := fun _ st oc t =>
  (∃ (v : Option Value) (σ' : wd_S) (τ' : wd_L), oc = .returned (v.map (cw_v g.1)) ∧ Q v σ' τ' ∧ va_P g.2.1 wd_cl (wd_w ids g σ' τ') t.heap) ∧ va_F A st t
/-- a method's contract: with these arguments, in this world, it returns, and Q holds of its answer and of the world behind it; at most mc cells of ms slots are new, d frames deep -/
def cw_M (ids : List Nat) (y : MethodName) (cc : ByteArray) (nL : Nat) (ret : Option FieldType) (d mc ms : Nat) (av : List Value) (σ : wd_S) (τ : wd_L) (Q : Option Value → wd_S → wd_L → Prop) : Prop :=
  ∀ (l : Launch) (g : wd_G) (sz : Nat), Met l y (Cond.code y cc nL ret :: wd_tb) (cw_rm d mc ms) (va_Pc (av.map (cw_v g.1)) (cw_B ids g sz σ τ)) (cw_Q ids g (va_A (wd_w ids g σ τ) sz) Q) mc ms (va_A (wd_w ids g σ τ) sz)
def cw_C (p : Program) (s : State) (m : MethodId) (args : Array Value) (meth : Method) (c : Code) (A : Nat → Prop) (ids : List Nat) (g : wd_G) (cc : ByteArray) (nL : Nat) (own : String) (ret : Option FieldType) : Prop :=
  p.tables.exec = Jvm.exec ∧ c.code = cc ∧ c.maxLocals = nL ∧ s.vm.findClass own = some m.cls ∧ (∀ w ∈ wd_tb, w.before args s = true) ∧ (∀ w ∈ wd_nb, va_Nw w s) ∧ va_K g.2.1 wd_cl (wd_ty g) s ∧ (∀ (σ : wd_S) (τ : wd_L), va_D A (wd_w ids g σ τ)) ∧ (∀ q, s.heap.size ≤ q → A q) ∧ meth.sig.returnType = ret ∧ meth.locks = false ∧ ids.Nodup
/-- the walk from pc on, with these locals, this stack, this world -/
def cw_W (p : Program) (l : Launch) (e : Env) (R : Room) (s : State) (m : MethodId) (args : Array Value) (below : List Frame) (meth : Method) (c : Code) (A : Nat → Prop) (ids : List Nat) (g : wd_G) (cells slots : Nat) (G : State → Prop) (nL pc : Nat) (ls : List (Option Value)) (st : List Value) (σ : wd_S) (τ : wd_L) : Prop :=
  ∀ (H : Heap) (locs : List Loc) (la : Array Slot), cw_lh g.1 nL ls la → va_P g.2.1 wd_cl (wd_w ids g σ τ) H → va_S A s.heap H locs → W p l e R s m args below meth c H locs cells slots G (F0 m pc la (st.map (cw_v g.1)))
abbrev cw_G (below : List Frame) (args : Array Value) (s : State) (A : Nat → Prop) (ids : List Nat) (g : wd_G) (mc ms : Nat) (Q : Option Value → wd_S → wd_L → Prop) : State → Prop := MQ below (cw_Q ids g A Q) args s mc ms A
end
section
section
variable {p : Program} {l : Launch} {e : Env} {R : Room} {s : State} {m : MethodId} {args : Array Value} {below : List Frame} {meth : Method} {c : Code} {A : Nat → Prop} {ids : List Nat} {g : wd_G} {cells slots : Nat} {G : State → Prop} {cc : ByteArray} {nL pc : Nat} {own : String} {ret : Option FieldType} {ls : List (Option Value)} {st : List Value} {σ : wd_S} {τ : wd_L}
theorem cw_iconst (C : cw_C p s m args meth c A ids g cc nL own ret) {n : Int} {v : Int32} (hd : decode cc pc = .ok (.iconst n, 1)) (hv : Int32.ofInt n = v) (k : cw_W p l e R s m args below meth c A ids g cells slots G nL (pc + 1) ls (.int v :: st) σ τ) : cw_W p l e R s m args below meth c A ids g cells slots G nL pc ls st σ τ := fun H locs la hl hP hS => lv_iconst C.1 C.2.1 hd hv (k H locs la hl hP hS)
theorem cw_bipush (C : cw_C p s m args meth c A ids g cc nL own ret) {n : Int} {v : Int32} (hd : decode cc pc = .ok (.bipush n, 2)) (hv : (Int8.ofInt n).toInt32 = v) (k : cw_W p l e R s m args below meth c A ids g cells slots G nL (pc + 2) ls (.int v :: st) σ τ) : cw_W p l e R s m args below meth c A ids g cells slots G nL pc ls st σ τ := fun H locs la hl hP hS => lv_bipush C.1 C.2.1 hd hv (k H locs la hl hP hS)
theorem cw_sipush (C : cw_C p s m args meth c A ids g cc nL own ret) {n : Int} {v : Int32} (hd : decode cc pc = .ok (.sipush n, 3)) (hv : (Int16.ofInt n).toInt32 = v) (k : cw_W p l e R s m args below meth c A ids g cells slots G nL (pc + 3) ls (.int v :: st) σ τ) : cw_W p l e R s m args below meth c A ids g cells slots G nL pc ls st σ τ := fun H locs la hl hP hS => lv_sipush C.1 C.2.1 hd hv (k H locs la hl hP hS)
theorem cw_lconst (C : cw_C p s m args meth c A ids g cc nL own ret) {n : Fin 2} {v : Int64} (hd : decode cc pc = .ok (.lconst n, 1)) (hv : Int64.ofNat (n : Nat) = v) (k : cw_W p l e R s m args below meth c A ids g cells slots G nL (pc + 1) ls (.long v :: st) σ τ) : cw_W p l e R s m args below meth c A ids g cells slots G nL pc ls st σ τ := fun H locs la hl hP hS => lv_lconst C.1 C.2.1 hd hv (k H locs la hl hP hS)
theorem cw_iload_n (C : cw_C p s m args meth c A ids g cc nL own ret) {k0 : Fin 4} {x : Int32} (hd : decode cc pc = .ok (.iload_n k0, 1)) (h : ls[(k0 : Nat)]? = some (some (.int x))) (k : cw_W p l e R s m args below meth c A ids g cells slots G nL (pc + 1) ls (.int x :: st) σ τ) : cw_W p l e R s m args below meth c A ids g cells slots G nL pc ls st σ τ := fun H locs la hl hP hS => lv_iload_n C.1 C.2.1 hd rfl (hl.2.2 _ _ h).1 (k H locs la hl hP hS)
theorem cw_iload (C : cw_C p s m args meth c A ids g cc nL own ret) {i : Nat} {x : Int32} (hd : decode cc pc = .ok (.iload i, 2)) (h : ls[i]? = some (some (.int x))) (k : cw_W p l e R s m args below meth c A ids g cells slots G nL (pc + 2) ls (.int x :: st) σ τ) : cw_W p l e R s m args below meth c A ids g cells slots G nL pc ls st σ τ := fun H locs la hl hP hS => lv_iload C.1 C.2.1 hd (hl.2.2 _ _ h).1 (k H locs la hl hP hS)
theorem cw_aload_n (C : cw_C p s m args meth c A ids g cc nL own ret) {k0 : Fin 4} {x : Nat} (hd : decode cc pc = .ok (.aload_n k0, 1)) (h : ls[(k0 : Nat)]? = some (some (.ref x))) (k : cw_W p l e R s m args below meth c A ids g cells slots G nL (pc + 1) ls (.ref x :: st) σ τ) : cw_W p l e R s m args below meth c A ids g cells slots G nL pc ls st σ τ := fun H locs la hl hP hS => lv_aload_n C.1 C.2.1 hd rfl (hl.2.2 _ _ h).1 (k H locs la hl hP hS)
theorem cw_aload (C : cw_C p s m args meth c A ids g cc nL own ret) {i x : Nat} (hd : decode cc pc = .ok (.aload i, 2)) (h : ls[i]? = some (some (.ref x))) (k : cw_W p l e R s m args below meth c A ids g cells slots G nL (pc + 2) ls (.ref x :: st) σ τ) : cw_W p l e R s m args below meth c A ids g cells slots G nL pc ls st σ τ := fun H locs la hl hP hS => lv_aload C.1 C.2.1 hd (hl.2.2 _ _ h).1 (k H locs la hl hP hS)
theorem cw_istore_n (C : cw_C p s m args meth c A ids g cc nL own ret) {k0 : Fin 4} {x : Int32} (hd : decode cc pc = .ok (.istore_n k0, 1)) (hi : (k0 : Nat) < nL) (k : cw_W p l e R s m args below meth c A ids g cells slots G nL (pc + 1) (ls.set (k0 : Nat) (some (.int x))) st σ τ) : cw_W p l e R s m args below meth c A ids g cells slots G nL pc ls (.int x :: st) σ τ := fun H locs la hl hP hS => lv_istore_n C.1 C.2.1 hd rfl (cw_lh_has hl) hi rfl (fun la' h' => k H locs la' (cw_lh_set (v := .int x) hl rfl h') hP hS)
theorem cw_istore (C : cw_C p s m args meth c A ids g cc nL own ret) {i : Nat} {x : Int32} (hd : decode cc pc = .ok (.istore i, 2)) (hi : i < nL) (k : cw_W p l e R s m args below meth c A ids g cells slots G nL (pc + 2) (ls.set i (some (.int x))) st σ τ) : cw_W p l e R s m args below meth c A ids g cells slots G nL pc ls (.int x :: st) σ τ := fun H locs la hl hP hS => lv_istore C.1 C.2.1 hd (cw_lh_has hl) hi rfl (fun la' h' => k H locs la' (cw_lh_set (v := .int x) hl rfl h') hP hS)
theorem cw_astore_n (C : cw_C p s m args meth c A ids g cc nL own ret) {k0 : Fin 4} {x : Nat} (hd : decode cc pc = .ok (.astore_n k0, 1)) (hi : (k0 : Nat) < nL) (k : cw_W p l e R s m args below meth c A ids g cells slots G nL (pc + 1) (ls.set (k0 : Nat) (some (.ref x))) st σ τ) : cw_W p l e R s m args below meth c A ids g cells slots G nL pc ls (.ref x :: st) σ τ := fun H locs la hl hP hS => lv_astore_n C.1 C.2.1 hd rfl (cw_lh_has hl) hi rfl (fun la' h' => k H locs la' (cw_lh_set (v := .ref x) hl rfl h') hP hS)
theorem cw_astore (C : cw_C p s m args meth c A ids g cc nL own ret) {i x : Nat} (hd : decode cc pc = .ok (.astore i, 2)) (hi : i < nL) (k : cw_W p l e R s m args below meth c A ids g cells slots G nL (pc + 2) (ls.set i (some (.ref x))) st σ τ) : cw_W p l e R s m args below meth c A ids g cells slots G nL pc ls (.ref x :: st) σ τ := fun H locs la hl hP hS => lv_astore C.1 C.2.1 hd (cw_lh_has hl) hi rfl (fun la' h' => k H locs la' (cw_lh_set (v := .ref x) hl rfl h') hP hS)
theorem cw_astore_nq (C : cw_C p s m args meth c A ids g cc nL own ret) {k0 : Fin 4} {x : Nat} (hd : decode cc pc = .ok (.astore_n k0, 1)) (hi : (k0 : Nat) < nL) (k : cw_W p l e R s m args below meth c A ids g cells slots G nL (pc + 1) (ls.set (k0 : Nat) (some (.retAddr x))) st σ τ) : cw_W p l e R s m args below meth c A ids g cells slots G nL pc ls (.retAddr x :: st) σ τ := fun H locs la hl hP hS => lv_astore_n C.1 C.2.1 hd rfl (cw_lh_has hl) hi rfl (fun la' h' => k H locs la' (cw_lh_set (v := .retAddr x) hl rfl h') hP hS)
theorem cw_astore_q (C : cw_C p s m args meth c A ids g cc nL own ret) {i x : Nat} (hd : decode cc pc = .ok (.astore i, 2)) (hi : i < nL) (k : cw_W p l e R s m args below meth c A ids g cells slots G nL (pc + 2) (ls.set i (some (.retAddr x))) st σ τ) : cw_W p l e R s m args below meth c A ids g cells slots G nL pc ls (.retAddr x :: st) σ τ := fun H locs la hl hP hS => lv_astore C.1 C.2.1 hd (cw_lh_has hl) hi rfl (fun la' h' => k H locs la' (cw_lh_set (v := .retAddr x) hl rfl h') hP hS)
theorem cw_iinc (C : cw_C p s m args meth c A ids g cc nL own ret) {i : Nat} {n : Int} {x v : Int32} (hd : decode cc pc = .ok (.iinc i n, 3)) (h : ls[i]? = some (some (.int x))) (hv : x + Int32.ofInt n = v) (hi : i < nL) (k : cw_W p l e R s m args below meth c A ids g cells slots G nL (pc + 3) (ls.set i (some (.int v))) st σ τ) : cw_W p l e R s m args below meth c A ids g cells slots G nL pc ls st σ τ := fun H locs la hl hP hS => by
  obtain ⟨k9, hk9⟩ := List.getElem?_of_mem (cw_pr_mem (ad := g.1) (q := (i, .int x)) |>.mpr ⟨.int x, h, rfl⟩)
  exact lv_iinc C.1 C.2.1 hd (cw_lh_has hl) hk9 hv hi rfl (fun la' h' => k H locs la' (cw_lh_set (v := .int v) hl rfl h') hP hS)
theorem cw_iadd (C : cw_C p s m args meth c A ids g cc nL own ret) {x y : Int32} (hd : decode cc pc = .ok (.iadd, 1)) (k : cw_W p l e R s m args below meth c A ids g cells slots G nL (pc + 1) ls (.int (x + y) :: st) σ τ) : cw_W p l e R s m args below meth c A ids g cells slots G nL pc ls (.int y :: .int x :: st) σ τ := fun H locs la hl hP hS => lv_iadd C.1 C.2.1 hd (k H locs la hl hP hS)
theorem cw_isub (C : cw_C p s m args meth c A ids g cc nL own ret) {x y : Int32} (hd : decode cc pc = .ok (.isub, 1)) (k : cw_W p l e R s m args below meth c A ids g cells slots G nL (pc + 1) ls (.int (x - y) :: st) σ τ) : cw_W p l e R s m args below meth c A ids g cells slots G nL pc ls (.int y :: .int x :: st) σ τ := fun H locs la hl hP hS => lv_isub C.1 C.2.1 hd (k H locs la hl hP hS)
theorem cw_imul (C : cw_C p s m args meth c A ids g cc nL own ret) {x y : Int32} (hd : decode cc pc = .ok (.imul, 1)) (k : cw_W p l e R s m args below meth c A ids g cells slots G nL (pc + 1) ls (.int (x * y) :: st) σ τ) : cw_W p l e R s m args below meth c A ids g cells slots G nL pc ls (.int y :: .int x :: st) σ τ := fun H locs la hl hP hS => lv_imul C.1 C.2.1 hd (k H locs la hl hP hS)
theorem cw_iand (C : cw_C p s m args meth c A ids g cc nL own ret) {x y : Int32} (hd : decode cc pc = .ok (.iand, 1)) (k : cw_W p l e R s m args below meth c A ids g cells slots G nL (pc + 1) ls (.int (x &&& y) :: st) σ τ) : cw_W p l e R s m args below meth c A ids g cells slots G nL pc ls (.int y :: .int x :: st) σ τ := fun H locs la hl hP hS => lv_iand C.1 C.2.1 hd (k H locs la hl hP hS)
theorem cw_ior (C : cw_C p s m args meth c A ids g cc nL own ret) {x y : Int32} (hd : decode cc pc = .ok (.ior, 1)) (k : cw_W p l e R s m args below meth c A ids g cells slots G nL (pc + 1) ls (.int (x ||| y) :: st) σ τ) : cw_W p l e R s m args below meth c A ids g cells slots G nL pc ls (.int y :: .int x :: st) σ τ := fun H locs la hl hP hS => lv_ior C.1 C.2.1 hd (k H locs la hl hP hS)
theorem cw_ixor (C : cw_C p s m args meth c A ids g cc nL own ret) {x y : Int32} (hd : decode cc pc = .ok (.ixor, 1)) (k : cw_W p l e R s m args below meth c A ids g cells slots G nL (pc + 1) ls (.int (x ^^^ y) :: st) σ τ) : cw_W p l e R s m args below meth c A ids g cells slots G nL pc ls (.int y :: .int x :: st) σ τ := fun H locs la hl hP hS => lv_ixor C.1 C.2.1 hd (k H locs la hl hP hS)
theorem cw_ishl (C : cw_C p s m args meth c A ids g cc nL own ret) {x y : Int32} (hd : decode cc pc = .ok (.ishl, 1)) (k : cw_W p l e R s m args below meth c A ids g cells slots G nL (pc + 1) ls (.int (x <<< (y &&& 31)) :: st) σ τ) : cw_W p l e R s m args below meth c A ids g cells slots G nL pc ls (.int y :: .int x :: st) σ τ := fun H locs la hl hP hS => lv_ishl C.1 C.2.1 hd (k H locs la hl hP hS)
theorem cw_ishr (C : cw_C p s m args meth c A ids g cc nL own ret) {x y : Int32} (hd : decode cc pc = .ok (.ishr, 1)) (k : cw_W p l e R s m args below meth c A ids g cells slots G nL (pc + 1) ls (.int (x >>> (y &&& 31)) :: st) σ τ) : cw_W p l e R s m args below meth c A ids g cells slots G nL pc ls (.int y :: .int x :: st) σ τ := fun H locs la hl hP hS => lv_ishr C.1 C.2.1 hd (k H locs la hl hP hS)
theorem cw_idiv (C : cw_C p s m args meth c A ids g cc nL own ret) {x y : Int32} (hd : decode cc pc = .ok (.idiv, 1)) (hne : ¬ y = 0) (k : cw_W p l e R s m args below meth c A ids g cells slots G nL (pc + 1) ls (.int (x / y) :: st) σ τ) : cw_W p l e R s m args below meth c A ids g cells slots G nL pc ls (.int y :: .int x :: st) σ τ := fun H locs la hl hP hS => lv_idiv C.1 C.2.1 hd hne (k H locs la hl hP hS)
theorem cw_irem (C : cw_C p s m args meth c A ids g cc nL own ret) {x y : Int32} (hd : decode cc pc = .ok (.irem, 1)) (hne : ¬ y = 0) (k : cw_W p l e R s m args below meth c A ids g cells slots G nL (pc + 1) ls (.int (x - x / y * y) :: st) σ τ) : cw_W p l e R s m args below meth c A ids g cells slots G nL pc ls (.int y :: .int x :: st) σ τ := fun H locs la hl hP hS => lv_irem C.1 C.2.1 hd hne (k H locs la hl hP hS)
theorem cw_iushr (C : cw_C p s m args meth c A ids g cc nL own ret) {x y : Int32} (hd : decode cc pc = .ok (.iushr, 1)) (k : cw_W p l e R s m args below meth c A ids g cells slots G nL (pc + 1) ls (.int (x.toUInt32 >>> (y.toUInt32 &&& Int32.toUInt32 31)).toInt32 :: st) σ τ) : cw_W p l e R s m args below meth c A ids g cells slots G nL pc ls (.int y :: .int x :: st) σ τ := fun H locs la hl hP hS => lv_iushr C.1 C.2.1 hd rfl (k H locs la hl hP hS)
theorem cw_ineg (C : cw_C p s m args meth c A ids g cc nL own ret) {x : Int32} (hd : decode cc pc = .ok (.ineg, 1)) (k : cw_W p l e R s m args below meth c A ids g cells slots G nL (pc + 1) ls (.int (-x) :: st) σ τ) : cw_W p l e R s m args below meth c A ids g cells slots G nL pc ls (.int x :: st) σ τ := fun H locs la hl hP hS => lv_ineg C.1 C.2.1 hd (k H locs la hl hP hS)
theorem cw_land (C : cw_C p s m args meth c A ids g cc nL own ret) {x y : Int64} (hd : decode cc pc = .ok (.land, 1)) (k : cw_W p l e R s m args below meth c A ids g cells slots G nL (pc + 1) ls (.long (x &&& y) :: st) σ τ) : cw_W p l e R s m args below meth c A ids g cells slots G nL pc ls (.long y :: .long x :: st) σ τ := fun H locs la hl hP hS => lv_land C.1 C.2.1 hd (k H locs la hl hP hS)
theorem cw_lor (C : cw_C p s m args meth c A ids g cc nL own ret) {x y : Int64} (hd : decode cc pc = .ok (.lor, 1)) (k : cw_W p l e R s m args below meth c A ids g cells slots G nL (pc + 1) ls (.long (x ||| y) :: st) σ τ) : cw_W p l e R s m args below meth c A ids g cells slots G nL pc ls (.long y :: .long x :: st) σ τ := fun H locs la hl hP hS => lv_lor C.1 C.2.1 hd (k H locs la hl hP hS)
theorem cw_lshl (C : cw_C p s m args meth c A ids g cc nL own ret) {x : Int64} {y : Int32} (hd : decode cc pc = .ok (.lshl, 1)) (k : cw_W p l e R s m args below meth c A ids g cells slots G nL (pc + 1) ls (.long (x <<< (y.toInt64 &&& 63)) :: st) σ τ) : cw_W p l e R s m args below meth c A ids g cells slots G nL pc ls (.int y :: .long x :: st) σ τ := fun H locs la hl hP hS => lv_lshl C.1 C.2.1 hd rfl (k H locs la hl hP hS)
theorem cw_lshr (C : cw_C p s m args meth c A ids g cc nL own ret) {x : Int64} {y : Int32} (hd : decode cc pc = .ok (.lshr, 1)) (k : cw_W p l e R s m args below meth c A ids g cells slots G nL (pc + 1) ls (.long (x >>> (y.toInt64 &&& 63)) :: st) σ τ) : cw_W p l e R s m args below meth c A ids g cells slots G nL pc ls (.int y :: .long x :: st) σ τ := fun H locs la hl hP hS => lv_lshr C.1 C.2.1 hd rfl (k H locs la hl hP hS)
theorem cw_i2l (C : cw_C p s m args meth c A ids g cc nL own ret) {x : Int32} (hd : decode cc pc = .ok (.i2l, 1)) (k : cw_W p l e R s m args below meth c A ids g cells slots G nL (pc + 1) ls (.long x.toInt64 :: st) σ τ) : cw_W p l e R s m args below meth c A ids g cells slots G nL pc ls (.int x :: st) σ τ := fun H locs la hl hP hS => lv_i2l C.1 C.2.1 hd rfl (k H locs la hl hP hS)
theorem cw_lcmp (C : cw_C p s m args meth c A ids g cc nL own ret) {x y : Int64} (hd : decode cc pc = .ok (.lcmp, 1)) (k : cw_W p l e R s m args below meth c A ids g cells slots G nL (pc + 1) ls (.int (lg_cmp x y) :: st) σ τ) : cw_W p l e R s m args below meth c A ids g cells slots G nL pc ls (.long y :: .long x :: st) σ τ := fun H locs la hl hP hS => W.lcmp C.1 C.2.1 hd (k H locs la hl hP hS)
theorem cw_dup (C : cw_C p s m args meth c A ids g cc nL own ret) {u : Value} (hd : decode cc pc = .ok (.dup, 1)) (h1 : (cw_v g.1 u).category = 1) (k : cw_W p l e R s m args below meth c A ids g cells slots G nL (pc + 1) ls (u :: u :: st) σ τ) : cw_W p l e R s m args below meth c A ids g cells slots G nL pc ls (u :: st) σ τ := fun H locs la hl hP hS => lv_dup C.1 C.2.1 hd h1 (k H locs la hl hP hS)
theorem cw_dup_x1 (C : cw_C p s m args meth c A ids g cc nL own ret) {u v : Value} (hd : decode cc pc = .ok (.dup_x1, 1)) (h1 : (cw_v g.1 u).category = 1) (h2 : (cw_v g.1 v).category = 1) (k : cw_W p l e R s m args below meth c A ids g cells slots G nL (pc + 1) ls (u :: v :: u :: st) σ τ) : cw_W p l e R s m args below meth c A ids g cells slots G nL pc ls (u :: v :: st) σ τ := fun H locs la hl hP hS => lv_dup_x1 C.1 C.2.1 hd h1 h2 (k H locs la hl hP hS)
theorem cw_dup_x2 (C : cw_C p s m args meth c A ids g cc nL own ret) {u v w : Value} (hd : decode cc pc = .ok (.dup_x2, 1)) (h1 : (cw_v g.1 u).category = 1) (h2 : (cw_v g.1 v).category = 1) (h3 : (cw_v g.1 w).category = 1) (k : cw_W p l e R s m args below meth c A ids g cells slots G nL (pc + 1) ls (u :: v :: w :: u :: st) σ τ) : cw_W p l e R s m args below meth c A ids g cells slots G nL pc ls (u :: v :: w :: st) σ τ := fun H locs la hl hP hS => lv_dup_x2 C.1 C.2.1 hd h1 h2 h3 (k H locs la hl hP hS)
theorem cw_dup2 (C : cw_C p s m args meth c A ids g cc nL own ret) {u v : Value} (hd : decode cc pc = .ok (.dup2, 1)) (h1 : (cw_v g.1 u).category = 1) (h2 : (cw_v g.1 v).category = 1) (k : cw_W p l e R s m args below meth c A ids g cells slots G nL (pc + 1) ls (u :: v :: u :: v :: st) σ τ) : cw_W p l e R s m args below meth c A ids g cells slots G nL pc ls (u :: v :: st) σ τ := fun H locs la hl hP hS => lv_dup2_11 C.1 C.2.1 hd h1 h2 (k H locs la hl hP hS)
theorem cw_dup2l (C : cw_C p s m args meth c A ids g cc nL own ret) {u : Value} (hd : decode cc pc = .ok (.dup2, 1)) (h1 : (cw_v g.1 u).category = 2) (k : cw_W p l e R s m args below meth c A ids g cells slots G nL (pc + 1) ls (u :: u :: st) σ τ) : cw_W p l e R s m args below meth c A ids g cells slots G nL pc ls (u :: st) σ τ := fun H locs la hl hP hS => lv_dup2_2 C.1 C.2.1 hd h1 (k H locs la hl hP hS)
theorem cw_pop (C : cw_C p s m args meth c A ids g cc nL own ret) {u : Value} (hd : decode cc pc = .ok (.pop, 1)) (h1 : (cw_v g.1 u).category = 1) (k : cw_W p l e R s m args below meth c A ids g cells slots G nL (pc + 1) ls st σ τ) : cw_W p l e R s m args below meth c A ids g cells slots G nL pc ls (u :: st) σ τ := fun H locs la hl hP hS => lv_pop C.1 C.2.1 hd h1 (k H locs la hl hP hS)
theorem cw_goto (C : cw_C p s m args meth c A ids g cc nL own ret) {off : Int} {tgt : Nat} (hd : decode cc pc = .ok (.goto off, 3)) (ht : (pc : Int) + off = (tgt : Int)) (k : cw_W p l e R s m args below meth c A ids g cells slots G nL tgt ls st σ τ) : cw_W p l e R s m args below meth c A ids g cells slots G nL pc ls st σ τ := fun H locs la hl hP hS => lv_goto C.1 C.2.1 hd ht (k H locs la hl hP hS)
theorem cw_if_eq (C : cw_C p s m args meth c A ids g cc nL own ret) {x : Int32} {off : Int} {tgt : Nat} (hd : decode cc pc = .ok (.ifCond .eq off, 3)) (ht : (pc : Int) + off = (tgt : Int)) (kt : x = 0 → cw_W p l e R s m args below meth c A ids g cells slots G nL tgt ls st σ τ) (kf : ¬ x = 0 → cw_W p l e R s m args below meth c A ids g cells slots G nL (pc + 3) ls st σ τ) : cw_W p l e R s m args below meth c A ids g cells slots G nL pc ls (.int x :: st) σ τ := fun H locs la hl hP hS => lv_if_eq C.1 C.2.1 hd ht (fun h => kt h H locs la hl hP hS) (fun h => kf h H locs la hl hP hS)
theorem cw_icmp_eq (C : cw_C p s m args meth c A ids g cc nL own ret) {x y : Int32} {off : Int} {tgt : Nat} (hd : decode cc pc = .ok (.if_icmp .eq off, 3)) (ht : (pc : Int) + off = (tgt : Int)) (kt : x = y → cw_W p l e R s m args below meth c A ids g cells slots G nL tgt ls st σ τ) (kf : ¬ x = y → cw_W p l e R s m args below meth c A ids g cells slots G nL (pc + 3) ls st σ τ) : cw_W p l e R s m args below meth c A ids g cells slots G nL pc ls (.int y :: .int x :: st) σ τ := fun H locs la hl hP hS => lv_icmp_eq C.1 C.2.1 hd ht (fun h => kt h H locs la hl hP hS) (fun h => kf h H locs la hl hP hS)
theorem cw_if_ne (C : cw_C p s m args meth c A ids g cc nL own ret) {x : Int32} {off : Int} {tgt : Nat} (hd : decode cc pc = .ok (.ifCond .ne off, 3)) (ht : (pc : Int) + off = (tgt : Int)) (kt : ¬ x = 0 → cw_W p l e R s m args below meth c A ids g cells slots G nL tgt ls st σ τ) (kf : x = 0 → cw_W p l e R s m args below meth c A ids g cells slots G nL (pc + 3) ls st σ τ) : cw_W p l e R s m args below meth c A ids g cells slots G nL pc ls (.int x :: st) σ τ := fun H locs la hl hP hS => lv_if_ne C.1 C.2.1 hd ht (fun h => kt h H locs la hl hP hS) (fun h => kf h H locs la hl hP hS)
theorem cw_icmp_ne (C : cw_C p s m args meth c A ids g cc nL own ret) {x y : Int32} {off : Int} {tgt : Nat} (hd : decode cc pc = .ok (.if_icmp .ne off, 3)) (ht : (pc : Int) + off = (tgt : Int)) (kt : ¬ x = y → cw_W p l e R s m args below meth c A ids g cells slots G nL tgt ls st σ τ) (kf : x = y → cw_W p l e R s m args below meth c A ids g cells slots G nL (pc + 3) ls st σ τ) : cw_W p l e R s m args below meth c A ids g cells slots G nL pc ls (.int y :: .int x :: st) σ τ := fun H locs la hl hP hS => lv_icmp_ne C.1 C.2.1 hd ht (fun h => kt h H locs la hl hP hS) (fun h => kf h H locs la hl hP hS)
theorem cw_if_lt (C : cw_C p s m args meth c A ids g cc nL own ret) {x : Int32} {off : Int} {tgt : Nat} (hd : decode cc pc = .ok (.ifCond .lt off, 3)) (ht : (pc : Int) + off = (tgt : Int)) (kt : x < 0 → cw_W p l e R s m args below meth c A ids g cells slots G nL tgt ls st σ τ) (kf : ¬ x < 0 → cw_W p l e R s m args below meth c A ids g cells slots G nL (pc + 3) ls st σ τ) : cw_W p l e R s m args below meth c A ids g cells slots G nL pc ls (.int x :: st) σ τ := fun H locs la hl hP hS => lv_if_lt C.1 C.2.1 hd ht (fun h => kt h H locs la hl hP hS) (fun h => kf h H locs la hl hP hS)
theorem cw_icmp_lt (C : cw_C p s m args meth c A ids g cc nL own ret) {x y : Int32} {off : Int} {tgt : Nat} (hd : decode cc pc = .ok (.if_icmp .lt off, 3)) (ht : (pc : Int) + off = (tgt : Int)) (kt : x < y → cw_W p l e R s m args below meth c A ids g cells slots G nL tgt ls st σ τ) (kf : ¬ x < y → cw_W p l e R s m args below meth c A ids g cells slots G nL (pc + 3) ls st σ τ) : cw_W p l e R s m args below meth c A ids g cells slots G nL pc ls (.int y :: .int x :: st) σ τ := fun H locs la hl hP hS => lv_icmp_lt C.1 C.2.1 hd ht (fun h => kt h H locs la hl hP hS) (fun h => kf h H locs la hl hP hS)
theorem cw_if_ge (C : cw_C p s m args meth c A ids g cc nL own ret) {x : Int32} {off : Int} {tgt : Nat} (hd : decode cc pc = .ok (.ifCond .ge off, 3)) (ht : (pc : Int) + off = (tgt : Int)) (kt : 0 ≤ x → cw_W p l e R s m args below meth c A ids g cells slots G nL tgt ls st σ τ) (kf : ¬ 0 ≤ x → cw_W p l e R s m args below meth c A ids g cells slots G nL (pc + 3) ls st σ τ) : cw_W p l e R s m args below meth c A ids g cells slots G nL pc ls (.int x :: st) σ τ := fun H locs la hl hP hS => lv_if_ge C.1 C.2.1 hd ht (fun h => kt h H locs la hl hP hS) (fun h => kf h H locs la hl hP hS)
theorem cw_icmp_ge (C : cw_C p s m args meth c A ids g cc nL own ret) {x y : Int32} {off : Int} {tgt : Nat} (hd : decode cc pc = .ok (.if_icmp .ge off, 3)) (ht : (pc : Int) + off = (tgt : Int)) (kt : y ≤ x → cw_W p l e R s m args below meth c A ids g cells slots G nL tgt ls st σ τ) (kf : ¬ y ≤ x → cw_W p l e R s m args below meth c A ids g cells slots G nL (pc + 3) ls st σ τ) : cw_W p l e R s m args below meth c A ids g cells slots G nL pc ls (.int y :: .int x :: st) σ τ := fun H locs la hl hP hS => lv_icmp_ge C.1 C.2.1 hd ht (fun h => kt h H locs la hl hP hS) (fun h => kf h H locs la hl hP hS)
theorem cw_if_gt (C : cw_C p s m args meth c A ids g cc nL own ret) {x : Int32} {off : Int} {tgt : Nat} (hd : decode cc pc = .ok (.ifCond .gt off, 3)) (ht : (pc : Int) + off = (tgt : Int)) (kt : 0 < x → cw_W p l e R s m args below meth c A ids g cells slots G nL tgt ls st σ τ) (kf : ¬ 0 < x → cw_W p l e R s m args below meth c A ids g cells slots G nL (pc + 3) ls st σ τ) : cw_W p l e R s m args below meth c A ids g cells slots G nL pc ls (.int x :: st) σ τ := fun H locs la hl hP hS => lv_if_gt C.1 C.2.1 hd ht (fun h => kt h H locs la hl hP hS) (fun h => kf h H locs la hl hP hS)
theorem cw_icmp_gt (C : cw_C p s m args meth c A ids g cc nL own ret) {x y : Int32} {off : Int} {tgt : Nat} (hd : decode cc pc = .ok (.if_icmp .gt off, 3)) (ht : (pc : Int) + off = (tgt : Int)) (kt : y < x → cw_W p l e R s m args below meth c A ids g cells slots G nL tgt ls st σ τ) (kf : ¬ y < x → cw_W p l e R s m args below meth c A ids g cells slots G nL (pc + 3) ls st σ τ) : cw_W p l e R s m args below meth c A ids g cells slots G nL pc ls (.int y :: .int x :: st) σ τ := fun H locs la hl hP hS => lv_icmp_gt C.1 C.2.1 hd ht (fun h => kt h H locs la hl hP hS) (fun h => kf h H locs la hl hP hS)
theorem cw_if_le (C : cw_C p s m args meth c A ids g cc nL own ret) {x : Int32} {off : Int} {tgt : Nat} (hd : decode cc pc = .ok (.ifCond .le off, 3)) (ht : (pc : Int) + off = (tgt : Int)) (kt : x ≤ 0 → cw_W p l e R s m args below meth c A ids g cells slots G nL tgt ls st σ τ) (kf : ¬ x ≤ 0 → cw_W p l e R s m args below meth c A ids g cells slots G nL (pc + 3) ls st σ τ) : cw_W p l e R s m args below meth c A ids g cells slots G nL pc ls (.int x :: st) σ τ := fun H locs la hl hP hS => lv_if_le C.1 C.2.1 hd ht (fun h => kt h H locs la hl hP hS) (fun h => kf h H locs la hl hP hS)
theorem cw_icmp_le (C : cw_C p s m args meth c A ids g cc nL own ret) {x y : Int32} {off : Int} {tgt : Nat} (hd : decode cc pc = .ok (.if_icmp .le off, 3)) (ht : (pc : Int) + off = (tgt : Int)) (kt : x ≤ y → cw_W p l e R s m args below meth c A ids g cells slots G nL tgt ls st σ τ) (kf : ¬ x ≤ y → cw_W p l e R s m args below meth c A ids g cells slots G nL (pc + 3) ls st σ τ) : cw_W p l e R s m args below meth c A ids g cells slots G nL pc ls (.int y :: .int x :: st) σ τ := fun H locs la hl hP hS => lv_icmp_le C.1 C.2.1 hd ht (fun h => kt h H locs la hl hP hS) (fun h => kf h H locs la hl hP hS)
theorem cw_lookup (C : cw_C p s m args meth c A ids g cc nL own ret) {dflt : Int} {ps : Array (Int × Int)} {len : Nat} {x : Int32} {off : Int} {tgt : Nat} (hd : decode cc pc = .ok (.lookupswitch dflt ps, len)) (hp : (ps.toList.zip (ps.toList.drop 1)).all (fun (a, next) => a.1 < next.1) = true) (ho : Op.lookupswitch.offset ps.toList dflt x.toInt = off) (ht : (pc : Int) + off = (tgt : Int)) (k : cw_W p l e R s m args below meth c A ids g cells slots G nL tgt ls st σ τ) : cw_W p l e R s m args below meth c A ids g cells slots G nL pc ls (.int x :: st) σ τ := fun H locs la hl hP hS => lv_lookup C.1 C.2.1 hd hp ho ht (k H locs la hl hP hS)
theorem cw_tableOut (C : cw_C p s m args meth c A ids g cc nL own ret) {dflt lo hi : Int} {offs : Array Int} {len : Nat} {x : Int32} {tgt : Nat} (hd : decode cc pc = .ok (.tableswitch dflt lo hi offs, len)) (h : x.toInt < lo ∨ hi < x.toInt) (ht : (pc : Int) + dflt = (tgt : Int)) (k : cw_W p l e R s m args below meth c A ids g cells slots G nL tgt ls st σ τ) : cw_W p l e R s m args below meth c A ids g cells slots G nL pc ls (.int x :: st) σ τ := fun H locs la hl hP hS => lv_tableOut C.1 C.2.1 hd h ht (k H locs la hl hP hS)
theorem cw_tableIn (C : cw_C p s m args meth c A ids g cc nL own ret) {dflt lo hi : Int} {offs : Array Int} {len : Nat} {x : Int32} {off : Int} {tgt : Nat} (hd : decode cc pc = .ok (.tableswitch dflt lo hi offs, len)) (h1 : ¬ x.toInt < lo) (h2 : ¬ hi < x.toInt) (ho : offs[(x.toInt - lo).toNat]? = some off) (ht : (pc : Int) + off = (tgt : Int)) (k : cw_W p l e R s m args below meth c A ids g cells slots G nL tgt ls st σ τ) : cw_W p l e R s m args below meth c A ids g cells slots G nL pc ls (.int x :: st) σ τ := fun H locs la hl hP hS => lv_tableIn C.1 C.2.1 hd h1 h2 ho ht (k H locs la hl hP hS)
theorem cw_ldc (C : cw_C p s m args meth c A ids g cc nL own ret) {index : Nat} {v : Int32} (hk : Cond.constant own index v ∈ wd_tb) (hd : decode cc pc = .ok (.ldc index, 2)) (k : cw_W p l e R s m args below meth c A ids g cells slots G nL (pc + 2) ls (.int v :: st) σ τ) : cw_W p l e R s m args below meth c A ids g cells slots G nL pc ls st σ τ := fun H locs la hl hP hS => lv_ldc C.1 C.2.1 C.2.2.2.1 (C.2.2.2.2.1 _ hk) hd (k H locs la hl hP hS)
theorem cw_eq {st' : List Value} {ls' : List (Option Value)} {σ' : wd_S} {τ' : wd_L} (h1 : ls = ls') (h2 : st = st') (h3 : σ = σ') (h4 : τ = τ') (k : cw_W p l e R s m args below meth c A ids g cells slots G nL pc ls' st' σ' τ') : cw_W p l e R s m args below meth c A ids g cells slots G nL pc ls st σ τ := by subst h1 h2 h3 h4; exact k
end
end
section
/-! The clean layer: fields, arrays, calls, returns. -/
/-- a class of the world: its place, its fields' words, their types -/
def wd_cls (ci : Nat) (K : String) (T : u_T) (N : Nat) (ty0 : Nat → FieldType) : Prop := wd_cl[ci]? = some (K, T, N) ∧ (∀ w ∈ u_ws K T N, w ∈ wd_tb) ∧ (∀ k, k < N → parseFieldDescriptor (T k).2.2.1 = some (ty0 k)) ∧ (∀ a, a < N → ∀ b, b < N → a ≠ b → (T a).2.1 ≠ (T b).2.1)
def cw_kF (own : String) (idx : Nat) (T : u_T) (k : Nat) : Prop := Cond.fieldLink own idx (T k).1 (T k).2.1 (T k).2.2.1 ∈ wd_tb
section
variable {p : Program} {l : Launch} {e : Env} {R : Room} {s : State} {m : MethodId} {args : Array Value} {below : List Frame} {meth : Method} {c : Code} {A : Nat → Prop} {ids : List Nat} {g : wd_G} {cells slots : Nat} {G : State → Prop} {cc : ByteArray} {nL pc : Nat} {own : String} {ret : Option FieldType} {ls : List (Option Value)} {st : List Value} {σ : wd_S} {τ : wd_L}
theorem cw_hts (C : cw_C p s m args meth c A ids g cc nL own ret) : ∀ w ∈ wd_tb, w.before args s = true := C.2.2.2.2.1
theorem cw_hK (C : cw_C p s m args meth c A ids g cc nL own ret) : va_K g.2.1 wd_cl (wd_ty g) s := C.2.2.2.2.2.2.1
theorem cw_hD (C : cw_C p s m args meth c A ids g cc nL own ret) : ∀ (σ : wd_S) (τ : wd_L), va_D A (wd_w ids g σ τ) := C.2.2.2.2.2.2.2.1
theorem cw_hA (C : cw_C p s m args meth c A ids g cc nL own ret) : ∀ q, s.heap.size ≤ q → A q := C.2.2.2.2.2.2.2.2.1
theorem cw_hr (C : cw_C p s m args meth c A ids g cc nL own ret) : meth.sig.returnType = ret := C.2.2.2.2.2.2.2.2.2.1
theorem cw_hlk (C : cw_C p s m args meth c A ids g cc nL own ret) : meth.locks = false := C.2.2.2.2.2.2.2.2.2.2.1
theorem cw_hn (C : cw_C p s m args meth c A ids g cc nL own ret) : ids.Nodup := C.2.2.2.2.2.2.2.2.2.2.2
theorem cw_getv (C : cw_C p s m args meth c A ids g cc nL own ret) {ci N k q idx : Nat} {K : String} {T : u_T} {ty0 : Nat → FieldType} {fl : List (Nat × Nat)} {f : Nat × Nat} (hc : wd_cls ci K T N ty0) (hf : cw_kF own idx T k) (hi : wd_is ids q (4, ci, fl)) (hk : k < N) (hfl : fl[k]? = some f) (hd : decode cc pc = .ok (.getfield idx, 3))
    (kk : cw_W p l e R s m args below meth c A ids g cells slots G nL (pc + 3) ls (wd_fv q σ τ k f :: st) σ τ) : cw_W p l e R s m args below meth c A ids g cells slots G nL pc ls (.ref q :: st) σ τ := by
  intro H locs la hl hP hS
  obtain ⟨i, hids⟩ := List.getElem?_of_mem hi.1
  have he := wd_at (ids := ids) (g := g) (σ := σ) (τ := τ) hids
  rw [wd_ce_o hi.2] at he
  exact va_get (D := g.2.1) (cl := wd_cl) (tys := wd_ty g) (v := cw_v g.1 (wd_fv q σ τ k f)) (ref := (T k).1) C.1 C.2.1 (cw_hts C) hc.2.1 C.2.2.2.1 (cw_hK C) hP i he hc.1 k hk (cw_hts C _ hf) (fun _ h => h) (by rw [List.getElem?_map, wd_fs_at hfl]; rfl) hd (kk H locs la hl hP hS)
theorem cw_geti (C : cw_C p s m args meth c A ids g cc nL own ret) {ci N k q idx j : Nat} {K : String} {T : u_T} {ty0 : Nat → FieldType} {fl : List (Nat × Nat)} (hc : wd_cls ci K T N ty0) (hf : cw_kF own idx T k) (hi : wd_is ids q (4, ci, fl)) (hk : k < N) (hfl : fl[k]? = some (0, j)) (hd : decode cc pc = .ok (.getfield idx, 3))
    (kk : cw_W p l e R s m args below meth c A ids g cells slots G nL (pc + 3) ls (.int (σ q k) :: st) σ τ) : cw_W p l e R s m args below meth c A ids g cells slots G nL pc ls (.ref q :: st) σ τ := cw_getv C hc hf hi hk hfl hd kk
theorem cw_getl (C : cw_C p s m args meth c A ids g cc nL own ret) {ci N k q idx j : Nat} {K : String} {T : u_T} {ty0 : Nat → FieldType} {fl : List (Nat × Nat)} (hc : wd_cls ci K T N ty0) (hf : cw_kF own idx T k) (hi : wd_is ids q (4, ci, fl)) (hk : k < N) (hfl : fl[k]? = some (1, j)) (hd : decode cc pc = .ok (.getfield idx, 3))
    (kk : cw_W p l e R s m args below meth c A ids g cells slots G nL (pc + 3) ls (.long (τ q k) :: st) σ τ) : cw_W p l e R s m args below meth c A ids g cells slots G nL pc ls (.ref q :: st) σ τ := cw_getv C hc hf hi hk hfl hd kk
theorem cw_getr (C : cw_C p s m args meth c A ids g cc nL own ret) {ci N k q q' idx j : Nat} {K : String} {T : u_T} {ty0 : Nat → FieldType} {fl : List (Nat × Nat)} (hc : wd_cls ci K T N ty0) (hf : cw_kF own idx T k) (hi : wd_is ids q (4, ci, fl)) (hk : k < N) (hfl : fl[k]? = some (2, j)) (hd : decode cc pc = .ok (.getfield idx, 3)) (hq : 4 * j = q')
    (kk : cw_W p l e R s m args below meth c A ids g cells slots G nL (pc + 3) ls (.ref q' :: st) σ τ) : cw_W p l e R s m args below meth c A ids g cells slots G nL pc ls (.ref q :: st) σ τ := by
  subst hq
  exact cw_getv C hc hf hi hk hfl hd kk
theorem cw_gets (C : cw_C p s m args meth c A ids g cc nL own ret) {ci N k b b' r idx j : Nat} {K : String} {T : u_T} {ty0 : Nat → FieldType} {fl : List (Nat × Nat)} (hr : r < 4) (h0 : b % 4 = 0) (hc : wd_cls ci K T N ty0) (hf : cw_kF own idx T k) (hi : wd_is ids (b + r) (4, ci, fl)) (hk : k < N) (hfl : fl[k]? = some (3, j)) (hd : decode cc pc = .ok (.getfield idx, 3)) (hq : 4 * j = b')
    (kk : cw_W p l e R s m args below meth c A ids g cells slots G nL (pc + 3) ls (.ref (b' + r) :: st) σ τ) : cw_W p l e R s m args below meth c A ids g cells slots G nL pc ls (.ref (b + r) :: st) σ τ := by
  subst hq
  refine cw_getv C hc hf hi hk hfl hd ?_
  have e9 : (b + r) % 4 = r := by omega
  show cw_W p l e R s m args below meth c A ids g cells slots G nL (pc + 3) ls (.ref (4 * j + (b + r) % 4) :: st) σ τ
  rw [e9]
  exact kk
theorem cw_puti (C : cw_C p s m args meth c A ids g cc nL own ret) {ci N k q idx j : Nat} {K : String} {T : u_T} {ty0 : Nat → FieldType} {fl : List (Nat × Nat)} {x : Int32} (hc : wd_cls ci K T N ty0) (hf : cw_kF own idx T k) (hi : wd_is ids q (4, ci, fl)) (hk : k < N) (hfl : fl[k]? = some (0, j)) (hfin : (T k).2.2.2 = false) (hn : narrow (ty0 k) (.int x) = .int x) (hfit : fits (ty0 k) (.int x) = true) (hd : decode cc pc = .ok (.putfield idx, 3))
    (kk : cw_W p l e R s m args below meth c A ids g cells slots G nL (pc + 3) ls st (cw_up σ q k x) τ) : cw_W p l e R s m args below meth c A ids g cells slots G nL pc ls (.int x :: .ref q :: st) σ τ := by
  intro H locs la hl hP hS
  obtain ⟨i, hids⟩ := List.getElem?_of_mem hi.1
  have he := wd_at (ids := ids) (g := g) (σ := σ) (τ := τ) hids
  rw [wd_ce_o hi.2] at he
  have hkl : k < fl.length := (List.getElem?_eq_some_iff.mp hfl).1
  refine va_put (D := g.2.1) (cl := wd_cl) (tys := wd_ty g) (v := .int x) (ty := ty0 k) (ref := (T k).1) C.1 C.2.1 (cw_hts C) hc.2.1 ty0 hc.2.2.1 hc.2.2.2 C.2.2.2.1 (cw_hK C) hP (cw_hD C σ τ) hS i he hc.1 k hk (cw_hts C _ hf) (fun _ h => h) hfin (hc.2.2.1 k hk) hn hfit (by rw [List.length_map, wd_fs_len]; exact hkl) hd (fun H1 locs1 hP1 _ hS1 => ?_)
  rw [wd_set (cw_hn C) (σ' := cw_up σ q k x) (τ' := τ) hids (fun c' h => cw_up_c h) (fun _ _ => rfl) (by
    rw [wd_ce_o hi.2, ← wd_fs_up hfl, List.map_set]; rfl)] at hP1
  exact kk H1 locs1 la hl hP1 hS1
theorem cw_putl (C : cw_C p s m args meth c A ids g cc nL own ret) {ci N k q idx j : Nat} {K : String} {T : u_T} {ty0 : Nat → FieldType} {fl : List (Nat × Nat)} {x : Int64} (hc : wd_cls ci K T N ty0) (hf : cw_kF own idx T k) (hi : wd_is ids q (4, ci, fl)) (hk : k < N) (hfl : fl[k]? = some (1, j)) (hfin : (T k).2.2.2 = false) (hn : narrow (ty0 k) (.long x) = .long x) (hfit : fits (ty0 k) (.long x) = true) (hd : decode cc pc = .ok (.putfield idx, 3))
    (kk : cw_W p l e R s m args below meth c A ids g cells slots G nL (pc + 3) ls st σ (cw_uq τ q k x)) : cw_W p l e R s m args below meth c A ids g cells slots G nL pc ls (.long x :: .ref q :: st) σ τ := by
  intro H locs la hl hP hS
  obtain ⟨i, hids⟩ := List.getElem?_of_mem hi.1
  have he := wd_at (ids := ids) (g := g) (σ := σ) (τ := τ) hids
  rw [wd_ce_o hi.2] at he
  have hkl : k < fl.length := (List.getElem?_eq_some_iff.mp hfl).1
  refine va_put (D := g.2.1) (cl := wd_cl) (tys := wd_ty g) (v := .long x) (ty := ty0 k) (ref := (T k).1) C.1 C.2.1 (cw_hts C) hc.2.1 ty0 hc.2.2.1 hc.2.2.2 C.2.2.2.1 (cw_hK C) hP (cw_hD C σ τ) hS i he hc.1 k hk (cw_hts C _ hf) (fun _ h => h) hfin (hc.2.2.1 k hk) hn hfit (by rw [List.length_map, wd_fs_len]; exact hkl) hd (fun H1 locs1 hP1 _ hS1 => ?_)
  rw [wd_set (cw_hn C) (σ' := σ) (τ' := cw_uq τ q k x) hids (fun _ _ => rfl) (fun c' h => cw_uq_c h) (by
    rw [wd_ce_o hi.2, ← wd_fs_uq hfl, List.map_set]; rfl)] at hP1
  exact kk H1 locs1 la hl hP1 hS1
theorem cw_iald (C : cw_C p s m args meth c A ids g cc nL own ret) {q n i : Nat} {fl : List (Nat × Nat)} {x : Int32} (hi : wd_is ids q (0, n, fl)) (hx : x = nI i) (hin : i < n) (hn : n < 2 ^ 31) (hd : decode cc pc = .ok (.iaload, 1))
    (kk : cw_W p l e R s m args below meth c A ids g cells slots G nL (pc + 1) ls (.int (σ q i) :: st) σ τ) : cw_W p l e R s m args below meth c A ids g cells slots G nL pc ls (.int x :: .ref q :: st) σ τ := by
  intro H locs la hl hP hS
  obtain ⟨i0, hids⟩ := List.getElem?_of_mem hi.1
  have he := wd_at (ids := ids) (g := g) (σ := σ) (τ := τ) hids
  rw [wd_ce_i hi.2] at he
  subst hx
  have kk := kk H locs la hl hP hS
  refine va_iald C.1 C.2.1 (cw_hK C) hP i0 0 he rfl (vp_in_nI hin hn) hd ?_
  rw [nI_clamp (Nat.lt_trans hin hn)]
  exact kk
theorem cw_zald (C : cw_C p s m args meth c A ids g cc nL own ret) {q n i : Nat} {fl : List (Nat × Nat)} {x : Int32} (hi : wd_is ids q (1, n, fl)) (hx : x = nI i) (hin : i < n) (hn : n < 2 ^ 31) (hd : decode cc pc = .ok (.baload, 1))
    (kk : cw_W p l e R s m args below meth c A ids g cells slots G nL (pc + 1) ls (.int (σ q i) :: st) σ τ) : cw_W p l e R s m args below meth c A ids g cells slots G nL pc ls (.int x :: .ref q :: st) σ τ := by
  intro H locs la hl hP hS
  obtain ⟨i0, hids⟩ := List.getElem?_of_mem hi.1
  have he := wd_at (ids := ids) (g := g) (σ := σ) (τ := τ) hids
  rw [wd_ce_z hi.2] at he
  subst hx
  have kk := kk H locs la hl hP hS
  refine va_zald C.1 C.2.1 (cw_hK C) hP i0 1 he rfl (vp_in_nI hin hn) hd ?_
  rw [nI_clamp (Nat.lt_trans hin hn)]
  exact kk
theorem cw_lald (C : cw_C p s m args meth c A ids g cc nL own ret) {q n i : Nat} {fl : List (Nat × Nat)} {x : Int32} (hi : wd_is ids q (2, n, fl)) (hx : x = nI i) (hin : i < n) (hn : n < 2 ^ 31) (hd : decode cc pc = .ok (.laload, 1))
    (kk : cw_W p l e R s m args below meth c A ids g cells slots G nL (pc + 1) ls (.long (τ q i) :: st) σ τ) : cw_W p l e R s m args below meth c A ids g cells slots G nL pc ls (.int x :: .ref q :: st) σ τ := by
  intro H locs la hl hP hS
  obtain ⟨i0, hids⟩ := List.getElem?_of_mem hi.1
  have he := wd_at (ids := ids) (g := g) (σ := σ) (τ := τ) hids
  rw [wd_ce_l hi.2] at he
  subst hx
  have kk := kk H locs la hl hP hS
  refine va_lald C.1 C.2.1 (cw_hK C) hP i0 2 he rfl (vp_in_nI hin hn) hd ?_
  rw [nI_clamp (Nat.lt_trans hin hn)]
  exact kk
theorem cw_aald (C : cw_C p s m args meth c A ids g cc nL own ret) {q n i j a b' : Nat} {x : Int32} (hi : wd_is ids q (3, n, [(a, j)])) (hx : x = nI i) (hin : i < n) (hn : n < 2 ^ 31) (hd : decode cc pc = .ok (.aaload, 1)) (hq : 4 * j = b')
    (kk : cw_W p l e R s m args below meth c A ids g cells slots G nL (pc + 1) ls (.ref (b' + i) :: st) σ τ) : cw_W p l e R s m args below meth c A ids g cells slots G nL pc ls (.int x :: .ref q :: st) σ τ := by
  subst hq
  intro H locs la hl hP hS
  obtain ⟨i0, hids⟩ := List.getElem?_of_mem hi.1
  have he := wd_at (ids := ids) (g := g) (σ := σ) (τ := τ) hids
  rw [wd_ce_r hi.2] at he
  subst hx
  have kk := kk H locs la hl hP hS
  refine va_aldq C.1 C.2.1 (cw_hK C) hP i0 3 he rfl (vp_in_nI hin hn) hd ?_
  rw [nI_clamp (Nat.lt_trans hin hn)]
  exact kk
theorem cw_alen (C : cw_C p s m args meth c A ids g cc nL own ret) {q n : Nat} {fl : List (Nat × Nat)} (hi : wd_is ids q (0, n, fl)) (hd : decode cc pc = .ok (.arraylength, 1))
    (kk : cw_W p l e R s m args below meth c A ids g cells slots G nL (pc + 1) ls (.int (nI n) :: st) σ τ) : cw_W p l e R s m args below meth c A ids g cells slots G nL pc ls (.ref q :: st) σ τ := by
  intro H locs la hl hP hS
  obtain ⟨i0, hids⟩ := List.getElem?_of_mem hi.1
  have he := wd_at (ids := ids) (g := g) (σ := σ) (τ := τ) hids
  rw [wd_ce_i hi.2] at he
  exact va_alen C.1 C.2.1 (cw_hK C) hP i0 0 he rfl rfl hd (kk H locs la hl hP hS)
theorem cw_iast (C : cw_C p s m args meth c A ids g cc nL own ret) {q n i : Nat} {fl : List (Nat × Nat)} {x y : Int32} (hi : wd_is ids q (0, n, fl)) (hx : x = nI i) (hin : i < n) (hn : n < 2 ^ 31) (hd : decode cc pc = .ok (.iastore, 1))
    (kk : cw_W p l e R s m args below meth c A ids g cells slots G nL (pc + 1) ls st (cw_up σ q i y) τ) : cw_W p l e R s m args below meth c A ids g cells slots G nL pc ls (.int y :: .int x :: .ref q :: st) σ τ := by
  intro H locs la hl hP hS
  obtain ⟨i0, hids⟩ := List.getElem?_of_mem hi.1
  have he := wd_at (ids := ids) (g := g) (σ := σ) (τ := τ) hids
  rw [wd_ce_i hi.2] at he
  subst hx
  refine va_iast C.1 C.2.1 (cw_hK C) hP (cw_hD C σ τ) hS i0 0 he rfl (vp_in_nI hin hn) hd (fun H1 locs1 hP1 _ hS1 => ?_)
  rw [nI_clamp (Nat.lt_trans hin hn), wd_set (cw_hn C) (σ' := cw_up σ q i y) (τ' := τ) hids (fun c' h => cw_up_c h) (fun _ _ => rfl) (by
    rw [wd_ce_i hi.2, cw_up_u])] at hP1
  exact kk H1 locs1 la hl hP1 hS1
theorem cw_zast (C : cw_C p s m args meth c A ids g cc nL own ret) {q n i : Nat} {fl : List (Nat × Nat)} {x y : Int32} (hi : wd_is ids q (1, n, fl)) (hx : x = nI i) (hin : i < n) (hn : n < 2 ^ 31) (hy : vp_nar .boolean y = y) (hd : decode cc pc = .ok (.bastore, 1))
    (kk : cw_W p l e R s m args below meth c A ids g cells slots G nL (pc + 1) ls st (cw_up σ q i y) τ) : cw_W p l e R s m args below meth c A ids g cells slots G nL pc ls (.int y :: .int x :: .ref q :: st) σ τ := by
  intro H locs la hl hP hS
  obtain ⟨i0, hids⟩ := List.getElem?_of_mem hi.1
  have he := wd_at (ids := ids) (g := g) (σ := σ) (τ := τ) hids
  rw [wd_ce_z hi.2] at he
  subst hx
  refine va_zast C.1 C.2.1 (cw_hK C) hP (cw_hD C σ τ) hS i0 1 he rfl (vp_in_nI hin hn) hd (fun H1 locs1 hP1 _ hS1 => ?_)
  rw [nI_clamp (Nat.lt_trans hin hn), hy, wd_set (cw_hn C) (σ' := cw_up σ q i y) (τ' := τ) hids (fun c' h => cw_up_c h) (fun _ _ => rfl) (by
    rw [wd_ce_z hi.2, cw_up_u])] at hP1
  exact kk H1 locs1 la hl hP1 hS1
theorem cw_last (C : cw_C p s m args meth c A ids g cc nL own ret) {q n i : Nat} {fl : List (Nat × Nat)} {x : Int32} {y : Int64} (hi : wd_is ids q (2, n, fl)) (hx : x = nI i) (hin : i < n) (hn : n < 2 ^ 31) (hd : decode cc pc = .ok (.lastore, 1))
    (kk : cw_W p l e R s m args below meth c A ids g cells slots G nL (pc + 1) ls st σ (cw_uq τ q i y)) : cw_W p l e R s m args below meth c A ids g cells slots G nL pc ls (.long y :: .int x :: .ref q :: st) σ τ := by
  intro H locs la hl hP hS
  obtain ⟨i0, hids⟩ := List.getElem?_of_mem hi.1
  have he := wd_at (ids := ids) (g := g) (σ := σ) (τ := τ) hids
  rw [wd_ce_l hi.2] at he
  subst hx
  refine va_last C.1 C.2.1 (cw_hK C) hP (cw_hD C σ τ) hS i0 2 he rfl (vp_in_nI hin hn) hd (fun H1 locs1 hP1 _ hS1 => ?_)
  rw [nI_clamp (Nat.lt_trans hin hn), wd_set (cw_hn C) (σ' := σ) (τ' := cw_uq τ q i y) hids (fun _ _ => rfl) (fun c' h => cw_uq_c h) (by
    rw [wd_ce_l hi.2, cw_uq_u])] at hP1
  exact kk H1 locs1 la hl hP1 hS1
/-! returns -/
variable {mc ms : Nat} {Q : Option Value → wd_S → wd_L → Prop}
theorem cw_ireturn (C : cw_C p s m args meth c A ids g cc nL own (some .int)) {x : Int32} (hd : decode cc pc = .ok (.ireturn, 1)) (h1 : cells ≤ mc) (h2 : slots ≤ ms) (hq : Q (some (.int x)) σ τ) :
    cw_W p l e R s m args below meth c A ids g cells slots (cw_G below args s A ids g mc ms Q) nL pc ls [.int x] σ τ := fun H locs la _ hP hS =>
  W.widen h1 h2 (W.iret (v := x) C.1 C.2.1 (cw_hr C) (fun t ht _ => ⟨⟨some (.int x), σ, τ, rfl, hq, by rw [ht]; exact hP⟩, hS.F ht⟩) hS.2.2 hd (cw_hlk C))
theorem cw_zreturn (C : cw_C p s m args meth c A ids g cc nL own (some .boolean)) {x : Int32} (hd : decode cc pc = .ok (.ireturn, 1)) (hn : narrow .boolean (.int x) = .int x) (h1 : cells ≤ mc) (h2 : slots ≤ ms) (hq : Q (some (.int x)) σ τ) :
    cw_W p l e R s m args below meth c A ids g cells slots (cw_G below args s A ids g mc ms Q) nL pc ls [.int x] σ τ := fun H locs la _ hP hS =>
  W.widen h1 h2 (W.zret (v := x) C.1 C.2.1 (cw_hr C) hn (fun t ht _ => ⟨⟨some (.int x), σ, τ, rfl, hq, by rw [ht]; exact hP⟩, hS.F ht⟩) hS.2.2 hd (cw_hlk C))
theorem cw_areturn {cn : String} (C : cw_C p s m args meth c A ids g cc nL own (some (.object cn))) {q : Nat} (hd : decode cc pc = .ok (.areturn, 1)) (h1 : cells ≤ mc) (h2 : slots ≤ ms) (hq : Q (some (.ref q)) σ τ) :
    cw_W p l e R s m args below meth c A ids g cells slots (cw_G below args s A ids g mc ms Q) nL pc ls [.ref q] σ τ := fun H locs la _ hP hS =>
  W.widen h1 h2 (W.aret (v := .ref (g.1 q)) C.1 C.2.1 (cw_hr C) (Or.inl ⟨cn, rfl⟩) (Or.inr ⟨_, rfl⟩) (fun t ht _ => ⟨⟨some (.ref q), σ, τ, rfl, hq, by rw [ht]; exact hP⟩, hS.F ht⟩) hS.2.2 hd (cw_hlk C))
theorem cw_vreturn (C : cw_C p s m args meth c A ids g cc nL own none) (hd : decode cc pc = .ok (.return_, 1)) (h1 : cells ≤ mc) (h2 : slots ≤ ms) (hq : Q none σ τ) :
    cw_W p l e R s m args below meth c A ids g cells slots (cw_G below args s A ids g mc ms Q) nL pc ls [] σ τ := fun H locs la _ hP hS =>
  W.widen h1 h2 (W.vret C.1 C.2.1 (cw_hr C) (fun t ht _ => ⟨⟨none, σ, τ, rfl, hq, by rw [ht]; exact hP⟩, hS.F ht⟩) hS.2.2 hd (cw_hlk C))
end
/-! a contract out of a walk -/
theorem cw_M.of {ids : List Nat} {y : MethodName} {cc : ByteArray} {nL : Nat} {ret : Option FieldType} {d mc ms : Nat} {av : List Value} {σ : wd_S} {τ : wd_L} {Q : Option Value → wd_S → wd_L → Prop} (hy : plainName y.cls = true) (hcat : av.all cw_c1 = true) (hlen : av.length ≤ nL)
    (h : ∀ (p : Program) (l : Launch) (e : Env) (s : State) (m : MethodId) (args : Array Value) (below : List Frame) (meth : Method) (c : Code) (A : Nat → Prop) (g : wd_G), cw_C p s m args meth c A ids g cc nL y.cls ret →
      cw_W p l e (cw_rm d mc ms) s m args below meth c A ids g 0 0 (cw_G below args s A ids g mc ms Q) nL 0 (cw_in av nL) [] σ τ) : cw_M ids y cc nL ret d mc ms av σ τ Q := by
  intro l g sz
  refine Met.ofW (cc := cc) (maxL := nL) (ret := ret) hy rfl ?_
  intro p e s m args below meth c s₁ B hml hv
  obtain ⟨rfl, hsz, hP, hK, hD0, hN, hnd⟩ := hv
  have hts := atoms_spec (ws := Cond.code y cc nL ret :: wd_tb) B.pre
  have hown : s.vm.findClass y.cls = some m.cls := findClass_of_methodNamed B.named
  subst hsz
  have hD := hD0.self (sz := s.heap.size)
  rw [lg_entry_eq]
  exact h p l e s m _ below meth c (va_A (wd_w ids g σ τ) s.heap.size) g ⟨B.exec, B.bytes, hml, hown, fun w hw => hts w (List.mem_cons_of_mem _ hw), hN, hK, fun σ' τ' => wd_D hD, fun q hq => Or.inr hq, B.returns, B.notSynchronized, hnd⟩ s.heap [] _ (cw_lh_in (fun w hw => cw_c1_cat (List.all_eq_true.mp hcat w hw) g.1) hlen) hP va_S.rf
/-! calls -/
def cw_kV (own : String) (idx : Nat) (y : MethodName) (cc : ByteArray) (nL : Nat) (ret : Option FieldType) (n : Nat) : Prop := Cond.methodLink own idx y ∈ wd_tb ∧ Cond.instanceMethod y ∈ wd_tb ∧ Cond.selects y.cls y y ∈ wd_tb ∧ Cond.initialized y.cls ∈ wd_tb ∧ Cond.code y cc nL ret ∈ wd_tb ∧ (y.cls ≠ "java/lang/invoke/MethodHandle" ∧ y.cls ≠ "java/lang/invoke/VarHandle" ∧ (parseMethodDescriptor y.desc).map (fun d => d.parameters.length) = some n)
def cw_kS (own : String) (idx : Nat) (y : MethodName) (cc : ByteArray) (nL : Nat) (ret : Option FieldType) (n : Nat) : Prop := Cond.methodLink own idx y ∈ wd_tb ∧ Cond.static y ∈ wd_tb ∧ Cond.initialized y.cls ∈ wd_tb ∧ Cond.code y cc nL ret ∈ wd_tb ∧ (y.cls ≠ "java/lang/invoke/MethodHandle" ∧ y.cls ≠ "java/lang/invoke/VarHandle" ∧ (parseMethodDescriptor y.desc).map (fun d => d.parameters.length) = some n)
def cw_kSN (own : String) (idx : Nat) (y : MethodName) (cc : ByteArray) (nL : Nat) (ret : Option FieldType) (n : Nat) (host : String) : Prop := Cond.methodLinkNest own idx y host ∈ wd_nb ∧ Cond.static y ∈ wd_tb ∧ Cond.initialized y.cls ∈ wd_tb ∧ Cond.code y cc nL ret ∈ wd_tb ∧ (y.cls ≠ "java/lang/invoke/MethodHandle" ∧ y.cls ≠ "java/lang/invoke/VarHandle" ∧ (parseMethodDescriptor y.desc).map (fun d => d.parameters.length) = some n)
theorem cw_goodIn {y : MethodName} {cc : ByteArray} {nL : Nat} {ret : Option FieldType} (h : Cond.code y cc nL ret ∈ wd_tb) : GoodIn wd_tb (Cond.code y cc nL ret :: wd_tb) := by
  intro w hw
  rcases List.mem_cons.mp hw with rfl | hw
  · exact ⟨h, wd_good _ h⟩
  · exact ⟨hw, wd_good _ hw⟩
theorem cw_blind {ids : List Nat} {av : List Value} {g : wd_G} {sz : Nat} {σ : wd_S} {τ : wd_L} : FrameBlind (va_Pc av (cw_B ids g sz σ τ)) := fun a U f mk q => by
  obtain ⟨q0, q1, qP, qK, qD, qN, qn⟩ := q
  exact ⟨q0, q1, qP, va_K.moved (u := U) (U := U.calling f mk a) (Vm.Alike.refl U.vm) qK, qD, fun w hw => va_Nw.same (u := U) (U := U.calling f mk a) (cw_N_on (wd_nbN w hw)) rfl (qN w hw), qn⟩
section
variable {p : Program} {l : Launch} {e : Env} {R : Room} {s : State} {m : MethodId} {args : Array Value} {below : List Frame} {meth : Method} {c : Code} {A : Nat → Prop} {ids : List Nat} {g : wd_G} {cells slots : Nat} {G : State → Prop} {cc : ByteArray} {nL pc : Nat} {own : String} {ret : Option FieldType} {ls : List (Option Value)} {st : List Value} {σ : wd_S} {τ : wd_L}
theorem cw_pre (C : cw_C p s m args meth c A ids g cc nL own ret) {H : Heap} (hP : va_P g.2.1 wd_cl (wd_w ids g σ τ) H) (av : List Value) : ∀ U : State, U.heap = H → s.WarmedH U.vm → va_Pc (av.map (cw_v g.1)) (cw_B ids g H.size σ τ) (av.map (cw_v g.1)).toArray U := fun U hU hW =>
  ⟨rfl, by rw [hU], by rw [hU]; exact hP, va_K.moved hW.alike (cw_hK C), (cw_hD C σ τ).weaken (fun _ _ _ _ => trivial), fun w hw => cw_N_warm (wd_nbN w hw) hW (C.2.2.2.2.2.1 w hw), cw_hn C⟩
theorem cw_back (C : cw_C p s m args meth c A ids g cc nL own ret) {H : Heap} {locs : List Loc} {la : Array Slot} {mc ms : Nat} {st0 rest : List Value} {a : Array Value} {Q' : Option Value → wd_S → wd_L → Prop} (hP : va_P g.2.1 wd_cl (wd_w ids g σ τ) H) (hS : va_S A s.heap H locs)
    (hr : va_Run p l e R s m args below meth c H locs cells slots mc ms (F0 m pc la st0) rest (cw_Q ids g (va_A (wd_w ids g σ τ) H.size) Q' a) (va_A (wd_w ids g σ τ) H.size))
    (kk : ∀ (v : Option Value) (σ' : wd_S) (τ' : wd_L) (H1 : Heap) (locs1 : List Loc), Q' v σ' τ' → va_P g.2.1 wd_cl (wd_w ids g σ' τ') H1 → va_S A s.heap H1 locs1 → W p l e R s m args below meth c H1 locs1 (cells + mc) (slots + ms) G (F0 m (pc + 3) la ((v.map (cw_v g.1)).toList ++ rest))) :
    W p l e R s m args below meth c H locs cells slots G (F0 m pc la st0) := by
  have hF : ∀ q, va_A (wd_w ids g σ τ) H.size q → A q := fun q h => by
    rcases h with ⟨k, x, h⟩ | h
    · exact (cw_hD C σ τ).2 k _ h
    · exact cw_hA C q (Nat.le_trans hS.1 h)
  intro T hT X
  obtain ⟨v, st₀, t, T', L, h0, X', hL, e1, e2, ⟨⟨v', σ', τ', hv, hq, hb⟩, hz, hk⟩, stp⟩ := hr T hT X
  cases hv
  rw [h0] at hz hk
  rw [← e1] at hb hz
  obtain ⟨t2, a1, b1⟩ := kk v' σ' τ' T'.heap (locs ++ L) hq hb
    ⟨Nat.le_trans hS.1 hz, fun q h1 h2 => by rw [e1, hk q (Nat.lt_of_lt_of_le h1 hS.1) (fun z => h2 (hF q z))]; exact hS.2.1 q h1 h2, fun q hq => by
      rcases List.mem_append.mp hq with h | h
      · exact hS.2.2 q h
      · exact hF _ (hL q h)⟩ T' rfl X'
  exact ⟨t2, stp t2 a1, b1⟩
theorem cw_toList (ad : Nat → Nat) (v : Option Value) (st : List Value) : (v.map (cw_v ad)).toList ++ st.map (cw_v ad) = (v.toList ++ st).map (cw_v ad) := by cases v <;> rfl
theorem cw_dki {z : Int32} {σ1 : wd_S} {τ1 : wd_L} (kk : cw_W p l e R s m args below meth c A ids g cells slots G nL pc ls (.int z :: st) σ1 τ1) : ∀ (v : Option Value) (σ' : wd_S) (τ' : wd_L), (v = some (.int z) ∧ σ' = σ1 ∧ τ' = τ1) → cw_W p l e R s m args below meth c A ids g cells slots G nL pc ls (v.toList ++ st) σ' τ' := by
  rintro _ _ _ ⟨rfl, rfl, rfl⟩
  exact kk
theorem cw_dkr {z : Nat} {σ1 : wd_S} {τ1 : wd_L} (kk : cw_W p l e R s m args below meth c A ids g cells slots G nL pc ls (.ref z :: st) σ1 τ1) : ∀ (v : Option Value) (σ' : wd_S) (τ' : wd_L), (v = some (.ref z) ∧ σ' = σ1 ∧ τ' = τ1) → cw_W p l e R s m args below meth c A ids g cells slots G nL pc ls (v.toList ++ st) σ' τ' := by
  rintro _ _ _ ⟨rfl, rfl, rfl⟩
  exact kk
theorem cw_dkv {σ1 : wd_S} {τ1 : wd_L} (kk : cw_W p l e R s m args below meth c A ids g cells slots G nL pc ls st σ1 τ1) : ∀ (v : Option Value) (σ' : wd_S) (τ' : wd_L), (v = none ∧ σ' = σ1 ∧ τ' = τ1) → cw_W p l e R s m args below meth c A ids g cells slots G nL pc ls (v.toList ++ st) σ' τ' := by
  rintro _ _ _ ⟨rfl, rfl, rfl⟩
  exact kk
theorem cw_callV (C : cw_C p s m args meth c A ids g cc nL own ret) {y : MethodName} {cc' : ByteArray} {nL' n idx d mc ms ci N q : Nat} {ret' : Option FieldType} {fl : List (Nat × Nat)} {T : u_T} {ty0 : Nat → FieldType} {As stk : List Value} {Q' : Option Value → wd_S → wd_L → Prop} (K : cw_kV own idx y cc' nL' ret' n) (hc : wd_cls ci y.cls T N ty0) (hi : wd_is ids q (4, ci, fl))
    (hd : decode cc pc = .ok (.invokevirtual idx, 3)) (hs : stk = As.reverse ++ .ref q :: st) (hn : As.length = n) (hw : ((st.map (cw_v g.1)).map fun v => v.category).sum ≤ 8) (hR : d + 1 ≤ R.frames ∧ 8 + (nL' + 11) + 40 * d ≤ R.locals) (hf : cells + mc ≤ R.cells ∧ slots + ms ≤ R.slots)
    (hM : cw_M ids y cc' nL' ret' d mc ms (.ref q :: As) σ τ Q')
    (kk : ∀ (v : Option Value) (σ' : wd_S) (τ' : wd_L), Q' v σ' τ' → cw_W p l e R s m args below meth c A ids g (cells + mc) (slots + ms) G nL (pc + 3) ls (v.toList ++ st) σ' τ') : cw_W p l e R s m args below meth c A ids g cells slots G nL pc ls stk σ τ := by
  intro H locs la hl hP hS
  obtain ⟨i, hids⟩ := List.getElem?_of_mem hi.1
  have he := wd_at (ids := ids) (g := g) (σ := σ) (τ := τ) hids
  rw [wd_ce_o hi.2] at he
  obtain ⟨cell, hr1, hr2, hr3⟩ := va_recv (cw_hK C) hP hc.1 he
  have hts := cw_hts C
  refine cw_back C hP hS (va_runV (C := y.cls) (As := As.map (cw_v g.1)) (rest := st.map (cw_v g.1)) (n := n) ⟨C.1, C.2.1, C.2.2.1, C.2.2.2.1, hts⟩ (hM l g H.size) ⟨callB_of n hts (cw_goodIn K.2.2.2.2.1) rfl rfl rfl (hts _ K.2.2.2.1) (hts _ K.1) K.2.2.2.2.2 hR, hts _ K.2.1, hts _ K.2.2.1⟩ ⟨cw_blind, ⟨cell, hr1, hr2, hr3⟩, cw_pre C hP (.ref q :: As)⟩ rfl (by rw [List.length_map]; exact hn) hl.1 (by rw [hs]; simp [cw_v]) (lv_room hw) hd hf) ?_
  intro v σ' τ' H1 locs1 hq hP1 hS1
  rw [cw_toList]
  exact kk v σ' τ' hq H1 locs1 la hl hP1 hS1
theorem cw_callS (C : cw_C p s m args meth c A ids g cc nL own ret) {y : MethodName} {cc' : ByteArray} {nL' n idx d mc ms : Nat} {ret' : Option FieldType} {As stk : List Value} {Q' : Option Value → wd_S → wd_L → Prop} (K : cw_kS own idx y cc' nL' ret' n)
    (hd : decode cc pc = .ok (.invokestatic idx, 3)) (hs : stk = As.reverse ++ st) (hn : As.length = n) (hw : ((st.map (cw_v g.1)).map fun v => v.category).sum ≤ 8) (hR : d + 1 ≤ R.frames ∧ 8 + (nL' + 11) + 40 * d ≤ R.locals) (hf : cells + mc ≤ R.cells ∧ slots + ms ≤ R.slots)
    (hM : cw_M ids y cc' nL' ret' d mc ms As σ τ Q')
    (kk : ∀ (v : Option Value) (σ' : wd_S) (τ' : wd_L), Q' v σ' τ' → cw_W p l e R s m args below meth c A ids g (cells + mc) (slots + ms) G nL (pc + 3) ls (v.toList ++ st) σ' τ') : cw_W p l e R s m args below meth c A ids g cells slots G nL pc ls stk σ τ := by
  intro H locs la hl hP hS
  have hts := cw_hts C
  refine cw_back C hP hS (va_runS (As := As.map (cw_v g.1)) (rest := st.map (cw_v g.1)) (n := n) ⟨C.1, C.2.1, C.2.2.1, C.2.2.2.1, hts⟩ (hM l g H.size) ⟨callB_of n hts (cw_goodIn K.2.2.2.1) rfl rfl rfl (hts _ K.2.2.1) (hts _ K.1) K.2.2.2.2 hR, hts _ K.2.1⟩ ⟨cw_blind, cw_pre C hP As⟩ rfl (by rw [List.length_map]; exact hn) hl.1 (by rw [hs]; simp) (lv_room hw) hd hf) ?_
  intro v σ' τ' H1 locs1 hq hP1 hS1
  rw [cw_toList]
  exact kk v σ' τ' hq H1 locs1 la hl hP1 hS1
theorem cw_callSN (C : cw_C p s m args meth c A ids g cc nL own ret) {y : MethodName} {cc' : ByteArray} {nL' n idx d mc ms : Nat} {ret' : Option FieldType} {host : String} {As stk : List Value} {Q' : Option Value → wd_S → wd_L → Prop} (K : cw_kSN own idx y cc' nL' ret' n host)
    (hd : decode cc pc = .ok (.invokestatic idx, 3)) (hs : stk = As.reverse ++ st) (hn : As.length = n) (hw : ((st.map (cw_v g.1)).map fun v => v.category).sum ≤ 8) (hR : d + 1 ≤ R.frames ∧ 8 + (nL' + 11) + 40 * d ≤ R.locals) (hf : cells + mc ≤ R.cells ∧ slots + ms ≤ R.slots)
    (hM : cw_M ids y cc' nL' ret' d mc ms As σ τ Q')
    (kk : ∀ (v : Option Value) (σ' : wd_S) (τ' : wd_L), Q' v σ' τ' → cw_W p l e R s m args below meth c A ids g (cells + mc) (slots + ms) G nL (pc + 3) ls (v.toList ++ st) σ' τ') : cw_W p l e R s m args below meth c A ids g cells slots G nL pc ls stk σ τ := by
  intro H locs la hl hP hS
  have hts := cw_hts C
  refine cw_back C hP hS (va_runSN (As := As.map (cw_v g.1)) (rest := st.map (cw_v g.1)) (n := n) ⟨C.1, C.2.1, C.2.2.1, C.2.2.2.1, hts⟩ (hM l g H.size) ⟨va_cnB n hts (cw_goodIn K.2.2.2.1) rfl rfl rfl (C.2.2.2.2.2.1 _ K.1) (hts _ K.2.2.1) K.2.2.2.2 hR, hts _ K.2.1, trivial⟩ ⟨cw_blind, cw_pre C hP As⟩ rfl (by rw [List.length_map]; exact hn) hl.1 (by rw [hs]; simp) (lv_room hw) hd hf) ?_
  intro v σ' τ' H1 locs1 hq hP1 hS1
  rw [cw_toList]
  exact kk v σ' τ' hq H1 locs1 la hl hP1 hS1
end
end
section
/-! The clean layer over natural numbers: the world is en X, every int is nI of a number (-1 is nI 4294967295). -/
abbrev wx_S : Type := Nat → Nat → Nat
def wx_e (X : wx_S) : wd_S := fun c k => nI (X c k)
def wx_l (X : wx_S) : wd_L := fun c k => lN (X c k)
def wx_u (X : wx_S) (c k n : Nat) : wx_S := fun c' k' => if c' = c ∧ k' = k then n else X c' k'
abbrev wx_N : Nat := 4294967295
theorem wx_e_u (X : wx_S) (c k n : Nat) : cw_up (wx_e X) c k (nI n) = wx_e (wx_u X c k n) := by
  funext c' k'
  simp only [cw_up, wx_e, wx_u]
  split <;> rfl
theorem wx_u_eq (X : wx_S) (c k n : Nat) : wx_u X c k n c k = n := by simp [wx_u]
theorem wx_u_ne {X : wx_S} {c k n c' k' : Nat} (h : ¬ (c' = c ∧ k' = k)) : wx_u X c k n c' k' = X c' k' := by simp [wx_u, h]
theorem wx_u_nc {X : wx_S} {c k n c' k' : Nat} (h : c' ≠ c) : wx_u X c k n c' k' = X c' k' := by simp [wx_u, h]
theorem wx_u_nk {X : wx_S} {c k n c' k' : Nat} (h : k' ≠ k) : wx_u X c k n c' k' = X c' k' := by simp [wx_u, h]
theorem wx_u_id (X : wx_S) (c k : Nat) : wx_u X c k (X c k) = X := by
  funext c' k'
  simp only [wx_u]
  split
  · rename_i h; rw [h.1, h.2]
  · rfl
theorem wx_u_uu (X : wx_S) (c k n n' : Nat) : wx_u (wx_u X c k n) c k n' = wx_u X c k n' := by
  funext c' k'
  simp only [wx_u]
  split <;> rfl
theorem wx_bool : ∀ k, k < 2 → vp_nar .boolean (nI k) = nI k := by decide +kernel
theorem wx_m1 : (-1 : Int32) = nI wx_N := by decide +kernel
theorem wx_bv (n : Nat) : (nI n).toBitVec = BitVec.ofNat 32 n := rfl
theorem wx_inj {a b : Int32} (h : a.toBitVec = b.toBitVec) : a = b := Int32.toBitVec_inj.mp h
theorem wx_mod (n : Nat) : nI n = nI (n % 4294967296) := wx_inj (by rw [wx_bv, wx_bv]; apply BitVec.eq_of_toNat_eq; simp)
theorem wx_eq {a b : Nat} (ha : a < 4294967296) (hb : b < 4294967296) : nI a = nI b ↔ a = b := by
  constructor
  · intro h
    have h1 : (nI a).toBitVec.toNat = (nI b).toBitVec.toNat := by rw [h]
    rw [wx_bv, wx_bv, BitVec.toNat_ofNat, BitVec.toNat_ofNat, Nat.mod_eq_of_lt ha, Nat.mod_eq_of_lt hb] at h1
    exact h1
  · rintro rfl; rfl
theorem wx_and (a b : Nat) : nI a &&& nI b = nI (a &&& b) := wx_inj (by
  show (BitVec.ofNat 32 a) &&& (BitVec.ofNat 32 b) = BitVec.ofNat 32 (a &&& b)
  apply BitVec.eq_of_toNat_eq
  simp [BitVec.toNat_and, Nat.and_mod_two_pow])
theorem wx_or (a b : Nat) : nI a ||| nI b = nI (a ||| b) := wx_inj (by
  show (BitVec.ofNat 32 a) ||| (BitVec.ofNat 32 b) = BitVec.ofNat 32 (a ||| b)
  apply BitVec.eq_of_toNat_eq
  simp [BitVec.toNat_or, Nat.or_mod_two_pow])
theorem wx_xor (a b : Nat) : nI a ^^^ nI b = nI (a ^^^ b) := wx_inj (by
  show (BitVec.ofNat 32 a) ^^^ (BitVec.ofNat 32 b) = BitVec.ofNat 32 (a ^^^ b)
  apply BitVec.eq_of_toNat_eq
  simp [BitVec.toNat_xor, Nat.xor_mod_two_pow])
theorem wx_k : ∀ k, k < 32 → ((nI k &&& 31).toBitVec.smod 32).toNat = k := by decide +kernel
theorem wx_shl (a : Nat) {k : Nat} (hk : k < 32) : nI a <<< (nI k &&& 31) = nI (a * 2 ^ k) := wx_inj (by
  apply BitVec.eq_of_toNat_eq
  rw [pk_shl (nI a) (nI k &&& 31) k (wx_k k hk), wx_bv, wx_bv, BitVec.toNat_ofNat, BitVec.toNat_ofNat]
  rw [show (2 : Nat) ^ 32 = 4294967296 from rfl, Nat.mod_mul_mod])
theorem wx_shr {a k : Nat} (ha : a < 2147483648) (hk : k < 32) : nI a >>> (nI k &&& 31) = nI (a / 2 ^ k) := pk_shrN ha (nI k &&& 31) k (wx_k k hk)
theorem wx_lt0 {a : Nat} (ha : a < 4294967296) : nI a < 0 ↔ 2147483648 ≤ a := by
  constructor
  · intro h
    by_cases h2 : a < 2147483648
    · exact absurd h (nI_pos h2)
    · omega
  · intro h
    have e : (nI a).toInt = (a : Int) - 4294967296 := by
      show (BitVec.ofNat 32 a).toInt = _
      rw [BitVec.toInt_eq_toNat_cond, BitVec.toNat_ofNat, Nat.mod_eq_of_lt (by omega)]
      rw [if_neg (by omega)]
      omega
    rw [Int32.lt_iff_toInt_lt, e]
    show _ < (0 : Int)
    omega
theorem wx_lt {a b : Nat} (ha : a < 2147483648) (hb : b < 2147483648) : nI a < nI b ↔ a < b := nI_ltI ha hb
theorem wx_le {a b : Nat} (ha : a < 2147483648) (hb : b < 2147483648) : nI a ≤ nI b ↔ a ≤ b := nI_leI ha hb
theorem wx_pd (d : Nat) : nI d - nI 1 = nI (if d = 0 then wx_N else d - 1) := by
  split
  · subst_vars; decide +kernel
  · exact pk_sub (by omega)
theorem wx_ge0 {x : Int32} (h : x < 0) (h2 : 0 ≤ x) : False := by
  rw [Int32.lt_iff_toInt_lt] at h
  rw [Int32.le_iff_toInt_le] at h2
  omega
theorem wx_gt0 {a : Nat} (ha : a < 4294967296) (h : 0 < nI a) : 0 < a ∧ a < 2147483648 := by
  refine ⟨Nat.pos_of_ne_zero (fun q => ?_), Nat.not_le.mp (fun q => ?_)⟩
  · subst q; exact absurd h (by decide +kernel)
  · have h1 := (wx_lt0 ha).mpr q
    rw [Int32.lt_iff_toInt_lt] at h h1
    omega
theorem wx_nle0 {a : Nat} (ha : a < 4294967296) (h : ¬ nI a ≤ 0) : 0 < a ∧ a < 2147483648 := wx_gt0 ha (by
  rw [Int32.le_iff_toInt_le] at h
  rw [Int32.lt_iff_toInt_lt]
  omega)
theorem wx_ngt0 {a : Nat} (ha : a < 4294967296) (h : ¬ 0 < nI a) : a = 0 ∨ 2147483648 ≤ a := by
  by_cases h0 : a = 0
  · exact Or.inl h0
  · refine Or.inr (Nat.not_lt.mp (fun q => h ?_))
    have := nI_lt (a := 0) (b := a) (by omega) q
    exact this
theorem wx_le0 {a : Nat} (ha : a < 4294967296) (h : nI a ≤ 0) : a = 0 ∨ 2147483648 ≤ a := wx_ngt0 ha (by
  rw [Int32.le_iff_toInt_le] at h
  rw [Int32.lt_iff_toInt_lt]
  omega)
section
variable {p : Program} {l : Launch} {e : Env} {R : Room} {s : State} {m : MethodId} {args : Array Value} {below : List Frame} {meth : Method} {c : Code} {A : Nat → Prop} {ids : List Nat} {g : wd_G} {cells slots : Nat} {G : State → Prop} {cc : ByteArray} {nL pc : Nat} {own : String} {ret : Option FieldType} {ls : List (Option Value)} {st : List Value} {σ : wd_S} {τ : wd_L}
theorem nw_iadd (C : cw_C p s m args meth c A ids g cc nL own ret) {a b : Nat} (hd : decode cc pc = .ok (.iadd, 1)) (k : cw_W p l e R s m args below meth c A ids g cells slots G nL (pc + 1) ls (.int (nI (a + b)) :: st) σ τ) : cw_W p l e R s m args below meth c A ids g cells slots G nL pc ls (.int (nI b) :: .int (nI a) :: st) σ τ := cw_iadd C hd (nI_add a b ▸ k)
theorem nw_imul (C : cw_C p s m args meth c A ids g cc nL own ret) {a b : Nat} (hd : decode cc pc = .ok (.imul, 1)) (k : cw_W p l e R s m args below meth c A ids g cells slots G nL (pc + 1) ls (.int (nI (a * b)) :: st) σ τ) : cw_W p l e R s m args below meth c A ids g cells slots G nL pc ls (.int (nI b) :: .int (nI a) :: st) σ τ := cw_imul C hd (pk_mul a b ▸ k)
theorem nw_iand (C : cw_C p s m args meth c A ids g cc nL own ret) {a b : Nat} (hd : decode cc pc = .ok (.iand, 1)) (k : cw_W p l e R s m args below meth c A ids g cells slots G nL (pc + 1) ls (.int (nI (a &&& b)) :: st) σ τ) : cw_W p l e R s m args below meth c A ids g cells slots G nL pc ls (.int (nI b) :: .int (nI a) :: st) σ τ := cw_iand C hd (wx_and a b ▸ k)
theorem nw_ior (C : cw_C p s m args meth c A ids g cc nL own ret) {a b : Nat} (hd : decode cc pc = .ok (.ior, 1)) (k : cw_W p l e R s m args below meth c A ids g cells slots G nL (pc + 1) ls (.int (nI (a ||| b)) :: st) σ τ) : cw_W p l e R s m args below meth c A ids g cells slots G nL pc ls (.int (nI b) :: .int (nI a) :: st) σ τ := cw_ior C hd (wx_or a b ▸ k)
theorem nw_ixor (C : cw_C p s m args meth c A ids g cc nL own ret) {a b : Nat} (hd : decode cc pc = .ok (.ixor, 1)) (k : cw_W p l e R s m args below meth c A ids g cells slots G nL (pc + 1) ls (.int (nI (a ^^^ b)) :: st) σ τ) : cw_W p l e R s m args below meth c A ids g cells slots G nL pc ls (.int (nI b) :: .int (nI a) :: st) σ τ := cw_ixor C hd (wx_xor a b ▸ k)
theorem nw_isub (C : cw_C p s m args meth c A ids g cc nL own ret) {a b : Nat} (hd : decode cc pc = .ok (.isub, 1)) (h : b ≤ a) (k : cw_W p l e R s m args below meth c A ids g cells slots G nL (pc + 1) ls (.int (nI (a - b)) :: st) σ τ) : cw_W p l e R s m args below meth c A ids g cells slots G nL pc ls (.int (nI b) :: .int (nI a) :: st) σ τ := cw_isub C hd (pk_sub h ▸ k)
theorem nw_idec (C : cw_C p s m args meth c A ids g cc nL own ret) {a : Nat} (hd : decode cc pc = .ok (.isub, 1)) (k : cw_W p l e R s m args below meth c A ids g cells slots G nL (pc + 1) ls (.int (nI (if a = 0 then wx_N else a - 1)) :: st) σ τ) : cw_W p l e R s m args below meth c A ids g cells slots G nL pc ls (.int (nI 1) :: .int (nI a) :: st) σ τ := cw_isub C hd (wx_pd a ▸ k)
theorem nw_idiv (C : cw_C p s m args meth c A ids g cc nL own ret) {a b : Nat} (hd : decode cc pc = .ok (.idiv, 1)) (ha : a < 2147483648) (hb : b < 2147483648) (h0 : 0 < b) (k : cw_W p l e R s m args below meth c A ids g cells slots G nL (pc + 1) ls (.int (nI (a / b)) :: st) σ τ) : cw_W p l e R s m args below meth c A ids g cells slots G nL pc ls (.int (nI b) :: .int (nI a) :: st) σ τ := cw_idiv C hd (nI_ne0 h0 hb) (pk_div ha h0 hb ▸ k)
theorem nw_irem (C : cw_C p s m args meth c A ids g cc nL own ret) {a b : Nat} (hd : decode cc pc = .ok (.irem, 1)) (ha : a < 2147483648) (hb : b < 2147483648) (h0 : 0 < b) (k : cw_W p l e R s m args below meth c A ids g cells slots G nL (pc + 1) ls (.int (nI (a % b)) :: st) σ τ) : cw_W p l e R s m args below meth c A ids g cells slots G nL pc ls (.int (nI b) :: .int (nI a) :: st) σ τ := cw_irem C hd (nI_ne0 h0 hb) (pk_rem ha h0 hb ▸ k)
theorem nw_ishl (C : cw_C p s m args meth c A ids g cc nL own ret) {a b : Nat} (hd : decode cc pc = .ok (.ishl, 1)) (hb : b < 32) (k : cw_W p l e R s m args below meth c A ids g cells slots G nL (pc + 1) ls (.int (nI (a * 2 ^ b)) :: st) σ τ) : cw_W p l e R s m args below meth c A ids g cells slots G nL pc ls (.int (nI b) :: .int (nI a) :: st) σ τ := cw_ishl C hd (wx_shl a hb ▸ k)
theorem nw_ishr (C : cw_C p s m args meth c A ids g cc nL own ret) {a b : Nat} (hd : decode cc pc = .ok (.ishr, 1)) (ha : a < 2147483648) (hb : b < 32) (k : cw_W p l e R s m args below meth c A ids g cells slots G nL (pc + 1) ls (.int (nI (a / 2 ^ b)) :: st) σ τ) : cw_W p l e R s m args below meth c A ids g cells slots G nL pc ls (.int (nI b) :: .int (nI a) :: st) σ τ := cw_ishr C hd (wx_shr ha hb ▸ k)
theorem nw_icmp_eq (C : cw_C p s m args meth c A ids g cc nL own ret) {a b : Nat} {off : Int} {tgt : Nat} (hd : decode cc pc = .ok (.if_icmp .eq off, 3)) (ht : (pc : Int) + off = (tgt : Int)) (ha : a < 4294967296) (hb : b < 4294967296) (kt : a = b → cw_W p l e R s m args below meth c A ids g cells slots G nL tgt ls st σ τ) (kf : ¬ a = b → cw_W p l e R s m args below meth c A ids g cells slots G nL (pc + 3) ls st σ τ) : cw_W p l e R s m args below meth c A ids g cells slots G nL pc ls (.int (nI b) :: .int (nI a) :: st) σ τ := cw_icmp_eq C hd ht (fun h => kt ((wx_eq ha hb).mp h)) (fun h => kf (fun q => h ((wx_eq ha hb).mpr q)))
theorem nw_if_eq (C : cw_C p s m args meth c A ids g cc nL own ret) {a : Nat} {off : Int} {tgt : Nat} (hd : decode cc pc = .ok (.ifCond .eq off, 3)) (ht : (pc : Int) + off = (tgt : Int)) (ha : a < 4294967296) (kt : a = 0 → cw_W p l e R s m args below meth c A ids g cells slots G nL tgt ls st σ τ) (kf : ¬ a = 0 → cw_W p l e R s m args below meth c A ids g cells slots G nL (pc + 3) ls st σ τ) : cw_W p l e R s m args below meth c A ids g cells slots G nL pc ls (.int (nI a) :: st) σ τ := cw_if_eq C hd ht (fun h => kt ((wx_eq ha (b := 0) (by decide)).mp h)) (fun h => kf (fun q => h ((wx_eq ha (b := 0) (by decide)).mpr q)))
theorem nw_icmp_ne (C : cw_C p s m args meth c A ids g cc nL own ret) {a b : Nat} {off : Int} {tgt : Nat} (hd : decode cc pc = .ok (.if_icmp .ne off, 3)) (ht : (pc : Int) + off = (tgt : Int)) (ha : a < 4294967296) (hb : b < 4294967296) (kt : ¬ a = b → cw_W p l e R s m args below meth c A ids g cells slots G nL tgt ls st σ τ) (kf : a = b → cw_W p l e R s m args below meth c A ids g cells slots G nL (pc + 3) ls st σ τ) : cw_W p l e R s m args below meth c A ids g cells slots G nL pc ls (.int (nI b) :: .int (nI a) :: st) σ τ := cw_icmp_ne C hd ht (fun h => kt (fun q => h ((wx_eq ha hb).mpr q))) (fun h => kf ((wx_eq ha hb).mp h))
theorem nw_if_ne (C : cw_C p s m args meth c A ids g cc nL own ret) {a : Nat} {off : Int} {tgt : Nat} (hd : decode cc pc = .ok (.ifCond .ne off, 3)) (ht : (pc : Int) + off = (tgt : Int)) (ha : a < 4294967296) (kt : ¬ a = 0 → cw_W p l e R s m args below meth c A ids g cells slots G nL tgt ls st σ τ) (kf : a = 0 → cw_W p l e R s m args below meth c A ids g cells slots G nL (pc + 3) ls st σ τ) : cw_W p l e R s m args below meth c A ids g cells slots G nL pc ls (.int (nI a) :: st) σ τ := cw_if_ne C hd ht (fun h => kt (fun q => h ((wx_eq ha (b := 0) (by decide)).mpr q))) (fun h => kf ((wx_eq ha (b := 0) (by decide)).mp h))
theorem nw_icmp_lt (C : cw_C p s m args meth c A ids g cc nL own ret) {a b : Nat} {off : Int} {tgt : Nat} (hd : decode cc pc = .ok (.if_icmp .lt off, 3)) (ht : (pc : Int) + off = (tgt : Int)) (ha : a < 2147483648) (hb : b < 2147483648) (kt : a < b → cw_W p l e R s m args below meth c A ids g cells slots G nL tgt ls st σ τ) (kf : b ≤ a → cw_W p l e R s m args below meth c A ids g cells slots G nL (pc + 3) ls st σ τ) : cw_W p l e R s m args below meth c A ids g cells slots G nL pc ls (.int (nI b) :: .int (nI a) :: st) σ τ := cw_icmp_lt C hd ht (fun h => kt ((wx_lt ha hb).mp h)) (fun h => kf (Nat.not_lt.mp (fun q => h ((wx_lt ha hb).mpr q))))
theorem nw_icmp_ge (C : cw_C p s m args meth c A ids g cc nL own ret) {a b : Nat} {off : Int} {tgt : Nat} (hd : decode cc pc = .ok (.if_icmp .ge off, 3)) (ht : (pc : Int) + off = (tgt : Int)) (ha : a < 2147483648) (hb : b < 2147483648) (kt : b ≤ a → cw_W p l e R s m args below meth c A ids g cells slots G nL tgt ls st σ τ) (kf : a < b → cw_W p l e R s m args below meth c A ids g cells slots G nL (pc + 3) ls st σ τ) : cw_W p l e R s m args below meth c A ids g cells slots G nL pc ls (.int (nI b) :: .int (nI a) :: st) σ τ := cw_icmp_ge C hd ht (fun h => kt ((wx_le hb ha).mp h)) (fun h => kf (Nat.not_le.mp (fun q => h ((wx_le hb ha).mpr q))))
theorem nw_icmp_gt (C : cw_C p s m args meth c A ids g cc nL own ret) {a b : Nat} {off : Int} {tgt : Nat} (hd : decode cc pc = .ok (.if_icmp .gt off, 3)) (ht : (pc : Int) + off = (tgt : Int)) (ha : a < 2147483648) (hb : b < 2147483648) (kt : b < a → cw_W p l e R s m args below meth c A ids g cells slots G nL tgt ls st σ τ) (kf : a ≤ b → cw_W p l e R s m args below meth c A ids g cells slots G nL (pc + 3) ls st σ τ) : cw_W p l e R s m args below meth c A ids g cells slots G nL pc ls (.int (nI b) :: .int (nI a) :: st) σ τ := cw_icmp_gt C hd ht (fun h => kt ((wx_lt hb ha).mp h)) (fun h => kf (Nat.not_lt.mp (fun q => h ((wx_lt hb ha).mpr q))))
theorem nw_icmp_le (C : cw_C p s m args meth c A ids g cc nL own ret) {a b : Nat} {off : Int} {tgt : Nat} (hd : decode cc pc = .ok (.if_icmp .le off, 3)) (ht : (pc : Int) + off = (tgt : Int)) (ha : a < 2147483648) (hb : b < 2147483648) (kt : a ≤ b → cw_W p l e R s m args below meth c A ids g cells slots G nL tgt ls st σ τ) (kf : b < a → cw_W p l e R s m args below meth c A ids g cells slots G nL (pc + 3) ls st σ τ) : cw_W p l e R s m args below meth c A ids g cells slots G nL pc ls (.int (nI b) :: .int (nI a) :: st) σ τ := cw_icmp_le C hd ht (fun h => kt ((wx_le ha hb).mp h)) (fun h => kf (Nat.not_le.mp (fun q => h ((wx_le ha hb).mpr q))))
theorem nw_if_lt (C : cw_C p s m args meth c A ids g cc nL own ret) {a : Nat} {off : Int} {tgt : Nat} (hd : decode cc pc = .ok (.ifCond .lt off, 3)) (ht : (pc : Int) + off = (tgt : Int)) (ha : a < 4294967296) (kt : 2147483648 ≤ a → cw_W p l e R s m args below meth c A ids g cells slots G nL tgt ls st σ τ) (kf : a < 2147483648 → cw_W p l e R s m args below meth c A ids g cells slots G nL (pc + 3) ls st σ τ) : cw_W p l e R s m args below meth c A ids g cells slots G nL pc ls (.int (nI a) :: st) σ τ := cw_if_lt C hd ht (fun h => kt ((wx_lt0 ha).mp h)) (fun h => kf (Nat.not_le.mp (fun q => h ((wx_lt0 ha).mpr q))))
theorem nw_if_ge (C : cw_C p s m args meth c A ids g cc nL own ret) {a : Nat} {off : Int} {tgt : Nat} (hd : decode cc pc = .ok (.ifCond .ge off, 3)) (ht : (pc : Int) + off = (tgt : Int)) (ha : a < 4294967296) (kt : a < 2147483648 → cw_W p l e R s m args below meth c A ids g cells slots G nL tgt ls st σ τ) (kf : 2147483648 ≤ a → cw_W p l e R s m args below meth c A ids g cells slots G nL (pc + 3) ls st σ τ) : cw_W p l e R s m args below meth c A ids g cells slots G nL pc ls (.int (nI a) :: st) σ τ := cw_if_ge C hd ht (fun h => kt (Nat.not_le.mp (fun q => wx_ge0 ((wx_lt0 ha).mpr q) h))) (fun h => kf (Nat.not_lt.mp (fun q => h (nI_pos' q))))
theorem nw_if_gt (C : cw_C p s m args meth c A ids g cc nL own ret) {a : Nat} {off : Int} {tgt : Nat} (hd : decode cc pc = .ok (.ifCond .gt off, 3)) (ht : (pc : Int) + off = (tgt : Int)) (ha : a < 4294967296) (kt : 0 < a ∧ a < 2147483648 → cw_W p l e R s m args below meth c A ids g cells slots G nL tgt ls st σ τ) (kf : a = 0 ∨ 2147483648 ≤ a → cw_W p l e R s m args below meth c A ids g cells slots G nL (pc + 3) ls st σ τ) : cw_W p l e R s m args below meth c A ids g cells slots G nL pc ls (.int (nI a) :: st) σ τ := cw_if_gt C hd ht (fun h => kt (wx_gt0 ha h)) (fun h => kf (wx_ngt0 ha h))
theorem nw_if_le (C : cw_C p s m args meth c A ids g cc nL own ret) {a : Nat} {off : Int} {tgt : Nat} (hd : decode cc pc = .ok (.ifCond .le off, 3)) (ht : (pc : Int) + off = (tgt : Int)) (ha : a < 4294967296) (kt : a = 0 ∨ 2147483648 ≤ a → cw_W p l e R s m args below meth c A ids g cells slots G nL tgt ls st σ τ) (kf : 0 < a ∧ a < 2147483648 → cw_W p l e R s m args below meth c A ids g cells slots G nL (pc + 3) ls st σ τ) : cw_W p l e R s m args below meth c A ids g cells slots G nL pc ls (.int (nI a) :: st) σ τ := cw_if_le C hd ht (fun h => kt (wx_le0 ha h)) (fun h => kf (wx_nle0 ha h))
theorem nw_iinc (C : cw_C p s m args meth c A ids g cc nL own ret) {i a b : Nat} {n : Int} (hd : decode cc pc = .ok (.iinc i n, 3)) (hn : Int32.ofInt n = nI b) (h : ls[i]? = some (some (.int (nI a)))) (hi : i < nL) (k : cw_W p l e R s m args below meth c A ids g cells slots G nL (pc + 3) (ls.set i (some (.int (nI (a + b))))) st σ τ) : cw_W p l e R s m args below meth c A ids g cells slots G nL pc ls st σ τ := cw_iinc C hd h (by rw [hn, nI_add]) hi k
theorem nw_iincm (C : cw_C p s m args meth c A ids g cc nL own ret) {i a b : Nat} {n : Int} (hd : decode cc pc = .ok (.iinc i n, 3)) (hn : Int32.ofInt n = nI (4294967296 - b)) (h : ls[i]? = some (some (.int (nI a)))) (hb : b ≤ a ∧ a < 4294967296) (hi : i < nL) (k : cw_W p l e R s m args below meth c A ids g cells slots G nL (pc + 3) (ls.set i (some (.int (nI (a - b))))) st σ τ) : cw_W p l e R s m args below meth c A ids g cells slots G nL pc ls st σ τ := cw_iinc C hd h (by rw [hn, nI_add, wx_mod (a + (4294967296 - b)), show (a + (4294967296 - b)) % 4294967296 = a - b by omega]) hi k
variable {X : wx_S}
theorem nw_geti (C : cw_C p s m args meth c A ids g cc nL own ret) {ci N k q idx j : Nat} {K : String} {T : u_T} {ty0 : Nat → FieldType} {fl : List (Nat × Nat)} (hc : wd_cls ci K T N ty0) (hf : cw_kF own idx T k) (hi : wd_is ids q (4, ci, fl)) (hk : k < N) (hfl : fl[k]? = some (0, j)) (hd : decode cc pc = .ok (.getfield idx, 3)) (kk : cw_W p l e R s m args below meth c A ids g cells slots G nL (pc + 3) ls (.int (nI (X q k)) :: st) (wx_e X) (wx_l X)) : cw_W p l e R s m args below meth c A ids g cells slots G nL pc ls (.ref q :: st) (wx_e X) (wx_l X) := cw_geti C hc hf hi hk hfl hd kk
theorem wx_l_u (X : wx_S) (c k n : Nat) : cw_uq (wx_l X) c k (lN n) = wx_l (wx_u X c k n) := by
  funext c' k'
  simp only [cw_uq, wx_l, wx_u]
  split <;> rfl
theorem wx_u_c {X : wx_S} {c k n c' : Nat} (h : c' ≠ c) : wx_u X c k n c' = X c' := by funext k'; simp [wx_u, h]
theorem cw_tau {σ' : wd_S} {τ' : wd_L} (h : ∀ q ∈ ids, wd_ce g σ τ q = wd_ce g σ' τ' q) (k : cw_W p l e R s m args below meth c A ids g cells slots G nL pc ls st σ' τ') : cw_W p l e R s m args below meth c A ids g cells slots G nL pc ls st σ τ := by
  have e : wd_w ids g σ τ = wd_w ids g σ' τ' := List.map_congr_left (fun q hq => by rw [h q hq])
  intro H locs la hl hP hS
  rw [e] at hP
  exact k H locs la hl hP hS
theorem nw_tau_o {q k n ci j : Nat} {fl : List (Nat × Nat)} (hi : wd_is ids q (4, ci, fl)) (hfl : fl[k]? = some (0, j)) (kk : cw_W p l e R s m args below meth c A ids g cells slots G nL pc ls st (wx_e (wx_u X q k n)) (wx_l (wx_u X q k n))) : cw_W p l e R s m args below meth c A ids g cells slots G nL pc ls st (wx_e (wx_u X q k n)) (wx_l X) := by
  refine cw_tau (fun q' hq' => ?_) kk
  by_cases hq : q' = q
  · subst hq
    rw [wd_ce_o hi.2, wd_ce_o hi.2]
    congr 3
    apply List.ext_getElem?
    intro i
    cases hf : fl[i]? with
    | none => simp [wd_fs, List.getElem?_zipIdx, hf]
    | some f =>
      rw [wd_fs_at hf, wd_fs_at hf]
      by_cases hik : i = k
      · subst hik
        rw [hfl] at hf
        cases hf
        rfl
      · have e : wx_l (wx_u X q' k n) q' i = wx_l X q' i := by simp [wx_l, wx_u, hik]
        simp only [wd_fv, e]
  · exact wd_ce_ext rfl (by funext k'; simp [wx_l, wx_u, hq])
theorem nw_tau_a {q i n v t : Nat} {fl : List (Nat × Nat)} (hi : wd_is ids q (t, n, fl)) (ht : t = 0 ∨ t = 1) (kk : cw_W p l e R s m args below meth c A ids g cells slots G nL pc ls st (wx_e (wx_u X q i v)) (wx_l (wx_u X q i v))) : cw_W p l e R s m args below meth c A ids g cells slots G nL pc ls st (wx_e (wx_u X q i v)) (wx_l X) := by
  refine cw_tau (fun q' hq' => ?_) kk
  by_cases hq : q' = q
  · subst hq
    rcases ht with rfl | rfl
    · rw [wd_ce_i hi.2, wd_ce_i hi.2]
    · rw [wd_ce_z hi.2, wd_ce_z hi.2]
  · exact wd_ce_ext rfl (by funext k'; simp [wx_l, wx_u, hq])
theorem nw_sig_o {q k n ci j : Nat} {fl : List (Nat × Nat)} (hi : wd_is ids q (4, ci, fl)) (hfl : fl[k]? = some (1, j)) (kk : cw_W p l e R s m args below meth c A ids g cells slots G nL pc ls st (wx_e (wx_u X q k n)) (wx_l (wx_u X q k n))) : cw_W p l e R s m args below meth c A ids g cells slots G nL pc ls st (wx_e X) (wx_l (wx_u X q k n)) := by
  refine cw_tau (fun q' hq' => ?_) kk
  by_cases hq : q' = q
  · subst hq
    rw [wd_ce_o hi.2, wd_ce_o hi.2]
    congr 3
    apply List.ext_getElem?
    intro i
    cases hf : fl[i]? with
    | none => simp [wd_fs, List.getElem?_zipIdx, hf]
    | some f =>
      rw [wd_fs_at hf, wd_fs_at hf]
      by_cases hik : i = k
      · subst hik
        rw [hfl] at hf
        cases hf
        rfl
      · have e : wx_e (wx_u X q' k n) q' i = wx_e X q' i := by simp [wx_e, wx_u, hik]
        simp only [wd_fv, e]
  · exact wd_ce_ext (by funext k'; simp [wx_e, wx_u, hq]) rfl
theorem nw_sig_a {q i n v : Nat} {fl : List (Nat × Nat)} (hi : wd_is ids q (2, n, fl)) (kk : cw_W p l e R s m args below meth c A ids g cells slots G nL pc ls st (wx_e (wx_u X q i v)) (wx_l (wx_u X q i v))) : cw_W p l e R s m args below meth c A ids g cells slots G nL pc ls st (wx_e X) (wx_l (wx_u X q i v)) := by
  refine cw_tau (fun q' hq' => ?_) kk
  by_cases hq : q' = q
  · subst hq
    rw [wd_ce_l hi.2, wd_ce_l hi.2]
  · exact wd_ce_ext (by funext k'; simp [wx_e, wx_u, hq]) rfl
theorem nw_puti (C : cw_C p s m args meth c A ids g cc nL own ret) {ci N k q idx j n : Nat} {K : String} {T : u_T} {ty0 : Nat → FieldType} {fl : List (Nat × Nat)} (hc : wd_cls ci K T N ty0) (hf : cw_kF own idx T k) (hi : wd_is ids q (4, ci, fl)) (hk : k < N) (hfl : fl[k]? = some (0, j)) (hfin : (T k).2.2.2 = false) (hn : narrow (ty0 k) (.int (nI n)) = .int (nI n)) (hfit : fits (ty0 k) (.int (nI n)) = true) (hd : decode cc pc = .ok (.putfield idx, 3)) (kk : cw_W p l e R s m args below meth c A ids g cells slots G nL (pc + 3) ls st (wx_e (wx_u X q k n)) (wx_l (wx_u X q k n))) : cw_W p l e R s m args below meth c A ids g cells slots G nL pc ls (.int (nI n) :: .ref q :: st) (wx_e X) (wx_l X) := cw_puti C hc hf hi hk hfl hfin hn hfit hd (wx_e_u X q k n ▸ nw_tau_o hi hfl kk)
theorem nw_getl (C : cw_C p s m args meth c A ids g cc nL own ret) {ci N k q idx j : Nat} {K : String} {T : u_T} {ty0 : Nat → FieldType} {fl : List (Nat × Nat)} (hc : wd_cls ci K T N ty0) (hf : cw_kF own idx T k) (hi : wd_is ids q (4, ci, fl)) (hk : k < N) (hfl : fl[k]? = some (1, j)) (hd : decode cc pc = .ok (.getfield idx, 3)) (kk : cw_W p l e R s m args below meth c A ids g cells slots G nL (pc + 3) ls (.long (lN (X q k)) :: st) (wx_e X) (wx_l X)) : cw_W p l e R s m args below meth c A ids g cells slots G nL pc ls (.ref q :: st) (wx_e X) (wx_l X) := cw_getl C hc hf hi hk hfl hd kk
theorem nw_putl (C : cw_C p s m args meth c A ids g cc nL own ret) {ci N k q idx j n : Nat} {K : String} {T : u_T} {ty0 : Nat → FieldType} {fl : List (Nat × Nat)} (hc : wd_cls ci K T N ty0) (hf : cw_kF own idx T k) (hi : wd_is ids q (4, ci, fl)) (hk : k < N) (hfl : fl[k]? = some (1, j)) (hfin : (T k).2.2.2 = false) (hn : narrow (ty0 k) (.long (lN n)) = .long (lN n)) (hfit : fits (ty0 k) (.long (lN n)) = true) (hd : decode cc pc = .ok (.putfield idx, 3)) (kk : cw_W p l e R s m args below meth c A ids g cells slots G nL (pc + 3) ls st (wx_e (wx_u X q k n)) (wx_l (wx_u X q k n))) : cw_W p l e R s m args below meth c A ids g cells slots G nL pc ls (.long (lN n) :: .ref q :: st) (wx_e X) (wx_l X) := cw_putl C hc hf hi hk hfl hfin hn hfit hd (wx_l_u X q k n ▸ nw_sig_o hi hfl kk)
theorem nw_lald (C : cw_C p s m args meth c A ids g cc nL own ret) {q n i : Nat} {fl : List (Nat × Nat)} (hi : wd_is ids q (2, n, fl)) (hin : i < n) (hn : n < 2 ^ 31) (hd : decode cc pc = .ok (.laload, 1)) (kk : cw_W p l e R s m args below meth c A ids g cells slots G nL (pc + 1) ls (.long (lN (X q i)) :: st) (wx_e X) (wx_l X)) : cw_W p l e R s m args below meth c A ids g cells slots G nL pc ls (.int (nI i) :: .ref q :: st) (wx_e X) (wx_l X) := cw_lald C hi rfl hin hn hd kk
theorem nw_last (C : cw_C p s m args meth c A ids g cc nL own ret) {q n i v : Nat} {fl : List (Nat × Nat)} (hi : wd_is ids q (2, n, fl)) (hin : i < n) (hn : n < 2 ^ 31) (hd : decode cc pc = .ok (.lastore, 1)) (kk : cw_W p l e R s m args below meth c A ids g cells slots G nL (pc + 1) ls st (wx_e (wx_u X q i v)) (wx_l (wx_u X q i v))) : cw_W p l e R s m args below meth c A ids g cells slots G nL pc ls (.long (lN v) :: .int (nI i) :: .ref q :: st) (wx_e X) (wx_l X) := cw_last C hi rfl hin hn hd (wx_l_u X q i v ▸ nw_sig_a hi kk)
theorem nw_iald (C : cw_C p s m args meth c A ids g cc nL own ret) {q n i : Nat} {fl : List (Nat × Nat)} (hi : wd_is ids q (0, n, fl)) (hin : i < n) (hn : n < 2 ^ 31) (hd : decode cc pc = .ok (.iaload, 1)) (kk : cw_W p l e R s m args below meth c A ids g cells slots G nL (pc + 1) ls (.int (nI (X q i)) :: st) (wx_e X) (wx_l X)) : cw_W p l e R s m args below meth c A ids g cells slots G nL pc ls (.int (nI i) :: .ref q :: st) (wx_e X) (wx_l X) := cw_iald C hi rfl hin hn hd kk
theorem nw_zald (C : cw_C p s m args meth c A ids g cc nL own ret) {q n i : Nat} {fl : List (Nat × Nat)} (hi : wd_is ids q (1, n, fl)) (hin : i < n) (hn : n < 2 ^ 31) (hd : decode cc pc = .ok (.baload, 1)) (kk : cw_W p l e R s m args below meth c A ids g cells slots G nL (pc + 1) ls (.int (nI (X q i)) :: st) (wx_e X) (wx_l X)) : cw_W p l e R s m args below meth c A ids g cells slots G nL pc ls (.int (nI i) :: .ref q :: st) (wx_e X) (wx_l X) := cw_zald C hi rfl hin hn hd kk
theorem nw_iast (C : cw_C p s m args meth c A ids g cc nL own ret) {q n i v : Nat} {fl : List (Nat × Nat)} (hi : wd_is ids q (0, n, fl)) (hin : i < n) (hn : n < 2 ^ 31) (hd : decode cc pc = .ok (.iastore, 1)) (kk : cw_W p l e R s m args below meth c A ids g cells slots G nL (pc + 1) ls st (wx_e (wx_u X q i v)) (wx_l (wx_u X q i v))) : cw_W p l e R s m args below meth c A ids g cells slots G nL pc ls (.int (nI v) :: .int (nI i) :: .ref q :: st) (wx_e X) (wx_l X) := cw_iast C hi rfl hin hn hd (wx_e_u X q i v ▸ nw_tau_a hi (Or.inl rfl) kk)
theorem nw_zast (C : cw_C p s m args meth c A ids g cc nL own ret) {q n i v : Nat} {fl : List (Nat × Nat)} (hi : wd_is ids q (1, n, fl)) (hin : i < n) (hn : n < 2 ^ 31) (hv : v < 2) (hd : decode cc pc = .ok (.bastore, 1)) (kk : cw_W p l e R s m args below meth c A ids g cells slots G nL (pc + 1) ls st (wx_e (wx_u X q i v)) (wx_l (wx_u X q i v))) : cw_W p l e R s m args below meth c A ids g cells slots G nL pc ls (.int (nI v) :: .int (nI i) :: .ref q :: st) (wx_e X) (wx_l X) := cw_zast C hi rfl hin hn (wx_bool v hv) hd (wx_e_u X q i v ▸ nw_tau_a hi (Or.inr rfl) kk)
theorem nw_aald (C : cw_C p s m args meth c A ids g cc nL own ret) {q n i j a b9 : Nat} (hi : wd_is ids q (3, n, [(a, j)])) (hin : i < n) (hn : n < 2 ^ 31) (hd : decode cc pc = .ok (.aaload, 1)) (hq : 4 * j = b9) (kk : cw_W p l e R s m args below meth c A ids g cells slots G nL (pc + 1) ls (.ref (b9 + i) :: st) (wx_e X) (wx_l X)) : cw_W p l e R s m args below meth c A ids g cells slots G nL pc ls (.int (nI i) :: .ref q :: st) (wx_e X) (wx_l X) := cw_aald C hi rfl hin hn hd hq kk
end
/-- a contract over numbers -/
def nw_M (ids : List Nat) (y : MethodName) (cc : ByteArray) (nL : Nat) (ret : Option FieldType) (d mc ms : Nat) (av : List Value) (X : wx_S) (Q : Option Value → wx_S → Prop) : Prop := cw_M ids y cc nL ret d mc ms av (wx_e X) (wx_l X) (fun v σ' τ' => ∃ X' : wx_S, σ' = wx_e X' ∧ τ' = wx_l X' ∧ Q v X')
theorem nw_k {p : Program} {l : Launch} {e : Env} {R : Room} {s : State} {m : MethodId} {args : Array Value} {below : List Frame} {meth : Method} {c : Code} {A : Nat → Prop} {ids : List Nat} {g : wd_G} {cells slots : Nat} {G : State → Prop} {nL pc : Nat} {ls : List (Option Value)} {st : List Value} {Q : Option Value → wx_S → Prop}
    (kk : ∀ (v : Option Value) (X : wx_S), Q v X → cw_W p l e R s m args below meth c A ids g cells slots G nL pc ls (v.toList ++ st) (wx_e X) (wx_l X)) : ∀ (v : Option Value) (σ' : wd_S) (τ' : wd_L), (∃ X' : wx_S, σ' = wx_e X' ∧ τ' = wx_l X' ∧ Q v X') → cw_W p l e R s m args below meth c A ids g cells slots G nL pc ls (v.toList ++ st) σ' τ' := by
  rintro v _ _ ⟨X, rfl, rfl, h⟩
  exact kk v X h
theorem nw_ki {p : Program} {l : Launch} {e : Env} {R : Room} {s : State} {m : MethodId} {args : Array Value} {below : List Frame} {meth : Method} {c : Code} {A : Nat → Prop} {ids : List Nat} {g : wd_G} {cells slots : Nat} {G : State → Prop} {nL pc : Nat} {ls : List (Option Value)} {st : List Value} {z : Int32} {X1 : wx_S}
    (kk : cw_W p l e R s m args below meth c A ids g cells slots G nL pc ls (.int z :: st) (wx_e X1) (wx_l X1)) : ∀ (v : Option Value) (σ' : wd_S) (τ' : wd_L), (∃ X' : wx_S, σ' = wx_e X' ∧ τ' = wx_l X' ∧ (v = some (.int z) ∧ X' = X1)) → cw_W p l e R s m args below meth c A ids g cells slots G nL pc ls (v.toList ++ st) σ' τ' := by
  rintro v _ _ ⟨X, rfl, rfl, rfl, rfl⟩
  exact kk
theorem nw_kr {p : Program} {l : Launch} {e : Env} {R : Room} {s : State} {m : MethodId} {args : Array Value} {below : List Frame} {meth : Method} {c : Code} {A : Nat → Prop} {ids : List Nat} {g : wd_G} {cells slots : Nat} {G : State → Prop} {nL pc : Nat} {ls : List (Option Value)} {st : List Value} {z : Nat} {X1 : wx_S}
    (kk : cw_W p l e R s m args below meth c A ids g cells slots G nL pc ls (.ref z :: st) (wx_e X1) (wx_l X1)) : ∀ (v : Option Value) (σ' : wd_S) (τ' : wd_L), (∃ X' : wx_S, σ' = wx_e X' ∧ τ' = wx_l X' ∧ (v = some (.ref z) ∧ X' = X1)) → cw_W p l e R s m args below meth c A ids g cells slots G nL pc ls (v.toList ++ st) σ' τ' := by
  rintro v _ _ ⟨X, rfl, rfl, rfl, rfl⟩
  exact kk
theorem nw_kv {p : Program} {l : Launch} {e : Env} {R : Room} {s : State} {m : MethodId} {args : Array Value} {below : List Frame} {meth : Method} {c : Code} {A : Nat → Prop} {ids : List Nat} {g : wd_G} {cells slots : Nat} {G : State → Prop} {nL pc : Nat} {ls : List (Option Value)} {st : List Value} {X1 : wx_S}
    (kk : cw_W p l e R s m args below meth c A ids g cells slots G nL pc ls st (wx_e X1) (wx_l X1)) : ∀ (v : Option Value) (σ' : wd_S) (τ' : wd_L), (∃ X' : wx_S, σ' = wx_e X' ∧ τ' = wx_l X' ∧ (v = none ∧ X' = X1)) → cw_W p l e R s m args below meth c A ids g cells slots G nL pc ls (v.toList ++ st) σ' τ' := by
  rintro v _ _ ⟨X, rfl, rfl, rfl, rfl⟩
  exact kk
theorem nw_q {Q : Option Value → wx_S → Prop} {v : Option Value} {X : wx_S} (h : Q v X) : ∃ X' : wx_S, wx_e X = wx_e X' ∧ wx_l X = wx_l X' ∧ Q v X' := ⟨X, rfl, rfl, h⟩
end
