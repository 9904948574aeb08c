section
-- ===== PART A: goes FIRST, ahead of the names: the tables' words, and 'selects' of the private methods out of them =====
/-- a private method of a class that the tables say can be made, by its rows of tables_1 -/
def lw_okq (q : MethodName × Nat) : Prop := (q.1.cls ≠ "java/lang/invoke/MethodHandle" ∧ q.1.cls ≠ "java/lang/invoke/VarHandle") ∧ Cond.instantiable q.1.cls q.2 ∈ tables_1 ∧ Cond.privateMethod q.1 ∈ tables_1 ∧ Cond.instanceMethod q.1 ∈ tables_1
theorem lw_p0 : lw_okq (⟨"ZoneNodes$Records", "setValues", "(III)V"⟩, 1) := ⟨⟨by decide +kernel, by decide +kernel⟩, List.mem_of_getElem? (i := 121) (by decide +kernel), List.mem_of_getElem? (i := 183) (by decide +kernel), List.mem_of_getElem? (i := 184) (by decide +kernel)⟩
theorem lw_p1 : lw_okq (⟨"ZoneNodes$Secondary", "rest", "(I)V"⟩, 13) := ⟨⟨by decide +kernel, by decide +kernel⟩, List.mem_of_getElem? (i := 224) (by decide +kernel), List.mem_of_getElem? (i := 236) (by decide +kernel), List.mem_of_getElem? (i := 237) (by decide +kernel)⟩
theorem lw_p2 : lw_okq (⟨"ZoneNodes", "knowsKey", "(I)Z"⟩, 7) := ⟨⟨by decide +kernel, by decide +kernel⟩, List.mem_of_getElem? (i := 14) (by decide +kernel), List.mem_of_getElem? (i := 338) (by decide +kernel), List.mem_of_getElem? (i := 339) (by decide +kernel)⟩
theorem lw_p3 : lw_okq (⟨"ZoneNodes", "refusal", "(III)I"⟩, 7) := ⟨⟨by decide +kernel, by decide +kernel⟩, List.mem_of_getElem? (i := 14) (by decide +kernel), List.mem_of_getElem? (i := 354) (by decide +kernel), List.mem_of_getElem? (i := 355) (by decide +kernel)⟩
theorem lw_p4 : lw_okq (⟨"ZoneNodes$Records", "hasOtherThanAlias", "(I)Z"⟩, 1) := ⟨⟨by decide +kernel, by decide +kernel⟩, List.mem_of_getElem? (i := 121) (by decide +kernel), List.mem_of_getElem? (i := 381) (by decide +kernel), List.mem_of_getElem? (i := 382) (by decide +kernel)⟩
theorem lw_p5 : lw_okq (⟨"ZoneNodes$Draft", "isExact", "(ILZoneNodes$Records;)Z"⟩, 4) := ⟨⟨by decide +kernel, by decide +kernel⟩, List.mem_of_getElem? (i := 22) (by decide +kernel), List.mem_of_getElem? (i := 385) (by decide +kernel), List.mem_of_getElem? (i := 386) (by decide +kernel)⟩
theorem lw_p6 : lw_okq (⟨"ZoneNodes", "makeChanges", "()I"⟩, 7) := ⟨⟨by decide +kernel, by decide +kernel⟩, List.mem_of_getElem? (i := 14) (by decide +kernel), List.mem_of_getElem? (i := 392) (by decide +kernel), List.mem_of_getElem? (i := 393) (by decide +kernel)⟩
theorem lw_p7 : lw_okq (⟨"ZoneNodes$Records", "addIfAllowed", "(III)V"⟩, 1) := ⟨⟨by decide +kernel, by decide +kernel⟩, List.mem_of_getElem? (i := 121) (by decide +kernel), List.mem_of_getElem? (i := 412) (by decide +kernel), List.mem_of_getElem? (i := 413) (by decide +kernel)⟩
theorem lw_p8 : lw_okq (⟨"ZoneNodes$Records", "clearIfAllowed", "(II)V"⟩, 1) := ⟨⟨by decide +kernel, by decide +kernel⟩, List.mem_of_getElem? (i := 121) (by decide +kernel), List.mem_of_getElem? (i := 417) (by decide +kernel), List.mem_of_getElem? (i := 418) (by decide +kernel)⟩
theorem lw_p9 : lw_okq (⟨"ZoneNodes$Records", "removeIfAllowed", "(III)V"⟩, 1) := ⟨⟨by decide +kernel, by decide +kernel⟩, List.mem_of_getElem? (i := 121) (by decide +kernel), List.mem_of_getElem? (i := 421) (by decide +kernel), List.mem_of_getElem? (i := 422) (by decide +kernel)⟩
theorem lw_p10 : lw_okq (⟨"ZoneNodes$Primary", "takeStep", "(I)V"⟩, 9) := ⟨⟨by decide +kernel, by decide +kernel⟩, List.mem_of_getElem? (i := 115) (by decide +kernel), List.mem_of_getElem? (i := 447) (by decide +kernel), List.mem_of_getElem? (i := 448) (by decide +kernel)⟩
theorem lw_p11 : lw_okq (⟨"ZoneNodes$Primary", "becomeLatest", "()V"⟩, 9) := ⟨⟨by decide +kernel, by decide +kernel⟩, List.mem_of_getElem? (i := 115) (by decide +kernel), List.mem_of_getElem? (i := 463) (by decide +kernel), List.mem_of_getElem? (i := 464) (by decide +kernel)⟩
theorem lw_p12 : lw_okq (⟨"ZoneNodes", "takePrimaryDown", "()V"⟩, 7) := ⟨⟨by decide +kernel, by decide +kernel⟩, List.mem_of_getElem? (i := 14) (by decide +kernel), List.mem_of_getElem? (i := 479) (by decide +kernel), List.mem_of_getElem? (i := 480) (by decide +kernel)⟩
theorem lw_p13 : lw_okq (⟨"ZoneNodes", "notifySecondaries", "()V"⟩, 7) := ⟨⟨by decide +kernel, by decide +kernel⟩, List.mem_of_getElem? (i := 14) (by decide +kernel), List.mem_of_getElem? (i := 499) (by decide +kernel), List.mem_of_getElem? (i := 500) (by decide +kernel)⟩
theorem lw_p14 : lw_okq (⟨"ZoneNodes$Wire", "countLossy", "()I"⟩, 2) := ⟨⟨by decide +kernel, by decide +kernel⟩, List.mem_of_getElem? (i := 43) (by decide +kernel), List.mem_of_getElem? (i := 507) (by decide +kernel), List.mem_of_getElem? (i := 508) (by decide +kernel)⟩
theorem lw_p15 : lw_okq (⟨"ZoneNodes$Wire", "put", "(III)LZoneNodes$Message;"⟩, 2) := ⟨⟨by decide +kernel, by decide +kernel⟩, List.mem_of_getElem? (i := 43) (by decide +kernel), List.mem_of_getElem? (i := 511) (by decide +kernel), List.mem_of_getElem? (i := 512) (by decide +kernel)⟩
def lw_privs_1 : List (MethodName × Nat) := [(⟨"ZoneNodes$Records", "setValues", "(III)V"⟩, 1), (⟨"ZoneNodes$Secondary", "rest", "(I)V"⟩, 13), (⟨"ZoneNodes", "knowsKey", "(I)Z"⟩, 7), (⟨"ZoneNodes", "refusal", "(III)I"⟩, 7), (⟨"ZoneNodes$Records", "hasOtherThanAlias", "(I)Z"⟩, 1), (⟨"ZoneNodes$Draft", "isExact", "(ILZoneNodes$Records;)Z"⟩, 4), (⟨"ZoneNodes", "makeChanges", "()I"⟩, 7), (⟨"ZoneNodes$Records", "addIfAllowed", "(III)V"⟩, 1), (⟨"ZoneNodes$Records", "clearIfAllowed", "(II)V"⟩, 1), (⟨"ZoneNodes$Records", "removeIfAllowed", "(III)V"⟩, 1), (⟨"ZoneNodes$Primary", "takeStep", "(I)V"⟩, 9), (⟨"ZoneNodes$Primary", "becomeLatest", "()V"⟩, 9), (⟨"ZoneNodes", "takePrimaryDown", "()V"⟩, 7), (⟨"ZoneNodes", "notifySecondaries", "()V"⟩, 7), (⟨"ZoneNodes$Wire", "countLossy", "()I"⟩, 2), (⟨"ZoneNodes$Wire", "put", "(III)LZoneNodes$Message;"⟩, 2)]
theorem lw_r1 : ∀ q ∈ lw_privs_1, lw_okq q := List.forall_mem_cons.mpr ⟨lw_p0, List.forall_mem_cons.mpr ⟨lw_p1, List.forall_mem_cons.mpr ⟨lw_p2, List.forall_mem_cons.mpr ⟨lw_p3, List.forall_mem_cons.mpr ⟨lw_p4, List.forall_mem_cons.mpr ⟨lw_p5, List.forall_mem_cons.mpr ⟨lw_p6, List.forall_mem_cons.mpr ⟨lw_p7, List.forall_mem_cons.mpr ⟨lw_p8, List.forall_mem_cons.mpr ⟨lw_p9, List.forall_mem_cons.mpr ⟨lw_p10, List.forall_mem_cons.mpr ⟨lw_p11, List.forall_mem_cons.mpr ⟨lw_p12, List.forall_mem_cons.mpr ⟨lw_p13, List.forall_mem_cons.mpr ⟨lw_p14, List.forall_mem_cons.mpr ⟨lw_p15, fun _ h => absurd h List.not_mem_nil⟩⟩⟩⟩⟩⟩⟩⟩⟩⟩⟩⟩⟩⟩⟩⟩
theorem lw_p16 : lw_okq (⟨"ZoneNodes$Secondary", "ask", "(ILZoneNodes$Wire;)V"⟩, 13) := ⟨⟨by decide +kernel, by decide +kernel⟩, List.mem_of_getElem? (i := 224) (by decide +kernel), List.mem_of_getElem? (i := 531) (by decide +kernel), List.mem_of_getElem? (i := 532) (by decide +kernel)⟩
theorem lw_p17 : lw_okq (⟨"ZoneNodes", "arriveAtPrimary", "(LZoneNodes$Message;)V"⟩, 7) := ⟨⟨by decide +kernel, by decide +kernel⟩, List.mem_of_getElem? (i := 14) (by decide +kernel), List.mem_of_getElem? (i := 550) (by decide +kernel), List.mem_of_getElem? (i := 551) (by decide +kernel)⟩
theorem lw_p18 : lw_okq (⟨"ZoneNodes$Journal", "leadsTo", "(II)Z"⟩, 2) := ⟨⟨by decide +kernel, by decide +kernel⟩, List.mem_of_getElem? (i := 131) (by decide +kernel), List.mem_of_getElem? (i := 562) (by decide +kernel), List.mem_of_getElem? (i := 563) (by decide +kernel)⟩
theorem lw_p19 : lw_okq (⟨"ZoneNodes", "arriveAtSecondary", "(LZoneNodes$Message;LZoneNodes$Secondary;)V"⟩, 7) := ⟨⟨by decide +kernel, by decide +kernel⟩, List.mem_of_getElem? (i := 14) (by decide +kernel), List.mem_of_getElem? (i := 578) (by decide +kernel), List.mem_of_getElem? (i := 579) (by decide +kernel)⟩
theorem lw_p20 : lw_okq (⟨"ZoneNodes$Secondary", "lacks", "(I)Z"⟩, 13) := ⟨⟨by decide +kernel, by decide +kernel⟩, List.mem_of_getElem? (i := 224) (by decide +kernel), List.mem_of_getElem? (i := 586) (by decide +kernel), List.mem_of_getElem? (i := 587) (by decide +kernel)⟩
theorem lw_p21 : lw_okq (⟨"ZoneNodes$Secondary", "becomeRefreshed", "(I)V"⟩, 13) := ⟨⟨by decide +kernel, by decide +kernel⟩, List.mem_of_getElem? (i := 224) (by decide +kernel), List.mem_of_getElem? (i := 597) (by decide +kernel), List.mem_of_getElem? (i := 598) (by decide +kernel)⟩
theorem lw_p22 : lw_okq (⟨"ZoneNodes$Secondary", "beginIncoming", "(Z)V"⟩, 13) := ⟨⟨by decide +kernel, by decide +kernel⟩, List.mem_of_getElem? (i := 224) (by decide +kernel), List.mem_of_getElem? (i := 609) (by decide +kernel), List.mem_of_getElem? (i := 610) (by decide +kernel)⟩
theorem lw_p23 : lw_okq (⟨"ZoneNodes", "isUp", "(I)Z"⟩, 7) := ⟨⟨by decide +kernel, by decide +kernel⟩, List.mem_of_getElem? (i := 14) (by decide +kernel), List.mem_of_getElem? (i := 638) (by decide +kernel), List.mem_of_getElem? (i := 639) (by decide +kernel)⟩
theorem lw_p24 : lw_okq (⟨"ZoneNodes", "recordsOf", "(I)LZoneNodes$Records;"⟩, 7) := ⟨⟨by decide +kernel, by decide +kernel⟩, List.mem_of_getElem? (i := 14) (by decide +kernel), List.mem_of_getElem? (i := 668) (by decide +kernel), List.mem_of_getElem? (i := 669) (by decide +kernel)⟩
theorem lw_p25 : lw_okq (⟨"ZoneNodesModel", "rest", "(II)V"⟩, 32) := ⟨⟨by decide +kernel, by decide +kernel⟩, List.mem_of_getElem? (i := 714) (by decide +kernel), List.mem_of_getElem? (i := 723) (by decide +kernel), List.mem_of_getElem? (i := 724) (by decide +kernel)⟩
theorem lw_p26 : lw_okq (⟨"ZoneNodesModel", "say", "(IIIII)V"⟩, 32) := ⟨⟨by decide +kernel, by decide +kernel⟩, List.mem_of_getElem? (i := 714) (by decide +kernel), List.mem_of_getElem? (i := 835) (by decide +kernel), List.mem_of_getElem? (i := 836) (by decide +kernel)⟩
theorem lw_p27 : lw_okq (⟨"ZoneNodesModel", "sealed", "(II)I"⟩, 32) := ⟨⟨by decide +kernel, by decide +kernel⟩, List.mem_of_getElem? (i := 714) (by decide +kernel), List.mem_of_getElem? (i := 847) (by decide +kernel), List.mem_of_getElem? (i := 848) (by decide +kernel)⟩
theorem lw_p28 : lw_okq (⟨"ZoneNodesModel", "line", "(I)I"⟩, 32) := ⟨⟨by decide +kernel, by decide +kernel⟩, List.mem_of_getElem? (i := 714) (by decide +kernel), List.mem_of_getElem? (i := 855) (by decide +kernel), List.mem_of_getElem? (i := 856) (by decide +kernel)⟩
theorem lw_p29 : lw_okq (⟨"ZoneNodesModel", "refusal", "(III)I"⟩, 32) := ⟨⟨by decide +kernel, by decide +kernel⟩, List.mem_of_getElem? (i := 714) (by decide +kernel), List.mem_of_getElem? (i := 863) (by decide +kernel), List.mem_of_getElem? (i := 864) (by decide +kernel)⟩
theorem lw_p30 : lw_okq (⟨"ZoneNodesModel", "meets", "(I)Z"⟩, 32) := ⟨⟨by decide +kernel, by decide +kernel⟩, List.mem_of_getElem? (i := 714) (by decide +kernel), List.mem_of_getElem? (i := 869) (by decide +kernel), List.mem_of_getElem? (i := 870) (by decide +kernel)⟩
theorem lw_p31 : lw_okq (⟨"ZoneNodesModel", "count", "(II)I"⟩, 32) := ⟨⟨by decide +kernel, by decide +kernel⟩, List.mem_of_getElem? (i := 714) (by decide +kernel), List.mem_of_getElem? (i := 873) (by decide +kernel), List.mem_of_getElem? (i := 874) (by decide +kernel)⟩
def lw_privs_2 : List (MethodName × Nat) := [(⟨"ZoneNodes$Secondary", "ask", "(ILZoneNodes$Wire;)V"⟩, 13), (⟨"ZoneNodes", "arriveAtPrimary", "(LZoneNodes$Message;)V"⟩, 7), (⟨"ZoneNodes$Journal", "leadsTo", "(II)Z"⟩, 2), (⟨"ZoneNodes", "arriveAtSecondary", "(LZoneNodes$Message;LZoneNodes$Secondary;)V"⟩, 7), (⟨"ZoneNodes$Secondary", "lacks", "(I)Z"⟩, 13), (⟨"ZoneNodes$Secondary", "becomeRefreshed", "(I)V"⟩, 13), (⟨"ZoneNodes$Secondary", "beginIncoming", "(Z)V"⟩, 13), (⟨"ZoneNodes", "isUp", "(I)Z"⟩, 7), (⟨"ZoneNodes", "recordsOf", "(I)LZoneNodes$Records;"⟩, 7), (⟨"ZoneNodesModel", "rest", "(II)V"⟩, 32), (⟨"ZoneNodesModel", "say", "(IIIII)V"⟩, 32), (⟨"ZoneNodesModel", "sealed", "(II)I"⟩, 32), (⟨"ZoneNodesModel", "line", "(I)I"⟩, 32), (⟨"ZoneNodesModel", "refusal", "(III)I"⟩, 32), (⟨"ZoneNodesModel", "meets", "(I)Z"⟩, 32), (⟨"ZoneNodesModel", "count", "(II)I"⟩, 32)]
theorem lw_r2 : ∀ q ∈ lw_privs_2, lw_okq q := List.forall_mem_cons.mpr ⟨lw_p16, List.forall_mem_cons.mpr ⟨lw_p17, List.forall_mem_cons.mpr ⟨lw_p18, List.forall_mem_cons.mpr ⟨lw_p19, List.forall_mem_cons.mpr ⟨lw_p20, List.forall_mem_cons.mpr ⟨lw_p21, List.forall_mem_cons.mpr ⟨lw_p22, List.forall_mem_cons.mpr ⟨lw_p23, List.forall_mem_cons.mpr ⟨lw_p24, List.forall_mem_cons.mpr ⟨lw_p25, List.forall_mem_cons.mpr ⟨lw_p26, List.forall_mem_cons.mpr ⟨lw_p27, List.forall_mem_cons.mpr ⟨lw_p28, List.forall_mem_cons.mpr ⟨lw_p29, List.forall_mem_cons.mpr ⟨lw_p30, List.forall_mem_cons.mpr ⟨lw_p31, fun _ h => absurd h List.not_mem_nil⟩⟩⟩⟩⟩⟩⟩⟩⟩⟩⟩⟩⟩⟩⟩⟩
theorem lw_p32 : lw_okq (⟨"ZoneNodesModel", "exact", "(I)Z"⟩, 32) := ⟨⟨by decide +kernel, by decide +kernel⟩, List.mem_of_getElem? (i := 714) (by decide +kernel), List.mem_of_getElem? (i := 877) (by decide +kernel), List.mem_of_getElem? (i := 878) (by decide +kernel)⟩
theorem lw_p33 : lw_okq (⟨"ZoneNodesModel", "perform", "(I)V"⟩, 32) := ⟨⟨by decide +kernel, by decide +kernel⟩, List.mem_of_getElem? (i := 714) (by decide +kernel), List.mem_of_getElem? (i := 881) (by decide +kernel), List.mem_of_getElem? (i := 882) (by decide +kernel)⟩
theorem lw_p34 : lw_okq (⟨"ZoneNodesModel", "add", "(III)V"⟩, 32) := ⟨⟨by decide +kernel, by decide +kernel⟩, List.mem_of_getElem? (i := 714) (by decide +kernel), List.mem_of_getElem? (i := 885) (by decide +kernel), List.mem_of_getElem? (i := 886) (by decide +kernel)⟩
theorem lw_p35 : lw_okq (⟨"ZoneNodesModel", "works", "(II)I"⟩, 32) := ⟨⟨by decide +kernel, by decide +kernel⟩, List.mem_of_getElem? (i := 714) (by decide +kernel), List.mem_of_getElem? (i := 889) (by decide +kernel), List.mem_of_getElem? (i := 890) (by decide +kernel)⟩
theorem lw_p36 : lw_okq (⟨"ZoneNodesModel", "write", "()I"⟩, 32) := ⟨⟨by decide +kernel, by decide +kernel⟩, List.mem_of_getElem? (i := 714) (by decide +kernel), List.mem_of_getElem? (i := 893) (by decide +kernel), List.mem_of_getElem? (i := 894) (by decide +kernel)⟩
theorem lw_p37 : lw_okq (⟨"ZoneNodesModel", "cutOff", "(I)V"⟩, 32) := ⟨⟨by decide +kernel, by decide +kernel⟩, List.mem_of_getElem? (i := 714) (by decide +kernel), List.mem_of_getElem? (i := 904) (by decide +kernel), List.mem_of_getElem? (i := 905) (by decide +kernel)⟩
theorem lw_p38 : lw_okq (⟨"ZoneNodesModel", "remove", "(I)V"⟩, 32) := ⟨⟨by decide +kernel, by decide +kernel⟩, List.mem_of_getElem? (i := 714) (by decide +kernel), List.mem_of_getElem? (i := 908) (by decide +kernel), List.mem_of_getElem? (i := 909) (by decide +kernel)⟩
theorem lw_p39 : lw_okq (⟨"ZoneNodesModel", "install", "()V"⟩, 32) := ⟨⟨by decide +kernel, by decide +kernel⟩, List.mem_of_getElem? (i := 714) (by decide +kernel), List.mem_of_getElem? (i := 912) (by decide +kernel), List.mem_of_getElem? (i := 913) (by decide +kernel)⟩
theorem lw_p40 : lw_okq (⟨"ZoneNodesModel", "notifyBoth", "()V"⟩, 32) := ⟨⟨by decide +kernel, by decide +kernel⟩, List.mem_of_getElem? (i := 714) (by decide +kernel), List.mem_of_getElem? (i := 916) (by decide +kernel), List.mem_of_getElem? (i := 917) (by decide +kernel)⟩
theorem lw_p41 : lw_okq (⟨"ZoneNodesModel", "send", "(III)V"⟩, 32) := ⟨⟨by decide +kernel, by decide +kernel⟩, List.mem_of_getElem? (i := 714) (by decide +kernel), List.mem_of_getElem? (i := 920) (by decide +kernel), List.mem_of_getElem? (i := 921) (by decide +kernel)⟩
theorem lw_p42 : lw_okq (⟨"ZoneNodesModel", "append", "(IIIIIZZ)V"⟩, 32) := ⟨⟨by decide +kernel, by decide +kernel⟩, List.mem_of_getElem? (i := 714) (by decide +kernel), List.mem_of_getElem? (i := 924) (by decide +kernel), List.mem_of_getElem? (i := 925) (by decide +kernel)⟩
theorem lw_p43 : lw_okq (⟨"ZoneNodesModel", "isMessage", "(I)Z"⟩, 32) := ⟨⟨by decide +kernel, by decide +kernel⟩, List.mem_of_getElem? (i := 714) (by decide +kernel), List.mem_of_getElem? (i := 936) (by decide +kernel), List.mem_of_getElem? (i := 937) (by decide +kernel)⟩
theorem lw_p44 : lw_okq (⟨"ZoneNodesModel", "isNews", "(II)Z"⟩, 32) := ⟨⟨by decide +kernel, by decide +kernel⟩, List.mem_of_getElem? (i := 714) (by decide +kernel), List.mem_of_getElem? (i := 948) (by decide +kernel), List.mem_of_getElem? (i := 949) (by decide +kernel)⟩
theorem lw_p45 : lw_okq (⟨"ZoneNodesModel", "ask", "(I)V"⟩, 32) := ⟨⟨by decide +kernel, by decide +kernel⟩, List.mem_of_getElem? (i := 714) (by decide +kernel), List.mem_of_getElem? (i := 952) (by decide +kernel), List.mem_of_getElem? (i := 953) (by decide +kernel)⟩
theorem lw_p46 : lw_okq (⟨"ZoneNodesModel", "takeTell", "(II)V"⟩, 32) := ⟨⟨by decide +kernel, by decide +kernel⟩, List.mem_of_getElem? (i := 714) (by decide +kernel), List.mem_of_getElem? (i := 956) (by decide +kernel), List.mem_of_getElem? (i := 957) (by decide +kernel)⟩
theorem lw_p47 : lw_okq (⟨"ZoneNodesModel", "refreshed", "(I)V"⟩, 32) := ⟨⟨by decide +kernel, by decide +kernel⟩, List.mem_of_getElem? (i := 714) (by decide +kernel), List.mem_of_getElem? (i := 960) (by decide +kernel), List.mem_of_getElem? (i := 961) (by decide +kernel)⟩
def lw_privs_3 : List (MethodName × Nat) := [(⟨"ZoneNodesModel", "exact", "(I)Z"⟩, 32), (⟨"ZoneNodesModel", "perform", "(I)V"⟩, 32), (⟨"ZoneNodesModel", "add", "(III)V"⟩, 32), (⟨"ZoneNodesModel", "works", "(II)I"⟩, 32), (⟨"ZoneNodesModel", "write", "()I"⟩, 32), (⟨"ZoneNodesModel", "cutOff", "(I)V"⟩, 32), (⟨"ZoneNodesModel", "remove", "(I)V"⟩, 32), (⟨"ZoneNodesModel", "install", "()V"⟩, 32), (⟨"ZoneNodesModel", "notifyBoth", "()V"⟩, 32), (⟨"ZoneNodesModel", "send", "(III)V"⟩, 32), (⟨"ZoneNodesModel", "append", "(IIIIIZZ)V"⟩, 32), (⟨"ZoneNodesModel", "isMessage", "(I)Z"⟩, 32), (⟨"ZoneNodesModel", "isNews", "(II)Z"⟩, 32), (⟨"ZoneNodesModel", "ask", "(I)V"⟩, 32), (⟨"ZoneNodesModel", "takeTell", "(II)V"⟩, 32), (⟨"ZoneNodesModel", "refreshed", "(I)V"⟩, 32)]
theorem lw_r3 : ∀ q ∈ lw_privs_3, lw_okq q := List.forall_mem_cons.mpr ⟨lw_p32, List.forall_mem_cons.mpr ⟨lw_p33, List.forall_mem_cons.mpr ⟨lw_p34, List.forall_mem_cons.mpr ⟨lw_p35, List.forall_mem_cons.mpr ⟨lw_p36, List.forall_mem_cons.mpr ⟨lw_p37, List.forall_mem_cons.mpr ⟨lw_p38, List.forall_mem_cons.mpr ⟨lw_p39, List.forall_mem_cons.mpr ⟨lw_p40, List.forall_mem_cons.mpr ⟨lw_p41, List.forall_mem_cons.mpr ⟨lw_p42, List.forall_mem_cons.mpr ⟨lw_p43, List.forall_mem_cons.mpr ⟨lw_p44, List.forall_mem_cons.mpr ⟨lw_p45, List.forall_mem_cons.mpr ⟨lw_p46, List.forall_mem_cons.mpr ⟨lw_p47, fun _ h => absurd h List.not_mem_nil⟩⟩⟩⟩⟩⟩⟩⟩⟩⟩⟩⟩⟩⟩⟩⟩
theorem lw_p48 : lw_okq (⟨"ZoneNodesModel", "takeFetch", "(IZI)V"⟩, 32) := ⟨⟨by decide +kernel, by decide +kernel⟩, List.mem_of_getElem? (i := 714) (by decide +kernel), List.mem_of_getElem? (i := 964) (by decide +kernel), List.mem_of_getElem? (i := 965) (by decide +kernel)⟩
theorem lw_p49 : lw_okq (⟨"ZoneNodesModel", "itemsFor", "(ZI)I"⟩, 32) := ⟨⟨by decide +kernel, by decide +kernel⟩, List.mem_of_getElem? (i := 714) (by decide +kernel), List.mem_of_getElem? (i := 968) (by decide +kernel), List.mem_of_getElem? (i := 969) (by decide +kernel)⟩
theorem lw_p50 : lw_okq (⟨"ZoneNodesModel", "takePart", "(IIZZ)V"⟩, 32) := ⟨⟨by decide +kernel, by decide +kernel⟩, List.mem_of_getElem? (i := 714) (by decide +kernel), List.mem_of_getElem? (i := 972) (by decide +kernel), List.mem_of_getElem? (i := 973) (by decide +kernel)⟩
theorem lw_p51 : lw_okq (⟨"ZoneNodesModel", "shown", "(IIII)I"⟩, 32) := ⟨⟨by decide +kernel, by decide +kernel⟩, List.mem_of_getElem? (i := 714) (by decide +kernel), List.mem_of_getElem? (i := 1010) (by decide +kernel), List.mem_of_getElem? (i := 1011) (by decide +kernel)⟩
def lw_privs_4 : List (MethodName × Nat) := [(⟨"ZoneNodesModel", "takeFetch", "(IZI)V"⟩, 32), (⟨"ZoneNodesModel", "itemsFor", "(ZI)I"⟩, 32), (⟨"ZoneNodesModel", "takePart", "(IIZZ)V"⟩, 32), (⟨"ZoneNodesModel", "shown", "(IIII)I"⟩, 32)]
theorem lw_r4 : ∀ q ∈ lw_privs_4, lw_okq q := List.forall_mem_cons.mpr ⟨lw_p48, List.forall_mem_cons.mpr ⟨lw_p49, List.forall_mem_cons.mpr ⟨lw_p50, List.forall_mem_cons.mpr ⟨lw_p51, fun _ h => absurd h List.not_mem_nil⟩⟩⟩⟩
def lw_privs : List (MethodName × Nat) := lw_privs_1 ++ (lw_privs_2 ++ (lw_privs_3 ++ (lw_privs_4)))
def lw_tbl : List Cond := k2_sels lw_privs ++ tables_1
theorem lw_privs_ok : ∀ q ∈ lw_privs, lw_okq q := by
  show ∀ q ∈ lw_privs_1 ++ (lw_privs_2 ++ (lw_privs_3 ++ (lw_privs_4))), lw_okq q
  exact List.forall_mem_append.mpr ⟨lw_r1, List.forall_mem_append.mpr ⟨lw_r2, List.forall_mem_append.mpr ⟨lw_r3, lw_r4⟩⟩⟩
end
section
/-! words of one list among another's, by their places -/
theorem zg_r {big : List Cond} (ws : List Cond) (ps : List Nat) (hp : ws = ps.filterMap (fun i => big[i]?)) (h : ws.all goodWord = true) : GoodIn big ws := by
  intro w hw
  have h1 := List.all_eq_true.mp h w hw
  rw [hp] at hw
  obtain ⟨i, -, hi⟩ := List.mem_filterMap.mp hw
  exact ⟨List.mem_of_getElem? hi, good_of_word h1⟩
theorem zg_nil {big : List Cond} : GoodIn big [] := fun w h => absurd h List.not_mem_nil
theorem zg_cons {big ws : List Cond} {w : Cond} (h : w ∈ big) (g : goodWord w = true) (r : GoodIn big ws) : GoodIn big (w :: ws) := by
  intro v hv
  rcases List.mem_cons.mp hv with rfl | h1
  · exact ⟨h, good_of_word g⟩
  · exact r v h1
theorem zg_app {big a b : List Cond} (ha : GoodIn big a) (hb : GoodIn big b) : GoodIn big (a ++ b) := fun w h => (List.mem_append.mp h).elim (ha w) (hb w)
/-! names: classes, fields in the order of the slots, methods -/
def R_Draft : String := "ZoneNodes$Draft"
def R_Entry : String := "ZoneNodes$Entry"
def R_Journal : String := "ZoneNodes$Journal"
def R_Message : String := "ZoneNodes$Message"
def R_Primary : String := "ZoneNodes$Primary"
def R_Records : String := "ZoneNodes$Records"
def R_Secondary : String := "ZoneNodes$Secondary"
def R_Wire : String := "ZoneNodes$Wire"
def R_ZoneNodes : String := "ZoneNodes"
def R_ZoneNodesModel : String := "ZoneNodesModel"
def R_Integer : String := "java/lang/Integer"
def R_ZoneNodesLaw : String := "ZoneNodesLaw"
def F_Draft : u_T := fun k => match k with
  | 0 => ("ZoneNodes$Draft", "needs", "[I", true)
  | 1 => ("ZoneNodes$Draft", "changes", "[I", true)
  | 2 => ("ZoneNodes$Draft", "needCount", "I", false)
  | _ => ("ZoneNodes$Draft", "changeCount", "I", false)
def t_Draft : Nat → FieldType := fun k => match k with
  | 0 => .array .int
  | 1 => .array .int
  | 2 => .int
  | _ => .int
theorem n_Draft : ∀ a, a < 4 → ∀ b, b < 4 → a ≠ b → (F_Draft a).2.1 ≠ (F_Draft b).2.1 := by decide +kernel
theorem t_Draft_ok : ∀ k, k < 4 → parseFieldDescriptor (F_Draft k).2.2.1 = some (t_Draft k) := by decide +kernel
theorem zf_Draft : ∀ j, j < 4 → defaultValue (t_Draft j) = vp_V [.null, .null, .int 0, .int 0] j := by decide +kernel
def F_Entry : u_T := fun k => match k with
  | 0 => ("ZoneNodes$Entry", "gone", "LZoneNodes$Records;", true)
  | 1 => ("ZoneNodes$Entry", "come", "LZoneNodes$Records;", true)
  | 2 => ("ZoneNodes$Entry", "oldSerial", "I", false)
  | _ => ("ZoneNodes$Entry", "marked", "Z", false)
def t_Entry : Nat → FieldType := fun k => match k with
  | 0 => .object "ZoneNodes$Records"
  | 1 => .object "ZoneNodes$Records"
  | 2 => .int
  | _ => .boolean
theorem n_Entry : ∀ a, a < 4 → ∀ b, b < 4 → a ≠ b → (F_Entry a).2.1 ≠ (F_Entry b).2.1 := by decide +kernel
theorem t_Entry_ok : ∀ k, k < 4 → parseFieldDescriptor (F_Entry k).2.2.1 = some (t_Entry k) := by decide +kernel
theorem zf_Entry : ∀ j, j < 4 → defaultValue (t_Entry j) = vp_V [.null, .null, .int 0, .int 0] j := by decide +kernel
def F_Journal : u_T := fun k => match k with
  | 0 => ("ZoneNodes$Journal", "rows", "[LZoneNodes$Entry;", true)
  | _ => ("ZoneNodes$Journal", "count", "I", false)
def t_Journal : Nat → FieldType := fun k => match k with
  | 0 => .array (.object "ZoneNodes$Entry")
  | _ => .int
theorem n_Journal : ∀ a, a < 2 → ∀ b, b < 2 → a ≠ b → (F_Journal a).2.1 ≠ (F_Journal b).2.1 := by decide +kernel
theorem t_Journal_ok : ∀ k, k < 2 → parseFieldDescriptor (F_Journal k).2.2.1 = some (t_Journal k) := by decide +kernel
theorem zf_Journal : ∀ j, j < 2 → defaultValue (t_Journal j) = vp_V [.null, .int 0] j := by decide +kernel
def F_Message : u_T := fun k => match k with
  | 0 => ("ZoneNodes$Message", "items", "[I", true)
  | 1 => ("ZoneNodes$Message", "kind", "I", false)
  | 2 => ("ZoneNodes$Message", "secondary", "I", false)
  | 3 => ("ZoneNodes$Message", "hasSerial", "Z", false)
  | 4 => ("ZoneNodes$Message", "serial", "I", false)
  | 5 => ("ZoneNodes$Message", "number", "I", false)
  | 6 => ("ZoneNodes$Message", "itemCount", "I", false)
  | 7 => ("ZoneNodes$Message", "whole", "Z", false)
  | 8 => ("ZoneNodes$Message", "last", "Z", false)
  | _ => ("ZoneNodes$Message", "altered", "Z", false)
def t_Message : Nat → FieldType := fun k => match k with
  | 0 => .array .int
  | 1 => .int
  | 2 => .int
  | 3 => .boolean
  | 4 => .int
  | 5 => .int
  | 6 => .int
  | 7 => .boolean
  | 8 => .boolean
  | _ => .boolean
theorem n_Message : ∀ a, a < 10 → ∀ b, b < 10 → a ≠ b → (F_Message a).2.1 ≠ (F_Message b).2.1 := by decide +kernel
theorem t_Message_ok : ∀ k, k < 10 → parseFieldDescriptor (F_Message k).2.2.1 = some (t_Message k) := by decide +kernel
theorem zf_Message : ∀ j, j < 10 → defaultValue (t_Message j) = vp_V [.null, .int 0, .int 0, .int 0, .int 0, .int 0, .int 0, .int 0, .int 0, .int 0] j := by decide +kernel
def F_Primary : u_T := fun k => match k with
  | 0 => ("ZoneNodes$Primary", "records", "LZoneNodes$Records;", true)
  | 1 => ("ZoneNodes$Primary", "next", "LZoneNodes$Records;", true)
  | 2 => ("ZoneNodes$Primary", "entries", "LZoneNodes$Journal;", true)
  | 3 => ("ZoneNodes$Primary", "items", "[I", true)
  | 4 => ("ZoneNodes$Primary", "itemCount", "I", false)
  | 5 => ("ZoneNodes$Primary", "itemsAreWhole", "Z", false)
  | 6 => ("ZoneNodes$Primary", "serial", "I", false)
  | 7 => ("ZoneNodes$Primary", "armed", "I", false)
  | _ => ("ZoneNodes$Primary", "up", "Z", false)
def t_Primary : Nat → FieldType := fun k => match k with
  | 0 => .object "ZoneNodes$Records"
  | 1 => .object "ZoneNodes$Records"
  | 2 => .object "ZoneNodes$Journal"
  | 3 => .array .int
  | 4 => .int
  | 5 => .boolean
  | 6 => .int
  | 7 => .int
  | _ => .boolean
theorem n_Primary : ∀ a, a < 9 → ∀ b, b < 9 → a ≠ b → (F_Primary a).2.1 ≠ (F_Primary b).2.1 := by decide +kernel
theorem t_Primary_ok : ∀ k, k < 9 → parseFieldDescriptor (F_Primary k).2.2.1 = some (t_Primary k) := by decide +kernel
theorem zf_Primary : ∀ j, j < 9 → defaultValue (t_Primary j) = vp_V [.null, .null, .null, .null, .int 0, .int 0, .int 0, .int 0, .int 0] j := by decide +kernel
def F_Records : u_T := fun k => match k with
  | _ => ("ZoneNodes$Records", "values", "[I", true)
def t_Records : Nat → FieldType := fun k => match k with
  | _ => .array .int
theorem n_Records : ∀ a, a < 1 → ∀ b, b < 1 → a ≠ b → (F_Records a).2.1 ≠ (F_Records b).2.1 := by decide +kernel
theorem t_Records_ok : ∀ k, k < 1 → parseFieldDescriptor (F_Records k).2.2.1 = some (t_Records k) := by decide +kernel
theorem zf_Records : ∀ j, j < 1 → defaultValue (t_Records j) = vp_V [.null] j := by decide +kernel
def F_Secondary : u_T := fun k => match k with
  | 0 => ("ZoneNodes$Secondary", "number", "I", true)
  | 1 => ("ZoneNodes$Secondary", "refresh", "I", true)
  | 2 => ("ZoneNodes$Secondary", "retry", "I", true)
  | 3 => ("ZoneNodes$Secondary", "expire", "I", true)
  | 4 => ("ZoneNodes$Secondary", "records", "LZoneNodes$Records;", true)
  | 5 => ("ZoneNodes$Secondary", "incoming", "LZoneNodes$Records;", true)
  | 6 => ("ZoneNodes$Secondary", "up", "Z", false)
  | 7 => ("ZoneNodes$Secondary", "hasVersion", "Z", false)
  | 8 => ("ZoneNodes$Secondary", "serial", "I", false)
  | 9 => ("ZoneNodes$Secondary", "phase", "I", false)
  | 10 => ("ZoneNodes$Secondary", "due", "I", false)
  | 11 => ("ZoneNodes$Secondary", "askedAt", "I", false)
  | _ => ("ZoneNodes$Secondary", "expiry", "I", false)
def t_Secondary : Nat → FieldType := fun k => match k with
  | 0 => .int
  | 1 => .int
  | 2 => .int
  | 3 => .int
  | 4 => .object "ZoneNodes$Records"
  | 5 => .object "ZoneNodes$Records"
  | 6 => .boolean
  | 7 => .boolean
  | 8 => .int
  | 9 => .int
  | 10 => .int
  | 11 => .int
  | _ => .int
theorem n_Secondary : ∀ a, a < 13 → ∀ b, b < 13 → a ≠ b → (F_Secondary a).2.1 ≠ (F_Secondary b).2.1 := by decide +kernel
theorem t_Secondary_ok : ∀ k, k < 13 → parseFieldDescriptor (F_Secondary k).2.2.1 = some (t_Secondary k) := by decide +kernel
theorem zf_Secondary : ∀ j, j < 13 → defaultValue (t_Secondary j) = vp_V [.int 0, .int 0, .int 0, .int 0, .null, .null, .int 0, .int 0, .int 0, .int 0, .int 0, .int 0, .int 0] j := by decide +kernel
def F_Wire : u_T := fun k => match k with
  | 0 => ("ZoneNodes$Wire", "rows", "[LZoneNodes$Message;", true)
  | _ => ("ZoneNodes$Wire", "count", "I", false)
def t_Wire : Nat → FieldType := fun k => match k with
  | 0 => .array (.object "ZoneNodes$Message")
  | _ => .int
theorem n_Wire : ∀ a, a < 2 → ∀ b, b < 2 → a ≠ b → (F_Wire a).2.1 ≠ (F_Wire b).2.1 := by decide +kernel
theorem t_Wire_ok : ∀ k, k < 2 → parseFieldDescriptor (F_Wire k).2.2.1 = some (t_Wire k) := by decide +kernel
theorem zf_Wire : ∀ j, j < 2 → defaultValue (t_Wire j) = vp_V [.null, .int 0] j := by decide +kernel
def F_ZoneNodes : u_T := fun k => match k with
  | 0 => ("ZoneNodes", "secrets", "[I", true)
  | 1 => ("ZoneNodes", "hasSecret", "[Z", true)
  | 2 => ("ZoneNodes", "draft", "LZoneNodes$Draft;", true)
  | 3 => ("ZoneNodes", "wire", "LZoneNodes$Wire;", true)
  | 4 => ("ZoneNodes", "primary", "LZoneNodes$Primary;", true)
  | 5 => ("ZoneNodes", "secondaries", "[LZoneNodes$Secondary;", true)
  | _ => ("ZoneNodes", "clock", "I", false)
def t_ZoneNodes : Nat → FieldType := fun k => match k with
  | 0 => .array .int
  | 1 => .array .boolean
  | 2 => .object "ZoneNodes$Draft"
  | 3 => .object "ZoneNodes$Wire"
  | 4 => .object "ZoneNodes$Primary"
  | 5 => .array (.object "ZoneNodes$Secondary")
  | _ => .int
theorem n_ZoneNodes : ∀ a, a < 7 → ∀ b, b < 7 → a ≠ b → (F_ZoneNodes a).2.1 ≠ (F_ZoneNodes b).2.1 := by decide +kernel
theorem t_ZoneNodes_ok : ∀ k, k < 7 → parseFieldDescriptor (F_ZoneNodes k).2.2.1 = some (t_ZoneNodes k) := by decide +kernel
theorem zf_ZoneNodes : ∀ j, j < 7 → defaultValue (t_ZoneNodes j) = vp_V [.null, .null, .null, .null, .null, .null, .int 0] j := by decide +kernel
def F_ZoneNodesModel : u_T := fun k => match k with
  | 0 => ("ZoneNodesModel", "refresh", "I", true)
  | 1 => ("ZoneNodesModel", "retry", "I", true)
  | 2 => ("ZoneNodesModel", "expire", "I", true)
  | 3 => ("ZoneNodesModel", "clock", "I", false)
  | 4 => ("ZoneNodesModel", "up", "[Z", true)
  | 5 => ("ZoneNodesModel", "known", "[Z", true)
  | 6 => ("ZoneNodesModel", "serials", "[I", true)
  | 7 => ("ZoneNodesModel", "held", "[Z", true)
  | 8 => ("ZoneNodesModel", "coming", "[Z", true)
  | 9 => ("ZoneNodesModel", "states", "[I", true)
  | 10 => ("ZoneNodesModel", "moment", "[I", true)
  | 11 => ("ZoneNodesModel", "expiry", "[I", true)
  | 12 => ("ZoneNodesModel", "keyed", "[Z", true)
  | 13 => ("ZoneNodesModel", "secrets", "[I", true)
  | 14 => ("ZoneNodesModel", "needs", "I", false)
  | 15 => ("ZoneNodesModel", "changes", "I", false)
  | 16 => ("ZoneNodesModel", "draft", "[I", true)
  | 17 => ("ZoneNodesModel", "armed", "I", false)
  | 18 => ("ZoneNodesModel", "entries", "I", false)
  | 19 => ("ZoneNodesModel", "oldSerial", "[I", true)
  | 20 => ("ZoneNodesModel", "marked", "[Z", true)
  | 21 => ("ZoneNodesModel", "after", "[Z", true)
  | 22 => ("ZoneNodesModel", "differing", "[I", true)
  | 23 => ("ZoneNodesModel", "work", "[Z", true)
  | 24 => ("ZoneNodesModel", "many", "I", false)
  | 25 => ("ZoneNodesModel", "kind", "[I", true)
  | 26 => ("ZoneNodesModel", "whose", "[I", true)
  | 27 => ("ZoneNodesModel", "told", "[I", true)
  | 28 => ("ZoneNodesModel", "number", "[I", true)
  | 29 => ("ZoneNodesModel", "items", "[I", true)
  | 30 => ("ZoneNodesModel", "flag", "[Z", true)
  | _ => ("ZoneNodesModel", "last", "[Z", true)
def t_ZoneNodesModel : Nat → FieldType := fun k => match k with
  | 0 => .int
  | 1 => .int
  | 2 => .int
  | 3 => .int
  | 4 => .array .boolean
  | 5 => .array .boolean
  | 6 => .array .int
  | 7 => .array .boolean
  | 8 => .array .boolean
  | 9 => .array .int
  | 10 => .array .int
  | 11 => .array .int
  | 12 => .array .boolean
  | 13 => .array .int
  | 14 => .int
  | 15 => .int
  | 16 => .array .int
  | 17 => .int
  | 18 => .int
  | 19 => .array .int
  | 20 => .array .boolean
  | 21 => .array .boolean
  | 22 => .array .int
  | 23 => .array .boolean
  | 24 => .int
  | 25 => .array .int
  | 26 => .array .int
  | 27 => .array .int
  | 28 => .array .int
  | 29 => .array .int
  | 30 => .array .boolean
  | _ => .array .boolean
theorem n_ZoneNodesModel : ∀ a, a < 32 → ∀ b, b < 32 → a ≠ b → (F_ZoneNodesModel a).2.1 ≠ (F_ZoneNodesModel b).2.1 := by decide +kernel
theorem t_ZoneNodesModel_ok : ∀ k, k < 32 → parseFieldDescriptor (F_ZoneNodesModel k).2.2.1 = some (t_ZoneNodesModel k) := by decide +kernel
theorem zf_ZoneNodesModel : ∀ j, j < 32 → defaultValue (t_ZoneNodesModel j) = vp_V [.int 0, .int 0, .int 0, .int 0, .null, .null, .null, .null, .null, .null, .null, .null, .null, .null, .int 0, .int 0, .null, .int 0, .int 0, .null, .null, .null, .null, .null, .int 0, .null, .null, .null, .null, .null, .null, .null] j := by decide +kernel
abbrev b_ZoneNodes_within : ByteArray := prog_1_method_22_code
def y_ZoneNodes_within : MethodName := ⟨R_ZoneNodes, "within", "(III)Z"⟩
abbrev b_Draft_init : ByteArray := prog_2_method_1_code
def y_Draft_init : MethodName := ⟨R_Draft, "<init>", "()V"⟩
abbrev b_Records_init : ByteArray := prog_7_method_1_code
def y_Records_init : MethodName := ⟨R_Records, "<init>", "()V"⟩
abbrev b_Entry_init : ByteArray := prog_3_method_1_code
def y_Entry_init : MethodName := ⟨R_Entry, "<init>", "()V"⟩
abbrev b_Journal_init : ByteArray := prog_4_method_1_code
def y_Journal_init : MethodName := ⟨R_Journal, "<init>", "()V"⟩
abbrev b_Records_setValues : ByteArray := prog_7_method_3_code
def y_Records_setValues : MethodName := ⟨R_Records, "setValues", "(III)V"⟩
abbrev b_Records_valuesOf : ByteArray := prog_7_method_2_code
def y_Records_valuesOf : MethodName := ⟨R_Records, "valuesOf", "(II)I"⟩
abbrev b_Records_put : ByteArray := prog_7_method_14_code
def y_Records_put : MethodName := ⟨R_Records, "put", "(III)V"⟩
abbrev b_Primary_init : ByteArray := prog_6_method_1_code
def y_Primary_init : MethodName := ⟨R_Primary, "<init>", "(I)V"⟩
abbrev b_Secondary_rest : ByteArray := prog_8_method_12_code
def y_Secondary_rest : MethodName := ⟨R_Secondary, "rest", "(I)V"⟩
abbrev b_Secondary_comeUp : ByteArray := prog_8_method_2_code
def y_Secondary_comeUp : MethodName := ⟨R_Secondary, "comeUp", "(I)V"⟩
abbrev b_Secondary_init : ByteArray := prog_8_method_1_code
def y_Secondary_init : MethodName := ⟨R_Secondary, "<init>", "(IIII)V"⟩
abbrev b_Message_init : ByteArray := prog_5_method_1_code
def y_Message_init : MethodName := ⟨R_Message, "<init>", "()V"⟩
abbrev b_Wire_init : ByteArray := prog_9_method_1_code
def y_Wire_init : MethodName := ⟨R_Wire, "<init>", "()V"⟩
abbrev b_ZoneNodes_init : ByteArray := prog_1_method_1_code
def y_ZoneNodes_init : MethodName := ⟨R_ZoneNodes, "<init>", "(IIII)V"⟩
abbrev b_Wire_at : ByteArray := prog_9_method_2_code
def y_Wire_at : MethodName := ⟨R_Wire, "at", "(I)LZoneNodes$Message;"⟩
abbrev b_ZoneNodes_alter : ByteArray := prog_1_method_11_code
def y_ZoneNodes_alter : MethodName := ⟨R_ZoneNodes, "alter", "(I)Z"⟩
abbrev b_ZoneNodes_arm : ByteArray := prog_1_method_7_code
def y_ZoneNodes_arm : MethodName := ⟨R_ZoneNodes, "arm", "(I)Z"⟩
abbrev b_Journal_leadsTo : ByteArray := prog_4_method_8_code
def y_Journal_leadsTo : MethodName := ⟨R_Journal, "leadsTo", "(II)Z"⟩
abbrev b_Journal_startOfWay : ByteArray := prog_4_method_7_code
def y_Journal_startOfWay : MethodName := ⟨R_Journal, "startOfWay", "(II)I"⟩
abbrev b_ZoneNodes_coded : ByteArray := prog_1_method_25_code
def y_ZoneNodes_coded : MethodName := ⟨R_ZoneNodes, "coded", "(IIII)I"⟩
abbrev b_Records_listInto : ByteArray := prog_7_method_20_code
def y_Records_listInto : MethodName := ⟨R_Records, "listInto", "([III)I"⟩
abbrev b_Primary_workOutItems : ByteArray := prog_6_method_6_code
def y_Primary_workOutItems : MethodName := ⟨R_Primary, "workOutItems", "(ZI)V"⟩
abbrev b_Message_isOnStream : ByteArray := prog_5_method_2_code
def y_Message_isOnStream : MethodName := ⟨R_Message, "isOnStream", "()Z"⟩
abbrev b_Wire_countLossy : ByteArray := prog_9_method_7_code
def y_Wire_countLossy : MethodName := ⟨R_Wire, "countLossy", "()I"⟩
abbrev b_Wire_put : ByteArray := prog_9_method_10_code
def y_Wire_put : MethodName := ⟨R_Wire, "put", "(III)LZoneNodes$Message;"⟩
abbrev b_Wire_sendLossy : ByteArray := prog_9_method_6_code
def y_Wire_sendLossy : MethodName := ⟨R_Wire, "sendLossy", "(III)V"⟩
abbrev b_Wire_sendParts : ByteArray := prog_9_method_9_code
def y_Wire_sendParts : MethodName := ⟨R_Wire, "sendParts", "(ILZoneNodes$Primary;)V"⟩
abbrev b_ZoneNodes_arriveAtPrimary : ByteArray := prog_1_method_38_code
def y_ZoneNodes_arriveAtPrimary : MethodName := ⟨R_ZoneNodes, "arriveAtPrimary", "(LZoneNodes$Message;)V"⟩
abbrev b_Secondary_ask : ByteArray := prog_8_method_10_code
def y_Secondary_ask : MethodName := ⟨R_Secondary, "ask", "(ILZoneNodes$Wire;)V"⟩
abbrev b_ZoneNodes_isLater : ByteArray := prog_1_method_30_code
def y_ZoneNodes_isLater : MethodName := ⟨R_ZoneNodes, "isLater", "(II)Z"⟩
abbrev b_Secondary_lacks : ByteArray := prog_8_method_11_code
def y_Secondary_lacks : MethodName := ⟨R_Secondary, "lacks", "(I)Z"⟩
abbrev b_Secondary_hearNotify : ByteArray := prog_8_method_5_code
def y_Secondary_hearNotify : MethodName := ⟨R_Secondary, "hearNotify", "(IILZoneNodes$Wire;)V"⟩
abbrev b_Secondary_becomeRefreshed : ByteArray := prog_8_method_13_code
def y_Secondary_becomeRefreshed : MethodName := ⟨R_Secondary, "becomeRefreshed", "(I)V"⟩
abbrev b_Wire_sendFetch : ByteArray := prog_9_method_8_code
def y_Wire_sendFetch : MethodName := ⟨R_Wire, "sendFetch", "(IZI)V"⟩
abbrev b_Secondary_hearTell : ByteArray := prog_8_method_6_code
def y_Secondary_hearTell : MethodName := ⟨R_Secondary, "hearTell", "(IZILZoneNodes$Wire;)V"⟩
abbrev b_Secondary_loseStream : ByteArray := prog_8_method_7_code
def y_Secondary_loseStream : MethodName := ⟨R_Secondary, "loseStream", "(I)V"⟩
abbrev b_Records_copyFrom : ByteArray := prog_7_method_11_code
def y_Records_copyFrom : MethodName := ⟨R_Records, "copyFrom", "(LZoneNodes$Records;)V"⟩
abbrev b_ZoneNodes_formOf : ByteArray := prog_1_method_26_code
def y_ZoneNodes_formOf : MethodName := ⟨R_ZoneNodes, "formOf", "(I)I"⟩
abbrev b_ZoneNodes_nameOf : ByteArray := prog_1_method_27_code
def y_ZoneNodes_nameOf : MethodName := ⟨R_ZoneNodes, "nameOf", "(I)I"⟩
abbrev b_ZoneNodes_typeOf : ByteArray := prog_1_method_28_code
def y_ZoneNodes_typeOf : MethodName := ⟨R_ZoneNodes, "typeOf", "(I)I"⟩
abbrev b_ZoneNodes_valueOf : ByteArray := prog_1_method_29_code
def y_ZoneNodes_valueOf : MethodName := ⟨R_ZoneNodes, "valueOf", "(I)I"⟩
abbrev b_Records_takeAway : ByteArray := prog_7_method_15_code
def y_Records_takeAway : MethodName := ⟨R_Records, "takeAway", "(III)V"⟩
abbrev b_Records_takeItem : ByteArray := prog_7_method_21_code
def y_Records_takeItem : MethodName := ⟨R_Records, "takeItem", "(I)V"⟩
abbrev b_Records_empty : ByteArray := prog_7_method_10_code
def y_Records_empty : MethodName := ⟨R_Records, "empty", "()V"⟩
abbrev b_Secondary_beginIncoming : ByteArray := prog_8_method_9_code
def y_Secondary_beginIncoming : MethodName := ⟨R_Secondary, "beginIncoming", "(Z)V"⟩
abbrev b_Secondary_takePart : ByteArray := prog_8_method_8_code
def y_Secondary_takePart : MethodName := ⟨R_Secondary, "takePart", "(LZoneNodes$Message;I)V"⟩
abbrev b_Wire_takeOut : ByteArray := prog_9_method_4_code
def y_Wire_takeOut : MethodName := ⟨R_Wire, "takeOut", "(I)V"⟩
abbrev b_Wire_endStreamOf : ByteArray := prog_9_method_5_code
def y_Wire_endStreamOf : MethodName := ⟨R_Wire, "endStreamOf", "(I)V"⟩
abbrev b_ZoneNodes_arriveAtSecondary : ByteArray := prog_1_method_39_code
def y_ZoneNodes_arriveAtSecondary : MethodName := ⟨R_ZoneNodes, "arriveAtSecondary", "(LZoneNodes$Message;LZoneNodes$Secondary;)V"⟩
abbrev b_ZoneNodes_isRecord : ByteArray := prog_1_method_23_code
def y_ZoneNodes_isRecord : MethodName := ⟨R_ZoneNodes, "isRecord", "(III)Z"⟩
abbrev b_Draft_addChange : ByteArray := prog_2_method_3_code
def y_Draft_addChange : MethodName := ⟨R_Draft, "addChange", "(I)Z"⟩
abbrev b_ZoneNodes_change : ByteArray := prog_1_method_4_code
def y_ZoneNodes_change : MethodName := ⟨R_ZoneNodes, "change", "(IIII)Z"⟩
abbrev b_ZoneNodes_isNode : ByteArray := prog_1_method_24_code
def y_ZoneNodes_isNode : MethodName := ⟨R_ZoneNodes, "isNode", "(I)Z"⟩
abbrev b_ZoneNodes_isUp : ByteArray := prog_1_method_32_code
def y_ZoneNodes_isUp : MethodName := ⟨R_ZoneNodes, "isUp", "(I)Z"⟩
abbrev b_ZoneNodes_takePrimaryDown : ByteArray := prog_1_method_37_code
def y_ZoneNodes_takePrimaryDown : MethodName := ⟨R_ZoneNodes, "takePrimaryDown", "()V"⟩
abbrev b_ZoneNodes_crash : ByteArray := prog_1_method_12_code
def y_ZoneNodes_crash : MethodName := ⟨R_ZoneNodes, "crash", "(I)Z"⟩
abbrev b_Wire_isBehindAnotherPart : ByteArray := prog_9_method_3_code
def y_Wire_isBehindAnotherPart : MethodName := ⟨R_Wire, "isBehindAnotherPart", "(I)Z"⟩
abbrev b_ZoneNodes_deliver : ByteArray := prog_1_method_9_code
def y_ZoneNodes_deliver : MethodName := ⟨R_ZoneNodes, "deliver", "(I)Z"⟩
abbrev b_ZoneNodes_drop : ByteArray := prog_1_method_10_code
def y_ZoneNodes_drop : MethodName := ⟨R_ZoneNodes, "drop", "(I)Z"⟩
abbrev b_ZoneNodes_recordsOf : ByteArray := prog_1_method_33_code
def y_ZoneNodes_recordsOf : MethodName := ⟨R_ZoneNodes, "recordsOf", "(I)LZoneNodes$Records;"⟩
abbrev b_Records_contains : ByteArray := prog_7_method_4_code
def y_Records_contains : MethodName := ⟨R_Records, "contains", "(III)Z"⟩
abbrev b_ZoneNodes_has : ByteArray := prog_1_method_18_code
def y_ZoneNodes_has : MethodName := ⟨R_ZoneNodes, "has", "(IIII)Z"⟩
abbrev b_ZoneNodes_journal : ByteArray := prog_1_method_21_code
def y_ZoneNodes_journal : MethodName := ⟨R_ZoneNodes, "journal", "()I"⟩
abbrev b_ZoneNodes_key : ByteArray := prog_1_method_2_code
def y_ZoneNodes_key : MethodName := ⟨R_ZoneNodes, "key", "(II)Z"⟩
abbrev b_ZoneNodes_knowsKey : ByteArray := prog_1_method_31_code
def y_ZoneNodes_knowsKey : MethodName := ⟨R_ZoneNodes, "knowsKey", "(I)Z"⟩
abbrev b_Records_aliasOf : ByteArray := prog_7_method_7_code
def y_Records_aliasOf : MethodName := ⟨R_Records, "aliasOf", "(I)I"⟩
abbrev b_Records_hasOtherThanAlias : ByteArray := prog_7_method_6_code
def y_Records_hasOtherThanAlias : MethodName := ⟨R_Records, "hasOtherThanAlias", "(I)Z"⟩
abbrev b_Records_isUsed : ByteArray := prog_7_method_5_code
def y_Records_isUsed : MethodName := ⟨R_Records, "isUsed", "(I)Z"⟩
abbrev b_Integer_bitCount : ByteArray := prog_12_method_49_code
def y_Integer_bitCount : MethodName := ⟨R_Integer, "bitCount", "(I)I"⟩
abbrev b_ZoneNodes_lookUp : ByteArray := prog_1_method_40_code
def y_ZoneNodes_lookUp : MethodName := ⟨R_ZoneNodes, "lookUp", "(LZoneNodes$Records;II)I"⟩
abbrev b_ZoneNodes_notifySecondaries : ByteArray := prog_1_method_36_code
def y_ZoneNodes_notifySecondaries : MethodName := ⟨R_ZoneNodes, "notifySecondaries", "()V"⟩
abbrev b_Records_addIfAllowed : ByteArray := prog_7_method_17_code
def y_Records_addIfAllowed : MethodName := ⟨R_Records, "addIfAllowed", "(III)V"⟩
abbrev b_Records_clearIfAllowed : ByteArray := prog_7_method_18_code
def y_Records_clearIfAllowed : MethodName := ⟨R_Records, "clearIfAllowed", "(II)V"⟩
abbrev b_Records_removeIfAllowed : ByteArray := prog_7_method_19_code
def y_Records_removeIfAllowed : MethodName := ⟨R_Records, "removeIfAllowed", "(III)V"⟩
abbrev b_Records_makeChange : ByteArray := prog_7_method_16_code
def y_Records_makeChange : MethodName := ⟨R_Records, "makeChange", "(I)V"⟩
abbrev b_Draft_changeRecords : ByteArray := prog_2_method_10_code
def y_Draft_changeRecords : MethodName := ⟨R_Draft, "changeRecords", "(LZoneNodes$Records;)V"⟩
abbrev b_Records_becomeDifference : ByteArray := prog_7_method_12_code
def y_Records_becomeDifference : MethodName := ⟨R_Records, "becomeDifference", "(LZoneNodes$Records;LZoneNodes$Records;)V"⟩
abbrev b_Journal_append : ByteArray := prog_4_method_3_code
def y_Journal_append : MethodName := ⟨R_Journal, "append", "(ILZoneNodes$Records;LZoneNodes$Records;)V"⟩
abbrev b_Journal_markLatest : ByteArray := prog_4_method_5_code
def y_Journal_markLatest : MethodName := ⟨R_Journal, "markLatest", "()V"⟩
abbrev b_Journal_keepLatest : ByteArray := prog_4_method_6_code
def y_Journal_keepLatest : MethodName := ⟨R_Journal, "keepLatest", "()V"⟩
abbrev b_Journal_latest : ByteArray := prog_4_method_2_code
def y_Journal_latest : MethodName := ⟨R_Journal, "latest", "()LZoneNodes$Entry;"⟩
abbrev b_Records_exchange : ByteArray := prog_7_method_13_code
def y_Records_exchange : MethodName := ⟨R_Records, "exchange", "(LZoneNodes$Records;LZoneNodes$Records;)V"⟩
abbrev b_Primary_becomeLatest : ByteArray := prog_6_method_4_code
def y_Primary_becomeLatest : MethodName := ⟨R_Primary, "becomeLatest", "()V"⟩
abbrev b_Primary_takeStep : ByteArray := prog_6_method_3_code
def y_Primary_takeStep : MethodName := ⟨R_Primary, "takeStep", "(I)V"⟩
abbrev b_Primary_writeNext : ByteArray := prog_6_method_2_code
def y_Primary_writeNext : MethodName := ⟨R_Primary, "writeNext", "()Z"⟩
abbrev b_Records_sameAs : ByteArray := prog_7_method_9_code
def y_Records_sameAs : MethodName := ⟨R_Records, "sameAs", "(LZoneNodes$Records;)Z"⟩
abbrev b_Records_total : ByteArray := prog_7_method_8_code
def y_Records_total : MethodName := ⟨R_Records, "total", "()I"⟩
abbrev b_ZoneNodes_makeChanges : ByteArray := prog_1_method_35_code
def y_ZoneNodes_makeChanges : MethodName := ⟨R_ZoneNodes, "makeChanges", "()I"⟩
abbrev b_ZoneNodes_message : ByteArray := prog_1_method_15_code
def y_ZoneNodes_message : MethodName := ⟨R_ZoneNodes, "message", "(I)I"⟩
abbrev b_ZoneNodes_messages : ByteArray := prog_1_method_14_code
def y_ZoneNodes_messages : MethodName := ⟨R_ZoneNodes, "messages", "()I"⟩
abbrev b_Draft_addNeed : ByteArray := prog_2_method_2_code
def y_Draft_addNeed : MethodName := ⟨R_Draft, "addNeed", "(I)Z"⟩
abbrev b_ZoneNodes_need : ByteArray := prog_1_method_3_code
def y_ZoneNodes_need : MethodName := ⟨R_ZoneNodes, "need", "(IIII)Z"⟩
abbrev b_Secondary_isExpired : ByteArray := prog_8_method_3_code
def y_Secondary_isExpired : MethodName := ⟨R_Secondary, "isExpired", "(I)Z"⟩
abbrev b_ZoneNodes_query : ByteArray := prog_1_method_19_code
def y_ZoneNodes_query : MethodName := ⟨R_ZoneNodes, "query", "(III)I"⟩
abbrev b_Draft_mixed : ByteArray := prog_2_method_6_code
def y_Draft_mixed : MethodName := ⟨R_Draft, "mixed", "(II)I"⟩
abbrev b_Draft_sealWith : ByteArray := prog_2_method_5_code
def y_Draft_sealWith : MethodName := ⟨R_Draft, "sealWith", "(II)I"⟩
abbrev b_Draft_answerTo : ByteArray := prog_2_method_8_code
def y_Draft_answerTo : MethodName := ⟨R_Draft, "answerTo", "(ILZoneNodes$Records;)I"⟩
abbrev b_Draft_isExact : ByteArray := prog_2_method_9_code
def y_Draft_isExact : MethodName := ⟨R_Draft, "isExact", "(ILZoneNodes$Records;)Z"⟩
abbrev b_Draft_unmetNeed : ByteArray := prog_2_method_7_code
def y_Draft_unmetNeed : MethodName := ⟨R_Draft, "unmetNeed", "(LZoneNodes$Records;)I"⟩
abbrev b_ZoneNodes_refusal : ByteArray := prog_1_method_34_code
def y_ZoneNodes_refusal : MethodName := ⟨R_ZoneNodes, "refusal", "(III)I"⟩
abbrev b_Journal_dropLatest : ByteArray := prog_4_method_4_code
def y_Journal_dropLatest : MethodName := ⟨R_Journal, "dropLatest", "()V"⟩
abbrev b_Primary_comeUp : ByteArray := prog_6_method_5_code
def y_Primary_comeUp : MethodName := ⟨R_Primary, "comeUp", "()V"⟩
abbrev b_ZoneNodes_restart : ByteArray := prog_1_method_13_code
def y_ZoneNodes_restart : MethodName := ⟨R_ZoneNodes, "restart", "(I)Z"⟩
abbrev b_ZoneNodes_seal : ByteArray := prog_1_method_5_code
def y_ZoneNodes_seal : MethodName := ⟨R_ZoneNodes, "seal", "(II)I"⟩
abbrev b_ZoneNodes_serial : ByteArray := prog_1_method_16_code
def y_ZoneNodes_serial : MethodName := ⟨R_ZoneNodes, "serial", "(I)I"⟩
abbrev b_ZoneNodes_size : ByteArray := prog_1_method_17_code
def y_ZoneNodes_size : MethodName := ⟨R_ZoneNodes, "size", "(I)I"⟩
abbrev b_ZoneNodes_state : ByteArray := prog_1_method_20_code
def y_ZoneNodes_state : MethodName := ⟨R_ZoneNodes, "state", "(I)I"⟩
abbrev b_Secondary_askIfTimeHasCome : ByteArray := prog_8_method_4_code
def y_Secondary_askIfTimeHasCome : MethodName := ⟨R_Secondary, "askIfTimeHasCome", "(ILZoneNodes$Wire;)V"⟩
abbrev b_ZoneNodes_tick : ByteArray := prog_1_method_8_code
def y_ZoneNodes_tick : MethodName := ⟨R_ZoneNodes, "tick", "(I)Z"⟩
abbrev b_Draft_empty : ByteArray := prog_2_method_4_code
def y_Draft_empty : MethodName := ⟨R_Draft, "empty", "()V"⟩
abbrev b_ZoneNodes_update : ByteArray := prog_1_method_6_code
def y_ZoneNodes_update : MethodName := ⟨R_ZoneNodes, "update", "(III)I"⟩
abbrev b_ZoneNodesModel_place : ByteArray := prog_11_method_2_code
def y_ZoneNodesModel_place : MethodName := ⟨R_ZoneNodesModel, "place", "(III)I"⟩
abbrev b_ZoneNodesModel_rest : ByteArray := prog_11_method_5_code
def y_ZoneNodesModel_rest : MethodName := ⟨R_ZoneNodesModel, "rest", "(II)V"⟩
abbrev b_ZoneNodesModel_init : ByteArray := prog_11_method_1_code
def y_ZoneNodesModel_init : MethodName := ⟨R_ZoneNodesModel, "<init>", "(IIII)V"⟩
abbrev b_ZoneNodesModel_isMessage : ByteArray := prog_11_method_31_code
def y_ZoneNodesModel_isMessage : MethodName := ⟨R_ZoneNodesModel, "isMessage", "(I)Z"⟩
abbrev b_ZoneNodesModel_alter : ByteArray := prog_11_method_33_code
def y_ZoneNodesModel_alter : MethodName := ⟨R_ZoneNodesModel, "alter", "(I)Z"⟩
abbrev b_ZoneNodesModel_arm : ByteArray := prog_11_method_26_code
def y_ZoneNodesModel_arm : MethodName := ⟨R_ZoneNodesModel, "arm", "(I)Z"⟩
abbrev b_ZoneNodesModel_isRecord : ByteArray := prog_11_method_3_code
def y_ZoneNodesModel_isRecord : MethodName := ⟨R_ZoneNodesModel, "isRecord", "(III)Z"⟩
abbrev b_ZoneNodesModel_say : ByteArray := prog_11_method_8_code
def y_ZoneNodesModel_say : MethodName := ⟨R_ZoneNodesModel, "say", "(IIIII)V"⟩
abbrev b_ZoneNodesModel_change : ByteArray := prog_11_method_10_code
def y_ZoneNodesModel_change : MethodName := ⟨R_ZoneNodesModel, "change", "(IIII)Z"⟩
abbrev b_ZoneNodesModel_remove : ByteArray := prog_11_method_29_code
def y_ZoneNodesModel_remove : MethodName := ⟨R_ZoneNodesModel, "remove", "(I)V"⟩
abbrev b_ZoneNodesModel_cutOff : ByteArray := prog_11_method_30_code
def y_ZoneNodesModel_cutOff : MethodName := ⟨R_ZoneNodesModel, "cutOff", "(I)V"⟩
abbrev b_ZoneNodesModel_isNode : ByteArray := prog_11_method_4_code
def y_ZoneNodesModel_isNode : MethodName := ⟨R_ZoneNodesModel, "isNode", "(I)Z"⟩
abbrev b_ZoneNodesModel_crash : ByteArray := prog_11_method_42_code
def y_ZoneNodesModel_crash : MethodName := ⟨R_ZoneNodesModel, "crash", "(I)Z"⟩
abbrev b_ZoneNodesModel_append : ByteArray := prog_11_method_27_code
def y_ZoneNodesModel_append : MethodName := ⟨R_ZoneNodesModel, "append", "(IIIIIZZ)V"⟩
abbrev b_ZoneNodesModel_send : ByteArray := prog_11_method_28_code
def y_ZoneNodesModel_send : MethodName := ⟨R_ZoneNodesModel, "send", "(III)V"⟩
abbrev b_ZoneNodesModel_ask : ByteArray := prog_11_method_34_code
def y_ZoneNodesModel_ask : MethodName := ⟨R_ZoneNodesModel, "ask", "(I)V"⟩
abbrev b_ZoneNodesModel_isNews : ByteArray := prog_11_method_35_code
def y_ZoneNodesModel_isNews : MethodName := ⟨R_ZoneNodesModel, "isNews", "(II)Z"⟩
abbrev b_ZoneNodesModel_itemsFor : ByteArray := prog_11_method_37_code
def y_ZoneNodesModel_itemsFor : MethodName := ⟨R_ZoneNodesModel, "itemsFor", "(ZI)I"⟩
abbrev b_ZoneNodesModel_takeFetch : ByteArray := prog_11_method_38_code
def y_ZoneNodesModel_takeFetch : MethodName := ⟨R_ZoneNodesModel, "takeFetch", "(IZI)V"⟩
abbrev b_ZoneNodesModel_refreshed : ByteArray := prog_11_method_6_code
def y_ZoneNodesModel_refreshed : MethodName := ⟨R_ZoneNodesModel, "refreshed", "(I)V"⟩
abbrev b_ZoneNodesModel_takePart : ByteArray := prog_11_method_39_code
def y_ZoneNodesModel_takePart : MethodName := ⟨R_ZoneNodesModel, "takePart", "(IIZZ)V"⟩
abbrev b_ZoneNodesModel_takeTell : ByteArray := prog_11_method_36_code
def y_ZoneNodesModel_takeTell : MethodName := ⟨R_ZoneNodesModel, "takeTell", "(II)V"⟩
abbrev b_ZoneNodesModel_deliver : ByteArray := prog_11_method_40_code
def y_ZoneNodesModel_deliver : MethodName := ⟨R_ZoneNodesModel, "deliver", "(I)Z"⟩
abbrev b_ZoneNodesModel_drop : ByteArray := prog_11_method_32_code
def y_ZoneNodesModel_drop : MethodName := ⟨R_ZoneNodesModel, "drop", "(I)Z"⟩
abbrev b_ZoneNodesModel_has : ByteArray := prog_11_method_48_code
def y_ZoneNodesModel_has : MethodName := ⟨R_ZoneNodesModel, "has", "(IIII)Z"⟩
abbrev b_ZoneNodesModel_journal : ByteArray := prog_11_method_52_code
def y_ZoneNodesModel_journal : MethodName := ⟨R_ZoneNodesModel, "journal", "()I"⟩
abbrev b_ZoneNodesModel_key : ByteArray := prog_11_method_7_code
def y_ZoneNodesModel_key : MethodName := ⟨R_ZoneNodesModel, "key", "(II)Z"⟩
abbrev b_ZoneNodesModel_message : ByteArray := prog_11_method_45_code
def y_ZoneNodesModel_message : MethodName := ⟨R_ZoneNodesModel, "message", "(I)I"⟩
abbrev b_ZoneNodesModel_messages : ByteArray := prog_11_method_44_code
def y_ZoneNodesModel_messages : MethodName := ⟨R_ZoneNodesModel, "messages", "()I"⟩
abbrev b_ZoneNodesModel_need : ByteArray := prog_11_method_9_code
def y_ZoneNodesModel_need : MethodName := ⟨R_ZoneNodesModel, "need", "(IIII)Z"⟩
abbrev b_ZoneNodesModel_shown : ByteArray := prog_11_method_49_code
def y_ZoneNodesModel_shown : MethodName := ⟨R_ZoneNodesModel, "shown", "(IIII)I"⟩
abbrev b_ZoneNodesModel_query : ByteArray := prog_11_method_50_code
def y_ZoneNodesModel_query : MethodName := ⟨R_ZoneNodesModel, "query", "(III)I"⟩
abbrev b_ZoneNodesModel_notifyBoth : ByteArray := prog_11_method_25_code
def y_ZoneNodesModel_notifyBoth : MethodName := ⟨R_ZoneNodesModel, "notifyBoth", "()V"⟩
abbrev b_ZoneNodesModel_install : ByteArray := prog_11_method_24_code
def y_ZoneNodesModel_install : MethodName := ⟨R_ZoneNodesModel, "install", "()V"⟩
abbrev b_ZoneNodesModel_restart : ByteArray := prog_11_method_43_code
def y_ZoneNodesModel_restart : MethodName := ⟨R_ZoneNodesModel, "restart", "(I)Z"⟩
abbrev b_ZoneNodesModel_line : ByteArray := prog_11_method_12_code
def y_ZoneNodesModel_line : MethodName := ⟨R_ZoneNodesModel, "line", "(I)I"⟩
abbrev b_ZoneNodesModel_mixed : ByteArray := prog_11_method_11_code
def y_ZoneNodesModel_mixed : MethodName := ⟨R_ZoneNodesModel, "mixed", "(II)I"⟩
abbrev b_ZoneNodesModel_sealed : ByteArray := prog_11_method_13_code
def y_ZoneNodesModel_sealed : MethodName := ⟨R_ZoneNodesModel, "sealed", "(II)I"⟩
abbrev b_ZoneNodesModel_seal : ByteArray := prog_11_method_14_code
def y_ZoneNodesModel_seal : MethodName := ⟨R_ZoneNodesModel, "seal", "(II)I"⟩
abbrev b_ZoneNodesModel_serial : ByteArray := prog_11_method_46_code
def y_ZoneNodesModel_serial : MethodName := ⟨R_ZoneNodesModel, "serial", "(I)I"⟩
abbrev b_ZoneNodesModel_size : ByteArray := prog_11_method_47_code
def y_ZoneNodesModel_size : MethodName := ⟨R_ZoneNodesModel, "size", "(I)I"⟩
abbrev b_ZoneNodesModel_state : ByteArray := prog_11_method_51_code
def y_ZoneNodesModel_state : MethodName := ⟨R_ZoneNodesModel, "state", "(I)I"⟩
abbrev b_ZoneNodesModel_tick : ByteArray := prog_11_method_41_code
def y_ZoneNodesModel_tick : MethodName := ⟨R_ZoneNodesModel, "tick", "(I)Z"⟩
abbrev b_ZoneNodesModel_works : ByteArray := prog_11_method_19_code
def y_ZoneNodesModel_works : MethodName := ⟨R_ZoneNodesModel, "works", "(II)I"⟩
abbrev b_ZoneNodesModel_add : ByteArray := prog_11_method_20_code
def y_ZoneNodesModel_add : MethodName := ⟨R_ZoneNodesModel, "add", "(III)V"⟩
abbrev b_ZoneNodesModel_perform : ByteArray := prog_11_method_21_code
def y_ZoneNodesModel_perform : MethodName := ⟨R_ZoneNodesModel, "perform", "(I)V"⟩
abbrev b_ZoneNodesModel_exact : ByteArray := prog_11_method_17_code
def y_ZoneNodesModel_exact : MethodName := ⟨R_ZoneNodesModel, "exact", "(I)Z"⟩
abbrev b_ZoneNodesModel_count : ByteArray := prog_11_method_15_code
def y_ZoneNodesModel_count : MethodName := ⟨R_ZoneNodesModel, "count", "(II)I"⟩
abbrev b_ZoneNodesModel_meets : ByteArray := prog_11_method_16_code
def y_ZoneNodesModel_meets : MethodName := ⟨R_ZoneNodesModel, "meets", "(I)Z"⟩
abbrev b_ZoneNodesModel_refusal : ByteArray := prog_11_method_18_code
def y_ZoneNodesModel_refusal : MethodName := ⟨R_ZoneNodesModel, "refusal", "(III)I"⟩
abbrev b_ZoneNodesModel_write : ByteArray := prog_11_method_23_code
def y_ZoneNodesModel_write : MethodName := ⟨R_ZoneNodesModel, "write", "()I"⟩
abbrev b_ZoneNodesModel_update : ByteArray := prog_11_method_22_code
def y_ZoneNodesModel_update : MethodName := ⟨R_ZoneNodesModel, "update", "(III)I"⟩
abbrev b_ZoneNodesLaw_cell : ByteArray := method_2_code
def y_ZoneNodesLaw_cell : MethodName := ⟨R_ZoneNodesLaw, "cell", "([II)I"⟩
abbrev classes : List vw_C := [(R_Draft, F_Draft, 4), (R_Entry, F_Entry, 4), (R_Journal, F_Journal, 2), (R_Message, F_Message, 10), (R_Primary, F_Primary, 9), (R_Records, F_Records, 1), (R_Secondary, F_Secondary, 13), (R_Wire, F_Wire, 2), (R_ZoneNodes, F_ZoneNodes, 7), (R_ZoneNodesModel, F_ZoneNodesModel, 32)]
abbrev zh_tys (E : Nat → ClassId) : List (ClassId × FieldType) := [(E 0, .int), (E 1, .boolean), (E 2, .object R_Entry), (E 3, .object R_Message), (E 4, .object R_Secondary)]
/-! one list of words for all methods -/
def TW_0 : List Cond := [.methodLink R_Draft 3 objectInit, .instanceMethod objectInit, .arrayClass .int, .fieldLink R_Draft 9 R_Draft "needs" "[I", .fieldLink R_Draft 15 R_Draft "changes" "[I", .methodLink R_Records 3 objectInit, .fieldLink R_Records 9 R_Records "values" "[I", .methodLink R_Entry 1 objectInit, .classLink R_Entry 7 R_Records, .instantiable R_Records 1, .initialized R_Records, .instanceMethod y_Records_init, .fieldLink R_Entry 10 R_Entry "gone" "LZoneNodes$Records;", .fieldLink R_Entry 16 R_Entry "come" "LZoneNodes$Records;", .methodLink R_Journal 3 objectInit, .classLink R_Journal 9 R_Entry, .fieldLink R_Journal 11 R_Journal "rows" "[LZoneNodes$Entry;", .instantiable R_Entry 4, .initialized R_Entry, .instanceMethod y_Entry_init, .methodLink R_Records 15 y_Records_valuesOf, .instanceMethod y_Records_valuesOf, .selects R_Records y_Records_valuesOf y_Records_valuesOf, .methodLink R_Records 33 y_Records_setValues, .instanceMethod y_Records_setValues, .selects R_Records y_Records_setValues y_Records_setValues, .methodLink R_Primary 3 objectInit, .classLink R_Primary 9 R_Records, .fieldLink R_Primary 12 R_Primary "records" "LZoneNodes$Records;", .fieldLink R_Primary 18 R_Primary "next" "LZoneNodes$Records;", .classLink R_Primary 21 R_Journal, .instantiable R_Journal 2, .initialized R_Journal, .methodLink R_Primary 23 y_Journal_init, .instanceMethod y_Journal_init, .fieldLink R_Primary 24 R_Primary "entries" "LZoneNodes$Journal;", .fieldLink R_Primary 28 R_Primary "items" "[I", .fieldLink R_Primary 32 R_Primary "up" "Z", .fieldLink R_Primary 36 R_Primary "serial" "I", .methodLink R_Primary 40 y_Records_put, .instanceMethod y_Records_put, .selects R_Records y_Records_put y_Records_put, .fieldLink R_Secondary 48 R_Secondary "phase" "I", .fieldLink R_Secondary 54 R_Secondary "due" "I", .fieldLink R_Secondary 38 R_Secondary "up" "Z", .methodLink R_Secondary 42 y_Secondary_rest, .initialized R_Secondary, .instanceMethod y_Secondary_rest, .selects R_Secondary y_Secondary_rest y_Secondary_rest, .fieldLink R_Secondary 31 R_Secondary "expire" "I", .fieldLink R_Secondary 45 R_Secondary "expiry" "I", .methodLink R_Secondary 3 objectInit, .classLink R_Secondary 9 R_Records, .fieldLink R_Secondary 12 R_Secondary "records" "LZoneNodes$Records;", .fieldLink R_Secondary 18 R_Secondary "incoming" "LZoneNodes$Records;", .fieldLink R_Secondary 21 R_Secondary "number" "I", .fieldLink R_Secondary 25 R_Secondary "refresh" "I", .fieldLink R_Secondary 28 R_Secondary "retry" "I", .methodLink R_Secondary 34 y_Secondary_comeUp, .instanceMethod y_Secondary_comeUp, .selects R_Secondary y_Secondary_comeUp y_Secondary_comeUp, .methodLink R_Message 3 objectInit, .fieldLink R_Message 9 R_Message "items" "[I", .methodLink R_Wire 3 objectInit, .classLink R_Wire 9 R_Message, .fieldLink R_Wire 11 R_Wire "rows" "[LZoneNodes$Message;", .instantiable R_Message 10, .initialized R_Message, .instanceMethod y_Message_init, .methodLink R_ZoneNodes 3 objectInit, .fieldLink R_ZoneNodes 9 R_ZoneNodes "secrets" "[I", .arrayClass .boolean, .fieldLink R_ZoneNodes 13 R_ZoneNodes "hasSecret" "[Z", .classLink R_ZoneNodes 17 R_Draft, .instantiable R_Draft 4, .initialized R_Draft, .instanceMethod y_Draft_init, .fieldLink R_ZoneNodes 20 R_ZoneNodes "draft" "LZoneNodes$Draft;", .classLink R_ZoneNodes 24 R_Wire, .instantiable R_Wire 2, .initialized R_Wire, .methodLink R_ZoneNodes 26 y_Wire_init, .instanceMethod y_Wire_init, .fieldLink R_ZoneNodes 27 R_ZoneNodes "wire" "LZoneNodes$Wire;", .classLink R_ZoneNodes 31 R_Secondary, .fieldLink R_ZoneNodes 33 R_ZoneNodes "secondaries" "[LZoneNodes$Secondary;", .methodLink R_ZoneNodes 37 y_ZoneNodes_within, .initialized R_ZoneNodes, .static y_ZoneNodes_within, .classLink R_ZoneNodes 41 R_Primary, .instantiable R_Primary 9, .initialized R_Primary, .methodLink R_ZoneNodes 43 y_Primary_init, .instanceMethod y_Primary_init, .fieldLink R_ZoneNodes 46 R_ZoneNodes "primary" "LZoneNodes$Primary;", .instantiable R_Secondary 13, .methodLink R_ZoneNodes 50 y_Secondary_init, .instanceMethod y_Secondary_init, .fieldLink R_Wire 18 R_Wire "count" "I", .methodLink R_ZoneNodes 100 y_Wire_at, .instanceMethod y_Wire_at, .selects R_Wire y_Wire_at y_Wire_at, .fieldLink R_Journal 18 R_Journal "count" "I", .methodLink R_Journal 42 y_Journal_leadsTo, .instanceMethod y_Journal_leadsTo, .selects R_Journal y_Journal_leadsTo y_Journal_leadsTo, .static y_ZoneNodes_coded, .fieldLink R_Primary 96 R_Primary "itemsAreWhole" "Z", .fieldLink R_Primary 99 R_Primary "itemCount" "I", .methodLink R_Primary 102 y_Records_listInto, .instanceMethod y_Records_listInto, .selects R_Records y_Records_listInto y_Records_listInto, .methodLink R_Primary 89 y_Journal_startOfWay, .instanceMethod y_Journal_startOfWay, .selects R_Journal y_Journal_startOfWay y_Journal_startOfWay, .fieldLink R_Message 15 R_Message "kind" "I", .methodLink R_Wire 32 y_Message_isOnStream, .instanceMethod y_Message_isOnStream, .selects R_Message y_Message_isOnStream y_Message_isOnStream, .methodLink R_Wire 40 y_Wire_countLossy, .instanceMethod y_Wire_countLossy, .selects R_Wire y_Wire_countLossy y_Wire_countLossy, .methodLink R_Wire 44 y_Wire_put, .instanceMethod y_Wire_put, .selects R_Wire y_Wire_put y_Wire_put, .methodLink R_Wire 72 Lib.Math.min.name, .static Lib.Math.min.name, .initialized "java/lang/Math", .methodLink R_ZoneNodes 241 y_Primary_workOutItems, .instanceMethod y_Primary_workOutItems, .selects R_Primary y_Primary_workOutItems y_Primary_workOutItems, .methodLink R_ZoneNodes 245 y_Wire_sendParts, .instanceMethod y_Wire_sendParts, .selects R_Wire y_Wire_sendParts y_Wire_sendParts, .methodLink R_ZoneNodes 230 y_Wire_sendLossy, .instanceMethod y_Wire_sendLossy, .selects R_Wire y_Wire_sendLossy y_Wire_sendLossy, .methodLink R_Secondary 111 y_Wire_sendLossy, .fieldLink R_Secondary 51 R_Secondary "askedAt" "I", .fieldLink R_Secondary 68 R_Secondary "hasVersion" "Z", .fieldLink R_Secondary 71 R_Secondary "serial" "I", .static y_ZoneNodes_isLater, .methodLink R_Secondary 61 y_Secondary_lacks, .instanceMethod y_Secondary_lacks, .selects R_Secondary y_Secondary_lacks y_Secondary_lacks, .methodLink R_Secondary 57 y_Secondary_ask, .instanceMethod y_Secondary_ask, .selects R_Secondary y_Secondary_ask y_Secondary_ask, .methodLink R_Secondary 74 y_Wire_sendFetch, .instanceMethod y_Wire_sendFetch]
def TW_1 : List Cond := [.selects R_Wire y_Wire_sendFetch y_Wire_sendFetch, .methodLink R_Secondary 65 y_Secondary_becomeRefreshed, .instanceMethod y_Secondary_becomeRefreshed, .selects R_Secondary y_Secondary_becomeRefreshed y_Secondary_becomeRefreshed, .static y_ZoneNodes_formOf, .static y_ZoneNodes_nameOf, .static y_ZoneNodes_typeOf, .static y_ZoneNodes_valueOf, .methodLink R_Records 59 y_Records_put, .methodLink R_Records 62 y_Records_takeAway, .instanceMethod y_Records_takeAway, .selects R_Records y_Records_takeAway y_Records_takeAway, .methodLink R_Secondary 103 y_Records_copyFrom, .instanceMethod y_Records_copyFrom, .selects R_Records y_Records_copyFrom y_Records_copyFrom, .methodLink R_Secondary 108 y_Records_empty, .instanceMethod y_Records_empty, .selects R_Records y_Records_empty y_Records_empty, .methodLink R_Secondary 97 y_Records_takeItem, .instanceMethod y_Records_takeItem, .selects R_Records y_Records_takeItem y_Records_takeItem, .methodLink R_Secondary 86 y_Secondary_beginIncoming, .instanceMethod y_Secondary_beginIncoming, .selects R_Secondary y_Secondary_beginIncoming y_Secondary_beginIncoming, .methodLink R_Wire 36 y_Wire_takeOut, .instanceMethod y_Wire_takeOut, .selects R_Wire y_Wire_takeOut y_Wire_takeOut, .fieldLink R_ZoneNodes 93 R_ZoneNodes "clock" "I", .methodLink R_ZoneNodes 258 y_Secondary_takePart, .instanceMethod y_Secondary_takePart, .selects R_Secondary y_Secondary_takePart y_Secondary_takePart, .methodLink R_ZoneNodes 142 y_Wire_endStreamOf, .instanceMethod y_Wire_endStreamOf, .selects R_Wire y_Wire_endStreamOf y_Wire_endStreamOf, .methodLink R_ZoneNodes 234 y_Secondary_loseStream, .instanceMethod y_Secondary_loseStream, .selects R_Secondary y_Secondary_loseStream y_Secondary_loseStream, .methodLink R_ZoneNodes 253 y_Secondary_hearTell, .instanceMethod y_Secondary_hearTell, .selects R_Secondary y_Secondary_hearTell y_Secondary_hearTell, .methodLink R_ZoneNodes 249 y_Secondary_hearNotify, .instanceMethod y_Secondary_hearNotify, .selects R_Secondary y_Secondary_hearNotify y_Secondary_hearNotify, .fieldLink R_Draft 22 R_Draft "changeCount" "I", .methodLink R_ZoneNodes 53 y_ZoneNodes_isRecord, .static y_ZoneNodes_isRecord, .methodLink R_ZoneNodes 56 y_ZoneNodes_coded, .methodLink R_ZoneNodes 64 y_Draft_addChange, .instanceMethod y_Draft_addChange, .selects R_Draft y_Draft_addChange y_Draft_addChange, .methodLink R_ZoneNodes 133 y_ZoneNodes_isNode, .static y_ZoneNodes_isNode, .methodLink R_ZoneNodes 136 y_ZoneNodes_isUp, .instanceMethod y_ZoneNodes_isUp, .selects R_ZoneNodes y_ZoneNodes_isUp y_ZoneNodes_isUp, .methodLink R_ZoneNodes 139 y_ZoneNodes_takePrimaryDown, .instanceMethod y_ZoneNodes_takePrimaryDown, .selects R_ZoneNodes y_ZoneNodes_takePrimaryDown y_ZoneNodes_takePrimaryDown, .methodLink R_ZoneNodes 104 y_Wire_isBehindAnotherPart, .instanceMethod y_Wire_isBehindAnotherPart, .selects R_Wire y_Wire_isBehindAnotherPart y_Wire_isBehindAnotherPart, .methodLink R_ZoneNodes 107 y_Wire_takeOut, .methodLink R_ZoneNodes 115 y_ZoneNodes_arriveAtPrimary, .instanceMethod y_ZoneNodes_arriveAtPrimary, .selects R_ZoneNodes y_ZoneNodes_arriveAtPrimary y_ZoneNodes_arriveAtPrimary, .methodLink R_ZoneNodes 122 y_ZoneNodes_arriveAtSecondary, .instanceMethod y_ZoneNodes_arriveAtSecondary, .selects R_ZoneNodes y_ZoneNodes_arriveAtSecondary y_ZoneNodes_arriveAtSecondary, .methodLink R_ZoneNodes 126 y_Message_isOnStream, .methodLink R_ZoneNodes 164 y_ZoneNodes_recordsOf, .instanceMethod y_ZoneNodes_recordsOf, .selects R_ZoneNodes y_ZoneNodes_recordsOf y_ZoneNodes_recordsOf, .methodLink R_ZoneNodes 177 y_Records_contains, .instanceMethod y_Records_contains, .selects R_Records y_Records_contains y_Records_contains, .methodLink R_Records 23 y_Records_contains, .methodLink R_Records 19 y_Records_hasOtherThanAlias, .instanceMethod y_Records_hasOtherThanAlias, .selects R_Records y_Records_hasOtherThanAlias y_Records_hasOtherThanAlias, .constant R_Integer 265 1431655765, .constant R_Integer 266 858993459, .constant R_Integer 267 252645135, .methodLink R_ZoneNodes 262 y_Records_aliasOf, .instanceMethod y_Records_aliasOf, .selects R_Records y_Records_aliasOf y_Records_aliasOf, .methodLink R_ZoneNodes 266 y_Records_isUsed, .instanceMethod y_Records_isUsed, .selects R_Records y_Records_isUsed y_Records_isUsed, .methodLink R_ZoneNodes 269 y_Records_valuesOf, .methodLink R_ZoneNodes 272 y_Integer_bitCount, .initialized R_Integer, .static y_Integer_bitCount, .methodLink R_Records 49 y_Records_addIfAllowed, .instanceMethod y_Records_addIfAllowed, .selects R_Records y_Records_addIfAllowed y_Records_addIfAllowed, .methodLink R_Records 52 y_Records_clearIfAllowed, .instanceMethod y_Records_clearIfAllowed, .selects R_Records y_Records_clearIfAllowed y_Records_clearIfAllowed, .methodLink R_Records 56 y_Records_removeIfAllowed, .instanceMethod y_Records_removeIfAllowed, .selects R_Records y_Records_removeIfAllowed y_Records_removeIfAllowed, .methodLink R_Draft 60 y_Records_makeChange, .instanceMethod y_Records_makeChange, .selects R_Records y_Records_makeChange y_Records_makeChange, .methodLink R_Journal 33 y_Records_becomeDifference, .instanceMethod y_Records_becomeDifference, .selects R_Records y_Records_becomeDifference y_Records_becomeDifference, .methodLink R_Primary 61 y_Journal_latest, .instanceMethod y_Journal_latest, .selects R_Journal y_Journal_latest y_Journal_latest, .methodLink R_Primary 73 y_Records_exchange, .instanceMethod y_Records_exchange, .selects R_Records y_Records_exchange y_Records_exchange, .methodLink R_Primary 80 y_Journal_keepLatest, .instanceMethod y_Journal_keepLatest, .selects R_Journal y_Journal_keepLatest y_Journal_keepLatest, .methodLink R_Primary 51 y_Journal_append, .instanceMethod y_Journal_append, .selects R_Journal y_Journal_append y_Journal_append, .methodLink R_Primary 55 y_Journal_markLatest, .instanceMethod y_Journal_markLatest, .selects R_Journal y_Journal_markLatest y_Journal_markLatest, .methodLink R_Primary 58 y_Primary_becomeLatest, .instanceMethod y_Primary_becomeLatest, .selects R_Primary y_Primary_becomeLatest y_Primary_becomeLatest, .fieldLink R_Primary 44 R_Primary "armed" "I", .methodLink R_Primary 47 y_Primary_takeStep, .instanceMethod y_Primary_takeStep, .selects R_Primary y_Primary_takeStep y_Primary_takeStep, .methodLink R_Records 27 y_Integer_bitCount, .methodLink R_ZoneNodes 216 y_Records_copyFrom, .methodLink R_ZoneNodes 220 y_Draft_changeRecords, .instanceMethod y_Draft_changeRecords, .selects R_Draft y_Draft_changeRecords y_Draft_changeRecords, .methodLink R_ZoneNodes 172 y_Records_total, .instanceMethod y_Records_total, .selects R_Records y_Records_total y_Records_total, .methodLink R_ZoneNodes 223 y_Records_sameAs, .instanceMethod y_Records_sameAs, .selects R_Records y_Records_sameAs y_Records_sameAs, .methodLink R_ZoneNodes 227 y_Primary_writeNext, .instanceMethod y_Primary_writeNext, .selects R_Primary y_Primary_writeNext y_Primary_writeNext, .methodLink R_ZoneNodes 149 y_ZoneNodes_notifySecondaries, .instanceMethod y_ZoneNodes_notifySecondaries, .selects R_ZoneNodes y_ZoneNodes_notifySecondaries y_ZoneNodes_notifySecondaries, .constant R_ZoneNodes 157 100000, .fieldLink R_Draft 18 R_Draft "needCount" "I", .methodLink R_ZoneNodes 60 y_Draft_addNeed, .instanceMethod y_Draft_addNeed]
def TW_2 : List Cond := [.selects R_Draft y_Draft_addNeed y_Draft_addNeed, .methodLink R_ZoneNodes 183 y_ZoneNodes_lookUp, .static y_ZoneNodes_lookUp, .methodLink R_ZoneNodes 180 y_Secondary_isExpired, .instanceMethod y_Secondary_isExpired, .selects R_Secondary y_Secondary_isExpired y_Secondary_isExpired, .constant R_Draft 29 16777619, .methodLink R_Draft 25 y_Draft_mixed, .static y_Draft_mixed, .methodLink R_Draft 48 y_Records_valuesOf, .methodLink R_Draft 53 y_Records_isUsed, .methodLink R_Draft 30 y_Draft_answerTo, .static y_Draft_answerTo, .methodLink R_Draft 38 y_Draft_isExact, .instanceMethod y_Draft_isExact, .selects R_Draft y_Draft_isExact y_Draft_isExact, .methodLink R_ZoneNodes 67 y_ZoneNodes_knowsKey, .instanceMethod y_ZoneNodes_knowsKey, .selects R_ZoneNodes y_ZoneNodes_knowsKey y_ZoneNodes_knowsKey, .methodLink R_ZoneNodes 70 y_Draft_sealWith, .instanceMethod y_Draft_sealWith, .selects R_Draft y_Draft_sealWith y_Draft_sealWith, .constantLong R_ZoneNodes 205 5, .constantLong R_ZoneNodes 207 (-5), .methodLink R_ZoneNodes 209 y_Draft_unmetNeed, .instanceMethod y_Draft_unmetNeed, .selects R_Draft y_Draft_unmetNeed y_Draft_unmetNeed, .methodLink R_Primary 86 y_Journal_dropLatest, .instanceMethod y_Journal_dropLatest, .selects R_Journal y_Journal_dropLatest y_Journal_dropLatest, .methodLink R_ZoneNodes 152 y_Secondary_comeUp, .methodLink R_ZoneNodes 146 y_Primary_comeUp, .instanceMethod y_Primary_comeUp, .selects R_Primary y_Primary_comeUp y_Primary_comeUp, .methodLink R_ZoneNodes 96 y_Secondary_askIfTimeHasCome, .instanceMethod y_Secondary_askIfTimeHasCome, .selects R_Secondary y_Secondary_askIfTimeHasCome y_Secondary_askIfTimeHasCome, .methodLink R_ZoneNodes 78 y_ZoneNodes_refusal, .instanceMethod y_ZoneNodes_refusal, .selects R_ZoneNodes y_ZoneNodes_refusal y_ZoneNodes_refusal, .methodLink R_ZoneNodes 86 y_Draft_empty, .instanceMethod y_Draft_empty, .selects R_Draft y_Draft_empty y_Draft_empty, .methodLink R_ZoneNodes 82 y_ZoneNodes_makeChanges, .instanceMethod y_ZoneNodes_makeChanges, .selects R_ZoneNodes y_ZoneNodes_makeChanges y_ZoneNodes_makeChanges, .fieldLink R_ZoneNodesModel 26 R_ZoneNodesModel "states" "[I", .fieldLink R_ZoneNodesModel 29 R_ZoneNodesModel "moment" "[I", .fieldLink R_ZoneNodesModel 98 R_ZoneNodesModel "clock" "I", .methodLink R_ZoneNodesModel 1 objectInit, .fieldLink R_ZoneNodesModel 7 R_ZoneNodesModel "up" "[Z", .fieldLink R_ZoneNodesModel 13 R_ZoneNodesModel "known" "[Z", .fieldLink R_ZoneNodesModel 16 R_ZoneNodesModel "serials" "[I", .fieldLink R_ZoneNodesModel 20 R_ZoneNodesModel "held" "[Z", .fieldLink R_ZoneNodesModel 23 R_ZoneNodesModel "coming" "[Z", .fieldLink R_ZoneNodesModel 32 R_ZoneNodesModel "expiry" "[I", .fieldLink R_ZoneNodesModel 35 R_ZoneNodesModel "keyed" "[Z", .fieldLink R_ZoneNodesModel 38 R_ZoneNodesModel "secrets" "[I", .fieldLink R_ZoneNodesModel 41 R_ZoneNodesModel "draft" "[I", .fieldLink R_ZoneNodesModel 44 R_ZoneNodesModel "oldSerial" "[I", .fieldLink R_ZoneNodesModel 47 R_ZoneNodesModel "marked" "[Z", .fieldLink R_ZoneNodesModel 50 R_ZoneNodesModel "after" "[Z", .fieldLink R_ZoneNodesModel 53 R_ZoneNodesModel "differing" "[I", .fieldLink R_ZoneNodesModel 56 R_ZoneNodesModel "work" "[Z", .fieldLink R_ZoneNodesModel 59 R_ZoneNodesModel "kind" "[I", .fieldLink R_ZoneNodesModel 62 R_ZoneNodesModel "whose" "[I", .fieldLink R_ZoneNodesModel 65 R_ZoneNodesModel "told" "[I", .fieldLink R_ZoneNodesModel 68 R_ZoneNodesModel "number" "[I", .fieldLink R_ZoneNodesModel 71 R_ZoneNodesModel "items" "[I", .fieldLink R_ZoneNodesModel 74 R_ZoneNodesModel "flag" "[Z", .fieldLink R_ZoneNodesModel 77 R_ZoneNodesModel "last" "[Z", .fieldLink R_ZoneNodesModel 80 R_ZoneNodesModel "refresh" "I", .fieldLink R_ZoneNodesModel 84 R_ZoneNodesModel "retry" "I", .fieldLink R_ZoneNodesModel 87 R_ZoneNodesModel "expire" "I", .methodLink R_ZoneNodesModel 90 y_ZoneNodesModel_place, .initialized R_ZoneNodesModel, .static y_ZoneNodesModel_place, .methodLink R_ZoneNodesModel 94 y_ZoneNodesModel_rest, .instanceMethod y_ZoneNodesModel_rest, .selects R_ZoneNodesModel y_ZoneNodesModel_rest y_ZoneNodesModel_rest, .fieldLink R_ZoneNodesModel 177 R_ZoneNodesModel "many" "I", .methodLink R_ZoneNodesModel 187 y_ZoneNodesModel_isMessage, .instanceMethod y_ZoneNodesModel_isMessage, .selects R_ZoneNodesModel y_ZoneNodesModel_isMessage y_ZoneNodesModel_isMessage, .fieldLink R_ZoneNodesModel 159 R_ZoneNodesModel "armed" "I", .methodLink R_ZoneNodesModel 101 y_ZoneNodesModel_isRecord, .static y_ZoneNodesModel_isRecord, .fieldLink R_ZoneNodesModel 112 R_ZoneNodesModel "changes" "I", .methodLink R_ZoneNodesModel 108 y_ZoneNodesModel_say, .instanceMethod y_ZoneNodesModel_say, .selects R_ZoneNodesModel y_ZoneNodesModel_say y_ZoneNodesModel_say, .methodLink R_ZoneNodesModel 184 y_ZoneNodesModel_remove, .instanceMethod y_ZoneNodesModel_remove, .selects R_ZoneNodesModel y_ZoneNodesModel_remove y_ZoneNodesModel_remove, .methodLink R_ZoneNodesModel 218 y_ZoneNodesModel_isNode, .static y_ZoneNodesModel_isNode, .methodLink R_ZoneNodesModel 201 y_ZoneNodesModel_cutOff, .instanceMethod y_ZoneNodesModel_cutOff, .selects R_ZoneNodesModel y_ZoneNodesModel_cutOff y_ZoneNodesModel_cutOff, .methodLink R_ZoneNodesModel 180 y_ZoneNodesModel_append, .instanceMethod y_ZoneNodesModel_append, .selects R_ZoneNodesModel y_ZoneNodesModel_append y_ZoneNodesModel_append, .methodLink R_ZoneNodesModel 174 y_ZoneNodesModel_send, .instanceMethod y_ZoneNodesModel_send, .selects R_ZoneNodesModel y_ZoneNodesModel_send y_ZoneNodesModel_send, .fieldLink R_ZoneNodesModel 162 R_ZoneNodesModel "entries" "I", .methodLink R_ZoneNodesModel 197 y_ZoneNodesModel_itemsFor, .instanceMethod y_ZoneNodesModel_itemsFor, .selects R_ZoneNodesModel y_ZoneNodesModel_itemsFor y_ZoneNodesModel_itemsFor, .methodLink R_ZoneNodesModel 194 y_ZoneNodesModel_refreshed, .instanceMethod y_ZoneNodesModel_refreshed, .selects R_ZoneNodesModel y_ZoneNodesModel_refreshed y_ZoneNodesModel_refreshed, .methodLink R_ZoneNodesModel 190 y_ZoneNodesModel_isNews, .instanceMethod y_ZoneNodesModel_isNews, .selects R_ZoneNodesModel y_ZoneNodesModel_isNews y_ZoneNodesModel_isNews, .methodLink R_ZoneNodesModel 214 y_ZoneNodesModel_takePart, .instanceMethod y_ZoneNodesModel_takePart, .selects R_ZoneNodesModel y_ZoneNodesModel_takePart y_ZoneNodesModel_takePart, .methodLink R_ZoneNodesModel 210 y_ZoneNodesModel_takeFetch, .instanceMethod y_ZoneNodesModel_takeFetch, .selects R_ZoneNodesModel y_ZoneNodesModel_takeFetch y_ZoneNodesModel_takeFetch, .methodLink R_ZoneNodesModel 207 y_ZoneNodesModel_takeTell, .instanceMethod y_ZoneNodesModel_takeTell, .selects R_ZoneNodesModel y_ZoneNodesModel_takeTell y_ZoneNodesModel_takeTell, .methodLink R_ZoneNodesModel 204 y_ZoneNodesModel_ask, .instanceMethod y_ZoneNodesModel_ask, .selects R_ZoneNodesModel y_ZoneNodesModel_ask y_ZoneNodesModel_ask, .constant R_ZoneNodesModel 221 100000, .fieldLink R_ZoneNodesModel 105 R_ZoneNodesModel "needs" "I", .methodLink R_ZoneNodesModel 222 y_ZoneNodesModel_shown, .instanceMethod y_ZoneNodesModel_shown, .selects R_ZoneNodesModel y_ZoneNodesModel_shown y_ZoneNodesModel_shown, .methodLink R_ZoneNodesModel 171 y_ZoneNodesModel_notifyBoth, .instanceMethod y_ZoneNodesModel_notifyBoth, .selects R_ZoneNodesModel y_ZoneNodesModel_notifyBoth y_ZoneNodesModel_notifyBoth, .methodLink R_ZoneNodesModel 168 y_ZoneNodesModel_install, .instanceMethod y_ZoneNodesModel_install, .selects R_ZoneNodesModel y_ZoneNodesModel_install y_ZoneNodesModel_install, .constant R_ZoneNodesModel 115 16777619, .methodLink R_ZoneNodesModel 116 y_ZoneNodesModel_mixed, .static y_ZoneNodesModel_mixed, .methodLink R_ZoneNodesModel 120 y_ZoneNodesModel_line, .instanceMethod y_ZoneNodesModel_line, .selects R_ZoneNodesModel y_ZoneNodesModel_line y_ZoneNodesModel_line, .methodLink R_ZoneNodesModel 124 y_ZoneNodesModel_sealed, .instanceMethod y_ZoneNodesModel_sealed, .selects R_ZoneNodesModel y_ZoneNodesModel_sealed y_ZoneNodesModel_sealed, .methodLink R_ZoneNodesModel 141 y_ZoneNodesModel_works, .instanceMethod y_ZoneNodesModel_works, .selects R_ZoneNodesModel y_ZoneNodesModel_works y_ZoneNodesModel_works]
def TW_3 : List Cond := [.methodLink R_ZoneNodesModel 144 y_ZoneNodesModel_add, .instanceMethod y_ZoneNodesModel_add, .selects R_ZoneNodesModel y_ZoneNodesModel_add y_ZoneNodesModel_add, .methodLink R_ZoneNodesModel 127 y_ZoneNodesModel_count, .instanceMethod y_ZoneNodesModel_count, .selects R_ZoneNodesModel y_ZoneNodesModel_count y_ZoneNodesModel_count, .constantLong R_ZoneNodesModel 130 5, .constantLong R_ZoneNodesModel 132 (-5), .methodLink R_ZoneNodesModel 134 y_ZoneNodesModel_meets, .instanceMethod y_ZoneNodesModel_meets, .selects R_ZoneNodesModel y_ZoneNodesModel_meets y_ZoneNodesModel_meets, .methodLink R_ZoneNodesModel 138 y_ZoneNodesModel_exact, .instanceMethod y_ZoneNodesModel_exact, .selects R_ZoneNodesModel y_ZoneNodesModel_exact y_ZoneNodesModel_exact, .methodLink R_ZoneNodesModel 165 y_ZoneNodesModel_crash, .instanceMethod y_ZoneNodesModel_crash, .selects R_ZoneNodesModel y_ZoneNodesModel_crash y_ZoneNodesModel_crash, .methodLink R_ZoneNodesModel 148 y_ZoneNodesModel_refusal, .instanceMethod y_ZoneNodesModel_refusal, .selects R_ZoneNodesModel y_ZoneNodesModel_refusal y_ZoneNodesModel_refusal, .methodLink R_ZoneNodesModel 151 y_ZoneNodesModel_perform, .instanceMethod y_ZoneNodesModel_perform, .selects R_ZoneNodesModel y_ZoneNodesModel_perform y_ZoneNodesModel_perform, .methodLink R_ZoneNodesModel 155 y_ZoneNodesModel_write, .instanceMethod y_ZoneNodesModel_write, .selects R_ZoneNodesModel y_ZoneNodesModel_write y_ZoneNodesModel_write, .classLink R_ZoneNodesLaw 7 R_ZoneNodes, .instantiable R_ZoneNodes 7, .methodLink R_ZoneNodesLaw 9 y_ZoneNodesLaw_cell, .initialized R_ZoneNodesLaw, .static y_ZoneNodesLaw_cell, .methodLink R_ZoneNodesLaw 15 y_ZoneNodes_init, .instanceMethod y_ZoneNodes_init, .classLink R_ZoneNodesLaw 18 R_ZoneNodesModel, .instantiable R_ZoneNodesModel 32, .methodLink R_ZoneNodesLaw 20 y_ZoneNodesModel_init, .instanceMethod y_ZoneNodesModel_init, .methodLink R_ZoneNodesLaw 21 y_ZoneNodes_key, .instanceMethod y_ZoneNodes_key, .selects R_ZoneNodes y_ZoneNodes_key y_ZoneNodes_key, .methodLink R_ZoneNodesLaw 25 y_ZoneNodesModel_key, .instanceMethod y_ZoneNodesModel_key, .selects R_ZoneNodesModel y_ZoneNodesModel_key y_ZoneNodesModel_key, .methodLink R_ZoneNodesLaw 26 y_ZoneNodes_need, .instanceMethod y_ZoneNodes_need, .selects R_ZoneNodes y_ZoneNodes_need y_ZoneNodes_need, .methodLink R_ZoneNodesLaw 30 y_ZoneNodesModel_need, .instanceMethod y_ZoneNodesModel_need, .selects R_ZoneNodesModel y_ZoneNodesModel_need y_ZoneNodesModel_need, .methodLink R_ZoneNodesLaw 31 y_ZoneNodes_change, .instanceMethod y_ZoneNodes_change, .selects R_ZoneNodes y_ZoneNodes_change y_ZoneNodes_change, .methodLink R_ZoneNodesLaw 34 y_ZoneNodesModel_change, .instanceMethod y_ZoneNodesModel_change, .selects R_ZoneNodesModel y_ZoneNodesModel_change y_ZoneNodesModel_change, .methodLink R_ZoneNodesLaw 35 y_ZoneNodes_seal, .instanceMethod y_ZoneNodes_seal, .selects R_ZoneNodes y_ZoneNodes_seal y_ZoneNodes_seal, .methodLink R_ZoneNodesLaw 39 y_ZoneNodesModel_seal, .instanceMethod y_ZoneNodesModel_seal, .selects R_ZoneNodesModel y_ZoneNodesModel_seal y_ZoneNodesModel_seal, .methodLink R_ZoneNodesLaw 40 y_ZoneNodes_update, .instanceMethod y_ZoneNodes_update, .selects R_ZoneNodes y_ZoneNodes_update y_ZoneNodes_update, .methodLink R_ZoneNodesLaw 44 y_ZoneNodesModel_update, .instanceMethod y_ZoneNodesModel_update, .selects R_ZoneNodesModel y_ZoneNodesModel_update y_ZoneNodesModel_update, .methodLink R_ZoneNodesLaw 45 y_ZoneNodes_arm, .instanceMethod y_ZoneNodes_arm, .selects R_ZoneNodes y_ZoneNodes_arm y_ZoneNodes_arm, .methodLink R_ZoneNodesLaw 49 y_ZoneNodesModel_arm, .instanceMethod y_ZoneNodesModel_arm, .selects R_ZoneNodesModel y_ZoneNodesModel_arm y_ZoneNodesModel_arm, .methodLink R_ZoneNodesLaw 50 y_ZoneNodes_tick, .instanceMethod y_ZoneNodes_tick, .selects R_ZoneNodes y_ZoneNodes_tick y_ZoneNodes_tick, .methodLink R_ZoneNodesLaw 53 y_ZoneNodesModel_tick, .instanceMethod y_ZoneNodesModel_tick, .selects R_ZoneNodesModel y_ZoneNodesModel_tick y_ZoneNodesModel_tick, .methodLink R_ZoneNodesLaw 54 y_ZoneNodes_deliver, .instanceMethod y_ZoneNodes_deliver, .selects R_ZoneNodes y_ZoneNodes_deliver y_ZoneNodes_deliver, .methodLink R_ZoneNodesLaw 57 y_ZoneNodesModel_deliver, .instanceMethod y_ZoneNodesModel_deliver, .selects R_ZoneNodesModel y_ZoneNodesModel_deliver y_ZoneNodesModel_deliver, .methodLink R_ZoneNodesLaw 58 y_ZoneNodes_drop, .instanceMethod y_ZoneNodes_drop, .selects R_ZoneNodes y_ZoneNodes_drop y_ZoneNodes_drop, .methodLink R_ZoneNodesLaw 61 y_ZoneNodesModel_drop, .instanceMethod y_ZoneNodesModel_drop, .selects R_ZoneNodesModel y_ZoneNodesModel_drop y_ZoneNodesModel_drop, .methodLink R_ZoneNodesLaw 62 y_ZoneNodes_alter, .instanceMethod y_ZoneNodes_alter, .selects R_ZoneNodes y_ZoneNodes_alter y_ZoneNodes_alter, .methodLink R_ZoneNodesLaw 65 y_ZoneNodesModel_alter, .instanceMethod y_ZoneNodesModel_alter, .selects R_ZoneNodesModel y_ZoneNodesModel_alter y_ZoneNodesModel_alter, .methodLink R_ZoneNodesLaw 66 y_ZoneNodes_crash, .instanceMethod y_ZoneNodes_crash, .selects R_ZoneNodes y_ZoneNodes_crash y_ZoneNodes_crash, .methodLink R_ZoneNodesLaw 69 y_ZoneNodesModel_crash, .methodLink R_ZoneNodesLaw 70 y_ZoneNodes_restart, .instanceMethod y_ZoneNodes_restart, .selects R_ZoneNodes y_ZoneNodes_restart y_ZoneNodes_restart, .methodLink R_ZoneNodesLaw 73 y_ZoneNodesModel_restart, .instanceMethod y_ZoneNodesModel_restart, .selects R_ZoneNodesModel y_ZoneNodesModel_restart y_ZoneNodesModel_restart, .methodLink R_ZoneNodesLaw 74 y_ZoneNodes_messages, .instanceMethod y_ZoneNodes_messages, .selects R_ZoneNodes y_ZoneNodes_messages y_ZoneNodes_messages, .methodLink R_ZoneNodesLaw 78 y_ZoneNodesModel_messages, .instanceMethod y_ZoneNodesModel_messages, .selects R_ZoneNodesModel y_ZoneNodesModel_messages y_ZoneNodesModel_messages, .methodLink R_ZoneNodesLaw 79 y_ZoneNodes_message, .instanceMethod y_ZoneNodes_message, .selects R_ZoneNodes y_ZoneNodes_message y_ZoneNodes_message, .methodLink R_ZoneNodesLaw 83 y_ZoneNodesModel_message, .instanceMethod y_ZoneNodesModel_message, .selects R_ZoneNodesModel y_ZoneNodesModel_message y_ZoneNodesModel_message, .methodLink R_ZoneNodesLaw 84 y_ZoneNodes_serial, .instanceMethod y_ZoneNodes_serial, .selects R_ZoneNodes y_ZoneNodes_serial y_ZoneNodes_serial, .methodLink R_ZoneNodesLaw 87 y_ZoneNodesModel_serial, .instanceMethod y_ZoneNodesModel_serial, .selects R_ZoneNodesModel y_ZoneNodesModel_serial y_ZoneNodesModel_serial, .methodLink R_ZoneNodesLaw 88 y_ZoneNodes_size, .instanceMethod y_ZoneNodes_size, .selects R_ZoneNodes y_ZoneNodes_size y_ZoneNodes_size, .methodLink R_ZoneNodesLaw 91 y_ZoneNodesModel_size, .instanceMethod y_ZoneNodesModel_size, .selects R_ZoneNodesModel y_ZoneNodesModel_size y_ZoneNodesModel_size, .methodLink R_ZoneNodesLaw 92 y_ZoneNodes_has, .instanceMethod y_ZoneNodes_has, .selects R_ZoneNodes y_ZoneNodes_has y_ZoneNodes_has, .methodLink R_ZoneNodesLaw 95 y_ZoneNodesModel_has, .instanceMethod y_ZoneNodesModel_has, .selects R_ZoneNodesModel y_ZoneNodesModel_has y_ZoneNodesModel_has, .methodLink R_ZoneNodesLaw 96 y_ZoneNodes_query, .instanceMethod y_ZoneNodes_query, .selects R_ZoneNodes y_ZoneNodes_query y_ZoneNodes_query, .methodLink R_ZoneNodesLaw 99 y_ZoneNodesModel_query, .instanceMethod y_ZoneNodesModel_query, .selects R_ZoneNodesModel y_ZoneNodesModel_query y_ZoneNodesModel_query, .methodLink R_ZoneNodesLaw 100 y_ZoneNodes_state, .instanceMethod y_ZoneNodes_state, .selects R_ZoneNodes y_ZoneNodes_state y_ZoneNodes_state, .methodLink R_ZoneNodesLaw 103 y_ZoneNodesModel_state, .instanceMethod y_ZoneNodesModel_state, .selects R_ZoneNodesModel y_ZoneNodesModel_state y_ZoneNodesModel_state, .methodLink R_ZoneNodesLaw 104 y_ZoneNodes_journal]
def TW_4 : List Cond := [.instanceMethod y_ZoneNodes_journal, .selects R_ZoneNodes y_ZoneNodes_journal y_ZoneNodes_journal, .methodLink R_ZoneNodesLaw 107 y_ZoneNodesModel_journal, .instanceMethod y_ZoneNodesModel_journal, .selects R_ZoneNodesModel y_ZoneNodesModel_journal y_ZoneNodesModel_journal]
def TW_5 : List Cond := [.code objectInit ⟨#[0xb1]⟩ 1 none, .code y_Records_init b_Records_init 1 none, .code y_Entry_init b_Entry_init 1 none, .code y_Records_valuesOf b_Records_valuesOf 3 (some .int), .code y_Records_setValues b_Records_setValues 4 none, .code y_Journal_init b_Journal_init 2 none, .code y_Records_put b_Records_put 4 none, .code y_Secondary_rest b_Secondary_rest 2 none, .code y_Secondary_comeUp b_Secondary_comeUp 2 none, .code y_Message_init b_Message_init 1 none, .code y_Draft_init b_Draft_init 1 none, .code y_Wire_init b_Wire_init 2 none, .code y_ZoneNodes_within b_ZoneNodes_within 3 (some .boolean), .code y_Primary_init b_Primary_init 2 none, .code y_Secondary_init b_Secondary_init 5 none, .code y_Wire_at b_Wire_at 2 (some (.object "ZoneNodes$Message")), .code y_Journal_leadsTo b_Journal_leadsTo 5 (some .boolean), .code y_ZoneNodes_coded b_ZoneNodes_coded 4 (some .int), .code y_Records_listInto b_Records_listInto 7 (some .int), .code y_Journal_startOfWay b_Journal_startOfWay 4 (some .int), .code y_Message_isOnStream b_Message_isOnStream 1 (some .boolean), .code y_Wire_countLossy b_Wire_countLossy 3 (some .int), .code y_Wire_put b_Wire_put 5 (some (.object "ZoneNodes$Message")), .code Lib.Math.min.name Lib.Math.min.code 2 (some .int), .code y_Primary_workOutItems b_Primary_workOutItems 5 none, .code y_Wire_sendParts b_Wire_sendParts 7 none, .code y_Wire_sendLossy b_Wire_sendLossy 4 none, .code y_ZoneNodes_isLater b_ZoneNodes_isLater 2 (some .boolean), .code y_Secondary_lacks b_Secondary_lacks 2 (some .boolean), .code y_Secondary_ask b_Secondary_ask 3 none, .code y_Wire_sendFetch b_Wire_sendFetch 5 none, .code y_Secondary_becomeRefreshed b_Secondary_becomeRefreshed 2 none, .code y_ZoneNodes_formOf b_ZoneNodes_formOf 1 (some .int), .code y_ZoneNodes_nameOf b_ZoneNodes_nameOf 1 (some .int), .code y_ZoneNodes_typeOf b_ZoneNodes_typeOf 1 (some .int), .code y_ZoneNodes_valueOf b_ZoneNodes_valueOf 1 (some .int), .code y_Records_takeAway b_Records_takeAway 4 none, .code y_Records_copyFrom b_Records_copyFrom 3 none, .code y_Records_empty b_Records_empty 2 none, .code y_Records_takeItem b_Records_takeItem 2 none, .code y_Secondary_beginIncoming b_Secondary_beginIncoming 2 none, .code y_Wire_takeOut b_Wire_takeOut 4 none, .code y_Secondary_takePart b_Secondary_takePart 4 none, .code y_Wire_endStreamOf b_Wire_endStreamOf 3 none, .code y_Secondary_loseStream b_Secondary_loseStream 2 none, .code y_Secondary_hearTell b_Secondary_hearTell 5 none, .code y_Secondary_hearNotify b_Secondary_hearNotify 4 none, .code y_ZoneNodes_isRecord b_ZoneNodes_isRecord 3 (some .boolean), .code y_Draft_addChange b_Draft_addChange 2 (some .boolean), .code y_ZoneNodes_isNode b_ZoneNodes_isNode 1 (some .boolean), .code y_ZoneNodes_isUp b_ZoneNodes_isUp 2 (some .boolean), .code y_ZoneNodes_takePrimaryDown b_ZoneNodes_takePrimaryDown 2 none, .code y_Wire_isBehindAnotherPart b_Wire_isBehindAnotherPart 3 (some .boolean), .code y_ZoneNodes_arriveAtPrimary b_ZoneNodes_arriveAtPrimary 2 none, .code y_ZoneNodes_arriveAtSecondary b_ZoneNodes_arriveAtSecondary 3 none, .code y_ZoneNodes_recordsOf b_ZoneNodes_recordsOf 2 (some (.object "ZoneNodes$Records")), .code y_Records_contains b_Records_contains 4 (some .boolean), .code y_Records_hasOtherThanAlias b_Records_hasOtherThanAlias 3 (some .boolean), .code y_Records_aliasOf b_Records_aliasOf 3 (some .int), .code y_Records_isUsed b_Records_isUsed 2 (some .boolean), .code y_Integer_bitCount b_Integer_bitCount 1 (some .int), .code y_Records_addIfAllowed b_Records_addIfAllowed 4 none, .code y_Records_clearIfAllowed b_Records_clearIfAllowed 3 none, .code y_Records_removeIfAllowed b_Records_removeIfAllowed 5 none, .code y_Records_makeChange b_Records_makeChange 6 none, .code y_Records_becomeDifference b_Records_becomeDifference 4 none, .code y_Journal_latest b_Journal_latest 1 (some (.object "ZoneNodes$Entry")), .code y_Records_exchange b_Records_exchange 4 none, .code y_Journal_keepLatest b_Journal_keepLatest 3 none, .code y_Journal_append b_Journal_append 5 none, .code y_Journal_markLatest b_Journal_markLatest 1 none, .code y_Primary_becomeLatest b_Primary_becomeLatest 2 none, .code y_Primary_takeStep b_Primary_takeStep 2 none, .code y_Draft_changeRecords b_Draft_changeRecords 3 none, .code y_Records_total b_Records_total 3 (some .int), .code y_Records_sameAs b_Records_sameAs 3 (some .boolean), .code y_Primary_writeNext b_Primary_writeNext 2 (some .boolean), .code y_ZoneNodes_notifySecondaries b_ZoneNodes_notifySecondaries 2 none, .code y_Draft_addNeed b_Draft_addNeed 2 (some .boolean), .code y_ZoneNodes_lookUp b_ZoneNodes_lookUp 6 (some .int), .code y_Secondary_isExpired b_Secondary_isExpired 2 (some .boolean), .code y_Draft_mixed b_Draft_mixed 3 (some .int), .code y_Draft_answerTo b_Draft_answerTo 4 (some .int), .code y_Draft_isExact b_Draft_isExact 5 (some .boolean), .code y_ZoneNodes_knowsKey b_ZoneNodes_knowsKey 2 (some .boolean), .code y_Draft_sealWith b_Draft_sealWith 5 (some .int), .code y_Draft_unmetNeed b_Draft_unmetNeed 4 (some .int), .code y_Journal_dropLatest b_Journal_dropLatest 1 none, .code y_Primary_comeUp b_Primary_comeUp 2 none, .code y_Secondary_askIfTimeHasCome b_Secondary_askIfTimeHasCome 5 none, .code y_ZoneNodes_refusal b_ZoneNodes_refusal 6 (some .int), .code y_Draft_empty b_Draft_empty 1 none, .code y_ZoneNodes_makeChanges b_ZoneNodes_makeChanges 2 (some .int), .code y_ZoneNodesModel_place b_ZoneNodesModel_place 3 (some .int), .code y_ZoneNodesModel_rest b_ZoneNodesModel_rest 3 none, .code y_ZoneNodesModel_isMessage b_ZoneNodesModel_isMessage 2 (some .boolean), .code y_ZoneNodesModel_isRecord b_ZoneNodesModel_isRecord 3 (some .boolean), .code y_ZoneNodesModel_say b_ZoneNodesModel_say 6 none, .code y_ZoneNodesModel_remove b_ZoneNodesModel_remove 3 none, .code y_ZoneNodesModel_isNode b_ZoneNodesModel_isNode 1 (some .boolean), .code y_ZoneNodesModel_cutOff b_ZoneNodesModel_cutOff 3 none, .code y_ZoneNodesModel_append b_ZoneNodesModel_append 8 none, .code y_ZoneNodesModel_send b_ZoneNodesModel_send 6 none, .code y_ZoneNodesModel_itemsFor b_ZoneNodesModel_itemsFor 6 (some .int), .code y_ZoneNodesModel_refreshed b_ZoneNodesModel_refreshed 2 none, .code y_ZoneNodesModel_isNews b_ZoneNodesModel_isNews 3 (some .boolean), .code y_ZoneNodesModel_takePart b_ZoneNodesModel_takePart 6 none, .code y_ZoneNodesModel_takeFetch b_ZoneNodesModel_takeFetch 7 none, .code y_ZoneNodesModel_takeTell b_ZoneNodesModel_takeTell 3 none, .code y_ZoneNodesModel_ask b_ZoneNodesModel_ask 2 none, .code y_ZoneNodesModel_shown b_ZoneNodesModel_shown 7 (some .int), .code y_ZoneNodesModel_notifyBoth b_ZoneNodesModel_notifyBoth 1 none, .code y_ZoneNodesModel_install b_ZoneNodesModel_install 3 none, .code y_ZoneNodesModel_mixed b_ZoneNodesModel_mixed 3 (some .int), .code y_ZoneNodesModel_line b_ZoneNodesModel_line 2 (some .int), .code y_ZoneNodesModel_sealed b_ZoneNodesModel_sealed 5 (some .int), .code y_ZoneNodesModel_works b_ZoneNodesModel_works 5 (some .int), .code y_ZoneNodesModel_add b_ZoneNodesModel_add 8 none, .code y_ZoneNodesModel_count b_ZoneNodesModel_count 5 (some .int), .code y_ZoneNodesModel_meets b_ZoneNodesModel_meets 5 (some .boolean), .code y_ZoneNodesModel_exact b_ZoneNodesModel_exact 8 (some .boolean), .code y_ZoneNodesModel_crash b_ZoneNodesModel_crash 3 (some .boolean), .code y_ZoneNodesModel_refusal b_ZoneNodesModel_refusal 8 (some .int), .code y_ZoneNodesModel_perform b_ZoneNodesModel_perform 10 none, .code y_ZoneNodesModel_write b_ZoneNodesModel_write 2 (some .int), .code y_ZoneNodesLaw_cell b_ZoneNodesLaw_cell 2 (some .int), .code y_ZoneNodes_init b_ZoneNodes_init 9 none, .code y_ZoneNodesModel_init b_ZoneNodesModel_init 6 none, .code y_ZoneNodes_key b_ZoneNodes_key 3 (some .boolean), .code y_ZoneNodesModel_key b_ZoneNodesModel_key 3 (some .boolean), .code y_ZoneNodes_need b_ZoneNodes_need 5 (some .boolean), .code y_ZoneNodesModel_need b_ZoneNodesModel_need 5 (some .boolean), .code y_ZoneNodes_change b_ZoneNodes_change 5 (some .boolean), .code y_ZoneNodesModel_change b_ZoneNodesModel_change 5 (some .boolean), .code y_ZoneNodes_seal b_ZoneNodes_seal 3 (some .int), .code y_ZoneNodesModel_seal b_ZoneNodesModel_seal 3 (some .int), .code y_ZoneNodes_update b_ZoneNodes_update 5 (some .int), .code y_ZoneNodesModel_update b_ZoneNodesModel_update 8 (some .int), .code y_ZoneNodes_arm b_ZoneNodes_arm 2 (some .boolean), .code y_ZoneNodesModel_arm b_ZoneNodesModel_arm 2 (some .boolean), .code y_ZoneNodes_tick b_ZoneNodes_tick 4 (some .boolean), .code y_ZoneNodesModel_tick b_ZoneNodesModel_tick 6 (some .boolean), .code y_ZoneNodes_deliver b_ZoneNodes_deliver 3 (some .boolean), .code y_ZoneNodesModel_deliver b_ZoneNodesModel_deliver 8 (some .boolean), .code y_ZoneNodes_drop b_ZoneNodes_drop 3 (some .boolean), .code y_ZoneNodesModel_drop b_ZoneNodesModel_drop 2 (some .boolean), .code y_ZoneNodes_alter b_ZoneNodes_alter 3 (some .boolean), .code y_ZoneNodesModel_alter b_ZoneNodesModel_alter 2 (some .boolean), .code y_ZoneNodes_crash b_ZoneNodes_crash 2 (some .boolean), .code y_ZoneNodes_restart b_ZoneNodes_restart 2 (some .boolean)]
def TW_6 : List Cond := [.code y_ZoneNodesModel_restart b_ZoneNodesModel_restart 3 (some .boolean), .code y_ZoneNodes_messages b_ZoneNodes_messages 1 (some .int), .code y_ZoneNodesModel_messages b_ZoneNodesModel_messages 1 (some .int), .code y_ZoneNodes_message b_ZoneNodes_message 4 (some .int), .code y_ZoneNodesModel_message b_ZoneNodesModel_message 2 (some .int), .code y_ZoneNodes_serial b_ZoneNodes_serial 2 (some .int), .code y_ZoneNodesModel_serial b_ZoneNodesModel_serial 2 (some .int), .code y_ZoneNodes_size b_ZoneNodes_size 3 (some .int), .code y_ZoneNodesModel_size b_ZoneNodesModel_size 4 (some .int), .code y_ZoneNodes_has b_ZoneNodes_has 6 (some .boolean), .code y_ZoneNodesModel_has b_ZoneNodesModel_has 5 (some .boolean), .code y_ZoneNodes_query b_ZoneNodes_query 5 (some .int), .code y_ZoneNodesModel_query b_ZoneNodesModel_query 8 (some .int), .code y_ZoneNodes_state b_ZoneNodes_state 2 (some .int), .code y_ZoneNodesModel_state b_ZoneNodesModel_state 2 (some .int), .code y_ZoneNodes_journal b_ZoneNodes_journal 1 (some .int), .code y_ZoneNodesModel_journal b_ZoneNodesModel_journal 1 (some .int)]
def TW : List Cond := u_ws R_Draft F_Draft 4 ++ (u_ws R_Entry F_Entry 4 ++ (u_ws R_Journal F_Journal 2 ++ (u_ws R_Message F_Message 10 ++ (u_ws R_Primary F_Primary 9 ++ (u_ws R_Records F_Records 1 ++ (u_ws R_Secondary F_Secondary 13 ++ (u_ws R_Wire F_Wire 2 ++ (u_ws R_ZoneNodes F_ZoneNodes 7 ++ (u_ws R_ZoneNodesModel F_ZoneNodesModel 32 ++ (TW_0 ++ (TW_1 ++ (TW_2 ++ (TW_3 ++ (TW_4 ++ (TW_5 ++ (TW_6))))))))))))))))
theorem in_Draft : ∀ w ∈ u_ws R_Draft F_Draft 4, w ∈ TW := fun w h => (List.mem_append_left _ h)
theorem in_Entry : ∀ w ∈ u_ws R_Entry F_Entry 4, w ∈ TW := fun w h => (List.mem_append_right _ (List.mem_append_left _ h))
theorem in_Journal : ∀ w ∈ u_ws R_Journal F_Journal 2, w ∈ TW := fun w h => (List.mem_append_right _ (List.mem_append_right _ (List.mem_append_left _ h)))
theorem in_Message : ∀ w ∈ u_ws R_Message F_Message 10, w ∈ TW := fun w h => (List.mem_append_right _ (List.mem_append_right _ (List.mem_append_right _ (List.mem_append_left _ h))))
theorem in_Primary : ∀ w ∈ u_ws R_Primary F_Primary 9, w ∈ TW := fun w h => (List.mem_append_right _ (List.mem_append_right _ (List.mem_append_right _ (List.mem_append_right _ (List.mem_append_left _ h)))))
theorem in_Records : ∀ w ∈ u_ws R_Records F_Records 1, w ∈ TW := fun w h => (List.mem_append_right _ (List.mem_append_right _ (List.mem_append_right _ (List.mem_append_right _ (List.mem_append_right _ (List.mem_append_left _ h))))))
theorem in_Secondary : ∀ w ∈ u_ws R_Secondary F_Secondary 13, w ∈ TW := fun w h => (List.mem_append_right _ (List.mem_append_right _ (List.mem_append_right _ (List.mem_append_right _ (List.mem_append_right _ (List.mem_append_right _ (List.mem_append_left _ h)))))))
theorem in_Wire : ∀ w ∈ u_ws R_Wire F_Wire 2, w ∈ TW := fun w h => (List.mem_append_right _ (List.mem_append_right _ (List.mem_append_right _ (List.mem_append_right _ (List.mem_append_right _ (List.mem_append_right _ (List.mem_append_right _ (List.mem_append_left _ h))))))))
theorem in_ZoneNodes : ∀ w ∈ u_ws R_ZoneNodes F_ZoneNodes 7, w ∈ TW := fun w h => (List.mem_append_right _ (List.mem_append_right _ (List.mem_append_right _ (List.mem_append_right _ (List.mem_append_right _ (List.mem_append_right _ (List.mem_append_right _ (List.mem_append_right _ (List.mem_append_left _ h)))))))))
theorem in_ZoneNodesModel : ∀ w ∈ u_ws R_ZoneNodesModel F_ZoneNodesModel 32, w ∈ TW := fun w h => (List.mem_append_right _ (List.mem_append_right _ (List.mem_append_right _ (List.mem_append_right _ (List.mem_append_right _ (List.mem_append_right _ (List.mem_append_right _ (List.mem_append_right _ (List.mem_append_right _ (List.mem_append_left _ h))))))))))
theorem tW0 : (.methodLink R_Draft 3 objectInit : Cond) ∈ TW := (List.mem_append_right _ (List.mem_append_right _ (List.mem_append_right _ (List.mem_append_right _ (List.mem_append_right _ (List.mem_append_right _ (List.mem_append_right _ (List.mem_append_right _ (List.mem_append_right _ (List.mem_append_right _ (List.mem_append_left _ (List.mem_of_getElem? (i := 0) rfl))))))))))))
theorem tW1 : (.instanceMethod objectInit : Cond) ∈ TW := (List.mem_append_right _ (List.mem_append_right _ (List.mem_append_right _ (List.mem_append_right _ (List.mem_append_right _ (List.mem_append_right _ (List.mem_append_right _ (List.mem_append_right _ (List.mem_append_right _ (List.mem_append_right _ (List.mem_append_left _ (List.mem_of_getElem? (i := 1) rfl))))))))))))
theorem tW3 : (.arrayClass .int : Cond) ∈ TW := (List.mem_append_right _ (List.mem_append_right _ (List.mem_append_right _ (List.mem_append_right _ (List.mem_append_right _ (List.mem_append_right _ (List.mem_append_right _ (List.mem_append_right _ (List.mem_append_right _ (List.mem_append_right _ (List.mem_append_left _ (List.mem_of_getElem? (i := 2) rfl))))))))))))
theorem tW4 : (.fieldLink R_Draft 9 R_Draft "needs" "[I" : Cond) ∈ TW := (List.mem_append_right _ (List.mem_append_right _ (List.mem_append_right _ (List.mem_append_right _ (List.mem_append_right _ (List.mem_append_right _ (List.mem_append_right _ (List.mem_append_right _ (List.mem_append_right _ (List.mem_append_right _ (List.mem_append_left _ (List.mem_of_getElem? (i := 3) rfl))))))))))))
theorem tW5 : (.fieldLink R_Draft 15 R_Draft "changes" "[I" : Cond) ∈ TW := (List.mem_append_right _ (List.mem_append_right _ (List.mem_append_right _ (List.mem_append_right _ (List.mem_append_right _ (List.mem_append_right _ (List.mem_append_right _ (List.mem_append_right _ (List.mem_append_right _ (List.mem_append_right _ (List.mem_append_left _ (List.mem_of_getElem? (i := 4) rfl))))))))))))
theorem tW6 : (.methodLink R_Records 3 objectInit : Cond) ∈ TW := (List.mem_append_right _ (List.mem_append_right _ (List.mem_append_right _ (List.mem_append_right _ (List.mem_append_right _ (List.mem_append_right _ (List.mem_append_right _ (List.mem_append_right _ (List.mem_append_right _ (List.mem_append_right _ (List.mem_append_left _ (List.mem_of_getElem? (i := 5) rfl))))))))))))
theorem tW7 : (.fieldLink R_Records 9 R_Records "values" "[I" : Cond) ∈ TW := (List.mem_append_right _ (List.mem_append_right _ (List.mem_append_right _ (List.mem_append_right _ (List.mem_append_right _ (List.mem_append_right _ (List.mem_append_right _ (List.mem_append_right _ (List.mem_append_right _ (List.mem_append_right _ (List.mem_append_left _ (List.mem_of_getElem? (i := 6) rfl))))))))))))
theorem tW8 : (.methodLink R_Entry 1 objectInit : Cond) ∈ TW := (List.mem_append_right _ (List.mem_append_right _ (List.mem_append_right _ (List.mem_append_right _ (List.mem_append_right _ (List.mem_append_right _ (List.mem_append_right _ (List.mem_append_right _ (List.mem_append_right _ (List.mem_append_right _ (List.mem_append_left _ (List.mem_of_getElem? (i := 7) rfl))))))))))))
theorem tW9 : (.classLink R_Entry 7 R_Records : Cond) ∈ TW := (List.mem_append_right _ (List.mem_append_right _ (List.mem_append_right _ (List.mem_append_right _ (List.mem_append_right _ (List.mem_append_right _ (List.mem_append_right _ (List.mem_append_right _ (List.mem_append_right _ (List.mem_append_right _ (List.mem_append_left _ (List.mem_of_getElem? (i := 8) rfl))))))))))))
theorem tW10 : (.instantiable R_Records 1 : Cond) ∈ TW := (List.mem_append_right _ (List.mem_append_right _ (List.mem_append_right _ (List.mem_append_right _ (List.mem_append_right _ (List.mem_append_right _ (List.mem_append_right _ (List.mem_append_right _ (List.mem_append_right _ (List.mem_append_right _ (List.mem_append_left _ (List.mem_of_getElem? (i := 9) rfl))))))))))))
theorem tW11 : (.initialized R_Records : Cond) ∈ TW := (List.mem_append_right _ (List.mem_append_right _ (List.mem_append_right _ (List.mem_append_right _ (List.mem_append_right _ (List.mem_append_right _ (List.mem_append_right _ (List.mem_append_right _ (List.mem_append_right _ (List.mem_append_right _ (List.mem_append_left _ (List.mem_of_getElem? (i := 10) rfl))))))))))))
theorem tW13 : (.instanceMethod y_Records_init : Cond) ∈ TW := (List.mem_append_right _ (List.mem_append_right _ (List.mem_append_right _ (List.mem_append_right _ (List.mem_append_right _ (List.mem_append_right _ (List.mem_append_right _ (List.mem_append_right _ (List.mem_append_right _ (List.mem_append_right _ (List.mem_append_left _ (List.mem_of_getElem? (i := 11) rfl))))))))))))
theorem tW14 : (.fieldLink R_Entry 10 R_Entry "gone" "LZoneNodes$Records;" : Cond) ∈ TW := (List.mem_append_right _ (List.mem_append_right _ (List.mem_append_right _ (List.mem_append_right _ (List.mem_append_right _ (List.mem_append_right _ (List.mem_append_right _ (List.mem_append_right _ (List.mem_append_right _ (List.mem_append_right _ (List.mem_append_left _ (List.mem_of_getElem? (i := 12) rfl))))))))))))
theorem tW15 : (.fieldLink R_Entry 16 R_Entry "come" "LZoneNodes$Records;" : Cond) ∈ TW := (List.mem_append_right _ (List.mem_append_right _ (List.mem_append_right _ (List.mem_append_right _ (List.mem_append_right _ (List.mem_append_right _ (List.mem_append_right _ (List.mem_append_right _ (List.mem_append_right _ (List.mem_append_right _ (List.mem_append_left _ (List.mem_of_getElem? (i := 13) rfl))))))))))))
theorem tW16 : (.methodLink R_Journal 3 objectInit : Cond) ∈ TW := (List.mem_append_right _ (List.mem_append_right _ (List.mem_append_right _ (List.mem_append_right _ (List.mem_append_right _ (List.mem_append_right _ (List.mem_append_right _ (List.mem_append_right _ (List.mem_append_right _ (List.mem_append_right _ (List.mem_append_left _ (List.mem_of_getElem? (i := 14) rfl))))))))))))
theorem tW17 : (.classLink R_Journal 9 R_Entry : Cond) ∈ TW := (List.mem_append_right _ (List.mem_append_right _ (List.mem_append_right _ (List.mem_append_right _ (List.mem_append_right _ (List.mem_append_right _ (List.mem_append_right _ (List.mem_append_right _ (List.mem_append_right _ (List.mem_append_right _ (List.mem_append_left _ (List.mem_of_getElem? (i := 15) rfl))))))))))))
theorem tW18 : (.fieldLink R_Journal 11 R_Journal "rows" "[LZoneNodes$Entry;" : Cond) ∈ TW := (List.mem_append_right _ (List.mem_append_right _ (List.mem_append_right _ (List.mem_append_right _ (List.mem_append_right _ (List.mem_append_right _ (List.mem_append_right _ (List.mem_append_right _ (List.mem_append_right _ (List.mem_append_right _ (List.mem_append_left _ (List.mem_of_getElem? (i := 16) rfl))))))))))))
theorem tW19 : (.instantiable R_Entry 4 : Cond) ∈ TW := (List.mem_append_right _ (List.mem_append_right _ (List.mem_append_right _ (List.mem_append_right _ (List.mem_append_right _ (List.mem_append_right _ (List.mem_append_right _ (List.mem_append_right _ (List.mem_append_right _ (List.mem_append_right _ (List.mem_append_left _ (List.mem_of_getElem? (i := 17) rfl))))))))))))
theorem tW20 : (.initialized R_Entry : Cond) ∈ TW := (List.mem_append_right _ (List.mem_append_right _ (List.mem_append_right _ (List.mem_append_right _ (List.mem_append_right _ (List.mem_append_right _ (List.mem_append_right _ (List.mem_append_right _ (List.mem_append_right _ (List.mem_append_right _ (List.mem_append_left _ (List.mem_of_getElem? (i := 18) rfl))))))))))))
theorem tW22 : (.instanceMethod y_Entry_init : Cond) ∈ TW := (List.mem_append_right _ (List.mem_append_right _ (List.mem_append_right _ (List.mem_append_right _ (List.mem_append_right _ (List.mem_append_right _ (List.mem_append_right _ (List.mem_append_right _ (List.mem_append_right _ (List.mem_append_right _ (List.mem_append_left _ (List.mem_of_getElem? (i := 19) rfl))))))))))))
theorem tW23 : (.methodLink R_Records 15 y_Records_valuesOf : Cond) ∈ TW := (List.mem_append_right _ (List.mem_append_right _ (List.mem_append_right _ (List.mem_append_right _ (List.mem_append_right _ (List.mem_append_right _ (List.mem_append_right _ (List.mem_append_right _ (List.mem_append_right _ (List.mem_append_right _ (List.mem_append_left _ (List.mem_of_getElem? (i := 20) rfl))))))))))))
theorem tW25 : (.instanceMethod y_Records_valuesOf : Cond) ∈ TW := (List.mem_append_right _ (List.mem_append_right _ (List.mem_append_right _ (List.mem_append_right _ (List.mem_append_right _ (List.mem_append_right _ (List.mem_append_right _ (List.mem_append_right _ (List.mem_append_right _ (List.mem_append_right _ (List.mem_append_left _ (List.mem_of_getElem? (i := 21) rfl))))))))))))
theorem tW26 : (.selects R_Records y_Records_valuesOf y_Records_valuesOf : Cond) ∈ TW := (List.mem_append_right _ (List.mem_append_right _ (List.mem_append_right _ (List.mem_append_right _ (List.mem_append_right _ (List.mem_append_right _ (List.mem_append_right _ (List.mem_append_right _ (List.mem_append_right _ (List.mem_append_right _ (List.mem_append_left _ (List.mem_of_getElem? (i := 22) rfl))))))))))))
theorem tW27 : (.methodLink R_Records 33 y_Records_setValues : Cond) ∈ TW := (List.mem_append_right _ (List.mem_append_right _ (List.mem_append_right _ (List.mem_append_right _ (List.mem_append_right _ (List.mem_append_right _ (List.mem_append_right _ (List.mem_append_right _ (List.mem_append_right _ (List.mem_append_right _ (List.mem_append_left _ (List.mem_of_getElem? (i := 23) rfl))))))))))))
theorem tW29 : (.instanceMethod y_Records_setValues : Cond) ∈ TW := (List.mem_append_right _ (List.mem_append_right _ (List.mem_append_right _ (List.mem_append_right _ (List.mem_append_right _ (List.mem_append_right _ (List.mem_append_right _ (List.mem_append_right _ (List.mem_append_right _ (List.mem_append_right _ (List.mem_append_left _ (List.mem_of_getElem? (i := 24) rfl))))))))))))
theorem tW30 : (.selects R_Records y_Records_setValues y_Records_setValues : Cond) ∈ TW := (List.mem_append_right _ (List.mem_append_right _ (List.mem_append_right _ (List.mem_append_right _ (List.mem_append_right _ (List.mem_append_right _ (List.mem_append_right _ (List.mem_append_right _ (List.mem_append_right _ (List.mem_append_right _ (List.mem_append_left _ (List.mem_of_getElem? (i := 25) rfl))))))))))))
theorem tW31 : (.methodLink R_Primary 3 objectInit : Cond) ∈ TW := (List.mem_append_right _ (List.mem_append_right _ (List.mem_append_right _ (List.mem_append_right _ (List.mem_append_right _ (List.mem_append_right _ (List.mem_append_right _ (List.mem_append_right _ (List.mem_append_right _ (List.mem_append_right _ (List.mem_append_left _ (List.mem_of_getElem? (i := 26) rfl))))))))))))
theorem tW32 : (.classLink R_Primary 9 R_Records : Cond) ∈ TW := (List.mem_append_right _ (List.mem_append_right _ (List.mem_append_right _ (List.mem_append_right _ (List.mem_append_right _ (List.mem_append_right _ (List.mem_append_right _ (List.mem_append_right _ (List.mem_append_right _ (List.mem_append_right _ (List.mem_append_left _ (List.mem_of_getElem? (i := 27) rfl))))))))))))
theorem tW33 : (.fieldLink R_Primary 12 R_Primary "records" "LZoneNodes$Records;" : Cond) ∈ TW := (List.mem_append_right _ (List.mem_append_right _ (List.mem_append_right _ (List.mem_append_right _ (List.mem_append_right _ (List.mem_append_right _ (List.mem_append_right _ (List.mem_append_right _ (List.mem_append_right _ (List.mem_append_right _ (List.mem_append_left _ (List.mem_of_getElem? (i := 28) rfl))))))))))))
theorem tW34 : (.fieldLink R_Primary 18 R_Primary "next" "LZoneNodes$Records;" : Cond) ∈ TW := (List.mem_append_right _ (List.mem_append_right _ (List.mem_append_right _ (List.mem_append_right _ (List.mem_append_right _ (List.mem_append_right _ (List.mem_append_right _ (List.mem_append_right _ (List.mem_append_right _ (List.mem_append_right _ (List.mem_append_left _ (List.mem_of_getElem? (i := 29) rfl))))))))))))
theorem tW35 : (.classLink R_Primary 21 R_Journal : Cond) ∈ TW := (List.mem_append_right _ (List.mem_append_right _ (List.mem_append_right _ (List.mem_append_right _ (List.mem_append_right _ (List.mem_append_right _ (List.mem_append_right _ (List.mem_append_right _ (List.mem_append_right _ (List.mem_append_right _ (List.mem_append_left _ (List.mem_of_getElem? (i := 30) rfl))))))))))))
theorem tW36 : (.instantiable R_Journal 2 : Cond) ∈ TW := (List.mem_append_right _ (List.mem_append_right _ (List.mem_append_right _ (List.mem_append_right _ (List.mem_append_right _ (List.mem_append_right _ (List.mem_append_right _ (List.mem_append_right _ (List.mem_append_right _ (List.mem_append_right _ (List.mem_append_left _ (List.mem_of_getElem? (i := 31) rfl))))))))))))
theorem tW37 : (.initialized R_Journal : Cond) ∈ TW := (List.mem_append_right _ (List.mem_append_right _ (List.mem_append_right _ (List.mem_append_right _ (List.mem_append_right _ (List.mem_append_right _ (List.mem_append_right _ (List.mem_append_right _ (List.mem_append_right _ (List.mem_append_right _ (List.mem_append_left _ (List.mem_of_getElem? (i := 32) rfl))))))))))))
theorem tW38 : (.methodLink R_Primary 23 y_Journal_init : Cond) ∈ TW := (List.mem_append_right _ (List.mem_append_right _ (List.mem_append_right _ (List.mem_append_right _ (List.mem_append_right _ (List.mem_append_right _ (List.mem_append_right _ (List.mem_append_right _ (List.mem_append_right _ (List.mem_append_right _ (List.mem_append_left _ (List.mem_of_getElem? (i := 33) rfl))))))))))))
theorem tW40 : (.instanceMethod y_Journal_init : Cond) ∈ TW := (List.mem_append_right _ (List.mem_append_right _ (List.mem_append_right _ (List.mem_append_right _ (List.mem_append_right _ (List.mem_append_right _ (List.mem_append_right _ (List.mem_append_right _ (List.mem_append_right _ (List.mem_append_right _ (List.mem_append_left _ (List.mem_of_getElem? (i := 34) rfl))))))))))))
theorem tW41 : (.fieldLink R_Primary 24 R_Primary "entries" "LZoneNodes$Journal;" : Cond) ∈ TW := (List.mem_append_right _ (List.mem_append_right _ (List.mem_append_right _ (List.mem_append_right _ (List.mem_append_right _ (List.mem_append_right _ (List.mem_append_right _ (List.mem_append_right _ (List.mem_append_right _ (List.mem_append_right _ (List.mem_append_left _ (List.mem_of_getElem? (i := 35) rfl))))))))))))
theorem tW42 : (.fieldLink R_Primary 28 R_Primary "items" "[I" : Cond) ∈ TW := (List.mem_append_right _ (List.mem_append_right _ (List.mem_append_right _ (List.mem_append_right _ (List.mem_append_right _ (List.mem_append_right _ (List.mem_append_right _ (List.mem_append_right _ (List.mem_append_right _ (List.mem_append_right _ (List.mem_append_left _ (List.mem_of_getElem? (i := 36) rfl))))))))))))
theorem tW43 : (.fieldLink R_Primary 32 R_Primary "up" "Z" : Cond) ∈ TW := (List.mem_append_right _ (List.mem_append_right _ (List.mem_append_right _ (List.mem_append_right _ (List.mem_append_right _ (List.mem_append_right _ (List.mem_append_right _ (List.mem_append_right _ (List.mem_append_right _ (List.mem_append_right _ (List.mem_append_left _ (List.mem_of_getElem? (i := 37) rfl))))))))))))
theorem tW44 : (.fieldLink R_Primary 36 R_Primary "serial" "I" : Cond) ∈ TW := (List.mem_append_right _ (List.mem_append_right _ (List.mem_append_right _ (List.mem_append_right _ (List.mem_append_right _ (List.mem_append_right _ (List.mem_append_right _ (List.mem_append_right _ (List.mem_append_right _ (List.mem_append_right _ (List.mem_append_left _ (List.mem_of_getElem? (i := 38) rfl))))))))))))
theorem tW45 : (.methodLink R_Primary 40 y_Records_put : Cond) ∈ TW := (List.mem_append_right _ (List.mem_append_right _ (List.mem_append_right _ (List.mem_append_right _ (List.mem_append_right _ (List.mem_append_right _ (List.mem_append_right _ (List.mem_append_right _ (List.mem_append_right _ (List.mem_append_right _ (List.mem_append_left _ (List.mem_of_getElem? (i := 39) rfl))))))))))))
theorem tW47 : (.instanceMethod y_Records_put : Cond) ∈ TW := (List.mem_append_right _ (List.mem_append_right _ (List.mem_append_right _ (List.mem_append_right _ (List.mem_append_right _ (List.mem_append_right _ (List.mem_append_right _ (List.mem_append_right _ (List.mem_append_right _ (List.mem_append_right _ (List.mem_append_left _ (List.mem_of_getElem? (i := 40) rfl))))))))))))
theorem tW48 : (.selects R_Records y_Records_put y_Records_put : Cond) ∈ TW := (List.mem_append_right _ (List.mem_append_right _ (List.mem_append_right _ (List.mem_append_right _ (List.mem_append_right _ (List.mem_append_right _ (List.mem_append_right _ (List.mem_append_right _ (List.mem_append_right _ (List.mem_append_right _ (List.mem_append_left _ (List.mem_of_getElem? (i := 41) rfl))))))))))))
theorem tW49 : (.fieldLink R_Secondary 48 R_Secondary "phase" "I" : Cond) ∈ TW := (List.mem_append_right _ (List.mem_append_right _ (List.mem_append_right _ (List.mem_append_right _ (List.mem_append_right _ (List.mem_append_right _ (List.mem_append_right _ (List.mem_append_right _ (List.mem_append_right _ (List.mem_append_right _ (List.mem_append_left _ (List.mem_of_getElem? (i := 42) rfl))))))))))))
theorem tW50 : (.fieldLink R_Secondary 54 R_Secondary "due" "I" : Cond) ∈ TW := (List.mem_append_right _ (List.mem_append_right _ (List.mem_append_right _ (List.mem_append_right _ (List.mem_append_right _ (List.mem_append_right _ (List.mem_append_right _ (List.mem_append_right _ (List.mem_append_right _ (List.mem_append_right _ (List.mem_append_left _ (List.mem_of_getElem? (i := 43) rfl))))))))))))
theorem tW51 : (.fieldLink R_Secondary 38 R_Secondary "up" "Z" : Cond) ∈ TW := (List.mem_append_right _ (List.mem_append_right _ (List.mem_append_right _ (List.mem_append_right _ (List.mem_append_right _ (List.mem_append_right _ (List.mem_append_right _ (List.mem_append_right _ (List.mem_append_right _ (List.mem_append_right _ (List.mem_append_left _ (List.mem_of_getElem? (i := 44) rfl))))))))))))
theorem tW52 : (.methodLink R_Secondary 42 y_Secondary_rest : Cond) ∈ TW := (List.mem_append_right _ (List.mem_append_right _ (List.mem_append_right _ (List.mem_append_right _ (List.mem_append_right _ (List.mem_append_right _ (List.mem_append_right _ (List.mem_append_right _ (List.mem_append_right _ (List.mem_append_right _ (List.mem_append_left _ (List.mem_of_getElem? (i := 45) rfl))))))))))))
theorem tW54 : (.initialized R_Secondary : Cond) ∈ TW := (List.mem_append_right _ (List.mem_append_right _ (List.mem_append_right _ (List.mem_append_right _ (List.mem_append_right _ (List.mem_append_right _ (List.mem_append_right _ (List.mem_append_right _ (List.mem_append_right _ (List.mem_append_right _ (List.mem_append_left _ (List.mem_of_getElem? (i := 46) rfl))))))))))))
theorem tW55 : (.instanceMethod y_Secondary_rest : Cond) ∈ TW := (List.mem_append_right _ (List.mem_append_right _ (List.mem_append_right _ (List.mem_append_right _ (List.mem_append_right _ (List.mem_append_right _ (List.mem_append_right _ (List.mem_append_right _ (List.mem_append_right _ (List.mem_append_right _ (List.mem_append_left _ (List.mem_of_getElem? (i := 47) rfl))))))))))))
theorem tW56 : (.selects R_Secondary y_Secondary_rest y_Secondary_rest : Cond) ∈ TW := (List.mem_append_right _ (List.mem_append_right _ (List.mem_append_right _ (List.mem_append_right _ (List.mem_append_right _ (List.mem_append_right _ (List.mem_append_right _ (List.mem_append_right _ (List.mem_append_right _ (List.mem_append_right _ (List.mem_append_left _ (List.mem_of_getElem? (i := 48) rfl))))))))))))
theorem tW57 : (.fieldLink R_Secondary 31 R_Secondary "expire" "I" : Cond) ∈ TW := (List.mem_append_right _ (List.mem_append_right _ (List.mem_append_right _ (List.mem_append_right _ (List.mem_append_right _ (List.mem_append_right _ (List.mem_append_right _ (List.mem_append_right _ (List.mem_append_right _ (List.mem_append_right _ (List.mem_append_left _ (List.mem_of_getElem? (i := 49) rfl))))))))))))
theorem tW58 : (.fieldLink R_Secondary 45 R_Secondary "expiry" "I" : Cond) ∈ TW := (List.mem_append_right _ (List.mem_append_right _ (List.mem_append_right _ (List.mem_append_right _ (List.mem_append_right _ (List.mem_append_right _ (List.mem_append_right _ (List.mem_append_right _ (List.mem_append_right _ (List.mem_append_right _ (List.mem_append_left _ (List.mem_of_getElem? (i := 50) rfl))))))))))))
theorem tW59 : (.methodLink R_Secondary 3 objectInit : Cond) ∈ TW := (List.mem_append_right _ (List.mem_append_right _ (List.mem_append_right _ (List.mem_append_right _ (List.mem_append_right _ (List.mem_append_right _ (List.mem_append_right _ (List.mem_append_right _ (List.mem_append_right _ (List.mem_append_right _ (List.mem_append_left _ (List.mem_of_getElem? (i := 51) rfl))))))))))))
theorem tW60 : (.classLink R_Secondary 9 R_Records : Cond) ∈ TW := (List.mem_append_right _ (List.mem_append_right _ (List.mem_append_right _ (List.mem_append_right _ (List.mem_append_right _ (List.mem_append_right _ (List.mem_append_right _ (List.mem_append_right _ (List.mem_append_right _ (List.mem_append_right _ (List.mem_append_left _ (List.mem_of_getElem? (i := 52) rfl))))))))))))
theorem tW61 : (.fieldLink R_Secondary 12 R_Secondary "records" "LZoneNodes$Records;" : Cond) ∈ TW := (List.mem_append_right _ (List.mem_append_right _ (List.mem_append_right _ (List.mem_append_right _ (List.mem_append_right _ (List.mem_append_right _ (List.mem_append_right _ (List.mem_append_right _ (List.mem_append_right _ (List.mem_append_right _ (List.mem_append_left _ (List.mem_of_getElem? (i := 53) rfl))))))))))))
theorem tW62 : (.fieldLink R_Secondary 18 R_Secondary "incoming" "LZoneNodes$Records;" : Cond) ∈ TW := (List.mem_append_right _ (List.mem_append_right _ (List.mem_append_right _ (List.mem_append_right _ (List.mem_append_right _ (List.mem_append_right _ (List.mem_append_right _ (List.mem_append_right _ (List.mem_append_right _ (List.mem_append_right _ (List.mem_append_left _ (List.mem_of_getElem? (i := 54) rfl))))))))))))
theorem tW63 : (.fieldLink R_Secondary 21 R_Secondary "number" "I" : Cond) ∈ TW := (List.mem_append_right _ (List.mem_append_right _ (List.mem_append_right _ (List.mem_append_right _ (List.mem_append_right _ (List.mem_append_right _ (List.mem_append_right _ (List.mem_append_right _ (List.mem_append_right _ (List.mem_append_right _ (List.mem_append_left _ (List.mem_of_getElem? (i := 55) rfl))))))))))))
theorem tW64 : (.fieldLink R_Secondary 25 R_Secondary "refresh" "I" : Cond) ∈ TW := (List.mem_append_right _ (List.mem_append_right _ (List.mem_append_right _ (List.mem_append_right _ (List.mem_append_right _ (List.mem_append_right _ (List.mem_append_right _ (List.mem_append_right _ (List.mem_append_right _ (List.mem_append_right _ (List.mem_append_left _ (List.mem_of_getElem? (i := 56) rfl))))))))))))
theorem tW65 : (.fieldLink R_Secondary 28 R_Secondary "retry" "I" : Cond) ∈ TW := (List.mem_append_right _ (List.mem_append_right _ (List.mem_append_right _ (List.mem_append_right _ (List.mem_append_right _ (List.mem_append_right _ (List.mem_append_right _ (List.mem_append_right _ (List.mem_append_right _ (List.mem_append_right _ (List.mem_append_left _ (List.mem_of_getElem? (i := 57) rfl))))))))))))
theorem tW66 : (.methodLink R_Secondary 34 y_Secondary_comeUp : Cond) ∈ TW := (List.mem_append_right _ (List.mem_append_right _ (List.mem_append_right _ (List.mem_append_right _ (List.mem_append_right _ (List.mem_append_right _ (List.mem_append_right _ (List.mem_append_right _ (List.mem_append_right _ (List.mem_append_right _ (List.mem_append_left _ (List.mem_of_getElem? (i := 58) rfl))))))))))))
theorem tW68 : (.instanceMethod y_Secondary_comeUp : Cond) ∈ TW := (List.mem_append_right _ (List.mem_append_right _ (List.mem_append_right _ (List.mem_append_right _ (List.mem_append_right _ (List.mem_append_right _ (List.mem_append_right _ (List.mem_append_right _ (List.mem_append_right _ (List.mem_append_right _ (List.mem_append_left _ (List.mem_of_getElem? (i := 59) rfl))))))))))))
theorem tW69 : (.selects R_Secondary y_Secondary_comeUp y_Secondary_comeUp : Cond) ∈ TW := (List.mem_append_right _ (List.mem_append_right _ (List.mem_append_right _ (List.mem_append_right _ (List.mem_append_right _ (List.mem_append_right _ (List.mem_append_right _ (List.mem_append_right _ (List.mem_append_right _ (List.mem_append_right _ (List.mem_append_left _ (List.mem_of_getElem? (i := 60) rfl))))))))))))
theorem tW70 : (.methodLink R_Message 3 objectInit : Cond) ∈ TW := (List.mem_append_right _ (List.mem_append_right _ (List.mem_append_right _ (List.mem_append_right _ (List.mem_append_right _ (List.mem_append_right _ (List.mem_append_right _ (List.mem_append_right _ (List.mem_append_right _ (List.mem_append_right _ (List.mem_append_left _ (List.mem_of_getElem? (i := 61) rfl))))))))))))
theorem tW71 : (.fieldLink R_Message 9 R_Message "items" "[I" : Cond) ∈ TW := (List.mem_append_right _ (List.mem_append_right _ (List.mem_append_right _ (List.mem_append_right _ (List.mem_append_right _ (List.mem_append_right _ (List.mem_append_right _ (List.mem_append_right _ (List.mem_append_right _ (List.mem_append_right _ (List.mem_append_left _ (List.mem_of_getElem? (i := 62) rfl))))))))))))
theorem tW72 : (.methodLink R_Wire 3 objectInit : Cond) ∈ TW := (List.mem_append_right _ (List.mem_append_right _ (List.mem_append_right _ (List.mem_append_right _ (List.mem_append_right _ (List.mem_append_right _ (List.mem_append_right _ (List.mem_append_right _ (List.mem_append_right _ (List.mem_append_right _ (List.mem_append_left _ (List.mem_of_getElem? (i := 63) rfl))))))))))))
theorem tW73 : (.classLink R_Wire 9 R_Message : Cond) ∈ TW := (List.mem_append_right _ (List.mem_append_right _ (List.mem_append_right _ (List.mem_append_right _ (List.mem_append_right _ (List.mem_append_right _ (List.mem_append_right _ (List.mem_append_right _ (List.mem_append_right _ (List.mem_append_right _ (List.mem_append_left _ (List.mem_of_getElem? (i := 64) rfl))))))))))))
theorem tW74 : (.fieldLink R_Wire 11 R_Wire "rows" "[LZoneNodes$Message;" : Cond) ∈ TW := (List.mem_append_right _ (List.mem_append_right _ (List.mem_append_right _ (List.mem_append_right _ (List.mem_append_right _ (List.mem_append_right _ (List.mem_append_right _ (List.mem_append_right _ (List.mem_append_right _ (List.mem_append_right _ (List.mem_append_left _ (List.mem_of_getElem? (i := 65) rfl))))))))))))
theorem tW75 : (.instantiable R_Message 10 : Cond) ∈ TW := (List.mem_append_right _ (List.mem_append_right _ (List.mem_append_right _ (List.mem_append_right _ (List.mem_append_right _ (List.mem_append_right _ (List.mem_append_right _ (List.mem_append_right _ (List.mem_append_right _ (List.mem_append_right _ (List.mem_append_left _ (List.mem_of_getElem? (i := 66) rfl))))))))))))
theorem tW76 : (.initialized R_Message : Cond) ∈ TW := (List.mem_append_right _ (List.mem_append_right _ (List.mem_append_right _ (List.mem_append_right _ (List.mem_append_right _ (List.mem_append_right _ (List.mem_append_right _ (List.mem_append_right _ (List.mem_append_right _ (List.mem_append_right _ (List.mem_append_left _ (List.mem_of_getElem? (i := 67) rfl))))))))))))
theorem tW78 : (.instanceMethod y_Message_init : Cond) ∈ TW := (List.mem_append_right _ (List.mem_append_right _ (List.mem_append_right _ (List.mem_append_right _ (List.mem_append_right _ (List.mem_append_right _ (List.mem_append_right _ (List.mem_append_right _ (List.mem_append_right _ (List.mem_append_right _ (List.mem_append_left _ (List.mem_of_getElem? (i := 68) rfl))))))))))))
theorem tW79 : (.methodLink R_ZoneNodes 3 objectInit : Cond) ∈ TW := (List.mem_append_right _ (List.mem_append_right _ (List.mem_append_right _ (List.mem_append_right _ (List.mem_append_right _ (List.mem_append_right _ (List.mem_append_right _ (List.mem_append_right _ (List.mem_append_right _ (List.mem_append_right _ (List.mem_append_left _ (List.mem_of_getElem? (i := 69) rfl))))))))))))
theorem tW80 : (.fieldLink R_ZoneNodes 9 R_ZoneNodes "secrets" "[I" : Cond) ∈ TW := (List.mem_append_right _ (List.mem_append_right _ (List.mem_append_right _ (List.mem_append_right _ (List.mem_append_right _ (List.mem_append_right _ (List.mem_append_right _ (List.mem_append_right _ (List.mem_append_right _ (List.mem_append_right _ (List.mem_append_left _ (List.mem_of_getElem? (i := 70) rfl))))))))))))
theorem tW81 : (.arrayClass .boolean : Cond) ∈ TW := (List.mem_append_right _ (List.mem_append_right _ (List.mem_append_right _ (List.mem_append_right _ (List.mem_append_right _ (List.mem_append_right _ (List.mem_append_right _ (List.mem_append_right _ (List.mem_append_right _ (List.mem_append_right _ (List.mem_append_left _ (List.mem_of_getElem? (i := 71) rfl))))))))))))
theorem tW82 : (.fieldLink R_ZoneNodes 13 R_ZoneNodes "hasSecret" "[Z" : Cond) ∈ TW := (List.mem_append_right _ (List.mem_append_right _ (List.mem_append_right _ (List.mem_append_right _ (List.mem_append_right _ (List.mem_append_right _ (List.mem_append_right _ (List.mem_append_right _ (List.mem_append_right _ (List.mem_append_right _ (List.mem_append_left _ (List.mem_of_getElem? (i := 72) rfl))))))))))))
theorem tW83 : (.classLink R_ZoneNodes 17 R_Draft : Cond) ∈ TW := (List.mem_append_right _ (List.mem_append_right _ (List.mem_append_right _ (List.mem_append_right _ (List.mem_append_right _ (List.mem_append_right _ (List.mem_append_right _ (List.mem_append_right _ (List.mem_append_right _ (List.mem_append_right _ (List.mem_append_left _ (List.mem_of_getElem? (i := 73) rfl))))))))))))
theorem tW84 : (.instantiable R_Draft 4 : Cond) ∈ TW := (List.mem_append_right _ (List.mem_append_right _ (List.mem_append_right _ (List.mem_append_right _ (List.mem_append_right _ (List.mem_append_right _ (List.mem_append_right _ (List.mem_append_right _ (List.mem_append_right _ (List.mem_append_right _ (List.mem_append_left _ (List.mem_of_getElem? (i := 74) rfl))))))))))))
theorem tW85 : (.initialized R_Draft : Cond) ∈ TW := (List.mem_append_right _ (List.mem_append_right _ (List.mem_append_right _ (List.mem_append_right _ (List.mem_append_right _ (List.mem_append_right _ (List.mem_append_right _ (List.mem_append_right _ (List.mem_append_right _ (List.mem_append_right _ (List.mem_append_left _ (List.mem_of_getElem? (i := 75) rfl))))))))))))
theorem tW87 : (.instanceMethod y_Draft_init : Cond) ∈ TW := (List.mem_append_right _ (List.mem_append_right _ (List.mem_append_right _ (List.mem_append_right _ (List.mem_append_right _ (List.mem_append_right _ (List.mem_append_right _ (List.mem_append_right _ (List.mem_append_right _ (List.mem_append_right _ (List.mem_append_left _ (List.mem_of_getElem? (i := 76) rfl))))))))))))
theorem tW88 : (.fieldLink R_ZoneNodes 20 R_ZoneNodes "draft" "LZoneNodes$Draft;" : Cond) ∈ TW := (List.mem_append_right _ (List.mem_append_right _ (List.mem_append_right _ (List.mem_append_right _ (List.mem_append_right _ (List.mem_append_right _ (List.mem_append_right _ (List.mem_append_right _ (List.mem_append_right _ (List.mem_append_right _ (List.mem_append_left _ (List.mem_of_getElem? (i := 77) rfl))))))))))))
theorem tW89 : (.classLink R_ZoneNodes 24 R_Wire : Cond) ∈ TW := (List.mem_append_right _ (List.mem_append_right _ (List.mem_append_right _ (List.mem_append_right _ (List.mem_append_right _ (List.mem_append_right _ (List.mem_append_right _ (List.mem_append_right _ (List.mem_append_right _ (List.mem_append_right _ (List.mem_append_left _ (List.mem_of_getElem? (i := 78) rfl))))))))))))
theorem tW90 : (.instantiable R_Wire 2 : Cond) ∈ TW := (List.mem_append_right _ (List.mem_append_right _ (List.mem_append_right _ (List.mem_append_right _ (List.mem_append_right _ (List.mem_append_right _ (List.mem_append_right _ (List.mem_append_right _ (List.mem_append_right _ (List.mem_append_right _ (List.mem_append_left _ (List.mem_of_getElem? (i := 79) rfl))))))))))))
theorem tW91 : (.initialized R_Wire : Cond) ∈ TW := (List.mem_append_right _ (List.mem_append_right _ (List.mem_append_right _ (List.mem_append_right _ (List.mem_append_right _ (List.mem_append_right _ (List.mem_append_right _ (List.mem_append_right _ (List.mem_append_right _ (List.mem_append_right _ (List.mem_append_left _ (List.mem_of_getElem? (i := 80) rfl))))))))))))
theorem tW92 : (.methodLink R_ZoneNodes 26 y_Wire_init : Cond) ∈ TW := (List.mem_append_right _ (List.mem_append_right _ (List.mem_append_right _ (List.mem_append_right _ (List.mem_append_right _ (List.mem_append_right _ (List.mem_append_right _ (List.mem_append_right _ (List.mem_append_right _ (List.mem_append_right _ (List.mem_append_left _ (List.mem_of_getElem? (i := 81) rfl))))))))))))
theorem tW94 : (.instanceMethod y_Wire_init : Cond) ∈ TW := (List.mem_append_right _ (List.mem_append_right _ (List.mem_append_right _ (List.mem_append_right _ (List.mem_append_right _ (List.mem_append_right _ (List.mem_append_right _ (List.mem_append_right _ (List.mem_append_right _ (List.mem_append_right _ (List.mem_append_left _ (List.mem_of_getElem? (i := 82) rfl))))))))))))
theorem tW95 : (.fieldLink R_ZoneNodes 27 R_ZoneNodes "wire" "LZoneNodes$Wire;" : Cond) ∈ TW := (List.mem_append_right _ (List.mem_append_right _ (List.mem_append_right _ (List.mem_append_right _ (List.mem_append_right _ (List.mem_append_right _ (List.mem_append_right _ (List.mem_append_right _ (List.mem_append_right _ (List.mem_append_right _ (List.mem_append_left _ (List.mem_of_getElem? (i := 83) rfl))))))))))))
theorem tW96 : (.classLink R_ZoneNodes 31 R_Secondary : Cond) ∈ TW := (List.mem_append_right _ (List.mem_append_right _ (List.mem_append_right _ (List.mem_append_right _ (List.mem_append_right _ (List.mem_append_right _ (List.mem_append_right _ (List.mem_append_right _ (List.mem_append_right _ (List.mem_append_right _ (List.mem_append_left _ (List.mem_of_getElem? (i := 84) rfl))))))))))))
theorem tW97 : (.fieldLink R_ZoneNodes 33 R_ZoneNodes "secondaries" "[LZoneNodes$Secondary;" : Cond) ∈ TW := (List.mem_append_right _ (List.mem_append_right _ (List.mem_append_right _ (List.mem_append_right _ (List.mem_append_right _ (List.mem_append_right _ (List.mem_append_right _ (List.mem_append_right _ (List.mem_append_right _ (List.mem_append_right _ (List.mem_append_left _ (List.mem_of_getElem? (i := 85) rfl))))))))))))
theorem tW98 : (.methodLink R_ZoneNodes 37 y_ZoneNodes_within : Cond) ∈ TW := (List.mem_append_right _ (List.mem_append_right _ (List.mem_append_right _ (List.mem_append_right _ (List.mem_append_right _ (List.mem_append_right _ (List.mem_append_right _ (List.mem_append_right _ (List.mem_append_right _ (List.mem_append_right _ (List.mem_append_left _ (List.mem_of_getElem? (i := 86) rfl))))))))))))
theorem tW100 : (.initialized R_ZoneNodes : Cond) ∈ TW := (List.mem_append_right _ (List.mem_append_right _ (List.mem_append_right _ (List.mem_append_right _ (List.mem_append_right _ (List.mem_append_right _ (List.mem_append_right _ (List.mem_append_right _ (List.mem_append_right _ (List.mem_append_right _ (List.mem_append_left _ (List.mem_of_getElem? (i := 87) rfl))))))))))))
theorem tW101 : (.static y_ZoneNodes_within : Cond) ∈ TW := (List.mem_append_right _ (List.mem_append_right _ (List.mem_append_right _ (List.mem_append_right _ (List.mem_append_right _ (List.mem_append_right _ (List.mem_append_right _ (List.mem_append_right _ (List.mem_append_right _ (List.mem_append_right _ (List.mem_append_left _ (List.mem_of_getElem? (i := 88) rfl))))))))))))
theorem tW102 : (.classLink R_ZoneNodes 41 R_Primary : Cond) ∈ TW := (List.mem_append_right _ (List.mem_append_right _ (List.mem_append_right _ (List.mem_append_right _ (List.mem_append_right _ (List.mem_append_right _ (List.mem_append_right _ (List.mem_append_right _ (List.mem_append_right _ (List.mem_append_right _ (List.mem_append_left _ (List.mem_of_getElem? (i := 89) rfl))))))))))))
theorem tW103 : (.instantiable R_Primary 9 : Cond) ∈ TW := (List.mem_append_right _ (List.mem_append_right _ (List.mem_append_right _ (List.mem_append_right _ (List.mem_append_right _ (List.mem_append_right _ (List.mem_append_right _ (List.mem_append_right _ (List.mem_append_right _ (List.mem_append_right _ (List.mem_append_left _ (List.mem_of_getElem? (i := 90) rfl))))))))))))
theorem tW104 : (.initialized R_Primary : Cond) ∈ TW := (List.mem_append_right _ (List.mem_append_right _ (List.mem_append_right _ (List.mem_append_right _ (List.mem_append_right _ (List.mem_append_right _ (List.mem_append_right _ (List.mem_append_right _ (List.mem_append_right _ (List.mem_append_right _ (List.mem_append_left _ (List.mem_of_getElem? (i := 91) rfl))))))))))))
theorem tW105 : (.methodLink R_ZoneNodes 43 y_Primary_init : Cond) ∈ TW := (List.mem_append_right _ (List.mem_append_right _ (List.mem_append_right _ (List.mem_append_right _ (List.mem_append_right _ (List.mem_append_right _ (List.mem_append_right _ (List.mem_append_right _ (List.mem_append_right _ (List.mem_append_right _ (List.mem_append_left _ (List.mem_of_getElem? (i := 92) rfl))))))))))))
theorem tW107 : (.instanceMethod y_Primary_init : Cond) ∈ TW := (List.mem_append_right _ (List.mem_append_right _ (List.mem_append_right _ (List.mem_append_right _ (List.mem_append_right _ (List.mem_append_right _ (List.mem_append_right _ (List.mem_append_right _ (List.mem_append_right _ (List.mem_append_right _ (List.mem_append_left _ (List.mem_of_getElem? (i := 93) rfl))))))))))))
theorem tW108 : (.fieldLink R_ZoneNodes 46 R_ZoneNodes "primary" "LZoneNodes$Primary;" : Cond) ∈ TW := (List.mem_append_right _ (List.mem_append_right _ (List.mem_append_right _ (List.mem_append_right _ (List.mem_append_right _ (List.mem_append_right _ (List.mem_append_right _ (List.mem_append_right _ (List.mem_append_right _ (List.mem_append_right _ (List.mem_append_left _ (List.mem_of_getElem? (i := 94) rfl))))))))))))
theorem tW109 : (.instantiable R_Secondary 13 : Cond) ∈ TW := (List.mem_append_right _ (List.mem_append_right _ (List.mem_append_right _ (List.mem_append_right _ (List.mem_append_right _ (List.mem_append_right _ (List.mem_append_right _ (List.mem_append_right _ (List.mem_append_right _ (List.mem_append_right _ (List.mem_append_left _ (List.mem_of_getElem? (i := 95) rfl))))))))))))
theorem tW110 : (.methodLink R_ZoneNodes 50 y_Secondary_init : Cond) ∈ TW := (List.mem_append_right _ (List.mem_append_right _ (List.mem_append_right _ (List.mem_append_right _ (List.mem_append_right _ (List.mem_append_right _ (List.mem_append_right _ (List.mem_append_right _ (List.mem_append_right _ (List.mem_append_right _ (List.mem_append_left _ (List.mem_of_getElem? (i := 96) rfl))))))))))))
theorem tW112 : (.instanceMethod y_Secondary_init : Cond) ∈ TW := (List.mem_append_right _ (List.mem_append_right _ (List.mem_append_right _ (List.mem_append_right _ (List.mem_append_right _ (List.mem_append_right _ (List.mem_append_right _ (List.mem_append_right _ (List.mem_append_right _ (List.mem_append_right _ (List.mem_append_left _ (List.mem_of_getElem? (i := 97) rfl))))))))))))
theorem tW113 : (.fieldLink R_Wire 18 R_Wire "count" "I" : Cond) ∈ TW := (List.mem_append_right _ (List.mem_append_right _ (List.mem_append_right _ (List.mem_append_right _ (List.mem_append_right _ (List.mem_append_right _ (List.mem_append_right _ (List.mem_append_right _ (List.mem_append_right _ (List.mem_append_right _ (List.mem_append_left _ (List.mem_of_getElem? (i := 98) rfl))))))))))))
theorem tW114 : (.methodLink R_ZoneNodes 100 y_Wire_at : Cond) ∈ TW := (List.mem_append_right _ (List.mem_append_right _ (List.mem_append_right _ (List.mem_append_right _ (List.mem_append_right _ (List.mem_append_right _ (List.mem_append_right _ (List.mem_append_right _ (List.mem_append_right _ (List.mem_append_right _ (List.mem_append_left _ (List.mem_of_getElem? (i := 99) rfl))))))))))))
theorem tW116 : (.instanceMethod y_Wire_at : Cond) ∈ TW := (List.mem_append_right _ (List.mem_append_right _ (List.mem_append_right _ (List.mem_append_right _ (List.mem_append_right _ (List.mem_append_right _ (List.mem_append_right _ (List.mem_append_right _ (List.mem_append_right _ (List.mem_append_right _ (List.mem_append_left _ (List.mem_of_getElem? (i := 100) rfl))))))))))))
theorem tW117 : (.selects R_Wire y_Wire_at y_Wire_at : Cond) ∈ TW := (List.mem_append_right _ (List.mem_append_right _ (List.mem_append_right _ (List.mem_append_right _ (List.mem_append_right _ (List.mem_append_right _ (List.mem_append_right _ (List.mem_append_right _ (List.mem_append_right _ (List.mem_append_right _ (List.mem_append_left _ (List.mem_of_getElem? (i := 101) rfl))))))))))))
theorem tW118 : (.fieldLink R_Journal 18 R_Journal "count" "I" : Cond) ∈ TW := (List.mem_append_right _ (List.mem_append_right _ (List.mem_append_right _ (List.mem_append_right _ (List.mem_append_right _ (List.mem_append_right _ (List.mem_append_right _ (List.mem_append_right _ (List.mem_append_right _ (List.mem_append_right _ (List.mem_append_left _ (List.mem_of_getElem? (i := 102) rfl))))))))))))
theorem tW119 : (.methodLink R_Journal 42 y_Journal_leadsTo : Cond) ∈ TW := (List.mem_append_right _ (List.mem_append_right _ (List.mem_append_right _ (List.mem_append_right _ (List.mem_append_right _ (List.mem_append_right _ (List.mem_append_right _ (List.mem_append_right _ (List.mem_append_right _ (List.mem_append_right _ (List.mem_append_left _ (List.mem_of_getElem? (i := 103) rfl))))))))))))
theorem tW121 : (.instanceMethod y_Journal_leadsTo : Cond) ∈ TW := (List.mem_append_right _ (List.mem_append_right _ (List.mem_append_right _ (List.mem_append_right _ (List.mem_append_right _ (List.mem_append_right _ (List.mem_append_right _ (List.mem_append_right _ (List.mem_append_right _ (List.mem_append_right _ (List.mem_append_left _ (List.mem_of_getElem? (i := 104) rfl))))))))))))
theorem tW122 : (.selects R_Journal y_Journal_leadsTo y_Journal_leadsTo : Cond) ∈ TW := (List.mem_append_right _ (List.mem_append_right _ (List.mem_append_right _ (List.mem_append_right _ (List.mem_append_right _ (List.mem_append_right _ (List.mem_append_right _ (List.mem_append_right _ (List.mem_append_right _ (List.mem_append_right _ (List.mem_append_left _ (List.mem_of_getElem? (i := 105) rfl))))))))))))
theorem tW124 : (.static y_ZoneNodes_coded : Cond) ∈ TW := (List.mem_append_right _ (List.mem_append_right _ (List.mem_append_right _ (List.mem_append_right _ (List.mem_append_right _ (List.mem_append_right _ (List.mem_append_right _ (List.mem_append_right _ (List.mem_append_right _ (List.mem_append_right _ (List.mem_append_left _ (List.mem_of_getElem? (i := 106) rfl))))))))))))
theorem tW125 : (.fieldLink R_Primary 96 R_Primary "itemsAreWhole" "Z" : Cond) ∈ TW := (List.mem_append_right _ (List.mem_append_right _ (List.mem_append_right _ (List.mem_append_right _ (List.mem_append_right _ (List.mem_append_right _ (List.mem_append_right _ (List.mem_append_right _ (List.mem_append_right _ (List.mem_append_right _ (List.mem_append_left _ (List.mem_of_getElem? (i := 107) rfl))))))))))))
theorem tW126 : (.fieldLink R_Primary 99 R_Primary "itemCount" "I" : Cond) ∈ TW := (List.mem_append_right _ (List.mem_append_right _ (List.mem_append_right _ (List.mem_append_right _ (List.mem_append_right _ (List.mem_append_right _ (List.mem_append_right _ (List.mem_append_right _ (List.mem_append_right _ (List.mem_append_right _ (List.mem_append_left _ (List.mem_of_getElem? (i := 108) rfl))))))))))))
theorem tW127 : (.methodLink R_Primary 102 y_Records_listInto : Cond) ∈ TW := (List.mem_append_right _ (List.mem_append_right _ (List.mem_append_right _ (List.mem_append_right _ (List.mem_append_right _ (List.mem_append_right _ (List.mem_append_right _ (List.mem_append_right _ (List.mem_append_right _ (List.mem_append_right _ (List.mem_append_left _ (List.mem_of_getElem? (i := 109) rfl))))))))))))
theorem tW129 : (.instanceMethod y_Records_listInto : Cond) ∈ TW := (List.mem_append_right _ (List.mem_append_right _ (List.mem_append_right _ (List.mem_append_right _ (List.mem_append_right _ (List.mem_append_right _ (List.mem_append_right _ (List.mem_append_right _ (List.mem_append_right _ (List.mem_append_right _ (List.mem_append_left _ (List.mem_of_getElem? (i := 110) rfl))))))))))))
theorem tW130 : (.selects R_Records y_Records_listInto y_Records_listInto : Cond) ∈ TW := (List.mem_append_right _ (List.mem_append_right _ (List.mem_append_right _ (List.mem_append_right _ (List.mem_append_right _ (List.mem_append_right _ (List.mem_append_right _ (List.mem_append_right _ (List.mem_append_right _ (List.mem_append_right _ (List.mem_append_left _ (List.mem_of_getElem? (i := 111) rfl))))))))))))
theorem tW131 : (.methodLink R_Primary 89 y_Journal_startOfWay : Cond) ∈ TW := (List.mem_append_right _ (List.mem_append_right _ (List.mem_append_right _ (List.mem_append_right _ (List.mem_append_right _ (List.mem_append_right _ (List.mem_append_right _ (List.mem_append_right _ (List.mem_append_right _ (List.mem_append_right _ (List.mem_append_left _ (List.mem_of_getElem? (i := 112) rfl))))))))))))
theorem tW133 : (.instanceMethod y_Journal_startOfWay : Cond) ∈ TW := (List.mem_append_right _ (List.mem_append_right _ (List.mem_append_right _ (List.mem_append_right _ (List.mem_append_right _ (List.mem_append_right _ (List.mem_append_right _ (List.mem_append_right _ (List.mem_append_right _ (List.mem_append_right _ (List.mem_append_left _ (List.mem_of_getElem? (i := 113) rfl))))))))))))
theorem tW134 : (.selects R_Journal y_Journal_startOfWay y_Journal_startOfWay : Cond) ∈ TW := (List.mem_append_right _ (List.mem_append_right _ (List.mem_append_right _ (List.mem_append_right _ (List.mem_append_right _ (List.mem_append_right _ (List.mem_append_right _ (List.mem_append_right _ (List.mem_append_right _ (List.mem_append_right _ (List.mem_append_left _ (List.mem_of_getElem? (i := 114) rfl))))))))))))
theorem tW135 : (.fieldLink R_Message 15 R_Message "kind" "I" : Cond) ∈ TW := (List.mem_append_right _ (List.mem_append_right _ (List.mem_append_right _ (List.mem_append_right _ (List.mem_append_right _ (List.mem_append_right _ (List.mem_append_right _ (List.mem_append_right _ (List.mem_append_right _ (List.mem_append_right _ (List.mem_append_left _ (List.mem_of_getElem? (i := 115) rfl))))))))))))
theorem tW136 : (.methodLink R_Wire 32 y_Message_isOnStream : Cond) ∈ TW := (List.mem_append_right _ (List.mem_append_right _ (List.mem_append_right _ (List.mem_append_right _ (List.mem_append_right _ (List.mem_append_right _ (List.mem_append_right _ (List.mem_append_right _ (List.mem_append_right _ (List.mem_append_right _ (List.mem_append_left _ (List.mem_of_getElem? (i := 116) rfl))))))))))))
theorem tW138 : (.instanceMethod y_Message_isOnStream : Cond) ∈ TW := (List.mem_append_right _ (List.mem_append_right _ (List.mem_append_right _ (List.mem_append_right _ (List.mem_append_right _ (List.mem_append_right _ (List.mem_append_right _ (List.mem_append_right _ (List.mem_append_right _ (List.mem_append_right _ (List.mem_append_left _ (List.mem_of_getElem? (i := 117) rfl))))))))))))
theorem tW139 : (.selects R_Message y_Message_isOnStream y_Message_isOnStream : Cond) ∈ TW := (List.mem_append_right _ (List.mem_append_right _ (List.mem_append_right _ (List.mem_append_right _ (List.mem_append_right _ (List.mem_append_right _ (List.mem_append_right _ (List.mem_append_right _ (List.mem_append_right _ (List.mem_append_right _ (List.mem_append_left _ (List.mem_of_getElem? (i := 118) rfl))))))))))))
theorem tW140 : (.methodLink R_Wire 40 y_Wire_countLossy : Cond) ∈ TW := (List.mem_append_right _ (List.mem_append_right _ (List.mem_append_right _ (List.mem_append_right _ (List.mem_append_right _ (List.mem_append_right _ (List.mem_append_right _ (List.mem_append_right _ (List.mem_append_right _ (List.mem_append_right _ (List.mem_append_left _ (List.mem_of_getElem? (i := 119) rfl))))))))))))
theorem tW142 : (.instanceMethod y_Wire_countLossy : Cond) ∈ TW := (List.mem_append_right _ (List.mem_append_right _ (List.mem_append_right _ (List.mem_append_right _ (List.mem_append_right _ (List.mem_append_right _ (List.mem_append_right _ (List.mem_append_right _ (List.mem_append_right _ (List.mem_append_right _ (List.mem_append_left _ (List.mem_of_getElem? (i := 120) rfl))))))))))))
theorem tW143 : (.selects R_Wire y_Wire_countLossy y_Wire_countLossy : Cond) ∈ TW := (List.mem_append_right _ (List.mem_append_right _ (List.mem_append_right _ (List.mem_append_right _ (List.mem_append_right _ (List.mem_append_right _ (List.mem_append_right _ (List.mem_append_right _ (List.mem_append_right _ (List.mem_append_right _ (List.mem_append_left _ (List.mem_of_getElem? (i := 121) rfl))))))))))))
theorem tW144 : (.methodLink R_Wire 44 y_Wire_put : Cond) ∈ TW := (List.mem_append_right _ (List.mem_append_right _ (List.mem_append_right _ (List.mem_append_right _ (List.mem_append_right _ (List.mem_append_right _ (List.mem_append_right _ (List.mem_append_right _ (List.mem_append_right _ (List.mem_append_right _ (List.mem_append_left _ (List.mem_of_getElem? (i := 122) rfl))))))))))))
theorem tW146 : (.instanceMethod y_Wire_put : Cond) ∈ TW := (List.mem_append_right _ (List.mem_append_right _ (List.mem_append_right _ (List.mem_append_right _ (List.mem_append_right _ (List.mem_append_right _ (List.mem_append_right _ (List.mem_append_right _ (List.mem_append_right _ (List.mem_append_right _ (List.mem_append_left _ (List.mem_of_getElem? (i := 123) rfl))))))))))))
theorem tW147 : (.selects R_Wire y_Wire_put y_Wire_put : Cond) ∈ TW := (List.mem_append_right _ (List.mem_append_right _ (List.mem_append_right _ (List.mem_append_right _ (List.mem_append_right _ (List.mem_append_right _ (List.mem_append_right _ (List.mem_append_right _ (List.mem_append_right _ (List.mem_append_right _ (List.mem_append_left _ (List.mem_of_getElem? (i := 124) rfl))))))))))))
theorem tW148 : (.methodLink R_Wire 72 Lib.Math.min.name : Cond) ∈ TW := (List.mem_append_right _ (List.mem_append_right _ (List.mem_append_right _ (List.mem_append_right _ (List.mem_append_right _ (List.mem_append_right _ (List.mem_append_right _ (List.mem_append_right _ (List.mem_append_right _ (List.mem_append_right _ (List.mem_append_left _ (List.mem_of_getElem? (i := 125) rfl))))))))))))
theorem tW149 : (.static Lib.Math.min.name : Cond) ∈ TW := (List.mem_append_right _ (List.mem_append_right _ (List.mem_append_right _ (List.mem_append_right _ (List.mem_append_right _ (List.mem_append_right _ (List.mem_append_right _ (List.mem_append_right _ (List.mem_append_right _ (List.mem_append_right _ (List.mem_append_left _ (List.mem_of_getElem? (i := 126) rfl))))))))))))
theorem tW150 : (.initialized "java/lang/Math" : Cond) ∈ TW := (List.mem_append_right _ (List.mem_append_right _ (List.mem_append_right _ (List.mem_append_right _ (List.mem_append_right _ (List.mem_append_right _ (List.mem_append_right _ (List.mem_append_right _ (List.mem_append_right _ (List.mem_append_right _ (List.mem_append_left _ (List.mem_of_getElem? (i := 127) rfl))))))))))))
theorem tW152 : (.methodLink R_ZoneNodes 241 y_Primary_workOutItems : Cond) ∈ TW := (List.mem_append_right _ (List.mem_append_right _ (List.mem_append_right _ (List.mem_append_right _ (List.mem_append_right _ (List.mem_append_right _ (List.mem_append_right _ (List.mem_append_right _ (List.mem_append_right _ (List.mem_append_right _ (List.mem_append_left _ (List.mem_of_getElem? (i := 128) rfl))))))))))))
theorem tW154 : (.instanceMethod y_Primary_workOutItems : Cond) ∈ TW := (List.mem_append_right _ (List.mem_append_right _ (List.mem_append_right _ (List.mem_append_right _ (List.mem_append_right _ (List.mem_append_right _ (List.mem_append_right _ (List.mem_append_right _ (List.mem_append_right _ (List.mem_append_right _ (List.mem_append_left _ (List.mem_of_getElem? (i := 129) rfl))))))))))))
theorem tW155 : (.selects R_Primary y_Primary_workOutItems y_Primary_workOutItems : Cond) ∈ TW := (List.mem_append_right _ (List.mem_append_right _ (List.mem_append_right _ (List.mem_append_right _ (List.mem_append_right _ (List.mem_append_right _ (List.mem_append_right _ (List.mem_append_right _ (List.mem_append_right _ (List.mem_append_right _ (List.mem_append_left _ (List.mem_of_getElem? (i := 130) rfl))))))))))))
theorem tW156 : (.methodLink R_ZoneNodes 245 y_Wire_sendParts : Cond) ∈ TW := (List.mem_append_right _ (List.mem_append_right _ (List.mem_append_right _ (List.mem_append_right _ (List.mem_append_right _ (List.mem_append_right _ (List.mem_append_right _ (List.mem_append_right _ (List.mem_append_right _ (List.mem_append_right _ (List.mem_append_left _ (List.mem_of_getElem? (i := 131) rfl))))))))))))
theorem tW158 : (.instanceMethod y_Wire_sendParts : Cond) ∈ TW := (List.mem_append_right _ (List.mem_append_right _ (List.mem_append_right _ (List.mem_append_right _ (List.mem_append_right _ (List.mem_append_right _ (List.mem_append_right _ (List.mem_append_right _ (List.mem_append_right _ (List.mem_append_right _ (List.mem_append_left _ (List.mem_of_getElem? (i := 132) rfl))))))))))))
theorem tW159 : (.selects R_Wire y_Wire_sendParts y_Wire_sendParts : Cond) ∈ TW := (List.mem_append_right _ (List.mem_append_right _ (List.mem_append_right _ (List.mem_append_right _ (List.mem_append_right _ (List.mem_append_right _ (List.mem_append_right _ (List.mem_append_right _ (List.mem_append_right _ (List.mem_append_right _ (List.mem_append_left _ (List.mem_of_getElem? (i := 133) rfl))))))))))))
theorem tW160 : (.methodLink R_ZoneNodes 230 y_Wire_sendLossy : Cond) ∈ TW := (List.mem_append_right _ (List.mem_append_right _ (List.mem_append_right _ (List.mem_append_right _ (List.mem_append_right _ (List.mem_append_right _ (List.mem_append_right _ (List.mem_append_right _ (List.mem_append_right _ (List.mem_append_right _ (List.mem_append_left _ (List.mem_of_getElem? (i := 134) rfl))))))))))))
theorem tW162 : (.instanceMethod y_Wire_sendLossy : Cond) ∈ TW := (List.mem_append_right _ (List.mem_append_right _ (List.mem_append_right _ (List.mem_append_right _ (List.mem_append_right _ (List.mem_append_right _ (List.mem_append_right _ (List.mem_append_right _ (List.mem_append_right _ (List.mem_append_right _ (List.mem_append_left _ (List.mem_of_getElem? (i := 135) rfl))))))))))))
theorem tW163 : (.selects R_Wire y_Wire_sendLossy y_Wire_sendLossy : Cond) ∈ TW := (List.mem_append_right _ (List.mem_append_right _ (List.mem_append_right _ (List.mem_append_right _ (List.mem_append_right _ (List.mem_append_right _ (List.mem_append_right _ (List.mem_append_right _ (List.mem_append_right _ (List.mem_append_right _ (List.mem_append_left _ (List.mem_of_getElem? (i := 136) rfl))))))))))))
theorem tW164 : (.methodLink R_Secondary 111 y_Wire_sendLossy : Cond) ∈ TW := (List.mem_append_right _ (List.mem_append_right _ (List.mem_append_right _ (List.mem_append_right _ (List.mem_append_right _ (List.mem_append_right _ (List.mem_append_right _ (List.mem_append_right _ (List.mem_append_right _ (List.mem_append_right _ (List.mem_append_left _ (List.mem_of_getElem? (i := 137) rfl))))))))))))
theorem tW165 : (.fieldLink R_Secondary 51 R_Secondary "askedAt" "I" : Cond) ∈ TW := (List.mem_append_right _ (List.mem_append_right _ (List.mem_append_right _ (List.mem_append_right _ (List.mem_append_right _ (List.mem_append_right _ (List.mem_append_right _ (List.mem_append_right _ (List.mem_append_right _ (List.mem_append_right _ (List.mem_append_left _ (List.mem_of_getElem? (i := 138) rfl))))))))))))
theorem tW166 : (.fieldLink R_Secondary 68 R_Secondary "hasVersion" "Z" : Cond) ∈ TW := (List.mem_append_right _ (List.mem_append_right _ (List.mem_append_right _ (List.mem_append_right _ (List.mem_append_right _ (List.mem_append_right _ (List.mem_append_right _ (List.mem_append_right _ (List.mem_append_right _ (List.mem_append_right _ (List.mem_append_left _ (List.mem_of_getElem? (i := 139) rfl))))))))))))
theorem tW167 : (.fieldLink R_Secondary 71 R_Secondary "serial" "I" : Cond) ∈ TW := (List.mem_append_right _ (List.mem_append_right _ (List.mem_append_right _ (List.mem_append_right _ (List.mem_append_right _ (List.mem_append_right _ (List.mem_append_right _ (List.mem_append_right _ (List.mem_append_right _ (List.mem_append_right _ (List.mem_append_left _ (List.mem_of_getElem? (i := 140) rfl))))))))))))
theorem tW169 : (.static y_ZoneNodes_isLater : Cond) ∈ TW := (List.mem_append_right _ (List.mem_append_right _ (List.mem_append_right _ (List.mem_append_right _ (List.mem_append_right _ (List.mem_append_right _ (List.mem_append_right _ (List.mem_append_right _ (List.mem_append_right _ (List.mem_append_right _ (List.mem_append_left _ (List.mem_of_getElem? (i := 141) rfl))))))))))))
theorem tW170 : (.methodLink R_Secondary 61 y_Secondary_lacks : Cond) ∈ TW := (List.mem_append_right _ (List.mem_append_right _ (List.mem_append_right _ (List.mem_append_right _ (List.mem_append_right _ (List.mem_append_right _ (List.mem_append_right _ (List.mem_append_right _ (List.mem_append_right _ (List.mem_append_right _ (List.mem_append_left _ (List.mem_of_getElem? (i := 142) rfl))))))))))))
theorem tW172 : (.instanceMethod y_Secondary_lacks : Cond) ∈ TW := (List.mem_append_right _ (List.mem_append_right _ (List.mem_append_right _ (List.mem_append_right _ (List.mem_append_right _ (List.mem_append_right _ (List.mem_append_right _ (List.mem_append_right _ (List.mem_append_right _ (List.mem_append_right _ (List.mem_append_left _ (List.mem_of_getElem? (i := 143) rfl))))))))))))
theorem tW173 : (.selects R_Secondary y_Secondary_lacks y_Secondary_lacks : Cond) ∈ TW := (List.mem_append_right _ (List.mem_append_right _ (List.mem_append_right _ (List.mem_append_right _ (List.mem_append_right _ (List.mem_append_right _ (List.mem_append_right _ (List.mem_append_right _ (List.mem_append_right _ (List.mem_append_right _ (List.mem_append_left _ (List.mem_of_getElem? (i := 144) rfl))))))))))))
theorem tW174 : (.methodLink R_Secondary 57 y_Secondary_ask : Cond) ∈ TW := (List.mem_append_right _ (List.mem_append_right _ (List.mem_append_right _ (List.mem_append_right _ (List.mem_append_right _ (List.mem_append_right _ (List.mem_append_right _ (List.mem_append_right _ (List.mem_append_right _ (List.mem_append_right _ (List.mem_append_left _ (List.mem_of_getElem? (i := 145) rfl))))))))))))
theorem tW176 : (.instanceMethod y_Secondary_ask : Cond) ∈ TW := (List.mem_append_right _ (List.mem_append_right _ (List.mem_append_right _ (List.mem_append_right _ (List.mem_append_right _ (List.mem_append_right _ (List.mem_append_right _ (List.mem_append_right _ (List.mem_append_right _ (List.mem_append_right _ (List.mem_append_left _ (List.mem_of_getElem? (i := 146) rfl))))))))))))
theorem tW177 : (.selects R_Secondary y_Secondary_ask y_Secondary_ask : Cond) ∈ TW := (List.mem_append_right _ (List.mem_append_right _ (List.mem_append_right _ (List.mem_append_right _ (List.mem_append_right _ (List.mem_append_right _ (List.mem_append_right _ (List.mem_append_right _ (List.mem_append_right _ (List.mem_append_right _ (List.mem_append_left _ (List.mem_of_getElem? (i := 147) rfl))))))))))))
theorem tW178 : (.methodLink R_Secondary 74 y_Wire_sendFetch : Cond) ∈ TW := (List.mem_append_right _ (List.mem_append_right _ (List.mem_append_right _ (List.mem_append_right _ (List.mem_append_right _ (List.mem_append_right _ (List.mem_append_right _ (List.mem_append_right _ (List.mem_append_right _ (List.mem_append_right _ (List.mem_append_left _ (List.mem_of_getElem? (i := 148) rfl))))))))))))
theorem tW180 : (.instanceMethod y_Wire_sendFetch : Cond) ∈ TW := (List.mem_append_right _ (List.mem_append_right _ (List.mem_append_right _ (List.mem_append_right _ (List.mem_append_right _ (List.mem_append_right _ (List.mem_append_right _ (List.mem_append_right _ (List.mem_append_right _ (List.mem_append_right _ (List.mem_append_left _ (List.mem_of_getElem? (i := 149) rfl))))))))))))
theorem tW181 : (.selects R_Wire y_Wire_sendFetch y_Wire_sendFetch : Cond) ∈ TW := (List.mem_append_right _ (List.mem_append_right _ (List.mem_append_right _ (List.mem_append_right _ (List.mem_append_right _ (List.mem_append_right _ (List.mem_append_right _ (List.mem_append_right _ (List.mem_append_right _ (List.mem_append_right _ (List.mem_append_right _ (List.mem_append_left _ (List.mem_of_getElem? (i := 0) rfl)))))))))))))
theorem tW182 : (.methodLink R_Secondary 65 y_Secondary_becomeRefreshed : Cond) ∈ TW := (List.mem_append_right _ (List.mem_append_right _ (List.mem_append_right _ (List.mem_append_right _ (List.mem_append_right _ (List.mem_append_right _ (List.mem_append_right _ (List.mem_append_right _ (List.mem_append_right _ (List.mem_append_right _ (List.mem_append_right _ (List.mem_append_left _ (List.mem_of_getElem? (i := 1) rfl)))))))))))))
theorem tW184 : (.instanceMethod y_Secondary_becomeRefreshed : Cond) ∈ TW := (List.mem_append_right _ (List.mem_append_right _ (List.mem_append_right _ (List.mem_append_right _ (List.mem_append_right _ (List.mem_append_right _ (List.mem_append_right _ (List.mem_append_right _ (List.mem_append_right _ (List.mem_append_right _ (List.mem_append_right _ (List.mem_append_left _ (List.mem_of_getElem? (i := 2) rfl)))))))))))))
theorem tW185 : (.selects R_Secondary y_Secondary_becomeRefreshed y_Secondary_becomeRefreshed : Cond) ∈ TW := (List.mem_append_right _ (List.mem_append_right _ (List.mem_append_right _ (List.mem_append_right _ (List.mem_append_right _ (List.mem_append_right _ (List.mem_append_right _ (List.mem_append_right _ (List.mem_append_right _ (List.mem_append_right _ (List.mem_append_right _ (List.mem_append_left _ (List.mem_of_getElem? (i := 3) rfl)))))))))))))
theorem tW187 : (.static y_ZoneNodes_formOf : Cond) ∈ TW := (List.mem_append_right _ (List.mem_append_right _ (List.mem_append_right _ (List.mem_append_right _ (List.mem_append_right _ (List.mem_append_right _ (List.mem_append_right _ (List.mem_append_right _ (List.mem_append_right _ (List.mem_append_right _ (List.mem_append_right _ (List.mem_append_left _ (List.mem_of_getElem? (i := 4) rfl)))))))))))))
theorem tW189 : (.static y_ZoneNodes_nameOf : Cond) ∈ TW := (List.mem_append_right _ (List.mem_append_right _ (List.mem_append_right _ (List.mem_append_right _ (List.mem_append_right _ (List.mem_append_right _ (List.mem_append_right _ (List.mem_append_right _ (List.mem_append_right _ (List.mem_append_right _ (List.mem_append_right _ (List.mem_append_left _ (List.mem_of_getElem? (i := 5) rfl)))))))))))))
theorem tW191 : (.static y_ZoneNodes_typeOf : Cond) ∈ TW := (List.mem_append_right _ (List.mem_append_right _ (List.mem_append_right _ (List.mem_append_right _ (List.mem_append_right _ (List.mem_append_right _ (List.mem_append_right _ (List.mem_append_right _ (List.mem_append_right _ (List.mem_append_right _ (List.mem_append_right _ (List.mem_append_left _ (List.mem_of_getElem? (i := 6) rfl)))))))))))))
theorem tW193 : (.static y_ZoneNodes_valueOf : Cond) ∈ TW := (List.mem_append_right _ (List.mem_append_right _ (List.mem_append_right _ (List.mem_append_right _ (List.mem_append_right _ (List.mem_append_right _ (List.mem_append_right _ (List.mem_append_right _ (List.mem_append_right _ (List.mem_append_right _ (List.mem_append_right _ (List.mem_append_left _ (List.mem_of_getElem? (i := 7) rfl)))))))))))))
theorem tW194 : (.methodLink R_Records 59 y_Records_put : Cond) ∈ TW := (List.mem_append_right _ (List.mem_append_right _ (List.mem_append_right _ (List.mem_append_right _ (List.mem_append_right _ (List.mem_append_right _ (List.mem_append_right _ (List.mem_append_right _ (List.mem_append_right _ (List.mem_append_right _ (List.mem_append_right _ (List.mem_append_left _ (List.mem_of_getElem? (i := 8) rfl)))))))))))))
theorem tW195 : (.methodLink R_Records 62 y_Records_takeAway : Cond) ∈ TW := (List.mem_append_right _ (List.mem_append_right _ (List.mem_append_right _ (List.mem_append_right _ (List.mem_append_right _ (List.mem_append_right _ (List.mem_append_right _ (List.mem_append_right _ (List.mem_append_right _ (List.mem_append_right _ (List.mem_append_right _ (List.mem_append_left _ (List.mem_of_getElem? (i := 9) rfl)))))))))))))
theorem tW197 : (.instanceMethod y_Records_takeAway : Cond) ∈ TW := (List.mem_append_right _ (List.mem_append_right _ (List.mem_append_right _ (List.mem_append_right _ (List.mem_append_right _ (List.mem_append_right _ (List.mem_append_right _ (List.mem_append_right _ (List.mem_append_right _ (List.mem_append_right _ (List.mem_append_right _ (List.mem_append_left _ (List.mem_of_getElem? (i := 10) rfl)))))))))))))
theorem tW198 : (.selects R_Records y_Records_takeAway y_Records_takeAway : Cond) ∈ TW := (List.mem_append_right _ (List.mem_append_right _ (List.mem_append_right _ (List.mem_append_right _ (List.mem_append_right _ (List.mem_append_right _ (List.mem_append_right _ (List.mem_append_right _ (List.mem_append_right _ (List.mem_append_right _ (List.mem_append_right _ (List.mem_append_left _ (List.mem_of_getElem? (i := 11) rfl)))))))))))))
theorem tW199 : (.methodLink R_Secondary 103 y_Records_copyFrom : Cond) ∈ TW := (List.mem_append_right _ (List.mem_append_right _ (List.mem_append_right _ (List.mem_append_right _ (List.mem_append_right _ (List.mem_append_right _ (List.mem_append_right _ (List.mem_append_right _ (List.mem_append_right _ (List.mem_append_right _ (List.mem_append_right _ (List.mem_append_left _ (List.mem_of_getElem? (i := 12) rfl)))))))))))))
theorem tW201 : (.instanceMethod y_Records_copyFrom : Cond) ∈ TW := (List.mem_append_right _ (List.mem_append_right _ (List.mem_append_right _ (List.mem_append_right _ (List.mem_append_right _ (List.mem_append_right _ (List.mem_append_right _ (List.mem_append_right _ (List.mem_append_right _ (List.mem_append_right _ (List.mem_append_right _ (List.mem_append_left _ (List.mem_of_getElem? (i := 13) rfl)))))))))))))
theorem tW202 : (.selects R_Records y_Records_copyFrom y_Records_copyFrom : Cond) ∈ TW := (List.mem_append_right _ (List.mem_append_right _ (List.mem_append_right _ (List.mem_append_right _ (List.mem_append_right _ (List.mem_append_right _ (List.mem_append_right _ (List.mem_append_right _ (List.mem_append_right _ (List.mem_append_right _ (List.mem_append_right _ (List.mem_append_left _ (List.mem_of_getElem? (i := 14) rfl)))))))))))))
theorem tW203 : (.methodLink R_Secondary 108 y_Records_empty : Cond) ∈ TW := (List.mem_append_right _ (List.mem_append_right _ (List.mem_append_right _ (List.mem_append_right _ (List.mem_append_right _ (List.mem_append_right _ (List.mem_append_right _ (List.mem_append_right _ (List.mem_append_right _ (List.mem_append_right _ (List.mem_append_right _ (List.mem_append_left _ (List.mem_of_getElem? (i := 15) rfl)))))))))))))
theorem tW205 : (.instanceMethod y_Records_empty : Cond) ∈ TW := (List.mem_append_right _ (List.mem_append_right _ (List.mem_append_right _ (List.mem_append_right _ (List.mem_append_right _ (List.mem_append_right _ (List.mem_append_right _ (List.mem_append_right _ (List.mem_append_right _ (List.mem_append_right _ (List.mem_append_right _ (List.mem_append_left _ (List.mem_of_getElem? (i := 16) rfl)))))))))))))
theorem tW206 : (.selects R_Records y_Records_empty y_Records_empty : Cond) ∈ TW := (List.mem_append_right _ (List.mem_append_right _ (List.mem_append_right _ (List.mem_append_right _ (List.mem_append_right _ (List.mem_append_right _ (List.mem_append_right _ (List.mem_append_right _ (List.mem_append_right _ (List.mem_append_right _ (List.mem_append_right _ (List.mem_append_left _ (List.mem_of_getElem? (i := 17) rfl)))))))))))))
theorem tW207 : (.methodLink R_Secondary 97 y_Records_takeItem : Cond) ∈ TW := (List.mem_append_right _ (List.mem_append_right _ (List.mem_append_right _ (List.mem_append_right _ (List.mem_append_right _ (List.mem_append_right _ (List.mem_append_right _ (List.mem_append_right _ (List.mem_append_right _ (List.mem_append_right _ (List.mem_append_right _ (List.mem_append_left _ (List.mem_of_getElem? (i := 18) rfl)))))))))))))
theorem tW209 : (.instanceMethod y_Records_takeItem : Cond) ∈ TW := (List.mem_append_right _ (List.mem_append_right _ (List.mem_append_right _ (List.mem_append_right _ (List.mem_append_right _ (List.mem_append_right _ (List.mem_append_right _ (List.mem_append_right _ (List.mem_append_right _ (List.mem_append_right _ (List.mem_append_right _ (List.mem_append_left _ (List.mem_of_getElem? (i := 19) rfl)))))))))))))
theorem tW210 : (.selects R_Records y_Records_takeItem y_Records_takeItem : Cond) ∈ TW := (List.mem_append_right _ (List.mem_append_right _ (List.mem_append_right _ (List.mem_append_right _ (List.mem_append_right _ (List.mem_append_right _ (List.mem_append_right _ (List.mem_append_right _ (List.mem_append_right _ (List.mem_append_right _ (List.mem_append_right _ (List.mem_append_left _ (List.mem_of_getElem? (i := 20) rfl)))))))))))))
theorem tW211 : (.methodLink R_Secondary 86 y_Secondary_beginIncoming : Cond) ∈ TW := (List.mem_append_right _ (List.mem_append_right _ (List.mem_append_right _ (List.mem_append_right _ (List.mem_append_right _ (List.mem_append_right _ (List.mem_append_right _ (List.mem_append_right _ (List.mem_append_right _ (List.mem_append_right _ (List.mem_append_right _ (List.mem_append_left _ (List.mem_of_getElem? (i := 21) rfl)))))))))))))
theorem tW213 : (.instanceMethod y_Secondary_beginIncoming : Cond) ∈ TW := (List.mem_append_right _ (List.mem_append_right _ (List.mem_append_right _ (List.mem_append_right _ (List.mem_append_right _ (List.mem_append_right _ (List.mem_append_right _ (List.mem_append_right _ (List.mem_append_right _ (List.mem_append_right _ (List.mem_append_right _ (List.mem_append_left _ (List.mem_of_getElem? (i := 22) rfl)))))))))))))
theorem tW214 : (.selects R_Secondary y_Secondary_beginIncoming y_Secondary_beginIncoming : Cond) ∈ TW := (List.mem_append_right _ (List.mem_append_right _ (List.mem_append_right _ (List.mem_append_right _ (List.mem_append_right _ (List.mem_append_right _ (List.mem_append_right _ (List.mem_append_right _ (List.mem_append_right _ (List.mem_append_right _ (List.mem_append_right _ (List.mem_append_left _ (List.mem_of_getElem? (i := 23) rfl)))))))))))))
theorem tW215 : (.methodLink R_Wire 36 y_Wire_takeOut : Cond) ∈ TW := (List.mem_append_right _ (List.mem_append_right _ (List.mem_append_right _ (List.mem_append_right _ (List.mem_append_right _ (List.mem_append_right _ (List.mem_append_right _ (List.mem_append_right _ (List.mem_append_right _ (List.mem_append_right _ (List.mem_append_right _ (List.mem_append_left _ (List.mem_of_getElem? (i := 24) rfl)))))))))))))
theorem tW217 : (.instanceMethod y_Wire_takeOut : Cond) ∈ TW := (List.mem_append_right _ (List.mem_append_right _ (List.mem_append_right _ (List.mem_append_right _ (List.mem_append_right _ (List.mem_append_right _ (List.mem_append_right _ (List.mem_append_right _ (List.mem_append_right _ (List.mem_append_right _ (List.mem_append_right _ (List.mem_append_left _ (List.mem_of_getElem? (i := 25) rfl)))))))))))))
theorem tW218 : (.selects R_Wire y_Wire_takeOut y_Wire_takeOut : Cond) ∈ TW := (List.mem_append_right _ (List.mem_append_right _ (List.mem_append_right _ (List.mem_append_right _ (List.mem_append_right _ (List.mem_append_right _ (List.mem_append_right _ (List.mem_append_right _ (List.mem_append_right _ (List.mem_append_right _ (List.mem_append_right _ (List.mem_append_left _ (List.mem_of_getElem? (i := 26) rfl)))))))))))))
theorem tW219 : (.fieldLink R_ZoneNodes 93 R_ZoneNodes "clock" "I" : Cond) ∈ TW := (List.mem_append_right _ (List.mem_append_right _ (List.mem_append_right _ (List.mem_append_right _ (List.mem_append_right _ (List.mem_append_right _ (List.mem_append_right _ (List.mem_append_right _ (List.mem_append_right _ (List.mem_append_right _ (List.mem_append_right _ (List.mem_append_left _ (List.mem_of_getElem? (i := 27) rfl)))))))))))))
theorem tW220 : (.methodLink R_ZoneNodes 258 y_Secondary_takePart : Cond) ∈ TW := (List.mem_append_right _ (List.mem_append_right _ (List.mem_append_right _ (List.mem_append_right _ (List.mem_append_right _ (List.mem_append_right _ (List.mem_append_right _ (List.mem_append_right _ (List.mem_append_right _ (List.mem_append_right _ (List.mem_append_right _ (List.mem_append_left _ (List.mem_of_getElem? (i := 28) rfl)))))))))))))
theorem tW222 : (.instanceMethod y_Secondary_takePart : Cond) ∈ TW := (List.mem_append_right _ (List.mem_append_right _ (List.mem_append_right _ (List.mem_append_right _ (List.mem_append_right _ (List.mem_append_right _ (List.mem_append_right _ (List.mem_append_right _ (List.mem_append_right _ (List.mem_append_right _ (List.mem_append_right _ (List.mem_append_left _ (List.mem_of_getElem? (i := 29) rfl)))))))))))))
theorem tW223 : (.selects R_Secondary y_Secondary_takePart y_Secondary_takePart : Cond) ∈ TW := (List.mem_append_right _ (List.mem_append_right _ (List.mem_append_right _ (List.mem_append_right _ (List.mem_append_right _ (List.mem_append_right _ (List.mem_append_right _ (List.mem_append_right _ (List.mem_append_right _ (List.mem_append_right _ (List.mem_append_right _ (List.mem_append_left _ (List.mem_of_getElem? (i := 30) rfl)))))))))))))
theorem tW224 : (.methodLink R_ZoneNodes 142 y_Wire_endStreamOf : Cond) ∈ TW := (List.mem_append_right _ (List.mem_append_right _ (List.mem_append_right _ (List.mem_append_right _ (List.mem_append_right _ (List.mem_append_right _ (List.mem_append_right _ (List.mem_append_right _ (List.mem_append_right _ (List.mem_append_right _ (List.mem_append_right _ (List.mem_append_left _ (List.mem_of_getElem? (i := 31) rfl)))))))))))))
theorem tW226 : (.instanceMethod y_Wire_endStreamOf : Cond) ∈ TW := (List.mem_append_right _ (List.mem_append_right _ (List.mem_append_right _ (List.mem_append_right _ (List.mem_append_right _ (List.mem_append_right _ (List.mem_append_right _ (List.mem_append_right _ (List.mem_append_right _ (List.mem_append_right _ (List.mem_append_right _ (List.mem_append_left _ (List.mem_of_getElem? (i := 32) rfl)))))))))))))
theorem tW227 : (.selects R_Wire y_Wire_endStreamOf y_Wire_endStreamOf : Cond) ∈ TW := (List.mem_append_right _ (List.mem_append_right _ (List.mem_append_right _ (List.mem_append_right _ (List.mem_append_right _ (List.mem_append_right _ (List.mem_append_right _ (List.mem_append_right _ (List.mem_append_right _ (List.mem_append_right _ (List.mem_append_right _ (List.mem_append_left _ (List.mem_of_getElem? (i := 33) rfl)))))))))))))
theorem tW228 : (.methodLink R_ZoneNodes 234 y_Secondary_loseStream : Cond) ∈ TW := (List.mem_append_right _ (List.mem_append_right _ (List.mem_append_right _ (List.mem_append_right _ (List.mem_append_right _ (List.mem_append_right _ (List.mem_append_right _ (List.mem_append_right _ (List.mem_append_right _ (List.mem_append_right _ (List.mem_append_right _ (List.mem_append_left _ (List.mem_of_getElem? (i := 34) rfl)))))))))))))
theorem tW230 : (.instanceMethod y_Secondary_loseStream : Cond) ∈ TW := (List.mem_append_right _ (List.mem_append_right _ (List.mem_append_right _ (List.mem_append_right _ (List.mem_append_right _ (List.mem_append_right _ (List.mem_append_right _ (List.mem_append_right _ (List.mem_append_right _ (List.mem_append_right _ (List.mem_append_right _ (List.mem_append_left _ (List.mem_of_getElem? (i := 35) rfl)))))))))))))
theorem tW231 : (.selects R_Secondary y_Secondary_loseStream y_Secondary_loseStream : Cond) ∈ TW := (List.mem_append_right _ (List.mem_append_right _ (List.mem_append_right _ (List.mem_append_right _ (List.mem_append_right _ (List.mem_append_right _ (List.mem_append_right _ (List.mem_append_right _ (List.mem_append_right _ (List.mem_append_right _ (List.mem_append_right _ (List.mem_append_left _ (List.mem_of_getElem? (i := 36) rfl)))))))))))))
theorem tW232 : (.methodLink R_ZoneNodes 253 y_Secondary_hearTell : Cond) ∈ TW := (List.mem_append_right _ (List.mem_append_right _ (List.mem_append_right _ (List.mem_append_right _ (List.mem_append_right _ (List.mem_append_right _ (List.mem_append_right _ (List.mem_append_right _ (List.mem_append_right _ (List.mem_append_right _ (List.mem_append_right _ (List.mem_append_left _ (List.mem_of_getElem? (i := 37) rfl)))))))))))))
theorem tW234 : (.instanceMethod y_Secondary_hearTell : Cond) ∈ TW := (List.mem_append_right _ (List.mem_append_right _ (List.mem_append_right _ (List.mem_append_right _ (List.mem_append_right _ (List.mem_append_right _ (List.mem_append_right _ (List.mem_append_right _ (List.mem_append_right _ (List.mem_append_right _ (List.mem_append_right _ (List.mem_append_left _ (List.mem_of_getElem? (i := 38) rfl)))))))))))))
theorem tW235 : (.selects R_Secondary y_Secondary_hearTell y_Secondary_hearTell : Cond) ∈ TW := (List.mem_append_right _ (List.mem_append_right _ (List.mem_append_right _ (List.mem_append_right _ (List.mem_append_right _ (List.mem_append_right _ (List.mem_append_right _ (List.mem_append_right _ (List.mem_append_right _ (List.mem_append_right _ (List.mem_append_right _ (List.mem_append_left _ (List.mem_of_getElem? (i := 39) rfl)))))))))))))
theorem tW236 : (.methodLink R_ZoneNodes 249 y_Secondary_hearNotify : Cond) ∈ TW := (List.mem_append_right _ (List.mem_append_right _ (List.mem_append_right _ (List.mem_append_right _ (List.mem_append_right _ (List.mem_append_right _ (List.mem_append_right _ (List.mem_append_right _ (List.mem_append_right _ (List.mem_append_right _ (List.mem_append_right _ (List.mem_append_left _ (List.mem_of_getElem? (i := 40) rfl)))))))))))))
theorem tW238 : (.instanceMethod y_Secondary_hearNotify : Cond) ∈ TW := (List.mem_append_right _ (List.mem_append_right _ (List.mem_append_right _ (List.mem_append_right _ (List.mem_append_right _ (List.mem_append_right _ (List.mem_append_right _ (List.mem_append_right _ (List.mem_append_right _ (List.mem_append_right _ (List.mem_append_right _ (List.mem_append_left _ (List.mem_of_getElem? (i := 41) rfl)))))))))))))
theorem tW239 : (.selects R_Secondary y_Secondary_hearNotify y_Secondary_hearNotify : Cond) ∈ TW := (List.mem_append_right _ (List.mem_append_right _ (List.mem_append_right _ (List.mem_append_right _ (List.mem_append_right _ (List.mem_append_right _ (List.mem_append_right _ (List.mem_append_right _ (List.mem_append_right _ (List.mem_append_right _ (List.mem_append_right _ (List.mem_append_left _ (List.mem_of_getElem? (i := 42) rfl)))))))))))))
theorem tW240 : (.fieldLink R_Draft 22 R_Draft "changeCount" "I" : Cond) ∈ TW := (List.mem_append_right _ (List.mem_append_right _ (List.mem_append_right _ (List.mem_append_right _ (List.mem_append_right _ (List.mem_append_right _ (List.mem_append_right _ (List.mem_append_right _ (List.mem_append_right _ (List.mem_append_right _ (List.mem_append_right _ (List.mem_append_left _ (List.mem_of_getElem? (i := 43) rfl)))))))))))))
theorem tW241 : (.methodLink R_ZoneNodes 53 y_ZoneNodes_isRecord : Cond) ∈ TW := (List.mem_append_right _ (List.mem_append_right _ (List.mem_append_right _ (List.mem_append_right _ (List.mem_append_right _ (List.mem_append_right _ (List.mem_append_right _ (List.mem_append_right _ (List.mem_append_right _ (List.mem_append_right _ (List.mem_append_right _ (List.mem_append_left _ (List.mem_of_getElem? (i := 44) rfl)))))))))))))
theorem tW243 : (.static y_ZoneNodes_isRecord : Cond) ∈ TW := (List.mem_append_right _ (List.mem_append_right _ (List.mem_append_right _ (List.mem_append_right _ (List.mem_append_right _ (List.mem_append_right _ (List.mem_append_right _ (List.mem_append_right _ (List.mem_append_right _ (List.mem_append_right _ (List.mem_append_right _ (List.mem_append_left _ (List.mem_of_getElem? (i := 45) rfl)))))))))))))
theorem tW244 : (.methodLink R_ZoneNodes 56 y_ZoneNodes_coded : Cond) ∈ TW := (List.mem_append_right _ (List.mem_append_right _ (List.mem_append_right _ (List.mem_append_right _ (List.mem_append_right _ (List.mem_append_right _ (List.mem_append_right _ (List.mem_append_right _ (List.mem_append_right _ (List.mem_append_right _ (List.mem_append_right _ (List.mem_append_left _ (List.mem_of_getElem? (i := 46) rfl)))))))))))))
theorem tW245 : (.methodLink R_ZoneNodes 64 y_Draft_addChange : Cond) ∈ TW := (List.mem_append_right _ (List.mem_append_right _ (List.mem_append_right _ (List.mem_append_right _ (List.mem_append_right _ (List.mem_append_right _ (List.mem_append_right _ (List.mem_append_right _ (List.mem_append_right _ (List.mem_append_right _ (List.mem_append_right _ (List.mem_append_left _ (List.mem_of_getElem? (i := 47) rfl)))))))))))))
theorem tW247 : (.instanceMethod y_Draft_addChange : Cond) ∈ TW := (List.mem_append_right _ (List.mem_append_right _ (List.mem_append_right _ (List.mem_append_right _ (List.mem_append_right _ (List.mem_append_right _ (List.mem_append_right _ (List.mem_append_right _ (List.mem_append_right _ (List.mem_append_right _ (List.mem_append_right _ (List.mem_append_left _ (List.mem_of_getElem? (i := 48) rfl)))))))))))))
theorem tW248 : (.selects R_Draft y_Draft_addChange y_Draft_addChange : Cond) ∈ TW := (List.mem_append_right _ (List.mem_append_right _ (List.mem_append_right _ (List.mem_append_right _ (List.mem_append_right _ (List.mem_append_right _ (List.mem_append_right _ (List.mem_append_right _ (List.mem_append_right _ (List.mem_append_right _ (List.mem_append_right _ (List.mem_append_left _ (List.mem_of_getElem? (i := 49) rfl)))))))))))))
theorem tW249 : (.methodLink R_ZoneNodes 133 y_ZoneNodes_isNode : Cond) ∈ TW := (List.mem_append_right _ (List.mem_append_right _ (List.mem_append_right _ (List.mem_append_right _ (List.mem_append_right _ (List.mem_append_right _ (List.mem_append_right _ (List.mem_append_right _ (List.mem_append_right _ (List.mem_append_right _ (List.mem_append_right _ (List.mem_append_left _ (List.mem_of_getElem? (i := 50) rfl)))))))))))))
theorem tW251 : (.static y_ZoneNodes_isNode : Cond) ∈ TW := (List.mem_append_right _ (List.mem_append_right _ (List.mem_append_right _ (List.mem_append_right _ (List.mem_append_right _ (List.mem_append_right _ (List.mem_append_right _ (List.mem_append_right _ (List.mem_append_right _ (List.mem_append_right _ (List.mem_append_right _ (List.mem_append_left _ (List.mem_of_getElem? (i := 51) rfl)))))))))))))
theorem tW252 : (.methodLink R_ZoneNodes 136 y_ZoneNodes_isUp : Cond) ∈ TW := (List.mem_append_right _ (List.mem_append_right _ (List.mem_append_right _ (List.mem_append_right _ (List.mem_append_right _ (List.mem_append_right _ (List.mem_append_right _ (List.mem_append_right _ (List.mem_append_right _ (List.mem_append_right _ (List.mem_append_right _ (List.mem_append_left _ (List.mem_of_getElem? (i := 52) rfl)))))))))))))
theorem tW254 : (.instanceMethod y_ZoneNodes_isUp : Cond) ∈ TW := (List.mem_append_right _ (List.mem_append_right _ (List.mem_append_right _ (List.mem_append_right _ (List.mem_append_right _ (List.mem_append_right _ (List.mem_append_right _ (List.mem_append_right _ (List.mem_append_right _ (List.mem_append_right _ (List.mem_append_right _ (List.mem_append_left _ (List.mem_of_getElem? (i := 53) rfl)))))))))))))
theorem tW255 : (.selects R_ZoneNodes y_ZoneNodes_isUp y_ZoneNodes_isUp : Cond) ∈ TW := (List.mem_append_right _ (List.mem_append_right _ (List.mem_append_right _ (List.mem_append_right _ (List.mem_append_right _ (List.mem_append_right _ (List.mem_append_right _ (List.mem_append_right _ (List.mem_append_right _ (List.mem_append_right _ (List.mem_append_right _ (List.mem_append_left _ (List.mem_of_getElem? (i := 54) rfl)))))))))))))
theorem tW256 : (.methodLink R_ZoneNodes 139 y_ZoneNodes_takePrimaryDown : Cond) ∈ TW := (List.mem_append_right _ (List.mem_append_right _ (List.mem_append_right _ (List.mem_append_right _ (List.mem_append_right _ (List.mem_append_right _ (List.mem_append_right _ (List.mem_append_right _ (List.mem_append_right _ (List.mem_append_right _ (List.mem_append_right _ (List.mem_append_left _ (List.mem_of_getElem? (i := 55) rfl)))))))))))))
theorem tW258 : (.instanceMethod y_ZoneNodes_takePrimaryDown : Cond) ∈ TW := (List.mem_append_right _ (List.mem_append_right _ (List.mem_append_right _ (List.mem_append_right _ (List.mem_append_right _ (List.mem_append_right _ (List.mem_append_right _ (List.mem_append_right _ (List.mem_append_right _ (List.mem_append_right _ (List.mem_append_right _ (List.mem_append_left _ (List.mem_of_getElem? (i := 56) rfl)))))))))))))
theorem tW259 : (.selects R_ZoneNodes y_ZoneNodes_takePrimaryDown y_ZoneNodes_takePrimaryDown : Cond) ∈ TW := (List.mem_append_right _ (List.mem_append_right _ (List.mem_append_right _ (List.mem_append_right _ (List.mem_append_right _ (List.mem_append_right _ (List.mem_append_right _ (List.mem_append_right _ (List.mem_append_right _ (List.mem_append_right _ (List.mem_append_right _ (List.mem_append_left _ (List.mem_of_getElem? (i := 57) rfl)))))))))))))
theorem tW260 : (.methodLink R_ZoneNodes 104 y_Wire_isBehindAnotherPart : Cond) ∈ TW := (List.mem_append_right _ (List.mem_append_right _ (List.mem_append_right _ (List.mem_append_right _ (List.mem_append_right _ (List.mem_append_right _ (List.mem_append_right _ (List.mem_append_right _ (List.mem_append_right _ (List.mem_append_right _ (List.mem_append_right _ (List.mem_append_left _ (List.mem_of_getElem? (i := 58) rfl)))))))))))))
theorem tW262 : (.instanceMethod y_Wire_isBehindAnotherPart : Cond) ∈ TW := (List.mem_append_right _ (List.mem_append_right _ (List.mem_append_right _ (List.mem_append_right _ (List.mem_append_right _ (List.mem_append_right _ (List.mem_append_right _ (List.mem_append_right _ (List.mem_append_right _ (List.mem_append_right _ (List.mem_append_right _ (List.mem_append_left _ (List.mem_of_getElem? (i := 59) rfl)))))))))))))
theorem tW263 : (.selects R_Wire y_Wire_isBehindAnotherPart y_Wire_isBehindAnotherPart : Cond) ∈ TW := (List.mem_append_right _ (List.mem_append_right _ (List.mem_append_right _ (List.mem_append_right _ (List.mem_append_right _ (List.mem_append_right _ (List.mem_append_right _ (List.mem_append_right _ (List.mem_append_right _ (List.mem_append_right _ (List.mem_append_right _ (List.mem_append_left _ (List.mem_of_getElem? (i := 60) rfl)))))))))))))
theorem tW264 : (.methodLink R_ZoneNodes 107 y_Wire_takeOut : Cond) ∈ TW := (List.mem_append_right _ (List.mem_append_right _ (List.mem_append_right _ (List.mem_append_right _ (List.mem_append_right _ (List.mem_append_right _ (List.mem_append_right _ (List.mem_append_right _ (List.mem_append_right _ (List.mem_append_right _ (List.mem_append_right _ (List.mem_append_left _ (List.mem_of_getElem? (i := 61) rfl)))))))))))))
theorem tW265 : (.methodLink R_ZoneNodes 115 y_ZoneNodes_arriveAtPrimary : Cond) ∈ TW := (List.mem_append_right _ (List.mem_append_right _ (List.mem_append_right _ (List.mem_append_right _ (List.mem_append_right _ (List.mem_append_right _ (List.mem_append_right _ (List.mem_append_right _ (List.mem_append_right _ (List.mem_append_right _ (List.mem_append_right _ (List.mem_append_left _ (List.mem_of_getElem? (i := 62) rfl)))))))))))))
theorem tW267 : (.instanceMethod y_ZoneNodes_arriveAtPrimary : Cond) ∈ TW := (List.mem_append_right _ (List.mem_append_right _ (List.mem_append_right _ (List.mem_append_right _ (List.mem_append_right _ (List.mem_append_right _ (List.mem_append_right _ (List.mem_append_right _ (List.mem_append_right _ (List.mem_append_right _ (List.mem_append_right _ (List.mem_append_left _ (List.mem_of_getElem? (i := 63) rfl)))))))))))))
theorem tW268 : (.selects R_ZoneNodes y_ZoneNodes_arriveAtPrimary y_ZoneNodes_arriveAtPrimary : Cond) ∈ TW := (List.mem_append_right _ (List.mem_append_right _ (List.mem_append_right _ (List.mem_append_right _ (List.mem_append_right _ (List.mem_append_right _ (List.mem_append_right _ (List.mem_append_right _ (List.mem_append_right _ (List.mem_append_right _ (List.mem_append_right _ (List.mem_append_left _ (List.mem_of_getElem? (i := 64) rfl)))))))))))))
theorem tW269 : (.methodLink R_ZoneNodes 122 y_ZoneNodes_arriveAtSecondary : Cond) ∈ TW := (List.mem_append_right _ (List.mem_append_right _ (List.mem_append_right _ (List.mem_append_right _ (List.mem_append_right _ (List.mem_append_right _ (List.mem_append_right _ (List.mem_append_right _ (List.mem_append_right _ (List.mem_append_right _ (List.mem_append_right _ (List.mem_append_left _ (List.mem_of_getElem? (i := 65) rfl)))))))))))))
theorem tW271 : (.instanceMethod y_ZoneNodes_arriveAtSecondary : Cond) ∈ TW := (List.mem_append_right _ (List.mem_append_right _ (List.mem_append_right _ (List.mem_append_right _ (List.mem_append_right _ (List.mem_append_right _ (List.mem_append_right _ (List.mem_append_right _ (List.mem_append_right _ (List.mem_append_right _ (List.mem_append_right _ (List.mem_append_left _ (List.mem_of_getElem? (i := 66) rfl)))))))))))))
theorem tW272 : (.selects R_ZoneNodes y_ZoneNodes_arriveAtSecondary y_ZoneNodes_arriveAtSecondary : Cond) ∈ TW := (List.mem_append_right _ (List.mem_append_right _ (List.mem_append_right _ (List.mem_append_right _ (List.mem_append_right _ (List.mem_append_right _ (List.mem_append_right _ (List.mem_append_right _ (List.mem_append_right _ (List.mem_append_right _ (List.mem_append_right _ (List.mem_append_left _ (List.mem_of_getElem? (i := 67) rfl)))))))))))))
theorem tW273 : (.methodLink R_ZoneNodes 126 y_Message_isOnStream : Cond) ∈ TW := (List.mem_append_right _ (List.mem_append_right _ (List.mem_append_right _ (List.mem_append_right _ (List.mem_append_right _ (List.mem_append_right _ (List.mem_append_right _ (List.mem_append_right _ (List.mem_append_right _ (List.mem_append_right _ (List.mem_append_right _ (List.mem_append_left _ (List.mem_of_getElem? (i := 68) rfl)))))))))))))
theorem tW274 : (.methodLink R_ZoneNodes 164 y_ZoneNodes_recordsOf : Cond) ∈ TW := (List.mem_append_right _ (List.mem_append_right _ (List.mem_append_right _ (List.mem_append_right _ (List.mem_append_right _ (List.mem_append_right _ (List.mem_append_right _ (List.mem_append_right _ (List.mem_append_right _ (List.mem_append_right _ (List.mem_append_right _ (List.mem_append_left _ (List.mem_of_getElem? (i := 69) rfl)))))))))))))
theorem tW276 : (.instanceMethod y_ZoneNodes_recordsOf : Cond) ∈ TW := (List.mem_append_right _ (List.mem_append_right _ (List.mem_append_right _ (List.mem_append_right _ (List.mem_append_right _ (List.mem_append_right _ (List.mem_append_right _ (List.mem_append_right _ (List.mem_append_right _ (List.mem_append_right _ (List.mem_append_right _ (List.mem_append_left _ (List.mem_of_getElem? (i := 70) rfl)))))))))))))
theorem tW277 : (.selects R_ZoneNodes y_ZoneNodes_recordsOf y_ZoneNodes_recordsOf : Cond) ∈ TW := (List.mem_append_right _ (List.mem_append_right _ (List.mem_append_right _ (List.mem_append_right _ (List.mem_append_right _ (List.mem_append_right _ (List.mem_append_right _ (List.mem_append_right _ (List.mem_append_right _ (List.mem_append_right _ (List.mem_append_right _ (List.mem_append_left _ (List.mem_of_getElem? (i := 71) rfl)))))))))))))
theorem tW278 : (.methodLink R_ZoneNodes 177 y_Records_contains : Cond) ∈ TW := (List.mem_append_right _ (List.mem_append_right _ (List.mem_append_right _ (List.mem_append_right _ (List.mem_append_right _ (List.mem_append_right _ (List.mem_append_right _ (List.mem_append_right _ (List.mem_append_right _ (List.mem_append_right _ (List.mem_append_right _ (List.mem_append_left _ (List.mem_of_getElem? (i := 72) rfl)))))))))))))
theorem tW280 : (.instanceMethod y_Records_contains : Cond) ∈ TW := (List.mem_append_right _ (List.mem_append_right _ (List.mem_append_right _ (List.mem_append_right _ (List.mem_append_right _ (List.mem_append_right _ (List.mem_append_right _ (List.mem_append_right _ (List.mem_append_right _ (List.mem_append_right _ (List.mem_append_right _ (List.mem_append_left _ (List.mem_of_getElem? (i := 73) rfl)))))))))))))
theorem tW281 : (.selects R_Records y_Records_contains y_Records_contains : Cond) ∈ TW := (List.mem_append_right _ (List.mem_append_right _ (List.mem_append_right _ (List.mem_append_right _ (List.mem_append_right _ (List.mem_append_right _ (List.mem_append_right _ (List.mem_append_right _ (List.mem_append_right _ (List.mem_append_right _ (List.mem_append_right _ (List.mem_append_left _ (List.mem_of_getElem? (i := 74) rfl)))))))))))))
theorem tW282 : (.methodLink R_Records 23 y_Records_contains : Cond) ∈ TW := (List.mem_append_right _ (List.mem_append_right _ (List.mem_append_right _ (List.mem_append_right _ (List.mem_append_right _ (List.mem_append_right _ (List.mem_append_right _ (List.mem_append_right _ (List.mem_append_right _ (List.mem_append_right _ (List.mem_append_right _ (List.mem_append_left _ (List.mem_of_getElem? (i := 75) rfl)))))))))))))
theorem tW283 : (.methodLink R_Records 19 y_Records_hasOtherThanAlias : Cond) ∈ TW := (List.mem_append_right _ (List.mem_append_right _ (List.mem_append_right _ (List.mem_append_right _ (List.mem_append_right _ (List.mem_append_right _ (List.mem_append_right _ (List.mem_append_right _ (List.mem_append_right _ (List.mem_append_right _ (List.mem_append_right _ (List.mem_append_left _ (List.mem_of_getElem? (i := 76) rfl)))))))))))))
theorem tW285 : (.instanceMethod y_Records_hasOtherThanAlias : Cond) ∈ TW := (List.mem_append_right _ (List.mem_append_right _ (List.mem_append_right _ (List.mem_append_right _ (List.mem_append_right _ (List.mem_append_right _ (List.mem_append_right _ (List.mem_append_right _ (List.mem_append_right _ (List.mem_append_right _ (List.mem_append_right _ (List.mem_append_left _ (List.mem_of_getElem? (i := 77) rfl)))))))))))))
theorem tW286 : (.selects R_Records y_Records_hasOtherThanAlias y_Records_hasOtherThanAlias : Cond) ∈ TW := (List.mem_append_right _ (List.mem_append_right _ (List.mem_append_right _ (List.mem_append_right _ (List.mem_append_right _ (List.mem_append_right _ (List.mem_append_right _ (List.mem_append_right _ (List.mem_append_right _ (List.mem_append_right _ (List.mem_append_right _ (List.mem_append_left _ (List.mem_of_getElem? (i := 78) rfl)))))))))))))
theorem tW287 : (.constant R_Integer 265 1431655765 : Cond) ∈ TW := (List.mem_append_right _ (List.mem_append_right _ (List.mem_append_right _ (List.mem_append_right _ (List.mem_append_right _ (List.mem_append_right _ (List.mem_append_right _ (List.mem_append_right _ (List.mem_append_right _ (List.mem_append_right _ (List.mem_append_right _ (List.mem_append_left _ (List.mem_of_getElem? (i := 79) rfl)))))))))))))
theorem tW288 : (.constant R_Integer 266 858993459 : Cond) ∈ TW := (List.mem_append_right _ (List.mem_append_right _ (List.mem_append_right _ (List.mem_append_right _ (List.mem_append_right _ (List.mem_append_right _ (List.mem_append_right _ (List.mem_append_right _ (List.mem_append_right _ (List.mem_append_right _ (List.mem_append_right _ (List.mem_append_left _ (List.mem_of_getElem? (i := 80) rfl)))))))))))))
theorem tW289 : (.constant R_Integer 267 252645135 : Cond) ∈ TW := (List.mem_append_right _ (List.mem_append_right _ (List.mem_append_right _ (List.mem_append_right _ (List.mem_append_right _ (List.mem_append_right _ (List.mem_append_right _ (List.mem_append_right _ (List.mem_append_right _ (List.mem_append_right _ (List.mem_append_right _ (List.mem_append_left _ (List.mem_of_getElem? (i := 81) rfl)))))))))))))
theorem tW290 : (.methodLink R_ZoneNodes 262 y_Records_aliasOf : Cond) ∈ TW := (List.mem_append_right _ (List.mem_append_right _ (List.mem_append_right _ (List.mem_append_right _ (List.mem_append_right _ (List.mem_append_right _ (List.mem_append_right _ (List.mem_append_right _ (List.mem_append_right _ (List.mem_append_right _ (List.mem_append_right _ (List.mem_append_left _ (List.mem_of_getElem? (i := 82) rfl)))))))))))))
theorem tW292 : (.instanceMethod y_Records_aliasOf : Cond) ∈ TW := (List.mem_append_right _ (List.mem_append_right _ (List.mem_append_right _ (List.mem_append_right _ (List.mem_append_right _ (List.mem_append_right _ (List.mem_append_right _ (List.mem_append_right _ (List.mem_append_right _ (List.mem_append_right _ (List.mem_append_right _ (List.mem_append_left _ (List.mem_of_getElem? (i := 83) rfl)))))))))))))
theorem tW293 : (.selects R_Records y_Records_aliasOf y_Records_aliasOf : Cond) ∈ TW := (List.mem_append_right _ (List.mem_append_right _ (List.mem_append_right _ (List.mem_append_right _ (List.mem_append_right _ (List.mem_append_right _ (List.mem_append_right _ (List.mem_append_right _ (List.mem_append_right _ (List.mem_append_right _ (List.mem_append_right _ (List.mem_append_left _ (List.mem_of_getElem? (i := 84) rfl)))))))))))))
theorem tW294 : (.methodLink R_ZoneNodes 266 y_Records_isUsed : Cond) ∈ TW := (List.mem_append_right _ (List.mem_append_right _ (List.mem_append_right _ (List.mem_append_right _ (List.mem_append_right _ (List.mem_append_right _ (List.mem_append_right _ (List.mem_append_right _ (List.mem_append_right _ (List.mem_append_right _ (List.mem_append_right _ (List.mem_append_left _ (List.mem_of_getElem? (i := 85) rfl)))))))))))))
theorem tW296 : (.instanceMethod y_Records_isUsed : Cond) ∈ TW := (List.mem_append_right _ (List.mem_append_right _ (List.mem_append_right _ (List.mem_append_right _ (List.mem_append_right _ (List.mem_append_right _ (List.mem_append_right _ (List.mem_append_right _ (List.mem_append_right _ (List.mem_append_right _ (List.mem_append_right _ (List.mem_append_left _ (List.mem_of_getElem? (i := 86) rfl)))))))))))))
theorem tW297 : (.selects R_Records y_Records_isUsed y_Records_isUsed : Cond) ∈ TW := (List.mem_append_right _ (List.mem_append_right _ (List.mem_append_right _ (List.mem_append_right _ (List.mem_append_right _ (List.mem_append_right _ (List.mem_append_right _ (List.mem_append_right _ (List.mem_append_right _ (List.mem_append_right _ (List.mem_append_right _ (List.mem_append_left _ (List.mem_of_getElem? (i := 87) rfl)))))))))))))
theorem tW298 : (.methodLink R_ZoneNodes 269 y_Records_valuesOf : Cond) ∈ TW := (List.mem_append_right _ (List.mem_append_right _ (List.mem_append_right _ (List.mem_append_right _ (List.mem_append_right _ (List.mem_append_right _ (List.mem_append_right _ (List.mem_append_right _ (List.mem_append_right _ (List.mem_append_right _ (List.mem_append_right _ (List.mem_append_left _ (List.mem_of_getElem? (i := 88) rfl)))))))))))))
theorem tW299 : (.methodLink R_ZoneNodes 272 y_Integer_bitCount : Cond) ∈ TW := (List.mem_append_right _ (List.mem_append_right _ (List.mem_append_right _ (List.mem_append_right _ (List.mem_append_right _ (List.mem_append_right _ (List.mem_append_right _ (List.mem_append_right _ (List.mem_append_right _ (List.mem_append_right _ (List.mem_append_right _ (List.mem_append_left _ (List.mem_of_getElem? (i := 89) rfl)))))))))))))
theorem tW301 : (.initialized R_Integer : Cond) ∈ TW := (List.mem_append_right _ (List.mem_append_right _ (List.mem_append_right _ (List.mem_append_right _ (List.mem_append_right _ (List.mem_append_right _ (List.mem_append_right _ (List.mem_append_right _ (List.mem_append_right _ (List.mem_append_right _ (List.mem_append_right _ (List.mem_append_left _ (List.mem_of_getElem? (i := 90) rfl)))))))))))))
theorem tW302 : (.static y_Integer_bitCount : Cond) ∈ TW := (List.mem_append_right _ (List.mem_append_right _ (List.mem_append_right _ (List.mem_append_right _ (List.mem_append_right _ (List.mem_append_right _ (List.mem_append_right _ (List.mem_append_right _ (List.mem_append_right _ (List.mem_append_right _ (List.mem_append_right _ (List.mem_append_left _ (List.mem_of_getElem? (i := 91) rfl)))))))))))))
theorem tW303 : (.methodLink R_Records 49 y_Records_addIfAllowed : Cond) ∈ TW := (List.mem_append_right _ (List.mem_append_right _ (List.mem_append_right _ (List.mem_append_right _ (List.mem_append_right _ (List.mem_append_right _ (List.mem_append_right _ (List.mem_append_right _ (List.mem_append_right _ (List.mem_append_right _ (List.mem_append_right _ (List.mem_append_left _ (List.mem_of_getElem? (i := 92) rfl)))))))))))))
theorem tW305 : (.instanceMethod y_Records_addIfAllowed : Cond) ∈ TW := (List.mem_append_right _ (List.mem_append_right _ (List.mem_append_right _ (List.mem_append_right _ (List.mem_append_right _ (List.mem_append_right _ (List.mem_append_right _ (List.mem_append_right _ (List.mem_append_right _ (List.mem_append_right _ (List.mem_append_right _ (List.mem_append_left _ (List.mem_of_getElem? (i := 93) rfl)))))))))))))
theorem tW306 : (.selects R_Records y_Records_addIfAllowed y_Records_addIfAllowed : Cond) ∈ TW := (List.mem_append_right _ (List.mem_append_right _ (List.mem_append_right _ (List.mem_append_right _ (List.mem_append_right _ (List.mem_append_right _ (List.mem_append_right _ (List.mem_append_right _ (List.mem_append_right _ (List.mem_append_right _ (List.mem_append_right _ (List.mem_append_left _ (List.mem_of_getElem? (i := 94) rfl)))))))))))))
theorem tW307 : (.methodLink R_Records 52 y_Records_clearIfAllowed : Cond) ∈ TW := (List.mem_append_right _ (List.mem_append_right _ (List.mem_append_right _ (List.mem_append_right _ (List.mem_append_right _ (List.mem_append_right _ (List.mem_append_right _ (List.mem_append_right _ (List.mem_append_right _ (List.mem_append_right _ (List.mem_append_right _ (List.mem_append_left _ (List.mem_of_getElem? (i := 95) rfl)))))))))))))
theorem tW309 : (.instanceMethod y_Records_clearIfAllowed : Cond) ∈ TW := (List.mem_append_right _ (List.mem_append_right _ (List.mem_append_right _ (List.mem_append_right _ (List.mem_append_right _ (List.mem_append_right _ (List.mem_append_right _ (List.mem_append_right _ (List.mem_append_right _ (List.mem_append_right _ (List.mem_append_right _ (List.mem_append_left _ (List.mem_of_getElem? (i := 96) rfl)))))))))))))
theorem tW310 : (.selects R_Records y_Records_clearIfAllowed y_Records_clearIfAllowed : Cond) ∈ TW := (List.mem_append_right _ (List.mem_append_right _ (List.mem_append_right _ (List.mem_append_right _ (List.mem_append_right _ (List.mem_append_right _ (List.mem_append_right _ (List.mem_append_right _ (List.mem_append_right _ (List.mem_append_right _ (List.mem_append_right _ (List.mem_append_left _ (List.mem_of_getElem? (i := 97) rfl)))))))))))))
theorem tW311 : (.methodLink R_Records 56 y_Records_removeIfAllowed : Cond) ∈ TW := (List.mem_append_right _ (List.mem_append_right _ (List.mem_append_right _ (List.mem_append_right _ (List.mem_append_right _ (List.mem_append_right _ (List.mem_append_right _ (List.mem_append_right _ (List.mem_append_right _ (List.mem_append_right _ (List.mem_append_right _ (List.mem_append_left _ (List.mem_of_getElem? (i := 98) rfl)))))))))))))
theorem tW313 : (.instanceMethod y_Records_removeIfAllowed : Cond) ∈ TW := (List.mem_append_right _ (List.mem_append_right _ (List.mem_append_right _ (List.mem_append_right _ (List.mem_append_right _ (List.mem_append_right _ (List.mem_append_right _ (List.mem_append_right _ (List.mem_append_right _ (List.mem_append_right _ (List.mem_append_right _ (List.mem_append_left _ (List.mem_of_getElem? (i := 99) rfl)))))))))))))
theorem tW314 : (.selects R_Records y_Records_removeIfAllowed y_Records_removeIfAllowed : Cond) ∈ TW := (List.mem_append_right _ (List.mem_append_right _ (List.mem_append_right _ (List.mem_append_right _ (List.mem_append_right _ (List.mem_append_right _ (List.mem_append_right _ (List.mem_append_right _ (List.mem_append_right _ (List.mem_append_right _ (List.mem_append_right _ (List.mem_append_left _ (List.mem_of_getElem? (i := 100) rfl)))))))))))))
theorem tW315 : (.methodLink R_Draft 60 y_Records_makeChange : Cond) ∈ TW := (List.mem_append_right _ (List.mem_append_right _ (List.mem_append_right _ (List.mem_append_right _ (List.mem_append_right _ (List.mem_append_right _ (List.mem_append_right _ (List.mem_append_right _ (List.mem_append_right _ (List.mem_append_right _ (List.mem_append_right _ (List.mem_append_left _ (List.mem_of_getElem? (i := 101) rfl)))))))))))))
theorem tW317 : (.instanceMethod y_Records_makeChange : Cond) ∈ TW := (List.mem_append_right _ (List.mem_append_right _ (List.mem_append_right _ (List.mem_append_right _ (List.mem_append_right _ (List.mem_append_right _ (List.mem_append_right _ (List.mem_append_right _ (List.mem_append_right _ (List.mem_append_right _ (List.mem_append_right _ (List.mem_append_left _ (List.mem_of_getElem? (i := 102) rfl)))))))))))))
theorem tW318 : (.selects R_Records y_Records_makeChange y_Records_makeChange : Cond) ∈ TW := (List.mem_append_right _ (List.mem_append_right _ (List.mem_append_right _ (List.mem_append_right _ (List.mem_append_right _ (List.mem_append_right _ (List.mem_append_right _ (List.mem_append_right _ (List.mem_append_right _ (List.mem_append_right _ (List.mem_append_right _ (List.mem_append_left _ (List.mem_of_getElem? (i := 103) rfl)))))))))))))
theorem tW319 : (.methodLink R_Journal 33 y_Records_becomeDifference : Cond) ∈ TW := (List.mem_append_right _ (List.mem_append_right _ (List.mem_append_right _ (List.mem_append_right _ (List.mem_append_right _ (List.mem_append_right _ (List.mem_append_right _ (List.mem_append_right _ (List.mem_append_right _ (List.mem_append_right _ (List.mem_append_right _ (List.mem_append_left _ (List.mem_of_getElem? (i := 104) rfl)))))))))))))
theorem tW321 : (.instanceMethod y_Records_becomeDifference : Cond) ∈ TW := (List.mem_append_right _ (List.mem_append_right _ (List.mem_append_right _ (List.mem_append_right _ (List.mem_append_right _ (List.mem_append_right _ (List.mem_append_right _ (List.mem_append_right _ (List.mem_append_right _ (List.mem_append_right _ (List.mem_append_right _ (List.mem_append_left _ (List.mem_of_getElem? (i := 105) rfl)))))))))))))
theorem tW322 : (.selects R_Records y_Records_becomeDifference y_Records_becomeDifference : Cond) ∈ TW := (List.mem_append_right _ (List.mem_append_right _ (List.mem_append_right _ (List.mem_append_right _ (List.mem_append_right _ (List.mem_append_right _ (List.mem_append_right _ (List.mem_append_right _ (List.mem_append_right _ (List.mem_append_right _ (List.mem_append_right _ (List.mem_append_left _ (List.mem_of_getElem? (i := 106) rfl)))))))))))))
theorem tW323 : (.methodLink R_Primary 61 y_Journal_latest : Cond) ∈ TW := (List.mem_append_right _ (List.mem_append_right _ (List.mem_append_right _ (List.mem_append_right _ (List.mem_append_right _ (List.mem_append_right _ (List.mem_append_right _ (List.mem_append_right _ (List.mem_append_right _ (List.mem_append_right _ (List.mem_append_right _ (List.mem_append_left _ (List.mem_of_getElem? (i := 107) rfl)))))))))))))
theorem tW325 : (.instanceMethod y_Journal_latest : Cond) ∈ TW := (List.mem_append_right _ (List.mem_append_right _ (List.mem_append_right _ (List.mem_append_right _ (List.mem_append_right _ (List.mem_append_right _ (List.mem_append_right _ (List.mem_append_right _ (List.mem_append_right _ (List.mem_append_right _ (List.mem_append_right _ (List.mem_append_left _ (List.mem_of_getElem? (i := 108) rfl)))))))))))))
theorem tW326 : (.selects R_Journal y_Journal_latest y_Journal_latest : Cond) ∈ TW := (List.mem_append_right _ (List.mem_append_right _ (List.mem_append_right _ (List.mem_append_right _ (List.mem_append_right _ (List.mem_append_right _ (List.mem_append_right _ (List.mem_append_right _ (List.mem_append_right _ (List.mem_append_right _ (List.mem_append_right _ (List.mem_append_left _ (List.mem_of_getElem? (i := 109) rfl)))))))))))))
theorem tW327 : (.methodLink R_Primary 73 y_Records_exchange : Cond) ∈ TW := (List.mem_append_right _ (List.mem_append_right _ (List.mem_append_right _ (List.mem_append_right _ (List.mem_append_right _ (List.mem_append_right _ (List.mem_append_right _ (List.mem_append_right _ (List.mem_append_right _ (List.mem_append_right _ (List.mem_append_right _ (List.mem_append_left _ (List.mem_of_getElem? (i := 110) rfl)))))))))))))
theorem tW329 : (.instanceMethod y_Records_exchange : Cond) ∈ TW := (List.mem_append_right _ (List.mem_append_right _ (List.mem_append_right _ (List.mem_append_right _ (List.mem_append_right _ (List.mem_append_right _ (List.mem_append_right _ (List.mem_append_right _ (List.mem_append_right _ (List.mem_append_right _ (List.mem_append_right _ (List.mem_append_left _ (List.mem_of_getElem? (i := 111) rfl)))))))))))))
theorem tW330 : (.selects R_Records y_Records_exchange y_Records_exchange : Cond) ∈ TW := (List.mem_append_right _ (List.mem_append_right _ (List.mem_append_right _ (List.mem_append_right _ (List.mem_append_right _ (List.mem_append_right _ (List.mem_append_right _ (List.mem_append_right _ (List.mem_append_right _ (List.mem_append_right _ (List.mem_append_right _ (List.mem_append_left _ (List.mem_of_getElem? (i := 112) rfl)))))))))))))
theorem tW331 : (.methodLink R_Primary 80 y_Journal_keepLatest : Cond) ∈ TW := (List.mem_append_right _ (List.mem_append_right _ (List.mem_append_right _ (List.mem_append_right _ (List.mem_append_right _ (List.mem_append_right _ (List.mem_append_right _ (List.mem_append_right _ (List.mem_append_right _ (List.mem_append_right _ (List.mem_append_right _ (List.mem_append_left _ (List.mem_of_getElem? (i := 113) rfl)))))))))))))
theorem tW333 : (.instanceMethod y_Journal_keepLatest : Cond) ∈ TW := (List.mem_append_right _ (List.mem_append_right _ (List.mem_append_right _ (List.mem_append_right _ (List.mem_append_right _ (List.mem_append_right _ (List.mem_append_right _ (List.mem_append_right _ (List.mem_append_right _ (List.mem_append_right _ (List.mem_append_right _ (List.mem_append_left _ (List.mem_of_getElem? (i := 114) rfl)))))))))))))
theorem tW334 : (.selects R_Journal y_Journal_keepLatest y_Journal_keepLatest : Cond) ∈ TW := (List.mem_append_right _ (List.mem_append_right _ (List.mem_append_right _ (List.mem_append_right _ (List.mem_append_right _ (List.mem_append_right _ (List.mem_append_right _ (List.mem_append_right _ (List.mem_append_right _ (List.mem_append_right _ (List.mem_append_right _ (List.mem_append_left _ (List.mem_of_getElem? (i := 115) rfl)))))))))))))
theorem tW335 : (.methodLink R_Primary 51 y_Journal_append : Cond) ∈ TW := (List.mem_append_right _ (List.mem_append_right _ (List.mem_append_right _ (List.mem_append_right _ (List.mem_append_right _ (List.mem_append_right _ (List.mem_append_right _ (List.mem_append_right _ (List.mem_append_right _ (List.mem_append_right _ (List.mem_append_right _ (List.mem_append_left _ (List.mem_of_getElem? (i := 116) rfl)))))))))))))
theorem tW337 : (.instanceMethod y_Journal_append : Cond) ∈ TW := (List.mem_append_right _ (List.mem_append_right _ (List.mem_append_right _ (List.mem_append_right _ (List.mem_append_right _ (List.mem_append_right _ (List.mem_append_right _ (List.mem_append_right _ (List.mem_append_right _ (List.mem_append_right _ (List.mem_append_right _ (List.mem_append_left _ (List.mem_of_getElem? (i := 117) rfl)))))))))))))
theorem tW338 : (.selects R_Journal y_Journal_append y_Journal_append : Cond) ∈ TW := (List.mem_append_right _ (List.mem_append_right _ (List.mem_append_right _ (List.mem_append_right _ (List.mem_append_right _ (List.mem_append_right _ (List.mem_append_right _ (List.mem_append_right _ (List.mem_append_right _ (List.mem_append_right _ (List.mem_append_right _ (List.mem_append_left _ (List.mem_of_getElem? (i := 118) rfl)))))))))))))
theorem tW339 : (.methodLink R_Primary 55 y_Journal_markLatest : Cond) ∈ TW := (List.mem_append_right _ (List.mem_append_right _ (List.mem_append_right _ (List.mem_append_right _ (List.mem_append_right _ (List.mem_append_right _ (List.mem_append_right _ (List.mem_append_right _ (List.mem_append_right _ (List.mem_append_right _ (List.mem_append_right _ (List.mem_append_left _ (List.mem_of_getElem? (i := 119) rfl)))))))))))))
theorem tW341 : (.instanceMethod y_Journal_markLatest : Cond) ∈ TW := (List.mem_append_right _ (List.mem_append_right _ (List.mem_append_right _ (List.mem_append_right _ (List.mem_append_right _ (List.mem_append_right _ (List.mem_append_right _ (List.mem_append_right _ (List.mem_append_right _ (List.mem_append_right _ (List.mem_append_right _ (List.mem_append_left _ (List.mem_of_getElem? (i := 120) rfl)))))))))))))
theorem tW342 : (.selects R_Journal y_Journal_markLatest y_Journal_markLatest : Cond) ∈ TW := (List.mem_append_right _ (List.mem_append_right _ (List.mem_append_right _ (List.mem_append_right _ (List.mem_append_right _ (List.mem_append_right _ (List.mem_append_right _ (List.mem_append_right _ (List.mem_append_right _ (List.mem_append_right _ (List.mem_append_right _ (List.mem_append_left _ (List.mem_of_getElem? (i := 121) rfl)))))))))))))
theorem tW343 : (.methodLink R_Primary 58 y_Primary_becomeLatest : Cond) ∈ TW := (List.mem_append_right _ (List.mem_append_right _ (List.mem_append_right _ (List.mem_append_right _ (List.mem_append_right _ (List.mem_append_right _ (List.mem_append_right _ (List.mem_append_right _ (List.mem_append_right _ (List.mem_append_right _ (List.mem_append_right _ (List.mem_append_left _ (List.mem_of_getElem? (i := 122) rfl)))))))))))))
theorem tW345 : (.instanceMethod y_Primary_becomeLatest : Cond) ∈ TW := (List.mem_append_right _ (List.mem_append_right _ (List.mem_append_right _ (List.mem_append_right _ (List.mem_append_right _ (List.mem_append_right _ (List.mem_append_right _ (List.mem_append_right _ (List.mem_append_right _ (List.mem_append_right _ (List.mem_append_right _ (List.mem_append_left _ (List.mem_of_getElem? (i := 123) rfl)))))))))))))
theorem tW346 : (.selects R_Primary y_Primary_becomeLatest y_Primary_becomeLatest : Cond) ∈ TW := (List.mem_append_right _ (List.mem_append_right _ (List.mem_append_right _ (List.mem_append_right _ (List.mem_append_right _ (List.mem_append_right _ (List.mem_append_right _ (List.mem_append_right _ (List.mem_append_right _ (List.mem_append_right _ (List.mem_append_right _ (List.mem_append_left _ (List.mem_of_getElem? (i := 124) rfl)))))))))))))
theorem tW347 : (.fieldLink R_Primary 44 R_Primary "armed" "I" : Cond) ∈ TW := (List.mem_append_right _ (List.mem_append_right _ (List.mem_append_right _ (List.mem_append_right _ (List.mem_append_right _ (List.mem_append_right _ (List.mem_append_right _ (List.mem_append_right _ (List.mem_append_right _ (List.mem_append_right _ (List.mem_append_right _ (List.mem_append_left _ (List.mem_of_getElem? (i := 125) rfl)))))))))))))
theorem tW348 : (.methodLink R_Primary 47 y_Primary_takeStep : Cond) ∈ TW := (List.mem_append_right _ (List.mem_append_right _ (List.mem_append_right _ (List.mem_append_right _ (List.mem_append_right _ (List.mem_append_right _ (List.mem_append_right _ (List.mem_append_right _ (List.mem_append_right _ (List.mem_append_right _ (List.mem_append_right _ (List.mem_append_left _ (List.mem_of_getElem? (i := 126) rfl)))))))))))))
theorem tW350 : (.instanceMethod y_Primary_takeStep : Cond) ∈ TW := (List.mem_append_right _ (List.mem_append_right _ (List.mem_append_right _ (List.mem_append_right _ (List.mem_append_right _ (List.mem_append_right _ (List.mem_append_right _ (List.mem_append_right _ (List.mem_append_right _ (List.mem_append_right _ (List.mem_append_right _ (List.mem_append_left _ (List.mem_of_getElem? (i := 127) rfl)))))))))))))
theorem tW351 : (.selects R_Primary y_Primary_takeStep y_Primary_takeStep : Cond) ∈ TW := (List.mem_append_right _ (List.mem_append_right _ (List.mem_append_right _ (List.mem_append_right _ (List.mem_append_right _ (List.mem_append_right _ (List.mem_append_right _ (List.mem_append_right _ (List.mem_append_right _ (List.mem_append_right _ (List.mem_append_right _ (List.mem_append_left _ (List.mem_of_getElem? (i := 128) rfl)))))))))))))
theorem tW352 : (.methodLink R_Records 27 y_Integer_bitCount : Cond) ∈ TW := (List.mem_append_right _ (List.mem_append_right _ (List.mem_append_right _ (List.mem_append_right _ (List.mem_append_right _ (List.mem_append_right _ (List.mem_append_right _ (List.mem_append_right _ (List.mem_append_right _ (List.mem_append_right _ (List.mem_append_right _ (List.mem_append_left _ (List.mem_of_getElem? (i := 129) rfl)))))))))))))
theorem tW353 : (.methodLink R_ZoneNodes 216 y_Records_copyFrom : Cond) ∈ TW := (List.mem_append_right _ (List.mem_append_right _ (List.mem_append_right _ (List.mem_append_right _ (List.mem_append_right _ (List.mem_append_right _ (List.mem_append_right _ (List.mem_append_right _ (List.mem_append_right _ (List.mem_append_right _ (List.mem_append_right _ (List.mem_append_left _ (List.mem_of_getElem? (i := 130) rfl)))))))))))))
theorem tW354 : (.methodLink R_ZoneNodes 220 y_Draft_changeRecords : Cond) ∈ TW := (List.mem_append_right _ (List.mem_append_right _ (List.mem_append_right _ (List.mem_append_right _ (List.mem_append_right _ (List.mem_append_right _ (List.mem_append_right _ (List.mem_append_right _ (List.mem_append_right _ (List.mem_append_right _ (List.mem_append_right _ (List.mem_append_left _ (List.mem_of_getElem? (i := 131) rfl)))))))))))))
theorem tW356 : (.instanceMethod y_Draft_changeRecords : Cond) ∈ TW := (List.mem_append_right _ (List.mem_append_right _ (List.mem_append_right _ (List.mem_append_right _ (List.mem_append_right _ (List.mem_append_right _ (List.mem_append_right _ (List.mem_append_right _ (List.mem_append_right _ (List.mem_append_right _ (List.mem_append_right _ (List.mem_append_left _ (List.mem_of_getElem? (i := 132) rfl)))))))))))))
theorem tW357 : (.selects R_Draft y_Draft_changeRecords y_Draft_changeRecords : Cond) ∈ TW := (List.mem_append_right _ (List.mem_append_right _ (List.mem_append_right _ (List.mem_append_right _ (List.mem_append_right _ (List.mem_append_right _ (List.mem_append_right _ (List.mem_append_right _ (List.mem_append_right _ (List.mem_append_right _ (List.mem_append_right _ (List.mem_append_left _ (List.mem_of_getElem? (i := 133) rfl)))))))))))))
theorem tW358 : (.methodLink R_ZoneNodes 172 y_Records_total : Cond) ∈ TW := (List.mem_append_right _ (List.mem_append_right _ (List.mem_append_right _ (List.mem_append_right _ (List.mem_append_right _ (List.mem_append_right _ (List.mem_append_right _ (List.mem_append_right _ (List.mem_append_right _ (List.mem_append_right _ (List.mem_append_right _ (List.mem_append_left _ (List.mem_of_getElem? (i := 134) rfl)))))))))))))
theorem tW360 : (.instanceMethod y_Records_total : Cond) ∈ TW := (List.mem_append_right _ (List.mem_append_right _ (List.mem_append_right _ (List.mem_append_right _ (List.mem_append_right _ (List.mem_append_right _ (List.mem_append_right _ (List.mem_append_right _ (List.mem_append_right _ (List.mem_append_right _ (List.mem_append_right _ (List.mem_append_left _ (List.mem_of_getElem? (i := 135) rfl)))))))))))))
theorem tW361 : (.selects R_Records y_Records_total y_Records_total : Cond) ∈ TW := (List.mem_append_right _ (List.mem_append_right _ (List.mem_append_right _ (List.mem_append_right _ (List.mem_append_right _ (List.mem_append_right _ (List.mem_append_right _ (List.mem_append_right _ (List.mem_append_right _ (List.mem_append_right _ (List.mem_append_right _ (List.mem_append_left _ (List.mem_of_getElem? (i := 136) rfl)))))))))))))
theorem tW362 : (.methodLink R_ZoneNodes 223 y_Records_sameAs : Cond) ∈ TW := (List.mem_append_right _ (List.mem_append_right _ (List.mem_append_right _ (List.mem_append_right _ (List.mem_append_right _ (List.mem_append_right _ (List.mem_append_right _ (List.mem_append_right _ (List.mem_append_right _ (List.mem_append_right _ (List.mem_append_right _ (List.mem_append_left _ (List.mem_of_getElem? (i := 137) rfl)))))))))))))
theorem tW364 : (.instanceMethod y_Records_sameAs : Cond) ∈ TW := (List.mem_append_right _ (List.mem_append_right _ (List.mem_append_right _ (List.mem_append_right _ (List.mem_append_right _ (List.mem_append_right _ (List.mem_append_right _ (List.mem_append_right _ (List.mem_append_right _ (List.mem_append_right _ (List.mem_append_right _ (List.mem_append_left _ (List.mem_of_getElem? (i := 138) rfl)))))))))))))
theorem tW365 : (.selects R_Records y_Records_sameAs y_Records_sameAs : Cond) ∈ TW := (List.mem_append_right _ (List.mem_append_right _ (List.mem_append_right _ (List.mem_append_right _ (List.mem_append_right _ (List.mem_append_right _ (List.mem_append_right _ (List.mem_append_right _ (List.mem_append_right _ (List.mem_append_right _ (List.mem_append_right _ (List.mem_append_left _ (List.mem_of_getElem? (i := 139) rfl)))))))))))))
theorem tW366 : (.methodLink R_ZoneNodes 227 y_Primary_writeNext : Cond) ∈ TW := (List.mem_append_right _ (List.mem_append_right _ (List.mem_append_right _ (List.mem_append_right _ (List.mem_append_right _ (List.mem_append_right _ (List.mem_append_right _ (List.mem_append_right _ (List.mem_append_right _ (List.mem_append_right _ (List.mem_append_right _ (List.mem_append_left _ (List.mem_of_getElem? (i := 140) rfl)))))))))))))
theorem tW368 : (.instanceMethod y_Primary_writeNext : Cond) ∈ TW := (List.mem_append_right _ (List.mem_append_right _ (List.mem_append_right _ (List.mem_append_right _ (List.mem_append_right _ (List.mem_append_right _ (List.mem_append_right _ (List.mem_append_right _ (List.mem_append_right _ (List.mem_append_right _ (List.mem_append_right _ (List.mem_append_left _ (List.mem_of_getElem? (i := 141) rfl)))))))))))))
theorem tW369 : (.selects R_Primary y_Primary_writeNext y_Primary_writeNext : Cond) ∈ TW := (List.mem_append_right _ (List.mem_append_right _ (List.mem_append_right _ (List.mem_append_right _ (List.mem_append_right _ (List.mem_append_right _ (List.mem_append_right _ (List.mem_append_right _ (List.mem_append_right _ (List.mem_append_right _ (List.mem_append_right _ (List.mem_append_left _ (List.mem_of_getElem? (i := 142) rfl)))))))))))))
theorem tW370 : (.methodLink R_ZoneNodes 149 y_ZoneNodes_notifySecondaries : Cond) ∈ TW := (List.mem_append_right _ (List.mem_append_right _ (List.mem_append_right _ (List.mem_append_right _ (List.mem_append_right _ (List.mem_append_right _ (List.mem_append_right _ (List.mem_append_right _ (List.mem_append_right _ (List.mem_append_right _ (List.mem_append_right _ (List.mem_append_left _ (List.mem_of_getElem? (i := 143) rfl)))))))))))))
theorem tW372 : (.instanceMethod y_ZoneNodes_notifySecondaries : Cond) ∈ TW := (List.mem_append_right _ (List.mem_append_right _ (List.mem_append_right _ (List.mem_append_right _ (List.mem_append_right _ (List.mem_append_right _ (List.mem_append_right _ (List.mem_append_right _ (List.mem_append_right _ (List.mem_append_right _ (List.mem_append_right _ (List.mem_append_left _ (List.mem_of_getElem? (i := 144) rfl)))))))))))))
theorem tW373 : (.selects R_ZoneNodes y_ZoneNodes_notifySecondaries y_ZoneNodes_notifySecondaries : Cond) ∈ TW := (List.mem_append_right _ (List.mem_append_right _ (List.mem_append_right _ (List.mem_append_right _ (List.mem_append_right _ (List.mem_append_right _ (List.mem_append_right _ (List.mem_append_right _ (List.mem_append_right _ (List.mem_append_right _ (List.mem_append_right _ (List.mem_append_left _ (List.mem_of_getElem? (i := 145) rfl)))))))))))))
theorem tW374 : (.constant R_ZoneNodes 157 100000 : Cond) ∈ TW := (List.mem_append_right _ (List.mem_append_right _ (List.mem_append_right _ (List.mem_append_right _ (List.mem_append_right _ (List.mem_append_right _ (List.mem_append_right _ (List.mem_append_right _ (List.mem_append_right _ (List.mem_append_right _ (List.mem_append_right _ (List.mem_append_left _ (List.mem_of_getElem? (i := 146) rfl)))))))))))))
theorem tW375 : (.fieldLink R_Draft 18 R_Draft "needCount" "I" : Cond) ∈ TW := (List.mem_append_right _ (List.mem_append_right _ (List.mem_append_right _ (List.mem_append_right _ (List.mem_append_right _ (List.mem_append_right _ (List.mem_append_right _ (List.mem_append_right _ (List.mem_append_right _ (List.mem_append_right _ (List.mem_append_right _ (List.mem_append_left _ (List.mem_of_getElem? (i := 147) rfl)))))))))))))
theorem tW376 : (.methodLink R_ZoneNodes 60 y_Draft_addNeed : Cond) ∈ TW := (List.mem_append_right _ (List.mem_append_right _ (List.mem_append_right _ (List.mem_append_right _ (List.mem_append_right _ (List.mem_append_right _ (List.mem_append_right _ (List.mem_append_right _ (List.mem_append_right _ (List.mem_append_right _ (List.mem_append_right _ (List.mem_append_left _ (List.mem_of_getElem? (i := 148) rfl)))))))))))))
theorem tW378 : (.instanceMethod y_Draft_addNeed : Cond) ∈ TW := (List.mem_append_right _ (List.mem_append_right _ (List.mem_append_right _ (List.mem_append_right _ (List.mem_append_right _ (List.mem_append_right _ (List.mem_append_right _ (List.mem_append_right _ (List.mem_append_right _ (List.mem_append_right _ (List.mem_append_right _ (List.mem_append_left _ (List.mem_of_getElem? (i := 149) rfl)))))))))))))
theorem tW379 : (.selects R_Draft y_Draft_addNeed y_Draft_addNeed : Cond) ∈ TW := (List.mem_append_right _ (List.mem_append_right _ (List.mem_append_right _ (List.mem_append_right _ (List.mem_append_right _ (List.mem_append_right _ (List.mem_append_right _ (List.mem_append_right _ (List.mem_append_right _ (List.mem_append_right _ (List.mem_append_right _ (List.mem_append_right _ (List.mem_append_left _ (List.mem_of_getElem? (i := 0) rfl))))))))))))))
theorem tW380 : (.methodLink R_ZoneNodes 183 y_ZoneNodes_lookUp : Cond) ∈ TW := (List.mem_append_right _ (List.mem_append_right _ (List.mem_append_right _ (List.mem_append_right _ (List.mem_append_right _ (List.mem_append_right _ (List.mem_append_right _ (List.mem_append_right _ (List.mem_append_right _ (List.mem_append_right _ (List.mem_append_right _ (List.mem_append_right _ (List.mem_append_left _ (List.mem_of_getElem? (i := 1) rfl))))))))))))))
theorem tW382 : (.static y_ZoneNodes_lookUp : Cond) ∈ TW := (List.mem_append_right _ (List.mem_append_right _ (List.mem_append_right _ (List.mem_append_right _ (List.mem_append_right _ (List.mem_append_right _ (List.mem_append_right _ (List.mem_append_right _ (List.mem_append_right _ (List.mem_append_right _ (List.mem_append_right _ (List.mem_append_right _ (List.mem_append_left _ (List.mem_of_getElem? (i := 2) rfl))))))))))))))
theorem tW383 : (.methodLink R_ZoneNodes 180 y_Secondary_isExpired : Cond) ∈ TW := (List.mem_append_right _ (List.mem_append_right _ (List.mem_append_right _ (List.mem_append_right _ (List.mem_append_right _ (List.mem_append_right _ (List.mem_append_right _ (List.mem_append_right _ (List.mem_append_right _ (List.mem_append_right _ (List.mem_append_right _ (List.mem_append_right _ (List.mem_append_left _ (List.mem_of_getElem? (i := 3) rfl))))))))))))))
theorem tW385 : (.instanceMethod y_Secondary_isExpired : Cond) ∈ TW := (List.mem_append_right _ (List.mem_append_right _ (List.mem_append_right _ (List.mem_append_right _ (List.mem_append_right _ (List.mem_append_right _ (List.mem_append_right _ (List.mem_append_right _ (List.mem_append_right _ (List.mem_append_right _ (List.mem_append_right _ (List.mem_append_right _ (List.mem_append_left _ (List.mem_of_getElem? (i := 4) rfl))))))))))))))
theorem tW386 : (.selects R_Secondary y_Secondary_isExpired y_Secondary_isExpired : Cond) ∈ TW := (List.mem_append_right _ (List.mem_append_right _ (List.mem_append_right _ (List.mem_append_right _ (List.mem_append_right _ (List.mem_append_right _ (List.mem_append_right _ (List.mem_append_right _ (List.mem_append_right _ (List.mem_append_right _ (List.mem_append_right _ (List.mem_append_right _ (List.mem_append_left _ (List.mem_of_getElem? (i := 5) rfl))))))))))))))
theorem tW387 : (.constant R_Draft 29 16777619 : Cond) ∈ TW := (List.mem_append_right _ (List.mem_append_right _ (List.mem_append_right _ (List.mem_append_right _ (List.mem_append_right _ (List.mem_append_right _ (List.mem_append_right _ (List.mem_append_right _ (List.mem_append_right _ (List.mem_append_right _ (List.mem_append_right _ (List.mem_append_right _ (List.mem_append_left _ (List.mem_of_getElem? (i := 6) rfl))))))))))))))
theorem tW388 : (.methodLink R_Draft 25 y_Draft_mixed : Cond) ∈ TW := (List.mem_append_right _ (List.mem_append_right _ (List.mem_append_right _ (List.mem_append_right _ (List.mem_append_right _ (List.mem_append_right _ (List.mem_append_right _ (List.mem_append_right _ (List.mem_append_right _ (List.mem_append_right _ (List.mem_append_right _ (List.mem_append_right _ (List.mem_append_left _ (List.mem_of_getElem? (i := 7) rfl))))))))))))))
theorem tW390 : (.static y_Draft_mixed : Cond) ∈ TW := (List.mem_append_right _ (List.mem_append_right _ (List.mem_append_right _ (List.mem_append_right _ (List.mem_append_right _ (List.mem_append_right _ (List.mem_append_right _ (List.mem_append_right _ (List.mem_append_right _ (List.mem_append_right _ (List.mem_append_right _ (List.mem_append_right _ (List.mem_append_left _ (List.mem_of_getElem? (i := 8) rfl))))))))))))))
theorem tW391 : (.methodLink R_Draft 48 y_Records_valuesOf : Cond) ∈ TW := (List.mem_append_right _ (List.mem_append_right _ (List.mem_append_right _ (List.mem_append_right _ (List.mem_append_right _ (List.mem_append_right _ (List.mem_append_right _ (List.mem_append_right _ (List.mem_append_right _ (List.mem_append_right _ (List.mem_append_right _ (List.mem_append_right _ (List.mem_append_left _ (List.mem_of_getElem? (i := 9) rfl))))))))))))))
theorem tW392 : (.methodLink R_Draft 53 y_Records_isUsed : Cond) ∈ TW := (List.mem_append_right _ (List.mem_append_right _ (List.mem_append_right _ (List.mem_append_right _ (List.mem_append_right _ (List.mem_append_right _ (List.mem_append_right _ (List.mem_append_right _ (List.mem_append_right _ (List.mem_append_right _ (List.mem_append_right _ (List.mem_append_right _ (List.mem_append_left _ (List.mem_of_getElem? (i := 10) rfl))))))))))))))
theorem tW393 : (.methodLink R_Draft 30 y_Draft_answerTo : Cond) ∈ TW := (List.mem_append_right _ (List.mem_append_right _ (List.mem_append_right _ (List.mem_append_right _ (List.mem_append_right _ (List.mem_append_right _ (List.mem_append_right _ (List.mem_append_right _ (List.mem_append_right _ (List.mem_append_right _ (List.mem_append_right _ (List.mem_append_right _ (List.mem_append_left _ (List.mem_of_getElem? (i := 11) rfl))))))))))))))
theorem tW395 : (.static y_Draft_answerTo : Cond) ∈ TW := (List.mem_append_right _ (List.mem_append_right _ (List.mem_append_right _ (List.mem_append_right _ (List.mem_append_right _ (List.mem_append_right _ (List.mem_append_right _ (List.mem_append_right _ (List.mem_append_right _ (List.mem_append_right _ (List.mem_append_right _ (List.mem_append_right _ (List.mem_append_left _ (List.mem_of_getElem? (i := 12) rfl))))))))))))))
theorem tW396 : (.methodLink R_Draft 38 y_Draft_isExact : Cond) ∈ TW := (List.mem_append_right _ (List.mem_append_right _ (List.mem_append_right _ (List.mem_append_right _ (List.mem_append_right _ (List.mem_append_right _ (List.mem_append_right _ (List.mem_append_right _ (List.mem_append_right _ (List.mem_append_right _ (List.mem_append_right _ (List.mem_append_right _ (List.mem_append_left _ (List.mem_of_getElem? (i := 13) rfl))))))))))))))
theorem tW398 : (.instanceMethod y_Draft_isExact : Cond) ∈ TW := (List.mem_append_right _ (List.mem_append_right _ (List.mem_append_right _ (List.mem_append_right _ (List.mem_append_right _ (List.mem_append_right _ (List.mem_append_right _ (List.mem_append_right _ (List.mem_append_right _ (List.mem_append_right _ (List.mem_append_right _ (List.mem_append_right _ (List.mem_append_left _ (List.mem_of_getElem? (i := 14) rfl))))))))))))))
theorem tW399 : (.selects R_Draft y_Draft_isExact y_Draft_isExact : Cond) ∈ TW := (List.mem_append_right _ (List.mem_append_right _ (List.mem_append_right _ (List.mem_append_right _ (List.mem_append_right _ (List.mem_append_right _ (List.mem_append_right _ (List.mem_append_right _ (List.mem_append_right _ (List.mem_append_right _ (List.mem_append_right _ (List.mem_append_right _ (List.mem_append_left _ (List.mem_of_getElem? (i := 15) rfl))))))))))))))
theorem tW400 : (.methodLink R_ZoneNodes 67 y_ZoneNodes_knowsKey : Cond) ∈ TW := (List.mem_append_right _ (List.mem_append_right _ (List.mem_append_right _ (List.mem_append_right _ (List.mem_append_right _ (List.mem_append_right _ (List.mem_append_right _ (List.mem_append_right _ (List.mem_append_right _ (List.mem_append_right _ (List.mem_append_right _ (List.mem_append_right _ (List.mem_append_left _ (List.mem_of_getElem? (i := 16) rfl))))))))))))))
theorem tW402 : (.instanceMethod y_ZoneNodes_knowsKey : Cond) ∈ TW := (List.mem_append_right _ (List.mem_append_right _ (List.mem_append_right _ (List.mem_append_right _ (List.mem_append_right _ (List.mem_append_right _ (List.mem_append_right _ (List.mem_append_right _ (List.mem_append_right _ (List.mem_append_right _ (List.mem_append_right _ (List.mem_append_right _ (List.mem_append_left _ (List.mem_of_getElem? (i := 17) rfl))))))))))))))
theorem tW403 : (.selects R_ZoneNodes y_ZoneNodes_knowsKey y_ZoneNodes_knowsKey : Cond) ∈ TW := (List.mem_append_right _ (List.mem_append_right _ (List.mem_append_right _ (List.mem_append_right _ (List.mem_append_right _ (List.mem_append_right _ (List.mem_append_right _ (List.mem_append_right _ (List.mem_append_right _ (List.mem_append_right _ (List.mem_append_right _ (List.mem_append_right _ (List.mem_append_left _ (List.mem_of_getElem? (i := 18) rfl))))))))))))))
theorem tW404 : (.methodLink R_ZoneNodes 70 y_Draft_sealWith : Cond) ∈ TW := (List.mem_append_right _ (List.mem_append_right _ (List.mem_append_right _ (List.mem_append_right _ (List.mem_append_right _ (List.mem_append_right _ (List.mem_append_right _ (List.mem_append_right _ (List.mem_append_right _ (List.mem_append_right _ (List.mem_append_right _ (List.mem_append_right _ (List.mem_append_left _ (List.mem_of_getElem? (i := 19) rfl))))))))))))))
theorem tW406 : (.instanceMethod y_Draft_sealWith : Cond) ∈ TW := (List.mem_append_right _ (List.mem_append_right _ (List.mem_append_right _ (List.mem_append_right _ (List.mem_append_right _ (List.mem_append_right _ (List.mem_append_right _ (List.mem_append_right _ (List.mem_append_right _ (List.mem_append_right _ (List.mem_append_right _ (List.mem_append_right _ (List.mem_append_left _ (List.mem_of_getElem? (i := 20) rfl))))))))))))))
theorem tW407 : (.selects R_Draft y_Draft_sealWith y_Draft_sealWith : Cond) ∈ TW := (List.mem_append_right _ (List.mem_append_right _ (List.mem_append_right _ (List.mem_append_right _ (List.mem_append_right _ (List.mem_append_right _ (List.mem_append_right _ (List.mem_append_right _ (List.mem_append_right _ (List.mem_append_right _ (List.mem_append_right _ (List.mem_append_right _ (List.mem_append_left _ (List.mem_of_getElem? (i := 21) rfl))))))))))))))
theorem tW408 : (.constantLong R_ZoneNodes 205 5 : Cond) ∈ TW := (List.mem_append_right _ (List.mem_append_right _ (List.mem_append_right _ (List.mem_append_right _ (List.mem_append_right _ (List.mem_append_right _ (List.mem_append_right _ (List.mem_append_right _ (List.mem_append_right _ (List.mem_append_right _ (List.mem_append_right _ (List.mem_append_right _ (List.mem_append_left _ (List.mem_of_getElem? (i := 22) rfl))))))))))))))
theorem tW409 : (.constantLong R_ZoneNodes 207 (-5) : Cond) ∈ TW := (List.mem_append_right _ (List.mem_append_right _ (List.mem_append_right _ (List.mem_append_right _ (List.mem_append_right _ (List.mem_append_right _ (List.mem_append_right _ (List.mem_append_right _ (List.mem_append_right _ (List.mem_append_right _ (List.mem_append_right _ (List.mem_append_right _ (List.mem_append_left _ (List.mem_of_getElem? (i := 23) rfl))))))))))))))
theorem tW410 : (.methodLink R_ZoneNodes 209 y_Draft_unmetNeed : Cond) ∈ TW := (List.mem_append_right _ (List.mem_append_right _ (List.mem_append_right _ (List.mem_append_right _ (List.mem_append_right _ (List.mem_append_right _ (List.mem_append_right _ (List.mem_append_right _ (List.mem_append_right _ (List.mem_append_right _ (List.mem_append_right _ (List.mem_append_right _ (List.mem_append_left _ (List.mem_of_getElem? (i := 24) rfl))))))))))))))
theorem tW412 : (.instanceMethod y_Draft_unmetNeed : Cond) ∈ TW := (List.mem_append_right _ (List.mem_append_right _ (List.mem_append_right _ (List.mem_append_right _ (List.mem_append_right _ (List.mem_append_right _ (List.mem_append_right _ (List.mem_append_right _ (List.mem_append_right _ (List.mem_append_right _ (List.mem_append_right _ (List.mem_append_right _ (List.mem_append_left _ (List.mem_of_getElem? (i := 25) rfl))))))))))))))
theorem tW413 : (.selects R_Draft y_Draft_unmetNeed y_Draft_unmetNeed : Cond) ∈ TW := (List.mem_append_right _ (List.mem_append_right _ (List.mem_append_right _ (List.mem_append_right _ (List.mem_append_right _ (List.mem_append_right _ (List.mem_append_right _ (List.mem_append_right _ (List.mem_append_right _ (List.mem_append_right _ (List.mem_append_right _ (List.mem_append_right _ (List.mem_append_left _ (List.mem_of_getElem? (i := 26) rfl))))))))))))))
theorem tW414 : (.methodLink R_Primary 86 y_Journal_dropLatest : Cond) ∈ TW := (List.mem_append_right _ (List.mem_append_right _ (List.mem_append_right _ (List.mem_append_right _ (List.mem_append_right _ (List.mem_append_right _ (List.mem_append_right _ (List.mem_append_right _ (List.mem_append_right _ (List.mem_append_right _ (List.mem_append_right _ (List.mem_append_right _ (List.mem_append_left _ (List.mem_of_getElem? (i := 27) rfl))))))))))))))
theorem tW416 : (.instanceMethod y_Journal_dropLatest : Cond) ∈ TW := (List.mem_append_right _ (List.mem_append_right _ (List.mem_append_right _ (List.mem_append_right _ (List.mem_append_right _ (List.mem_append_right _ (List.mem_append_right _ (List.mem_append_right _ (List.mem_append_right _ (List.mem_append_right _ (List.mem_append_right _ (List.mem_append_right _ (List.mem_append_left _ (List.mem_of_getElem? (i := 28) rfl))))))))))))))
theorem tW417 : (.selects R_Journal y_Journal_dropLatest y_Journal_dropLatest : Cond) ∈ TW := (List.mem_append_right _ (List.mem_append_right _ (List.mem_append_right _ (List.mem_append_right _ (List.mem_append_right _ (List.mem_append_right _ (List.mem_append_right _ (List.mem_append_right _ (List.mem_append_right _ (List.mem_append_right _ (List.mem_append_right _ (List.mem_append_right _ (List.mem_append_left _ (List.mem_of_getElem? (i := 29) rfl))))))))))))))
theorem tW418 : (.methodLink R_ZoneNodes 152 y_Secondary_comeUp : Cond) ∈ TW := (List.mem_append_right _ (List.mem_append_right _ (List.mem_append_right _ (List.mem_append_right _ (List.mem_append_right _ (List.mem_append_right _ (List.mem_append_right _ (List.mem_append_right _ (List.mem_append_right _ (List.mem_append_right _ (List.mem_append_right _ (List.mem_append_right _ (List.mem_append_left _ (List.mem_of_getElem? (i := 30) rfl))))))))))))))
theorem tW419 : (.methodLink R_ZoneNodes 146 y_Primary_comeUp : Cond) ∈ TW := (List.mem_append_right _ (List.mem_append_right _ (List.mem_append_right _ (List.mem_append_right _ (List.mem_append_right _ (List.mem_append_right _ (List.mem_append_right _ (List.mem_append_right _ (List.mem_append_right _ (List.mem_append_right _ (List.mem_append_right _ (List.mem_append_right _ (List.mem_append_left _ (List.mem_of_getElem? (i := 31) rfl))))))))))))))
theorem tW421 : (.instanceMethod y_Primary_comeUp : Cond) ∈ TW := (List.mem_append_right _ (List.mem_append_right _ (List.mem_append_right _ (List.mem_append_right _ (List.mem_append_right _ (List.mem_append_right _ (List.mem_append_right _ (List.mem_append_right _ (List.mem_append_right _ (List.mem_append_right _ (List.mem_append_right _ (List.mem_append_right _ (List.mem_append_left _ (List.mem_of_getElem? (i := 32) rfl))))))))))))))
theorem tW422 : (.selects R_Primary y_Primary_comeUp y_Primary_comeUp : Cond) ∈ TW := (List.mem_append_right _ (List.mem_append_right _ (List.mem_append_right _ (List.mem_append_right _ (List.mem_append_right _ (List.mem_append_right _ (List.mem_append_right _ (List.mem_append_right _ (List.mem_append_right _ (List.mem_append_right _ (List.mem_append_right _ (List.mem_append_right _ (List.mem_append_left _ (List.mem_of_getElem? (i := 33) rfl))))))))))))))
theorem tW423 : (.methodLink R_ZoneNodes 96 y_Secondary_askIfTimeHasCome : Cond) ∈ TW := (List.mem_append_right _ (List.mem_append_right _ (List.mem_append_right _ (List.mem_append_right _ (List.mem_append_right _ (List.mem_append_right _ (List.mem_append_right _ (List.mem_append_right _ (List.mem_append_right _ (List.mem_append_right _ (List.mem_append_right _ (List.mem_append_right _ (List.mem_append_left _ (List.mem_of_getElem? (i := 34) rfl))))))))))))))
theorem tW425 : (.instanceMethod y_Secondary_askIfTimeHasCome : Cond) ∈ TW := (List.mem_append_right _ (List.mem_append_right _ (List.mem_append_right _ (List.mem_append_right _ (List.mem_append_right _ (List.mem_append_right _ (List.mem_append_right _ (List.mem_append_right _ (List.mem_append_right _ (List.mem_append_right _ (List.mem_append_right _ (List.mem_append_right _ (List.mem_append_left _ (List.mem_of_getElem? (i := 35) rfl))))))))))))))
theorem tW426 : (.selects R_Secondary y_Secondary_askIfTimeHasCome y_Secondary_askIfTimeHasCome : Cond) ∈ TW := (List.mem_append_right _ (List.mem_append_right _ (List.mem_append_right _ (List.mem_append_right _ (List.mem_append_right _ (List.mem_append_right _ (List.mem_append_right _ (List.mem_append_right _ (List.mem_append_right _ (List.mem_append_right _ (List.mem_append_right _ (List.mem_append_right _ (List.mem_append_left _ (List.mem_of_getElem? (i := 36) rfl))))))))))))))
theorem tW427 : (.methodLink R_ZoneNodes 78 y_ZoneNodes_refusal : Cond) ∈ TW := (List.mem_append_right _ (List.mem_append_right _ (List.mem_append_right _ (List.mem_append_right _ (List.mem_append_right _ (List.mem_append_right _ (List.mem_append_right _ (List.mem_append_right _ (List.mem_append_right _ (List.mem_append_right _ (List.mem_append_right _ (List.mem_append_right _ (List.mem_append_left _ (List.mem_of_getElem? (i := 37) rfl))))))))))))))
theorem tW429 : (.instanceMethod y_ZoneNodes_refusal : Cond) ∈ TW := (List.mem_append_right _ (List.mem_append_right _ (List.mem_append_right _ (List.mem_append_right _ (List.mem_append_right _ (List.mem_append_right _ (List.mem_append_right _ (List.mem_append_right _ (List.mem_append_right _ (List.mem_append_right _ (List.mem_append_right _ (List.mem_append_right _ (List.mem_append_left _ (List.mem_of_getElem? (i := 38) rfl))))))))))))))
theorem tW430 : (.selects R_ZoneNodes y_ZoneNodes_refusal y_ZoneNodes_refusal : Cond) ∈ TW := (List.mem_append_right _ (List.mem_append_right _ (List.mem_append_right _ (List.mem_append_right _ (List.mem_append_right _ (List.mem_append_right _ (List.mem_append_right _ (List.mem_append_right _ (List.mem_append_right _ (List.mem_append_right _ (List.mem_append_right _ (List.mem_append_right _ (List.mem_append_left _ (List.mem_of_getElem? (i := 39) rfl))))))))))))))
theorem tW431 : (.methodLink R_ZoneNodes 86 y_Draft_empty : Cond) ∈ TW := (List.mem_append_right _ (List.mem_append_right _ (List.mem_append_right _ (List.mem_append_right _ (List.mem_append_right _ (List.mem_append_right _ (List.mem_append_right _ (List.mem_append_right _ (List.mem_append_right _ (List.mem_append_right _ (List.mem_append_right _ (List.mem_append_right _ (List.mem_append_left _ (List.mem_of_getElem? (i := 40) rfl))))))))))))))
theorem tW433 : (.instanceMethod y_Draft_empty : Cond) ∈ TW := (List.mem_append_right _ (List.mem_append_right _ (List.mem_append_right _ (List.mem_append_right _ (List.mem_append_right _ (List.mem_append_right _ (List.mem_append_right _ (List.mem_append_right _ (List.mem_append_right _ (List.mem_append_right _ (List.mem_append_right _ (List.mem_append_right _ (List.mem_append_left _ (List.mem_of_getElem? (i := 41) rfl))))))))))))))
theorem tW434 : (.selects R_Draft y_Draft_empty y_Draft_empty : Cond) ∈ TW := (List.mem_append_right _ (List.mem_append_right _ (List.mem_append_right _ (List.mem_append_right _ (List.mem_append_right _ (List.mem_append_right _ (List.mem_append_right _ (List.mem_append_right _ (List.mem_append_right _ (List.mem_append_right _ (List.mem_append_right _ (List.mem_append_right _ (List.mem_append_left _ (List.mem_of_getElem? (i := 42) rfl))))))))))))))
theorem tW435 : (.methodLink R_ZoneNodes 82 y_ZoneNodes_makeChanges : Cond) ∈ TW := (List.mem_append_right _ (List.mem_append_right _ (List.mem_append_right _ (List.mem_append_right _ (List.mem_append_right _ (List.mem_append_right _ (List.mem_append_right _ (List.mem_append_right _ (List.mem_append_right _ (List.mem_append_right _ (List.mem_append_right _ (List.mem_append_right _ (List.mem_append_left _ (List.mem_of_getElem? (i := 43) rfl))))))))))))))
theorem tW437 : (.instanceMethod y_ZoneNodes_makeChanges : Cond) ∈ TW := (List.mem_append_right _ (List.mem_append_right _ (List.mem_append_right _ (List.mem_append_right _ (List.mem_append_right _ (List.mem_append_right _ (List.mem_append_right _ (List.mem_append_right _ (List.mem_append_right _ (List.mem_append_right _ (List.mem_append_right _ (List.mem_append_right _ (List.mem_append_left _ (List.mem_of_getElem? (i := 44) rfl))))))))))))))
theorem tW438 : (.selects R_ZoneNodes y_ZoneNodes_makeChanges y_ZoneNodes_makeChanges : Cond) ∈ TW := (List.mem_append_right _ (List.mem_append_right _ (List.mem_append_right _ (List.mem_append_right _ (List.mem_append_right _ (List.mem_append_right _ (List.mem_append_right _ (List.mem_append_right _ (List.mem_append_right _ (List.mem_append_right _ (List.mem_append_right _ (List.mem_append_right _ (List.mem_append_left _ (List.mem_of_getElem? (i := 45) rfl))))))))))))))
theorem tW439 : (.fieldLink R_ZoneNodesModel 26 R_ZoneNodesModel "states" "[I" : Cond) ∈ TW := (List.mem_append_right _ (List.mem_append_right _ (List.mem_append_right _ (List.mem_append_right _ (List.mem_append_right _ (List.mem_append_right _ (List.mem_append_right _ (List.mem_append_right _ (List.mem_append_right _ (List.mem_append_right _ (List.mem_append_right _ (List.mem_append_right _ (List.mem_append_left _ (List.mem_of_getElem? (i := 46) rfl))))))))))))))
theorem tW440 : (.fieldLink R_ZoneNodesModel 29 R_ZoneNodesModel "moment" "[I" : Cond) ∈ TW := (List.mem_append_right _ (List.mem_append_right _ (List.mem_append_right _ (List.mem_append_right _ (List.mem_append_right _ (List.mem_append_right _ (List.mem_append_right _ (List.mem_append_right _ (List.mem_append_right _ (List.mem_append_right _ (List.mem_append_right _ (List.mem_append_right _ (List.mem_append_left _ (List.mem_of_getElem? (i := 47) rfl))))))))))))))
theorem tW441 : (.fieldLink R_ZoneNodesModel 98 R_ZoneNodesModel "clock" "I" : Cond) ∈ TW := (List.mem_append_right _ (List.mem_append_right _ (List.mem_append_right _ (List.mem_append_right _ (List.mem_append_right _ (List.mem_append_right _ (List.mem_append_right _ (List.mem_append_right _ (List.mem_append_right _ (List.mem_append_right _ (List.mem_append_right _ (List.mem_append_right _ (List.mem_append_left _ (List.mem_of_getElem? (i := 48) rfl))))))))))))))
theorem tW442 : (.methodLink R_ZoneNodesModel 1 objectInit : Cond) ∈ TW := (List.mem_append_right _ (List.mem_append_right _ (List.mem_append_right _ (List.mem_append_right _ (List.mem_append_right _ (List.mem_append_right _ (List.mem_append_right _ (List.mem_append_right _ (List.mem_append_right _ (List.mem_append_right _ (List.mem_append_right _ (List.mem_append_right _ (List.mem_append_left _ (List.mem_of_getElem? (i := 49) rfl))))))))))))))
theorem tW443 : (.fieldLink R_ZoneNodesModel 7 R_ZoneNodesModel "up" "[Z" : Cond) ∈ TW := (List.mem_append_right _ (List.mem_append_right _ (List.mem_append_right _ (List.mem_append_right _ (List.mem_append_right _ (List.mem_append_right _ (List.mem_append_right _ (List.mem_append_right _ (List.mem_append_right _ (List.mem_append_right _ (List.mem_append_right _ (List.mem_append_right _ (List.mem_append_left _ (List.mem_of_getElem? (i := 50) rfl))))))))))))))
theorem tW444 : (.fieldLink R_ZoneNodesModel 13 R_ZoneNodesModel "known" "[Z" : Cond) ∈ TW := (List.mem_append_right _ (List.mem_append_right _ (List.mem_append_right _ (List.mem_append_right _ (List.mem_append_right _ (List.mem_append_right _ (List.mem_append_right _ (List.mem_append_right _ (List.mem_append_right _ (List.mem_append_right _ (List.mem_append_right _ (List.mem_append_right _ (List.mem_append_left _ (List.mem_of_getElem? (i := 51) rfl))))))))))))))
theorem tW445 : (.fieldLink R_ZoneNodesModel 16 R_ZoneNodesModel "serials" "[I" : Cond) ∈ TW := (List.mem_append_right _ (List.mem_append_right _ (List.mem_append_right _ (List.mem_append_right _ (List.mem_append_right _ (List.mem_append_right _ (List.mem_append_right _ (List.mem_append_right _ (List.mem_append_right _ (List.mem_append_right _ (List.mem_append_right _ (List.mem_append_right _ (List.mem_append_left _ (List.mem_of_getElem? (i := 52) rfl))))))))))))))
theorem tW446 : (.fieldLink R_ZoneNodesModel 20 R_ZoneNodesModel "held" "[Z" : Cond) ∈ TW := (List.mem_append_right _ (List.mem_append_right _ (List.mem_append_right _ (List.mem_append_right _ (List.mem_append_right _ (List.mem_append_right _ (List.mem_append_right _ (List.mem_append_right _ (List.mem_append_right _ (List.mem_append_right _ (List.mem_append_right _ (List.mem_append_right _ (List.mem_append_left _ (List.mem_of_getElem? (i := 53) rfl))))))))))))))
theorem tW447 : (.fieldLink R_ZoneNodesModel 23 R_ZoneNodesModel "coming" "[Z" : Cond) ∈ TW := (List.mem_append_right _ (List.mem_append_right _ (List.mem_append_right _ (List.mem_append_right _ (List.mem_append_right _ (List.mem_append_right _ (List.mem_append_right _ (List.mem_append_right _ (List.mem_append_right _ (List.mem_append_right _ (List.mem_append_right _ (List.mem_append_right _ (List.mem_append_left _ (List.mem_of_getElem? (i := 54) rfl))))))))))))))
theorem tW448 : (.fieldLink R_ZoneNodesModel 32 R_ZoneNodesModel "expiry" "[I" : Cond) ∈ TW := (List.mem_append_right _ (List.mem_append_right _ (List.mem_append_right _ (List.mem_append_right _ (List.mem_append_right _ (List.mem_append_right _ (List.mem_append_right _ (List.mem_append_right _ (List.mem_append_right _ (List.mem_append_right _ (List.mem_append_right _ (List.mem_append_right _ (List.mem_append_left _ (List.mem_of_getElem? (i := 55) rfl))))))))))))))
theorem tW449 : (.fieldLink R_ZoneNodesModel 35 R_ZoneNodesModel "keyed" "[Z" : Cond) ∈ TW := (List.mem_append_right _ (List.mem_append_right _ (List.mem_append_right _ (List.mem_append_right _ (List.mem_append_right _ (List.mem_append_right _ (List.mem_append_right _ (List.mem_append_right _ (List.mem_append_right _ (List.mem_append_right _ (List.mem_append_right _ (List.mem_append_right _ (List.mem_append_left _ (List.mem_of_getElem? (i := 56) rfl))))))))))))))
theorem tW450 : (.fieldLink R_ZoneNodesModel 38 R_ZoneNodesModel "secrets" "[I" : Cond) ∈ TW := (List.mem_append_right _ (List.mem_append_right _ (List.mem_append_right _ (List.mem_append_right _ (List.mem_append_right _ (List.mem_append_right _ (List.mem_append_right _ (List.mem_append_right _ (List.mem_append_right _ (List.mem_append_right _ (List.mem_append_right _ (List.mem_append_right _ (List.mem_append_left _ (List.mem_of_getElem? (i := 57) rfl))))))))))))))
theorem tW451 : (.fieldLink R_ZoneNodesModel 41 R_ZoneNodesModel "draft" "[I" : Cond) ∈ TW := (List.mem_append_right _ (List.mem_append_right _ (List.mem_append_right _ (List.mem_append_right _ (List.mem_append_right _ (List.mem_append_right _ (List.mem_append_right _ (List.mem_append_right _ (List.mem_append_right _ (List.mem_append_right _ (List.mem_append_right _ (List.mem_append_right _ (List.mem_append_left _ (List.mem_of_getElem? (i := 58) rfl))))))))))))))
theorem tW452 : (.fieldLink R_ZoneNodesModel 44 R_ZoneNodesModel "oldSerial" "[I" : Cond) ∈ TW := (List.mem_append_right _ (List.mem_append_right _ (List.mem_append_right _ (List.mem_append_right _ (List.mem_append_right _ (List.mem_append_right _ (List.mem_append_right _ (List.mem_append_right _ (List.mem_append_right _ (List.mem_append_right _ (List.mem_append_right _ (List.mem_append_right _ (List.mem_append_left _ (List.mem_of_getElem? (i := 59) rfl))))))))))))))
theorem tW453 : (.fieldLink R_ZoneNodesModel 47 R_ZoneNodesModel "marked" "[Z" : Cond) ∈ TW := (List.mem_append_right _ (List.mem_append_right _ (List.mem_append_right _ (List.mem_append_right _ (List.mem_append_right _ (List.mem_append_right _ (List.mem_append_right _ (List.mem_append_right _ (List.mem_append_right _ (List.mem_append_right _ (List.mem_append_right _ (List.mem_append_right _ (List.mem_append_left _ (List.mem_of_getElem? (i := 60) rfl))))))))))))))
theorem tW454 : (.fieldLink R_ZoneNodesModel 50 R_ZoneNodesModel "after" "[Z" : Cond) ∈ TW := (List.mem_append_right _ (List.mem_append_right _ (List.mem_append_right _ (List.mem_append_right _ (List.mem_append_right _ (List.mem_append_right _ (List.mem_append_right _ (List.mem_append_right _ (List.mem_append_right _ (List.mem_append_right _ (List.mem_append_right _ (List.mem_append_right _ (List.mem_append_left _ (List.mem_of_getElem? (i := 61) rfl))))))))))))))
theorem tW455 : (.fieldLink R_ZoneNodesModel 53 R_ZoneNodesModel "differing" "[I" : Cond) ∈ TW := (List.mem_append_right _ (List.mem_append_right _ (List.mem_append_right _ (List.mem_append_right _ (List.mem_append_right _ (List.mem_append_right _ (List.mem_append_right _ (List.mem_append_right _ (List.mem_append_right _ (List.mem_append_right _ (List.mem_append_right _ (List.mem_append_right _ (List.mem_append_left _ (List.mem_of_getElem? (i := 62) rfl))))))))))))))
theorem tW456 : (.fieldLink R_ZoneNodesModel 56 R_ZoneNodesModel "work" "[Z" : Cond) ∈ TW := (List.mem_append_right _ (List.mem_append_right _ (List.mem_append_right _ (List.mem_append_right _ (List.mem_append_right _ (List.mem_append_right _ (List.mem_append_right _ (List.mem_append_right _ (List.mem_append_right _ (List.mem_append_right _ (List.mem_append_right _ (List.mem_append_right _ (List.mem_append_left _ (List.mem_of_getElem? (i := 63) rfl))))))))))))))
theorem tW457 : (.fieldLink R_ZoneNodesModel 59 R_ZoneNodesModel "kind" "[I" : Cond) ∈ TW := (List.mem_append_right _ (List.mem_append_right _ (List.mem_append_right _ (List.mem_append_right _ (List.mem_append_right _ (List.mem_append_right _ (List.mem_append_right _ (List.mem_append_right _ (List.mem_append_right _ (List.mem_append_right _ (List.mem_append_right _ (List.mem_append_right _ (List.mem_append_left _ (List.mem_of_getElem? (i := 64) rfl))))))))))))))
theorem tW458 : (.fieldLink R_ZoneNodesModel 62 R_ZoneNodesModel "whose" "[I" : Cond) ∈ TW := (List.mem_append_right _ (List.mem_append_right _ (List.mem_append_right _ (List.mem_append_right _ (List.mem_append_right _ (List.mem_append_right _ (List.mem_append_right _ (List.mem_append_right _ (List.mem_append_right _ (List.mem_append_right _ (List.mem_append_right _ (List.mem_append_right _ (List.mem_append_left _ (List.mem_of_getElem? (i := 65) rfl))))))))))))))
theorem tW459 : (.fieldLink R_ZoneNodesModel 65 R_ZoneNodesModel "told" "[I" : Cond) ∈ TW := (List.mem_append_right _ (List.mem_append_right _ (List.mem_append_right _ (List.mem_append_right _ (List.mem_append_right _ (List.mem_append_right _ (List.mem_append_right _ (List.mem_append_right _ (List.mem_append_right _ (List.mem_append_right _ (List.mem_append_right _ (List.mem_append_right _ (List.mem_append_left _ (List.mem_of_getElem? (i := 66) rfl))))))))))))))
theorem tW460 : (.fieldLink R_ZoneNodesModel 68 R_ZoneNodesModel "number" "[I" : Cond) ∈ TW := (List.mem_append_right _ (List.mem_append_right _ (List.mem_append_right _ (List.mem_append_right _ (List.mem_append_right _ (List.mem_append_right _ (List.mem_append_right _ (List.mem_append_right _ (List.mem_append_right _ (List.mem_append_right _ (List.mem_append_right _ (List.mem_append_right _ (List.mem_append_left _ (List.mem_of_getElem? (i := 67) rfl))))))))))))))
theorem tW461 : (.fieldLink R_ZoneNodesModel 71 R_ZoneNodesModel "items" "[I" : Cond) ∈ TW := (List.mem_append_right _ (List.mem_append_right _ (List.mem_append_right _ (List.mem_append_right _ (List.mem_append_right _ (List.mem_append_right _ (List.mem_append_right _ (List.mem_append_right _ (List.mem_append_right _ (List.mem_append_right _ (List.mem_append_right _ (List.mem_append_right _ (List.mem_append_left _ (List.mem_of_getElem? (i := 68) rfl))))))))))))))
theorem tW462 : (.fieldLink R_ZoneNodesModel 74 R_ZoneNodesModel "flag" "[Z" : Cond) ∈ TW := (List.mem_append_right _ (List.mem_append_right _ (List.mem_append_right _ (List.mem_append_right _ (List.mem_append_right _ (List.mem_append_right _ (List.mem_append_right _ (List.mem_append_right _ (List.mem_append_right _ (List.mem_append_right _ (List.mem_append_right _ (List.mem_append_right _ (List.mem_append_left _ (List.mem_of_getElem? (i := 69) rfl))))))))))))))
theorem tW463 : (.fieldLink R_ZoneNodesModel 77 R_ZoneNodesModel "last" "[Z" : Cond) ∈ TW := (List.mem_append_right _ (List.mem_append_right _ (List.mem_append_right _ (List.mem_append_right _ (List.mem_append_right _ (List.mem_append_right _ (List.mem_append_right _ (List.mem_append_right _ (List.mem_append_right _ (List.mem_append_right _ (List.mem_append_right _ (List.mem_append_right _ (List.mem_append_left _ (List.mem_of_getElem? (i := 70) rfl))))))))))))))
theorem tW464 : (.fieldLink R_ZoneNodesModel 80 R_ZoneNodesModel "refresh" "I" : Cond) ∈ TW := (List.mem_append_right _ (List.mem_append_right _ (List.mem_append_right _ (List.mem_append_right _ (List.mem_append_right _ (List.mem_append_right _ (List.mem_append_right _ (List.mem_append_right _ (List.mem_append_right _ (List.mem_append_right _ (List.mem_append_right _ (List.mem_append_right _ (List.mem_append_left _ (List.mem_of_getElem? (i := 71) rfl))))))))))))))
theorem tW465 : (.fieldLink R_ZoneNodesModel 84 R_ZoneNodesModel "retry" "I" : Cond) ∈ TW := (List.mem_append_right _ (List.mem_append_right _ (List.mem_append_right _ (List.mem_append_right _ (List.mem_append_right _ (List.mem_append_right _ (List.mem_append_right _ (List.mem_append_right _ (List.mem_append_right _ (List.mem_append_right _ (List.mem_append_right _ (List.mem_append_right _ (List.mem_append_left _ (List.mem_of_getElem? (i := 72) rfl))))))))))))))
theorem tW466 : (.fieldLink R_ZoneNodesModel 87 R_ZoneNodesModel "expire" "I" : Cond) ∈ TW := (List.mem_append_right _ (List.mem_append_right _ (List.mem_append_right _ (List.mem_append_right _ (List.mem_append_right _ (List.mem_append_right _ (List.mem_append_right _ (List.mem_append_right _ (List.mem_append_right _ (List.mem_append_right _ (List.mem_append_right _ (List.mem_append_right _ (List.mem_append_left _ (List.mem_of_getElem? (i := 73) rfl))))))))))))))
theorem tW467 : (.methodLink R_ZoneNodesModel 90 y_ZoneNodesModel_place : Cond) ∈ TW := (List.mem_append_right _ (List.mem_append_right _ (List.mem_append_right _ (List.mem_append_right _ (List.mem_append_right _ (List.mem_append_right _ (List.mem_append_right _ (List.mem_append_right _ (List.mem_append_right _ (List.mem_append_right _ (List.mem_append_right _ (List.mem_append_right _ (List.mem_append_left _ (List.mem_of_getElem? (i := 74) rfl))))))))))))))
theorem tW469 : (.initialized R_ZoneNodesModel : Cond) ∈ TW := (List.mem_append_right _ (List.mem_append_right _ (List.mem_append_right _ (List.mem_append_right _ (List.mem_append_right _ (List.mem_append_right _ (List.mem_append_right _ (List.mem_append_right _ (List.mem_append_right _ (List.mem_append_right _ (List.mem_append_right _ (List.mem_append_right _ (List.mem_append_left _ (List.mem_of_getElem? (i := 75) rfl))))))))))))))
theorem tW470 : (.static y_ZoneNodesModel_place : Cond) ∈ TW := (List.mem_append_right _ (List.mem_append_right _ (List.mem_append_right _ (List.mem_append_right _ (List.mem_append_right _ (List.mem_append_right _ (List.mem_append_right _ (List.mem_append_right _ (List.mem_append_right _ (List.mem_append_right _ (List.mem_append_right _ (List.mem_append_right _ (List.mem_append_left _ (List.mem_of_getElem? (i := 76) rfl))))))))))))))
theorem tW471 : (.methodLink R_ZoneNodesModel 94 y_ZoneNodesModel_rest : Cond) ∈ TW := (List.mem_append_right _ (List.mem_append_right _ (List.mem_append_right _ (List.mem_append_right _ (List.mem_append_right _ (List.mem_append_right _ (List.mem_append_right _ (List.mem_append_right _ (List.mem_append_right _ (List.mem_append_right _ (List.mem_append_right _ (List.mem_append_right _ (List.mem_append_left _ (List.mem_of_getElem? (i := 77) rfl))))))))))))))
theorem tW473 : (.instanceMethod y_ZoneNodesModel_rest : Cond) ∈ TW := (List.mem_append_right _ (List.mem_append_right _ (List.mem_append_right _ (List.mem_append_right _ (List.mem_append_right _ (List.mem_append_right _ (List.mem_append_right _ (List.mem_append_right _ (List.mem_append_right _ (List.mem_append_right _ (List.mem_append_right _ (List.mem_append_right _ (List.mem_append_left _ (List.mem_of_getElem? (i := 78) rfl))))))))))))))
theorem tW474 : (.selects R_ZoneNodesModel y_ZoneNodesModel_rest y_ZoneNodesModel_rest : Cond) ∈ TW := (List.mem_append_right _ (List.mem_append_right _ (List.mem_append_right _ (List.mem_append_right _ (List.mem_append_right _ (List.mem_append_right _ (List.mem_append_right _ (List.mem_append_right _ (List.mem_append_right _ (List.mem_append_right _ (List.mem_append_right _ (List.mem_append_right _ (List.mem_append_left _ (List.mem_of_getElem? (i := 79) rfl))))))))))))))
theorem tW475 : (.fieldLink R_ZoneNodesModel 177 R_ZoneNodesModel "many" "I" : Cond) ∈ TW := (List.mem_append_right _ (List.mem_append_right _ (List.mem_append_right _ (List.mem_append_right _ (List.mem_append_right _ (List.mem_append_right _ (List.mem_append_right _ (List.mem_append_right _ (List.mem_append_right _ (List.mem_append_right _ (List.mem_append_right _ (List.mem_append_right _ (List.mem_append_left _ (List.mem_of_getElem? (i := 80) rfl))))))))))))))
theorem tW476 : (.methodLink R_ZoneNodesModel 187 y_ZoneNodesModel_isMessage : Cond) ∈ TW := (List.mem_append_right _ (List.mem_append_right _ (List.mem_append_right _ (List.mem_append_right _ (List.mem_append_right _ (List.mem_append_right _ (List.mem_append_right _ (List.mem_append_right _ (List.mem_append_right _ (List.mem_append_right _ (List.mem_append_right _ (List.mem_append_right _ (List.mem_append_left _ (List.mem_of_getElem? (i := 81) rfl))))))))))))))
theorem tW478 : (.instanceMethod y_ZoneNodesModel_isMessage : Cond) ∈ TW := (List.mem_append_right _ (List.mem_append_right _ (List.mem_append_right _ (List.mem_append_right _ (List.mem_append_right _ (List.mem_append_right _ (List.mem_append_right _ (List.mem_append_right _ (List.mem_append_right _ (List.mem_append_right _ (List.mem_append_right _ (List.mem_append_right _ (List.mem_append_left _ (List.mem_of_getElem? (i := 82) rfl))))))))))))))
theorem tW479 : (.selects R_ZoneNodesModel y_ZoneNodesModel_isMessage y_ZoneNodesModel_isMessage : Cond) ∈ TW := (List.mem_append_right _ (List.mem_append_right _ (List.mem_append_right _ (List.mem_append_right _ (List.mem_append_right _ (List.mem_append_right _ (List.mem_append_right _ (List.mem_append_right _ (List.mem_append_right _ (List.mem_append_right _ (List.mem_append_right _ (List.mem_append_right _ (List.mem_append_left _ (List.mem_of_getElem? (i := 83) rfl))))))))))))))
theorem tW480 : (.fieldLink R_ZoneNodesModel 159 R_ZoneNodesModel "armed" "I" : Cond) ∈ TW := (List.mem_append_right _ (List.mem_append_right _ (List.mem_append_right _ (List.mem_append_right _ (List.mem_append_right _ (List.mem_append_right _ (List.mem_append_right _ (List.mem_append_right _ (List.mem_append_right _ (List.mem_append_right _ (List.mem_append_right _ (List.mem_append_right _ (List.mem_append_left _ (List.mem_of_getElem? (i := 84) rfl))))))))))))))
theorem tW481 : (.methodLink R_ZoneNodesModel 101 y_ZoneNodesModel_isRecord : Cond) ∈ TW := (List.mem_append_right _ (List.mem_append_right _ (List.mem_append_right _ (List.mem_append_right _ (List.mem_append_right _ (List.mem_append_right _ (List.mem_append_right _ (List.mem_append_right _ (List.mem_append_right _ (List.mem_append_right _ (List.mem_append_right _ (List.mem_append_right _ (List.mem_append_left _ (List.mem_of_getElem? (i := 85) rfl))))))))))))))
theorem tW483 : (.static y_ZoneNodesModel_isRecord : Cond) ∈ TW := (List.mem_append_right _ (List.mem_append_right _ (List.mem_append_right _ (List.mem_append_right _ (List.mem_append_right _ (List.mem_append_right _ (List.mem_append_right _ (List.mem_append_right _ (List.mem_append_right _ (List.mem_append_right _ (List.mem_append_right _ (List.mem_append_right _ (List.mem_append_left _ (List.mem_of_getElem? (i := 86) rfl))))))))))))))
theorem tW484 : (.fieldLink R_ZoneNodesModel 112 R_ZoneNodesModel "changes" "I" : Cond) ∈ TW := (List.mem_append_right _ (List.mem_append_right _ (List.mem_append_right _ (List.mem_append_right _ (List.mem_append_right _ (List.mem_append_right _ (List.mem_append_right _ (List.mem_append_right _ (List.mem_append_right _ (List.mem_append_right _ (List.mem_append_right _ (List.mem_append_right _ (List.mem_append_left _ (List.mem_of_getElem? (i := 87) rfl))))))))))))))
theorem tW485 : (.methodLink R_ZoneNodesModel 108 y_ZoneNodesModel_say : Cond) ∈ TW := (List.mem_append_right _ (List.mem_append_right _ (List.mem_append_right _ (List.mem_append_right _ (List.mem_append_right _ (List.mem_append_right _ (List.mem_append_right _ (List.mem_append_right _ (List.mem_append_right _ (List.mem_append_right _ (List.mem_append_right _ (List.mem_append_right _ (List.mem_append_left _ (List.mem_of_getElem? (i := 88) rfl))))))))))))))
theorem tW487 : (.instanceMethod y_ZoneNodesModel_say : Cond) ∈ TW := (List.mem_append_right _ (List.mem_append_right _ (List.mem_append_right _ (List.mem_append_right _ (List.mem_append_right _ (List.mem_append_right _ (List.mem_append_right _ (List.mem_append_right _ (List.mem_append_right _ (List.mem_append_right _ (List.mem_append_right _ (List.mem_append_right _ (List.mem_append_left _ (List.mem_of_getElem? (i := 89) rfl))))))))))))))
theorem tW488 : (.selects R_ZoneNodesModel y_ZoneNodesModel_say y_ZoneNodesModel_say : Cond) ∈ TW := (List.mem_append_right _ (List.mem_append_right _ (List.mem_append_right _ (List.mem_append_right _ (List.mem_append_right _ (List.mem_append_right _ (List.mem_append_right _ (List.mem_append_right _ (List.mem_append_right _ (List.mem_append_right _ (List.mem_append_right _ (List.mem_append_right _ (List.mem_append_left _ (List.mem_of_getElem? (i := 90) rfl))))))))))))))
theorem tW489 : (.methodLink R_ZoneNodesModel 184 y_ZoneNodesModel_remove : Cond) ∈ TW := (List.mem_append_right _ (List.mem_append_right _ (List.mem_append_right _ (List.mem_append_right _ (List.mem_append_right _ (List.mem_append_right _ (List.mem_append_right _ (List.mem_append_right _ (List.mem_append_right _ (List.mem_append_right _ (List.mem_append_right _ (List.mem_append_right _ (List.mem_append_left _ (List.mem_of_getElem? (i := 91) rfl))))))))))))))
theorem tW491 : (.instanceMethod y_ZoneNodesModel_remove : Cond) ∈ TW := (List.mem_append_right _ (List.mem_append_right _ (List.mem_append_right _ (List.mem_append_right _ (List.mem_append_right _ (List.mem_append_right _ (List.mem_append_right _ (List.mem_append_right _ (List.mem_append_right _ (List.mem_append_right _ (List.mem_append_right _ (List.mem_append_right _ (List.mem_append_left _ (List.mem_of_getElem? (i := 92) rfl))))))))))))))
theorem tW492 : (.selects R_ZoneNodesModel y_ZoneNodesModel_remove y_ZoneNodesModel_remove : Cond) ∈ TW := (List.mem_append_right _ (List.mem_append_right _ (List.mem_append_right _ (List.mem_append_right _ (List.mem_append_right _ (List.mem_append_right _ (List.mem_append_right _ (List.mem_append_right _ (List.mem_append_right _ (List.mem_append_right _ (List.mem_append_right _ (List.mem_append_right _ (List.mem_append_left _ (List.mem_of_getElem? (i := 93) rfl))))))))))))))
theorem tW493 : (.methodLink R_ZoneNodesModel 218 y_ZoneNodesModel_isNode : Cond) ∈ TW := (List.mem_append_right _ (List.mem_append_right _ (List.mem_append_right _ (List.mem_append_right _ (List.mem_append_right _ (List.mem_append_right _ (List.mem_append_right _ (List.mem_append_right _ (List.mem_append_right _ (List.mem_append_right _ (List.mem_append_right _ (List.mem_append_right _ (List.mem_append_left _ (List.mem_of_getElem? (i := 94) rfl))))))))))))))
theorem tW495 : (.static y_ZoneNodesModel_isNode : Cond) ∈ TW := (List.mem_append_right _ (List.mem_append_right _ (List.mem_append_right _ (List.mem_append_right _ (List.mem_append_right _ (List.mem_append_right _ (List.mem_append_right _ (List.mem_append_right _ (List.mem_append_right _ (List.mem_append_right _ (List.mem_append_right _ (List.mem_append_right _ (List.mem_append_left _ (List.mem_of_getElem? (i := 95) rfl))))))))))))))
theorem tW496 : (.methodLink R_ZoneNodesModel 201 y_ZoneNodesModel_cutOff : Cond) ∈ TW := (List.mem_append_right _ (List.mem_append_right _ (List.mem_append_right _ (List.mem_append_right _ (List.mem_append_right _ (List.mem_append_right _ (List.mem_append_right _ (List.mem_append_right _ (List.mem_append_right _ (List.mem_append_right _ (List.mem_append_right _ (List.mem_append_right _ (List.mem_append_left _ (List.mem_of_getElem? (i := 96) rfl))))))))))))))
theorem tW498 : (.instanceMethod y_ZoneNodesModel_cutOff : Cond) ∈ TW := (List.mem_append_right _ (List.mem_append_right _ (List.mem_append_right _ (List.mem_append_right _ (List.mem_append_right _ (List.mem_append_right _ (List.mem_append_right _ (List.mem_append_right _ (List.mem_append_right _ (List.mem_append_right _ (List.mem_append_right _ (List.mem_append_right _ (List.mem_append_left _ (List.mem_of_getElem? (i := 97) rfl))))))))))))))
theorem tW499 : (.selects R_ZoneNodesModel y_ZoneNodesModel_cutOff y_ZoneNodesModel_cutOff : Cond) ∈ TW := (List.mem_append_right _ (List.mem_append_right _ (List.mem_append_right _ (List.mem_append_right _ (List.mem_append_right _ (List.mem_append_right _ (List.mem_append_right _ (List.mem_append_right _ (List.mem_append_right _ (List.mem_append_right _ (List.mem_append_right _ (List.mem_append_right _ (List.mem_append_left _ (List.mem_of_getElem? (i := 98) rfl))))))))))))))
theorem tW500 : (.methodLink R_ZoneNodesModel 180 y_ZoneNodesModel_append : Cond) ∈ TW := (List.mem_append_right _ (List.mem_append_right _ (List.mem_append_right _ (List.mem_append_right _ (List.mem_append_right _ (List.mem_append_right _ (List.mem_append_right _ (List.mem_append_right _ (List.mem_append_right _ (List.mem_append_right _ (List.mem_append_right _ (List.mem_append_right _ (List.mem_append_left _ (List.mem_of_getElem? (i := 99) rfl))))))))))))))
theorem tW502 : (.instanceMethod y_ZoneNodesModel_append : Cond) ∈ TW := (List.mem_append_right _ (List.mem_append_right _ (List.mem_append_right _ (List.mem_append_right _ (List.mem_append_right _ (List.mem_append_right _ (List.mem_append_right _ (List.mem_append_right _ (List.mem_append_right _ (List.mem_append_right _ (List.mem_append_right _ (List.mem_append_right _ (List.mem_append_left _ (List.mem_of_getElem? (i := 100) rfl))))))))))))))
theorem tW503 : (.selects R_ZoneNodesModel y_ZoneNodesModel_append y_ZoneNodesModel_append : Cond) ∈ TW := (List.mem_append_right _ (List.mem_append_right _ (List.mem_append_right _ (List.mem_append_right _ (List.mem_append_right _ (List.mem_append_right _ (List.mem_append_right _ (List.mem_append_right _ (List.mem_append_right _ (List.mem_append_right _ (List.mem_append_right _ (List.mem_append_right _ (List.mem_append_left _ (List.mem_of_getElem? (i := 101) rfl))))))))))))))
theorem tW504 : (.methodLink R_ZoneNodesModel 174 y_ZoneNodesModel_send : Cond) ∈ TW := (List.mem_append_right _ (List.mem_append_right _ (List.mem_append_right _ (List.mem_append_right _ (List.mem_append_right _ (List.mem_append_right _ (List.mem_append_right _ (List.mem_append_right _ (List.mem_append_right _ (List.mem_append_right _ (List.mem_append_right _ (List.mem_append_right _ (List.mem_append_left _ (List.mem_of_getElem? (i := 102) rfl))))))))))))))
theorem tW506 : (.instanceMethod y_ZoneNodesModel_send : Cond) ∈ TW := (List.mem_append_right _ (List.mem_append_right _ (List.mem_append_right _ (List.mem_append_right _ (List.mem_append_right _ (List.mem_append_right _ (List.mem_append_right _ (List.mem_append_right _ (List.mem_append_right _ (List.mem_append_right _ (List.mem_append_right _ (List.mem_append_right _ (List.mem_append_left _ (List.mem_of_getElem? (i := 103) rfl))))))))))))))
theorem tW507 : (.selects R_ZoneNodesModel y_ZoneNodesModel_send y_ZoneNodesModel_send : Cond) ∈ TW := (List.mem_append_right _ (List.mem_append_right _ (List.mem_append_right _ (List.mem_append_right _ (List.mem_append_right _ (List.mem_append_right _ (List.mem_append_right _ (List.mem_append_right _ (List.mem_append_right _ (List.mem_append_right _ (List.mem_append_right _ (List.mem_append_right _ (List.mem_append_left _ (List.mem_of_getElem? (i := 104) rfl))))))))))))))
theorem tW508 : (.fieldLink R_ZoneNodesModel 162 R_ZoneNodesModel "entries" "I" : Cond) ∈ TW := (List.mem_append_right _ (List.mem_append_right _ (List.mem_append_right _ (List.mem_append_right _ (List.mem_append_right _ (List.mem_append_right _ (List.mem_append_right _ (List.mem_append_right _ (List.mem_append_right _ (List.mem_append_right _ (List.mem_append_right _ (List.mem_append_right _ (List.mem_append_left _ (List.mem_of_getElem? (i := 105) rfl))))))))))))))
theorem tW509 : (.methodLink R_ZoneNodesModel 197 y_ZoneNodesModel_itemsFor : Cond) ∈ TW := (List.mem_append_right _ (List.mem_append_right _ (List.mem_append_right _ (List.mem_append_right _ (List.mem_append_right _ (List.mem_append_right _ (List.mem_append_right _ (List.mem_append_right _ (List.mem_append_right _ (List.mem_append_right _ (List.mem_append_right _ (List.mem_append_right _ (List.mem_append_left _ (List.mem_of_getElem? (i := 106) rfl))))))))))))))
theorem tW511 : (.instanceMethod y_ZoneNodesModel_itemsFor : Cond) ∈ TW := (List.mem_append_right _ (List.mem_append_right _ (List.mem_append_right _ (List.mem_append_right _ (List.mem_append_right _ (List.mem_append_right _ (List.mem_append_right _ (List.mem_append_right _ (List.mem_append_right _ (List.mem_append_right _ (List.mem_append_right _ (List.mem_append_right _ (List.mem_append_left _ (List.mem_of_getElem? (i := 107) rfl))))))))))))))
theorem tW512 : (.selects R_ZoneNodesModel y_ZoneNodesModel_itemsFor y_ZoneNodesModel_itemsFor : Cond) ∈ TW := (List.mem_append_right _ (List.mem_append_right _ (List.mem_append_right _ (List.mem_append_right _ (List.mem_append_right _ (List.mem_append_right _ (List.mem_append_right _ (List.mem_append_right _ (List.mem_append_right _ (List.mem_append_right _ (List.mem_append_right _ (List.mem_append_right _ (List.mem_append_left _ (List.mem_of_getElem? (i := 108) rfl))))))))))))))
theorem tW513 : (.methodLink R_ZoneNodesModel 194 y_ZoneNodesModel_refreshed : Cond) ∈ TW := (List.mem_append_right _ (List.mem_append_right _ (List.mem_append_right _ (List.mem_append_right _ (List.mem_append_right _ (List.mem_append_right _ (List.mem_append_right _ (List.mem_append_right _ (List.mem_append_right _ (List.mem_append_right _ (List.mem_append_right _ (List.mem_append_right _ (List.mem_append_left _ (List.mem_of_getElem? (i := 109) rfl))))))))))))))
theorem tW515 : (.instanceMethod y_ZoneNodesModel_refreshed : Cond) ∈ TW := (List.mem_append_right _ (List.mem_append_right _ (List.mem_append_right _ (List.mem_append_right _ (List.mem_append_right _ (List.mem_append_right _ (List.mem_append_right _ (List.mem_append_right _ (List.mem_append_right _ (List.mem_append_right _ (List.mem_append_right _ (List.mem_append_right _ (List.mem_append_left _ (List.mem_of_getElem? (i := 110) rfl))))))))))))))
theorem tW516 : (.selects R_ZoneNodesModel y_ZoneNodesModel_refreshed y_ZoneNodesModel_refreshed : Cond) ∈ TW := (List.mem_append_right _ (List.mem_append_right _ (List.mem_append_right _ (List.mem_append_right _ (List.mem_append_right _ (List.mem_append_right _ (List.mem_append_right _ (List.mem_append_right _ (List.mem_append_right _ (List.mem_append_right _ (List.mem_append_right _ (List.mem_append_right _ (List.mem_append_left _ (List.mem_of_getElem? (i := 111) rfl))))))))))))))
theorem tW517 : (.methodLink R_ZoneNodesModel 190 y_ZoneNodesModel_isNews : Cond) ∈ TW := (List.mem_append_right _ (List.mem_append_right _ (List.mem_append_right _ (List.mem_append_right _ (List.mem_append_right _ (List.mem_append_right _ (List.mem_append_right _ (List.mem_append_right _ (List.mem_append_right _ (List.mem_append_right _ (List.mem_append_right _ (List.mem_append_right _ (List.mem_append_left _ (List.mem_of_getElem? (i := 112) rfl))))))))))))))
theorem tW519 : (.instanceMethod y_ZoneNodesModel_isNews : Cond) ∈ TW := (List.mem_append_right _ (List.mem_append_right _ (List.mem_append_right _ (List.mem_append_right _ (List.mem_append_right _ (List.mem_append_right _ (List.mem_append_right _ (List.mem_append_right _ (List.mem_append_right _ (List.mem_append_right _ (List.mem_append_right _ (List.mem_append_right _ (List.mem_append_left _ (List.mem_of_getElem? (i := 113) rfl))))))))))))))
theorem tW520 : (.selects R_ZoneNodesModel y_ZoneNodesModel_isNews y_ZoneNodesModel_isNews : Cond) ∈ TW := (List.mem_append_right _ (List.mem_append_right _ (List.mem_append_right _ (List.mem_append_right _ (List.mem_append_right _ (List.mem_append_right _ (List.mem_append_right _ (List.mem_append_right _ (List.mem_append_right _ (List.mem_append_right _ (List.mem_append_right _ (List.mem_append_right _ (List.mem_append_left _ (List.mem_of_getElem? (i := 114) rfl))))))))))))))
theorem tW521 : (.methodLink R_ZoneNodesModel 214 y_ZoneNodesModel_takePart : Cond) ∈ TW := (List.mem_append_right _ (List.mem_append_right _ (List.mem_append_right _ (List.mem_append_right _ (List.mem_append_right _ (List.mem_append_right _ (List.mem_append_right _ (List.mem_append_right _ (List.mem_append_right _ (List.mem_append_right _ (List.mem_append_right _ (List.mem_append_right _ (List.mem_append_left _ (List.mem_of_getElem? (i := 115) rfl))))))))))))))
theorem tW523 : (.instanceMethod y_ZoneNodesModel_takePart : Cond) ∈ TW := (List.mem_append_right _ (List.mem_append_right _ (List.mem_append_right _ (List.mem_append_right _ (List.mem_append_right _ (List.mem_append_right _ (List.mem_append_right _ (List.mem_append_right _ (List.mem_append_right _ (List.mem_append_right _ (List.mem_append_right _ (List.mem_append_right _ (List.mem_append_left _ (List.mem_of_getElem? (i := 116) rfl))))))))))))))
theorem tW524 : (.selects R_ZoneNodesModel y_ZoneNodesModel_takePart y_ZoneNodesModel_takePart : Cond) ∈ TW := (List.mem_append_right _ (List.mem_append_right _ (List.mem_append_right _ (List.mem_append_right _ (List.mem_append_right _ (List.mem_append_right _ (List.mem_append_right _ (List.mem_append_right _ (List.mem_append_right _ (List.mem_append_right _ (List.mem_append_right _ (List.mem_append_right _ (List.mem_append_left _ (List.mem_of_getElem? (i := 117) rfl))))))))))))))
theorem tW525 : (.methodLink R_ZoneNodesModel 210 y_ZoneNodesModel_takeFetch : Cond) ∈ TW := (List.mem_append_right _ (List.mem_append_right _ (List.mem_append_right _ (List.mem_append_right _ (List.mem_append_right _ (List.mem_append_right _ (List.mem_append_right _ (List.mem_append_right _ (List.mem_append_right _ (List.mem_append_right _ (List.mem_append_right _ (List.mem_append_right _ (List.mem_append_left _ (List.mem_of_getElem? (i := 118) rfl))))))))))))))
theorem tW527 : (.instanceMethod y_ZoneNodesModel_takeFetch : Cond) ∈ TW := (List.mem_append_right _ (List.mem_append_right _ (List.mem_append_right _ (List.mem_append_right _ (List.mem_append_right _ (List.mem_append_right _ (List.mem_append_right _ (List.mem_append_right _ (List.mem_append_right _ (List.mem_append_right _ (List.mem_append_right _ (List.mem_append_right _ (List.mem_append_left _ (List.mem_of_getElem? (i := 119) rfl))))))))))))))
theorem tW528 : (.selects R_ZoneNodesModel y_ZoneNodesModel_takeFetch y_ZoneNodesModel_takeFetch : Cond) ∈ TW := (List.mem_append_right _ (List.mem_append_right _ (List.mem_append_right _ (List.mem_append_right _ (List.mem_append_right _ (List.mem_append_right _ (List.mem_append_right _ (List.mem_append_right _ (List.mem_append_right _ (List.mem_append_right _ (List.mem_append_right _ (List.mem_append_right _ (List.mem_append_left _ (List.mem_of_getElem? (i := 120) rfl))))))))))))))
theorem tW529 : (.methodLink R_ZoneNodesModel 207 y_ZoneNodesModel_takeTell : Cond) ∈ TW := (List.mem_append_right _ (List.mem_append_right _ (List.mem_append_right _ (List.mem_append_right _ (List.mem_append_right _ (List.mem_append_right _ (List.mem_append_right _ (List.mem_append_right _ (List.mem_append_right _ (List.mem_append_right _ (List.mem_append_right _ (List.mem_append_right _ (List.mem_append_left _ (List.mem_of_getElem? (i := 121) rfl))))))))))))))
theorem tW531 : (.instanceMethod y_ZoneNodesModel_takeTell : Cond) ∈ TW := (List.mem_append_right _ (List.mem_append_right _ (List.mem_append_right _ (List.mem_append_right _ (List.mem_append_right _ (List.mem_append_right _ (List.mem_append_right _ (List.mem_append_right _ (List.mem_append_right _ (List.mem_append_right _ (List.mem_append_right _ (List.mem_append_right _ (List.mem_append_left _ (List.mem_of_getElem? (i := 122) rfl))))))))))))))
theorem tW532 : (.selects R_ZoneNodesModel y_ZoneNodesModel_takeTell y_ZoneNodesModel_takeTell : Cond) ∈ TW := (List.mem_append_right _ (List.mem_append_right _ (List.mem_append_right _ (List.mem_append_right _ (List.mem_append_right _ (List.mem_append_right _ (List.mem_append_right _ (List.mem_append_right _ (List.mem_append_right _ (List.mem_append_right _ (List.mem_append_right _ (List.mem_append_right _ (List.mem_append_left _ (List.mem_of_getElem? (i := 123) rfl))))))))))))))
theorem tW533 : (.methodLink R_ZoneNodesModel 204 y_ZoneNodesModel_ask : Cond) ∈ TW := (List.mem_append_right _ (List.mem_append_right _ (List.mem_append_right _ (List.mem_append_right _ (List.mem_append_right _ (List.mem_append_right _ (List.mem_append_right _ (List.mem_append_right _ (List.mem_append_right _ (List.mem_append_right _ (List.mem_append_right _ (List.mem_append_right _ (List.mem_append_left _ (List.mem_of_getElem? (i := 124) rfl))))))))))))))
theorem tW535 : (.instanceMethod y_ZoneNodesModel_ask : Cond) ∈ TW := (List.mem_append_right _ (List.mem_append_right _ (List.mem_append_right _ (List.mem_append_right _ (List.mem_append_right _ (List.mem_append_right _ (List.mem_append_right _ (List.mem_append_right _ (List.mem_append_right _ (List.mem_append_right _ (List.mem_append_right _ (List.mem_append_right _ (List.mem_append_left _ (List.mem_of_getElem? (i := 125) rfl))))))))))))))
theorem tW536 : (.selects R_ZoneNodesModel y_ZoneNodesModel_ask y_ZoneNodesModel_ask : Cond) ∈ TW := (List.mem_append_right _ (List.mem_append_right _ (List.mem_append_right _ (List.mem_append_right _ (List.mem_append_right _ (List.mem_append_right _ (List.mem_append_right _ (List.mem_append_right _ (List.mem_append_right _ (List.mem_append_right _ (List.mem_append_right _ (List.mem_append_right _ (List.mem_append_left _ (List.mem_of_getElem? (i := 126) rfl))))))))))))))
theorem tW537 : (.constant R_ZoneNodesModel 221 100000 : Cond) ∈ TW := (List.mem_append_right _ (List.mem_append_right _ (List.mem_append_right _ (List.mem_append_right _ (List.mem_append_right _ (List.mem_append_right _ (List.mem_append_right _ (List.mem_append_right _ (List.mem_append_right _ (List.mem_append_right _ (List.mem_append_right _ (List.mem_append_right _ (List.mem_append_left _ (List.mem_of_getElem? (i := 127) rfl))))))))))))))
theorem tW538 : (.fieldLink R_ZoneNodesModel 105 R_ZoneNodesModel "needs" "I" : Cond) ∈ TW := (List.mem_append_right _ (List.mem_append_right _ (List.mem_append_right _ (List.mem_append_right _ (List.mem_append_right _ (List.mem_append_right _ (List.mem_append_right _ (List.mem_append_right _ (List.mem_append_right _ (List.mem_append_right _ (List.mem_append_right _ (List.mem_append_right _ (List.mem_append_left _ (List.mem_of_getElem? (i := 128) rfl))))))))))))))
theorem tW539 : (.methodLink R_ZoneNodesModel 222 y_ZoneNodesModel_shown : Cond) ∈ TW := (List.mem_append_right _ (List.mem_append_right _ (List.mem_append_right _ (List.mem_append_right _ (List.mem_append_right _ (List.mem_append_right _ (List.mem_append_right _ (List.mem_append_right _ (List.mem_append_right _ (List.mem_append_right _ (List.mem_append_right _ (List.mem_append_right _ (List.mem_append_left _ (List.mem_of_getElem? (i := 129) rfl))))))))))))))
theorem tW541 : (.instanceMethod y_ZoneNodesModel_shown : Cond) ∈ TW := (List.mem_append_right _ (List.mem_append_right _ (List.mem_append_right _ (List.mem_append_right _ (List.mem_append_right _ (List.mem_append_right _ (List.mem_append_right _ (List.mem_append_right _ (List.mem_append_right _ (List.mem_append_right _ (List.mem_append_right _ (List.mem_append_right _ (List.mem_append_left _ (List.mem_of_getElem? (i := 130) rfl))))))))))))))
theorem tW542 : (.selects R_ZoneNodesModel y_ZoneNodesModel_shown y_ZoneNodesModel_shown : Cond) ∈ TW := (List.mem_append_right _ (List.mem_append_right _ (List.mem_append_right _ (List.mem_append_right _ (List.mem_append_right _ (List.mem_append_right _ (List.mem_append_right _ (List.mem_append_right _ (List.mem_append_right _ (List.mem_append_right _ (List.mem_append_right _ (List.mem_append_right _ (List.mem_append_left _ (List.mem_of_getElem? (i := 131) rfl))))))))))))))
theorem tW543 : (.methodLink R_ZoneNodesModel 171 y_ZoneNodesModel_notifyBoth : Cond) ∈ TW := (List.mem_append_right _ (List.mem_append_right _ (List.mem_append_right _ (List.mem_append_right _ (List.mem_append_right _ (List.mem_append_right _ (List.mem_append_right _ (List.mem_append_right _ (List.mem_append_right _ (List.mem_append_right _ (List.mem_append_right _ (List.mem_append_right _ (List.mem_append_left _ (List.mem_of_getElem? (i := 132) rfl))))))))))))))
theorem tW545 : (.instanceMethod y_ZoneNodesModel_notifyBoth : Cond) ∈ TW := (List.mem_append_right _ (List.mem_append_right _ (List.mem_append_right _ (List.mem_append_right _ (List.mem_append_right _ (List.mem_append_right _ (List.mem_append_right _ (List.mem_append_right _ (List.mem_append_right _ (List.mem_append_right _ (List.mem_append_right _ (List.mem_append_right _ (List.mem_append_left _ (List.mem_of_getElem? (i := 133) rfl))))))))))))))
theorem tW546 : (.selects R_ZoneNodesModel y_ZoneNodesModel_notifyBoth y_ZoneNodesModel_notifyBoth : Cond) ∈ TW := (List.mem_append_right _ (List.mem_append_right _ (List.mem_append_right _ (List.mem_append_right _ (List.mem_append_right _ (List.mem_append_right _ (List.mem_append_right _ (List.mem_append_right _ (List.mem_append_right _ (List.mem_append_right _ (List.mem_append_right _ (List.mem_append_right _ (List.mem_append_left _ (List.mem_of_getElem? (i := 134) rfl))))))))))))))
theorem tW547 : (.methodLink R_ZoneNodesModel 168 y_ZoneNodesModel_install : Cond) ∈ TW := (List.mem_append_right _ (List.mem_append_right _ (List.mem_append_right _ (List.mem_append_right _ (List.mem_append_right _ (List.mem_append_right _ (List.mem_append_right _ (List.mem_append_right _ (List.mem_append_right _ (List.mem_append_right _ (List.mem_append_right _ (List.mem_append_right _ (List.mem_append_left _ (List.mem_of_getElem? (i := 135) rfl))))))))))))))
theorem tW549 : (.instanceMethod y_ZoneNodesModel_install : Cond) ∈ TW := (List.mem_append_right _ (List.mem_append_right _ (List.mem_append_right _ (List.mem_append_right _ (List.mem_append_right _ (List.mem_append_right _ (List.mem_append_right _ (List.mem_append_right _ (List.mem_append_right _ (List.mem_append_right _ (List.mem_append_right _ (List.mem_append_right _ (List.mem_append_left _ (List.mem_of_getElem? (i := 136) rfl))))))))))))))
theorem tW550 : (.selects R_ZoneNodesModel y_ZoneNodesModel_install y_ZoneNodesModel_install : Cond) ∈ TW := (List.mem_append_right _ (List.mem_append_right _ (List.mem_append_right _ (List.mem_append_right _ (List.mem_append_right _ (List.mem_append_right _ (List.mem_append_right _ (List.mem_append_right _ (List.mem_append_right _ (List.mem_append_right _ (List.mem_append_right _ (List.mem_append_right _ (List.mem_append_left _ (List.mem_of_getElem? (i := 137) rfl))))))))))))))
theorem tW551 : (.constant R_ZoneNodesModel 115 16777619 : Cond) ∈ TW := (List.mem_append_right _ (List.mem_append_right _ (List.mem_append_right _ (List.mem_append_right _ (List.mem_append_right _ (List.mem_append_right _ (List.mem_append_right _ (List.mem_append_right _ (List.mem_append_right _ (List.mem_append_right _ (List.mem_append_right _ (List.mem_append_right _ (List.mem_append_left _ (List.mem_of_getElem? (i := 138) rfl))))))))))))))
theorem tW552 : (.methodLink R_ZoneNodesModel 116 y_ZoneNodesModel_mixed : Cond) ∈ TW := (List.mem_append_right _ (List.mem_append_right _ (List.mem_append_right _ (List.mem_append_right _ (List.mem_append_right _ (List.mem_append_right _ (List.mem_append_right _ (List.mem_append_right _ (List.mem_append_right _ (List.mem_append_right _ (List.mem_append_right _ (List.mem_append_right _ (List.mem_append_left _ (List.mem_of_getElem? (i := 139) rfl))))))))))))))
theorem tW554 : (.static y_ZoneNodesModel_mixed : Cond) ∈ TW := (List.mem_append_right _ (List.mem_append_right _ (List.mem_append_right _ (List.mem_append_right _ (List.mem_append_right _ (List.mem_append_right _ (List.mem_append_right _ (List.mem_append_right _ (List.mem_append_right _ (List.mem_append_right _ (List.mem_append_right _ (List.mem_append_right _ (List.mem_append_left _ (List.mem_of_getElem? (i := 140) rfl))))))))))))))
theorem tW555 : (.methodLink R_ZoneNodesModel 120 y_ZoneNodesModel_line : Cond) ∈ TW := (List.mem_append_right _ (List.mem_append_right _ (List.mem_append_right _ (List.mem_append_right _ (List.mem_append_right _ (List.mem_append_right _ (List.mem_append_right _ (List.mem_append_right _ (List.mem_append_right _ (List.mem_append_right _ (List.mem_append_right _ (List.mem_append_right _ (List.mem_append_left _ (List.mem_of_getElem? (i := 141) rfl))))))))))))))
theorem tW557 : (.instanceMethod y_ZoneNodesModel_line : Cond) ∈ TW := (List.mem_append_right _ (List.mem_append_right _ (List.mem_append_right _ (List.mem_append_right _ (List.mem_append_right _ (List.mem_append_right _ (List.mem_append_right _ (List.mem_append_right _ (List.mem_append_right _ (List.mem_append_right _ (List.mem_append_right _ (List.mem_append_right _ (List.mem_append_left _ (List.mem_of_getElem? (i := 142) rfl))))))))))))))
theorem tW558 : (.selects R_ZoneNodesModel y_ZoneNodesModel_line y_ZoneNodesModel_line : Cond) ∈ TW := (List.mem_append_right _ (List.mem_append_right _ (List.mem_append_right _ (List.mem_append_right _ (List.mem_append_right _ (List.mem_append_right _ (List.mem_append_right _ (List.mem_append_right _ (List.mem_append_right _ (List.mem_append_right _ (List.mem_append_right _ (List.mem_append_right _ (List.mem_append_left _ (List.mem_of_getElem? (i := 143) rfl))))))))))))))
theorem tW559 : (.methodLink R_ZoneNodesModel 124 y_ZoneNodesModel_sealed : Cond) ∈ TW := (List.mem_append_right _ (List.mem_append_right _ (List.mem_append_right _ (List.mem_append_right _ (List.mem_append_right _ (List.mem_append_right _ (List.mem_append_right _ (List.mem_append_right _ (List.mem_append_right _ (List.mem_append_right _ (List.mem_append_right _ (List.mem_append_right _ (List.mem_append_left _ (List.mem_of_getElem? (i := 144) rfl))))))))))))))
theorem tW561 : (.instanceMethod y_ZoneNodesModel_sealed : Cond) ∈ TW := (List.mem_append_right _ (List.mem_append_right _ (List.mem_append_right _ (List.mem_append_right _ (List.mem_append_right _ (List.mem_append_right _ (List.mem_append_right _ (List.mem_append_right _ (List.mem_append_right _ (List.mem_append_right _ (List.mem_append_right _ (List.mem_append_right _ (List.mem_append_left _ (List.mem_of_getElem? (i := 145) rfl))))))))))))))
theorem tW562 : (.selects R_ZoneNodesModel y_ZoneNodesModel_sealed y_ZoneNodesModel_sealed : Cond) ∈ TW := (List.mem_append_right _ (List.mem_append_right _ (List.mem_append_right _ (List.mem_append_right _ (List.mem_append_right _ (List.mem_append_right _ (List.mem_append_right _ (List.mem_append_right _ (List.mem_append_right _ (List.mem_append_right _ (List.mem_append_right _ (List.mem_append_right _ (List.mem_append_left _ (List.mem_of_getElem? (i := 146) rfl))))))))))))))
theorem tW563 : (.methodLink R_ZoneNodesModel 141 y_ZoneNodesModel_works : Cond) ∈ TW := (List.mem_append_right _ (List.mem_append_right _ (List.mem_append_right _ (List.mem_append_right _ (List.mem_append_right _ (List.mem_append_right _ (List.mem_append_right _ (List.mem_append_right _ (List.mem_append_right _ (List.mem_append_right _ (List.mem_append_right _ (List.mem_append_right _ (List.mem_append_left _ (List.mem_of_getElem? (i := 147) rfl))))))))))))))
theorem tW565 : (.instanceMethod y_ZoneNodesModel_works : Cond) ∈ TW := (List.mem_append_right _ (List.mem_append_right _ (List.mem_append_right _ (List.mem_append_right _ (List.mem_append_right _ (List.mem_append_right _ (List.mem_append_right _ (List.mem_append_right _ (List.mem_append_right _ (List.mem_append_right _ (List.mem_append_right _ (List.mem_append_right _ (List.mem_append_left _ (List.mem_of_getElem? (i := 148) rfl))))))))))))))
theorem tW566 : (.selects R_ZoneNodesModel y_ZoneNodesModel_works y_ZoneNodesModel_works : Cond) ∈ TW := (List.mem_append_right _ (List.mem_append_right _ (List.mem_append_right _ (List.mem_append_right _ (List.mem_append_right _ (List.mem_append_right _ (List.mem_append_right _ (List.mem_append_right _ (List.mem_append_right _ (List.mem_append_right _ (List.mem_append_right _ (List.mem_append_right _ (List.mem_append_left _ (List.mem_of_getElem? (i := 149) rfl))))))))))))))
theorem tW567 : (.methodLink R_ZoneNodesModel 144 y_ZoneNodesModel_add : Cond) ∈ TW := (List.mem_append_right _ (List.mem_append_right _ (List.mem_append_right _ (List.mem_append_right _ (List.mem_append_right _ (List.mem_append_right _ (List.mem_append_right _ (List.mem_append_right _ (List.mem_append_right _ (List.mem_append_right _ (List.mem_append_right _ (List.mem_append_right _ (List.mem_append_right _ (List.mem_append_left _ (List.mem_of_getElem? (i := 0) rfl)))))))))))))))
theorem tW569 : (.instanceMethod y_ZoneNodesModel_add : Cond) ∈ TW := (List.mem_append_right _ (List.mem_append_right _ (List.mem_append_right _ (List.mem_append_right _ (List.mem_append_right _ (List.mem_append_right _ (List.mem_append_right _ (List.mem_append_right _ (List.mem_append_right _ (List.mem_append_right _ (List.mem_append_right _ (List.mem_append_right _ (List.mem_append_right _ (List.mem_append_left _ (List.mem_of_getElem? (i := 1) rfl)))))))))))))))
theorem tW570 : (.selects R_ZoneNodesModel y_ZoneNodesModel_add y_ZoneNodesModel_add : Cond) ∈ TW := (List.mem_append_right _ (List.mem_append_right _ (List.mem_append_right _ (List.mem_append_right _ (List.mem_append_right _ (List.mem_append_right _ (List.mem_append_right _ (List.mem_append_right _ (List.mem_append_right _ (List.mem_append_right _ (List.mem_append_right _ (List.mem_append_right _ (List.mem_append_right _ (List.mem_append_left _ (List.mem_of_getElem? (i := 2) rfl)))))))))))))))
theorem tW571 : (.methodLink R_ZoneNodesModel 127 y_ZoneNodesModel_count : Cond) ∈ TW := (List.mem_append_right _ (List.mem_append_right _ (List.mem_append_right _ (List.mem_append_right _ (List.mem_append_right _ (List.mem_append_right _ (List.mem_append_right _ (List.mem_append_right _ (List.mem_append_right _ (List.mem_append_right _ (List.mem_append_right _ (List.mem_append_right _ (List.mem_append_right _ (List.mem_append_left _ (List.mem_of_getElem? (i := 3) rfl)))))))))))))))
theorem tW573 : (.instanceMethod y_ZoneNodesModel_count : Cond) ∈ TW := (List.mem_append_right _ (List.mem_append_right _ (List.mem_append_right _ (List.mem_append_right _ (List.mem_append_right _ (List.mem_append_right _ (List.mem_append_right _ (List.mem_append_right _ (List.mem_append_right _ (List.mem_append_right _ (List.mem_append_right _ (List.mem_append_right _ (List.mem_append_right _ (List.mem_append_left _ (List.mem_of_getElem? (i := 4) rfl)))))))))))))))
theorem tW574 : (.selects R_ZoneNodesModel y_ZoneNodesModel_count y_ZoneNodesModel_count : Cond) ∈ TW := (List.mem_append_right _ (List.mem_append_right _ (List.mem_append_right _ (List.mem_append_right _ (List.mem_append_right _ (List.mem_append_right _ (List.mem_append_right _ (List.mem_append_right _ (List.mem_append_right _ (List.mem_append_right _ (List.mem_append_right _ (List.mem_append_right _ (List.mem_append_right _ (List.mem_append_left _ (List.mem_of_getElem? (i := 5) rfl)))))))))))))))
theorem tW575 : (.constantLong R_ZoneNodesModel 130 5 : Cond) ∈ TW := (List.mem_append_right _ (List.mem_append_right _ (List.mem_append_right _ (List.mem_append_right _ (List.mem_append_right _ (List.mem_append_right _ (List.mem_append_right _ (List.mem_append_right _ (List.mem_append_right _ (List.mem_append_right _ (List.mem_append_right _ (List.mem_append_right _ (List.mem_append_right _ (List.mem_append_left _ (List.mem_of_getElem? (i := 6) rfl)))))))))))))))
theorem tW576 : (.constantLong R_ZoneNodesModel 132 (-5) : Cond) ∈ TW := (List.mem_append_right _ (List.mem_append_right _ (List.mem_append_right _ (List.mem_append_right _ (List.mem_append_right _ (List.mem_append_right _ (List.mem_append_right _ (List.mem_append_right _ (List.mem_append_right _ (List.mem_append_right _ (List.mem_append_right _ (List.mem_append_right _ (List.mem_append_right _ (List.mem_append_left _ (List.mem_of_getElem? (i := 7) rfl)))))))))))))))
theorem tW577 : (.methodLink R_ZoneNodesModel 134 y_ZoneNodesModel_meets : Cond) ∈ TW := (List.mem_append_right _ (List.mem_append_right _ (List.mem_append_right _ (List.mem_append_right _ (List.mem_append_right _ (List.mem_append_right _ (List.mem_append_right _ (List.mem_append_right _ (List.mem_append_right _ (List.mem_append_right _ (List.mem_append_right _ (List.mem_append_right _ (List.mem_append_right _ (List.mem_append_left _ (List.mem_of_getElem? (i := 8) rfl)))))))))))))))
theorem tW579 : (.instanceMethod y_ZoneNodesModel_meets : Cond) ∈ TW := (List.mem_append_right _ (List.mem_append_right _ (List.mem_append_right _ (List.mem_append_right _ (List.mem_append_right _ (List.mem_append_right _ (List.mem_append_right _ (List.mem_append_right _ (List.mem_append_right _ (List.mem_append_right _ (List.mem_append_right _ (List.mem_append_right _ (List.mem_append_right _ (List.mem_append_left _ (List.mem_of_getElem? (i := 9) rfl)))))))))))))))
theorem tW580 : (.selects R_ZoneNodesModel y_ZoneNodesModel_meets y_ZoneNodesModel_meets : Cond) ∈ TW := (List.mem_append_right _ (List.mem_append_right _ (List.mem_append_right _ (List.mem_append_right _ (List.mem_append_right _ (List.mem_append_right _ (List.mem_append_right _ (List.mem_append_right _ (List.mem_append_right _ (List.mem_append_right _ (List.mem_append_right _ (List.mem_append_right _ (List.mem_append_right _ (List.mem_append_left _ (List.mem_of_getElem? (i := 10) rfl)))))))))))))))
theorem tW581 : (.methodLink R_ZoneNodesModel 138 y_ZoneNodesModel_exact : Cond) ∈ TW := (List.mem_append_right _ (List.mem_append_right _ (List.mem_append_right _ (List.mem_append_right _ (List.mem_append_right _ (List.mem_append_right _ (List.mem_append_right _ (List.mem_append_right _ (List.mem_append_right _ (List.mem_append_right _ (List.mem_append_right _ (List.mem_append_right _ (List.mem_append_right _ (List.mem_append_left _ (List.mem_of_getElem? (i := 11) rfl)))))))))))))))
theorem tW583 : (.instanceMethod y_ZoneNodesModel_exact : Cond) ∈ TW := (List.mem_append_right _ (List.mem_append_right _ (List.mem_append_right _ (List.mem_append_right _ (List.mem_append_right _ (List.mem_append_right _ (List.mem_append_right _ (List.mem_append_right _ (List.mem_append_right _ (List.mem_append_right _ (List.mem_append_right _ (List.mem_append_right _ (List.mem_append_right _ (List.mem_append_left _ (List.mem_of_getElem? (i := 12) rfl)))))))))))))))
theorem tW584 : (.selects R_ZoneNodesModel y_ZoneNodesModel_exact y_ZoneNodesModel_exact : Cond) ∈ TW := (List.mem_append_right _ (List.mem_append_right _ (List.mem_append_right _ (List.mem_append_right _ (List.mem_append_right _ (List.mem_append_right _ (List.mem_append_right _ (List.mem_append_right _ (List.mem_append_right _ (List.mem_append_right _ (List.mem_append_right _ (List.mem_append_right _ (List.mem_append_right _ (List.mem_append_left _ (List.mem_of_getElem? (i := 13) rfl)))))))))))))))
theorem tW585 : (.methodLink R_ZoneNodesModel 165 y_ZoneNodesModel_crash : Cond) ∈ TW := (List.mem_append_right _ (List.mem_append_right _ (List.mem_append_right _ (List.mem_append_right _ (List.mem_append_right _ (List.mem_append_right _ (List.mem_append_right _ (List.mem_append_right _ (List.mem_append_right _ (List.mem_append_right _ (List.mem_append_right _ (List.mem_append_right _ (List.mem_append_right _ (List.mem_append_left _ (List.mem_of_getElem? (i := 14) rfl)))))))))))))))
theorem tW587 : (.instanceMethod y_ZoneNodesModel_crash : Cond) ∈ TW := (List.mem_append_right _ (List.mem_append_right _ (List.mem_append_right _ (List.mem_append_right _ (List.mem_append_right _ (List.mem_append_right _ (List.mem_append_right _ (List.mem_append_right _ (List.mem_append_right _ (List.mem_append_right _ (List.mem_append_right _ (List.mem_append_right _ (List.mem_append_right _ (List.mem_append_left _ (List.mem_of_getElem? (i := 15) rfl)))))))))))))))
theorem tW588 : (.selects R_ZoneNodesModel y_ZoneNodesModel_crash y_ZoneNodesModel_crash : Cond) ∈ TW := (List.mem_append_right _ (List.mem_append_right _ (List.mem_append_right _ (List.mem_append_right _ (List.mem_append_right _ (List.mem_append_right _ (List.mem_append_right _ (List.mem_append_right _ (List.mem_append_right _ (List.mem_append_right _ (List.mem_append_right _ (List.mem_append_right _ (List.mem_append_right _ (List.mem_append_left _ (List.mem_of_getElem? (i := 16) rfl)))))))))))))))
theorem tW589 : (.methodLink R_ZoneNodesModel 148 y_ZoneNodesModel_refusal : Cond) ∈ TW := (List.mem_append_right _ (List.mem_append_right _ (List.mem_append_right _ (List.mem_append_right _ (List.mem_append_right _ (List.mem_append_right _ (List.mem_append_right _ (List.mem_append_right _ (List.mem_append_right _ (List.mem_append_right _ (List.mem_append_right _ (List.mem_append_right _ (List.mem_append_right _ (List.mem_append_left _ (List.mem_of_getElem? (i := 17) rfl)))))))))))))))
theorem tW591 : (.instanceMethod y_ZoneNodesModel_refusal : Cond) ∈ TW := (List.mem_append_right _ (List.mem_append_right _ (List.mem_append_right _ (List.mem_append_right _ (List.mem_append_right _ (List.mem_append_right _ (List.mem_append_right _ (List.mem_append_right _ (List.mem_append_right _ (List.mem_append_right _ (List.mem_append_right _ (List.mem_append_right _ (List.mem_append_right _ (List.mem_append_left _ (List.mem_of_getElem? (i := 18) rfl)))))))))))))))
theorem tW592 : (.selects R_ZoneNodesModel y_ZoneNodesModel_refusal y_ZoneNodesModel_refusal : Cond) ∈ TW := (List.mem_append_right _ (List.mem_append_right _ (List.mem_append_right _ (List.mem_append_right _ (List.mem_append_right _ (List.mem_append_right _ (List.mem_append_right _ (List.mem_append_right _ (List.mem_append_right _ (List.mem_append_right _ (List.mem_append_right _ (List.mem_append_right _ (List.mem_append_right _ (List.mem_append_left _ (List.mem_of_getElem? (i := 19) rfl)))))))))))))))
theorem tW593 : (.methodLink R_ZoneNodesModel 151 y_ZoneNodesModel_perform : Cond) ∈ TW := (List.mem_append_right _ (List.mem_append_right _ (List.mem_append_right _ (List.mem_append_right _ (List.mem_append_right _ (List.mem_append_right _ (List.mem_append_right _ (List.mem_append_right _ (List.mem_append_right _ (List.mem_append_right _ (List.mem_append_right _ (List.mem_append_right _ (List.mem_append_right _ (List.mem_append_left _ (List.mem_of_getElem? (i := 20) rfl)))))))))))))))
theorem tW595 : (.instanceMethod y_ZoneNodesModel_perform : Cond) ∈ TW := (List.mem_append_right _ (List.mem_append_right _ (List.mem_append_right _ (List.mem_append_right _ (List.mem_append_right _ (List.mem_append_right _ (List.mem_append_right _ (List.mem_append_right _ (List.mem_append_right _ (List.mem_append_right _ (List.mem_append_right _ (List.mem_append_right _ (List.mem_append_right _ (List.mem_append_left _ (List.mem_of_getElem? (i := 21) rfl)))))))))))))))
theorem tW596 : (.selects R_ZoneNodesModel y_ZoneNodesModel_perform y_ZoneNodesModel_perform : Cond) ∈ TW := (List.mem_append_right _ (List.mem_append_right _ (List.mem_append_right _ (List.mem_append_right _ (List.mem_append_right _ (List.mem_append_right _ (List.mem_append_right _ (List.mem_append_right _ (List.mem_append_right _ (List.mem_append_right _ (List.mem_append_right _ (List.mem_append_right _ (List.mem_append_right _ (List.mem_append_left _ (List.mem_of_getElem? (i := 22) rfl)))))))))))))))
theorem tW597 : (.methodLink R_ZoneNodesModel 155 y_ZoneNodesModel_write : Cond) ∈ TW := (List.mem_append_right _ (List.mem_append_right _ (List.mem_append_right _ (List.mem_append_right _ (List.mem_append_right _ (List.mem_append_right _ (List.mem_append_right _ (List.mem_append_right _ (List.mem_append_right _ (List.mem_append_right _ (List.mem_append_right _ (List.mem_append_right _ (List.mem_append_right _ (List.mem_append_left _ (List.mem_of_getElem? (i := 23) rfl)))))))))))))))
theorem tW599 : (.instanceMethod y_ZoneNodesModel_write : Cond) ∈ TW := (List.mem_append_right _ (List.mem_append_right _ (List.mem_append_right _ (List.mem_append_right _ (List.mem_append_right _ (List.mem_append_right _ (List.mem_append_right _ (List.mem_append_right _ (List.mem_append_right _ (List.mem_append_right _ (List.mem_append_right _ (List.mem_append_right _ (List.mem_append_right _ (List.mem_append_left _ (List.mem_of_getElem? (i := 24) rfl)))))))))))))))
theorem tW600 : (.selects R_ZoneNodesModel y_ZoneNodesModel_write y_ZoneNodesModel_write : Cond) ∈ TW := (List.mem_append_right _ (List.mem_append_right _ (List.mem_append_right _ (List.mem_append_right _ (List.mem_append_right _ (List.mem_append_right _ (List.mem_append_right _ (List.mem_append_right _ (List.mem_append_right _ (List.mem_append_right _ (List.mem_append_right _ (List.mem_append_right _ (List.mem_append_right _ (List.mem_append_left _ (List.mem_of_getElem? (i := 25) rfl)))))))))))))))
theorem tW601 : (.classLink R_ZoneNodesLaw 7 R_ZoneNodes : Cond) ∈ TW := (List.mem_append_right _ (List.mem_append_right _ (List.mem_append_right _ (List.mem_append_right _ (List.mem_append_right _ (List.mem_append_right _ (List.mem_append_right _ (List.mem_append_right _ (List.mem_append_right _ (List.mem_append_right _ (List.mem_append_right _ (List.mem_append_right _ (List.mem_append_right _ (List.mem_append_left _ (List.mem_of_getElem? (i := 26) rfl)))))))))))))))
theorem tW602 : (.instantiable R_ZoneNodes 7 : Cond) ∈ TW := (List.mem_append_right _ (List.mem_append_right _ (List.mem_append_right _ (List.mem_append_right _ (List.mem_append_right _ (List.mem_append_right _ (List.mem_append_right _ (List.mem_append_right _ (List.mem_append_right _ (List.mem_append_right _ (List.mem_append_right _ (List.mem_append_right _ (List.mem_append_right _ (List.mem_append_left _ (List.mem_of_getElem? (i := 27) rfl)))))))))))))))
theorem tW603 : (.methodLink R_ZoneNodesLaw 9 y_ZoneNodesLaw_cell : Cond) ∈ TW := (List.mem_append_right _ (List.mem_append_right _ (List.mem_append_right _ (List.mem_append_right _ (List.mem_append_right _ (List.mem_append_right _ (List.mem_append_right _ (List.mem_append_right _ (List.mem_append_right _ (List.mem_append_right _ (List.mem_append_right _ (List.mem_append_right _ (List.mem_append_right _ (List.mem_append_left _ (List.mem_of_getElem? (i := 28) rfl)))))))))))))))
theorem tW605 : (.initialized R_ZoneNodesLaw : Cond) ∈ TW := (List.mem_append_right _ (List.mem_append_right _ (List.mem_append_right _ (List.mem_append_right _ (List.mem_append_right _ (List.mem_append_right _ (List.mem_append_right _ (List.mem_append_right _ (List.mem_append_right _ (List.mem_append_right _ (List.mem_append_right _ (List.mem_append_right _ (List.mem_append_right _ (List.mem_append_left _ (List.mem_of_getElem? (i := 29) rfl)))))))))))))))
theorem tW606 : (.static y_ZoneNodesLaw_cell : Cond) ∈ TW := (List.mem_append_right _ (List.mem_append_right _ (List.mem_append_right _ (List.mem_append_right _ (List.mem_append_right _ (List.mem_append_right _ (List.mem_append_right _ (List.mem_append_right _ (List.mem_append_right _ (List.mem_append_right _ (List.mem_append_right _ (List.mem_append_right _ (List.mem_append_right _ (List.mem_append_left _ (List.mem_of_getElem? (i := 30) rfl)))))))))))))))
theorem tW607 : (.methodLink R_ZoneNodesLaw 15 y_ZoneNodes_init : Cond) ∈ TW := (List.mem_append_right _ (List.mem_append_right _ (List.mem_append_right _ (List.mem_append_right _ (List.mem_append_right _ (List.mem_append_right _ (List.mem_append_right _ (List.mem_append_right _ (List.mem_append_right _ (List.mem_append_right _ (List.mem_append_right _ (List.mem_append_right _ (List.mem_append_right _ (List.mem_append_left _ (List.mem_of_getElem? (i := 31) rfl)))))))))))))))
theorem tW609 : (.instanceMethod y_ZoneNodes_init : Cond) ∈ TW := (List.mem_append_right _ (List.mem_append_right _ (List.mem_append_right _ (List.mem_append_right _ (List.mem_append_right _ (List.mem_append_right _ (List.mem_append_right _ (List.mem_append_right _ (List.mem_append_right _ (List.mem_append_right _ (List.mem_append_right _ (List.mem_append_right _ (List.mem_append_right _ (List.mem_append_left _ (List.mem_of_getElem? (i := 32) rfl)))))))))))))))
theorem tW610 : (.classLink R_ZoneNodesLaw 18 R_ZoneNodesModel : Cond) ∈ TW := (List.mem_append_right _ (List.mem_append_right _ (List.mem_append_right _ (List.mem_append_right _ (List.mem_append_right _ (List.mem_append_right _ (List.mem_append_right _ (List.mem_append_right _ (List.mem_append_right _ (List.mem_append_right _ (List.mem_append_right _ (List.mem_append_right _ (List.mem_append_right _ (List.mem_append_left _ (List.mem_of_getElem? (i := 33) rfl)))))))))))))))
theorem tW611 : (.instantiable R_ZoneNodesModel 32 : Cond) ∈ TW := (List.mem_append_right _ (List.mem_append_right _ (List.mem_append_right _ (List.mem_append_right _ (List.mem_append_right _ (List.mem_append_right _ (List.mem_append_right _ (List.mem_append_right _ (List.mem_append_right _ (List.mem_append_right _ (List.mem_append_right _ (List.mem_append_right _ (List.mem_append_right _ (List.mem_append_left _ (List.mem_of_getElem? (i := 34) rfl)))))))))))))))
theorem tW612 : (.methodLink R_ZoneNodesLaw 20 y_ZoneNodesModel_init : Cond) ∈ TW := (List.mem_append_right _ (List.mem_append_right _ (List.mem_append_right _ (List.mem_append_right _ (List.mem_append_right _ (List.mem_append_right _ (List.mem_append_right _ (List.mem_append_right _ (List.mem_append_right _ (List.mem_append_right _ (List.mem_append_right _ (List.mem_append_right _ (List.mem_append_right _ (List.mem_append_left _ (List.mem_of_getElem? (i := 35) rfl)))))))))))))))
theorem tW614 : (.instanceMethod y_ZoneNodesModel_init : Cond) ∈ TW := (List.mem_append_right _ (List.mem_append_right _ (List.mem_append_right _ (List.mem_append_right _ (List.mem_append_right _ (List.mem_append_right _ (List.mem_append_right _ (List.mem_append_right _ (List.mem_append_right _ (List.mem_append_right _ (List.mem_append_right _ (List.mem_append_right _ (List.mem_append_right _ (List.mem_append_left _ (List.mem_of_getElem? (i := 36) rfl)))))))))))))))
theorem tW615 : (.methodLink R_ZoneNodesLaw 21 y_ZoneNodes_key : Cond) ∈ TW := (List.mem_append_right _ (List.mem_append_right _ (List.mem_append_right _ (List.mem_append_right _ (List.mem_append_right _ (List.mem_append_right _ (List.mem_append_right _ (List.mem_append_right _ (List.mem_append_right _ (List.mem_append_right _ (List.mem_append_right _ (List.mem_append_right _ (List.mem_append_right _ (List.mem_append_left _ (List.mem_of_getElem? (i := 37) rfl)))))))))))))))
theorem tW617 : (.instanceMethod y_ZoneNodes_key : Cond) ∈ TW := (List.mem_append_right _ (List.mem_append_right _ (List.mem_append_right _ (List.mem_append_right _ (List.mem_append_right _ (List.mem_append_right _ (List.mem_append_right _ (List.mem_append_right _ (List.mem_append_right _ (List.mem_append_right _ (List.mem_append_right _ (List.mem_append_right _ (List.mem_append_right _ (List.mem_append_left _ (List.mem_of_getElem? (i := 38) rfl)))))))))))))))
theorem tW618 : (.selects R_ZoneNodes y_ZoneNodes_key y_ZoneNodes_key : Cond) ∈ TW := (List.mem_append_right _ (List.mem_append_right _ (List.mem_append_right _ (List.mem_append_right _ (List.mem_append_right _ (List.mem_append_right _ (List.mem_append_right _ (List.mem_append_right _ (List.mem_append_right _ (List.mem_append_right _ (List.mem_append_right _ (List.mem_append_right _ (List.mem_append_right _ (List.mem_append_left _ (List.mem_of_getElem? (i := 39) rfl)))))))))))))))
theorem tW619 : (.methodLink R_ZoneNodesLaw 25 y_ZoneNodesModel_key : Cond) ∈ TW := (List.mem_append_right _ (List.mem_append_right _ (List.mem_append_right _ (List.mem_append_right _ (List.mem_append_right _ (List.mem_append_right _ (List.mem_append_right _ (List.mem_append_right _ (List.mem_append_right _ (List.mem_append_right _ (List.mem_append_right _ (List.mem_append_right _ (List.mem_append_right _ (List.mem_append_left _ (List.mem_of_getElem? (i := 40) rfl)))))))))))))))
theorem tW621 : (.instanceMethod y_ZoneNodesModel_key : Cond) ∈ TW := (List.mem_append_right _ (List.mem_append_right _ (List.mem_append_right _ (List.mem_append_right _ (List.mem_append_right _ (List.mem_append_right _ (List.mem_append_right _ (List.mem_append_right _ (List.mem_append_right _ (List.mem_append_right _ (List.mem_append_right _ (List.mem_append_right _ (List.mem_append_right _ (List.mem_append_left _ (List.mem_of_getElem? (i := 41) rfl)))))))))))))))
theorem tW622 : (.selects R_ZoneNodesModel y_ZoneNodesModel_key y_ZoneNodesModel_key : Cond) ∈ TW := (List.mem_append_right _ (List.mem_append_right _ (List.mem_append_right _ (List.mem_append_right _ (List.mem_append_right _ (List.mem_append_right _ (List.mem_append_right _ (List.mem_append_right _ (List.mem_append_right _ (List.mem_append_right _ (List.mem_append_right _ (List.mem_append_right _ (List.mem_append_right _ (List.mem_append_left _ (List.mem_of_getElem? (i := 42) rfl)))))))))))))))
theorem tW623 : (.methodLink R_ZoneNodesLaw 26 y_ZoneNodes_need : Cond) ∈ TW := (List.mem_append_right _ (List.mem_append_right _ (List.mem_append_right _ (List.mem_append_right _ (List.mem_append_right _ (List.mem_append_right _ (List.mem_append_right _ (List.mem_append_right _ (List.mem_append_right _ (List.mem_append_right _ (List.mem_append_right _ (List.mem_append_right _ (List.mem_append_right _ (List.mem_append_left _ (List.mem_of_getElem? (i := 43) rfl)))))))))))))))
theorem tW625 : (.instanceMethod y_ZoneNodes_need : Cond) ∈ TW := (List.mem_append_right _ (List.mem_append_right _ (List.mem_append_right _ (List.mem_append_right _ (List.mem_append_right _ (List.mem_append_right _ (List.mem_append_right _ (List.mem_append_right _ (List.mem_append_right _ (List.mem_append_right _ (List.mem_append_right _ (List.mem_append_right _ (List.mem_append_right _ (List.mem_append_left _ (List.mem_of_getElem? (i := 44) rfl)))))))))))))))
theorem tW626 : (.selects R_ZoneNodes y_ZoneNodes_need y_ZoneNodes_need : Cond) ∈ TW := (List.mem_append_right _ (List.mem_append_right _ (List.mem_append_right _ (List.mem_append_right _ (List.mem_append_right _ (List.mem_append_right _ (List.mem_append_right _ (List.mem_append_right _ (List.mem_append_right _ (List.mem_append_right _ (List.mem_append_right _ (List.mem_append_right _ (List.mem_append_right _ (List.mem_append_left _ (List.mem_of_getElem? (i := 45) rfl)))))))))))))))
theorem tW627 : (.methodLink R_ZoneNodesLaw 30 y_ZoneNodesModel_need : Cond) ∈ TW := (List.mem_append_right _ (List.mem_append_right _ (List.mem_append_right _ (List.mem_append_right _ (List.mem_append_right _ (List.mem_append_right _ (List.mem_append_right _ (List.mem_append_right _ (List.mem_append_right _ (List.mem_append_right _ (List.mem_append_right _ (List.mem_append_right _ (List.mem_append_right _ (List.mem_append_left _ (List.mem_of_getElem? (i := 46) rfl)))))))))))))))
theorem tW629 : (.instanceMethod y_ZoneNodesModel_need : Cond) ∈ TW := (List.mem_append_right _ (List.mem_append_right _ (List.mem_append_right _ (List.mem_append_right _ (List.mem_append_right _ (List.mem_append_right _ (List.mem_append_right _ (List.mem_append_right _ (List.mem_append_right _ (List.mem_append_right _ (List.mem_append_right _ (List.mem_append_right _ (List.mem_append_right _ (List.mem_append_left _ (List.mem_of_getElem? (i := 47) rfl)))))))))))))))
theorem tW630 : (.selects R_ZoneNodesModel y_ZoneNodesModel_need y_ZoneNodesModel_need : Cond) ∈ TW := (List.mem_append_right _ (List.mem_append_right _ (List.mem_append_right _ (List.mem_append_right _ (List.mem_append_right _ (List.mem_append_right _ (List.mem_append_right _ (List.mem_append_right _ (List.mem_append_right _ (List.mem_append_right _ (List.mem_append_right _ (List.mem_append_right _ (List.mem_append_right _ (List.mem_append_left _ (List.mem_of_getElem? (i := 48) rfl)))))))))))))))
theorem tW631 : (.methodLink R_ZoneNodesLaw 31 y_ZoneNodes_change : Cond) ∈ TW := (List.mem_append_right _ (List.mem_append_right _ (List.mem_append_right _ (List.mem_append_right _ (List.mem_append_right _ (List.mem_append_right _ (List.mem_append_right _ (List.mem_append_right _ (List.mem_append_right _ (List.mem_append_right _ (List.mem_append_right _ (List.mem_append_right _ (List.mem_append_right _ (List.mem_append_left _ (List.mem_of_getElem? (i := 49) rfl)))))))))))))))
theorem tW633 : (.instanceMethod y_ZoneNodes_change : Cond) ∈ TW := (List.mem_append_right _ (List.mem_append_right _ (List.mem_append_right _ (List.mem_append_right _ (List.mem_append_right _ (List.mem_append_right _ (List.mem_append_right _ (List.mem_append_right _ (List.mem_append_right _ (List.mem_append_right _ (List.mem_append_right _ (List.mem_append_right _ (List.mem_append_right _ (List.mem_append_left _ (List.mem_of_getElem? (i := 50) rfl)))))))))))))))
theorem tW634 : (.selects R_ZoneNodes y_ZoneNodes_change y_ZoneNodes_change : Cond) ∈ TW := (List.mem_append_right _ (List.mem_append_right _ (List.mem_append_right _ (List.mem_append_right _ (List.mem_append_right _ (List.mem_append_right _ (List.mem_append_right _ (List.mem_append_right _ (List.mem_append_right _ (List.mem_append_right _ (List.mem_append_right _ (List.mem_append_right _ (List.mem_append_right _ (List.mem_append_left _ (List.mem_of_getElem? (i := 51) rfl)))))))))))))))
theorem tW635 : (.methodLink R_ZoneNodesLaw 34 y_ZoneNodesModel_change : Cond) ∈ TW := (List.mem_append_right _ (List.mem_append_right _ (List.mem_append_right _ (List.mem_append_right _ (List.mem_append_right _ (List.mem_append_right _ (List.mem_append_right _ (List.mem_append_right _ (List.mem_append_right _ (List.mem_append_right _ (List.mem_append_right _ (List.mem_append_right _ (List.mem_append_right _ (List.mem_append_left _ (List.mem_of_getElem? (i := 52) rfl)))))))))))))))
theorem tW637 : (.instanceMethod y_ZoneNodesModel_change : Cond) ∈ TW := (List.mem_append_right _ (List.mem_append_right _ (List.mem_append_right _ (List.mem_append_right _ (List.mem_append_right _ (List.mem_append_right _ (List.mem_append_right _ (List.mem_append_right _ (List.mem_append_right _ (List.mem_append_right _ (List.mem_append_right _ (List.mem_append_right _ (List.mem_append_right _ (List.mem_append_left _ (List.mem_of_getElem? (i := 53) rfl)))))))))))))))
theorem tW638 : (.selects R_ZoneNodesModel y_ZoneNodesModel_change y_ZoneNodesModel_change : Cond) ∈ TW := (List.mem_append_right _ (List.mem_append_right _ (List.mem_append_right _ (List.mem_append_right _ (List.mem_append_right _ (List.mem_append_right _ (List.mem_append_right _ (List.mem_append_right _ (List.mem_append_right _ (List.mem_append_right _ (List.mem_append_right _ (List.mem_append_right _ (List.mem_append_right _ (List.mem_append_left _ (List.mem_of_getElem? (i := 54) rfl)))))))))))))))
theorem tW639 : (.methodLink R_ZoneNodesLaw 35 y_ZoneNodes_seal : Cond) ∈ TW := (List.mem_append_right _ (List.mem_append_right _ (List.mem_append_right _ (List.mem_append_right _ (List.mem_append_right _ (List.mem_append_right _ (List.mem_append_right _ (List.mem_append_right _ (List.mem_append_right _ (List.mem_append_right _ (List.mem_append_right _ (List.mem_append_right _ (List.mem_append_right _ (List.mem_append_left _ (List.mem_of_getElem? (i := 55) rfl)))))))))))))))
theorem tW641 : (.instanceMethod y_ZoneNodes_seal : Cond) ∈ TW := (List.mem_append_right _ (List.mem_append_right _ (List.mem_append_right _ (List.mem_append_right _ (List.mem_append_right _ (List.mem_append_right _ (List.mem_append_right _ (List.mem_append_right _ (List.mem_append_right _ (List.mem_append_right _ (List.mem_append_right _ (List.mem_append_right _ (List.mem_append_right _ (List.mem_append_left _ (List.mem_of_getElem? (i := 56) rfl)))))))))))))))
theorem tW642 : (.selects R_ZoneNodes y_ZoneNodes_seal y_ZoneNodes_seal : Cond) ∈ TW := (List.mem_append_right _ (List.mem_append_right _ (List.mem_append_right _ (List.mem_append_right _ (List.mem_append_right _ (List.mem_append_right _ (List.mem_append_right _ (List.mem_append_right _ (List.mem_append_right _ (List.mem_append_right _ (List.mem_append_right _ (List.mem_append_right _ (List.mem_append_right _ (List.mem_append_left _ (List.mem_of_getElem? (i := 57) rfl)))))))))))))))
theorem tW643 : (.methodLink R_ZoneNodesLaw 39 y_ZoneNodesModel_seal : Cond) ∈ TW := (List.mem_append_right _ (List.mem_append_right _ (List.mem_append_right _ (List.mem_append_right _ (List.mem_append_right _ (List.mem_append_right _ (List.mem_append_right _ (List.mem_append_right _ (List.mem_append_right _ (List.mem_append_right _ (List.mem_append_right _ (List.mem_append_right _ (List.mem_append_right _ (List.mem_append_left _ (List.mem_of_getElem? (i := 58) rfl)))))))))))))))
theorem tW645 : (.instanceMethod y_ZoneNodesModel_seal : Cond) ∈ TW := (List.mem_append_right _ (List.mem_append_right _ (List.mem_append_right _ (List.mem_append_right _ (List.mem_append_right _ (List.mem_append_right _ (List.mem_append_right _ (List.mem_append_right _ (List.mem_append_right _ (List.mem_append_right _ (List.mem_append_right _ (List.mem_append_right _ (List.mem_append_right _ (List.mem_append_left _ (List.mem_of_getElem? (i := 59) rfl)))))))))))))))
theorem tW646 : (.selects R_ZoneNodesModel y_ZoneNodesModel_seal y_ZoneNodesModel_seal : Cond) ∈ TW := (List.mem_append_right _ (List.mem_append_right _ (List.mem_append_right _ (List.mem_append_right _ (List.mem_append_right _ (List.mem_append_right _ (List.mem_append_right _ (List.mem_append_right _ (List.mem_append_right _ (List.mem_append_right _ (List.mem_append_right _ (List.mem_append_right _ (List.mem_append_right _ (List.mem_append_left _ (List.mem_of_getElem? (i := 60) rfl)))))))))))))))
theorem tW647 : (.methodLink R_ZoneNodesLaw 40 y_ZoneNodes_update : Cond) ∈ TW := (List.mem_append_right _ (List.mem_append_right _ (List.mem_append_right _ (List.mem_append_right _ (List.mem_append_right _ (List.mem_append_right _ (List.mem_append_right _ (List.mem_append_right _ (List.mem_append_right _ (List.mem_append_right _ (List.mem_append_right _ (List.mem_append_right _ (List.mem_append_right _ (List.mem_append_left _ (List.mem_of_getElem? (i := 61) rfl)))))))))))))))
theorem tW649 : (.instanceMethod y_ZoneNodes_update : Cond) ∈ TW := (List.mem_append_right _ (List.mem_append_right _ (List.mem_append_right _ (List.mem_append_right _ (List.mem_append_right _ (List.mem_append_right _ (List.mem_append_right _ (List.mem_append_right _ (List.mem_append_right _ (List.mem_append_right _ (List.mem_append_right _ (List.mem_append_right _ (List.mem_append_right _ (List.mem_append_left _ (List.mem_of_getElem? (i := 62) rfl)))))))))))))))
theorem tW650 : (.selects R_ZoneNodes y_ZoneNodes_update y_ZoneNodes_update : Cond) ∈ TW := (List.mem_append_right _ (List.mem_append_right _ (List.mem_append_right _ (List.mem_append_right _ (List.mem_append_right _ (List.mem_append_right _ (List.mem_append_right _ (List.mem_append_right _ (List.mem_append_right _ (List.mem_append_right _ (List.mem_append_right _ (List.mem_append_right _ (List.mem_append_right _ (List.mem_append_left _ (List.mem_of_getElem? (i := 63) rfl)))))))))))))))
theorem tW651 : (.methodLink R_ZoneNodesLaw 44 y_ZoneNodesModel_update : Cond) ∈ TW := (List.mem_append_right _ (List.mem_append_right _ (List.mem_append_right _ (List.mem_append_right _ (List.mem_append_right _ (List.mem_append_right _ (List.mem_append_right _ (List.mem_append_right _ (List.mem_append_right _ (List.mem_append_right _ (List.mem_append_right _ (List.mem_append_right _ (List.mem_append_right _ (List.mem_append_left _ (List.mem_of_getElem? (i := 64) rfl)))))))))))))))
theorem tW653 : (.instanceMethod y_ZoneNodesModel_update : Cond) ∈ TW := (List.mem_append_right _ (List.mem_append_right _ (List.mem_append_right _ (List.mem_append_right _ (List.mem_append_right _ (List.mem_append_right _ (List.mem_append_right _ (List.mem_append_right _ (List.mem_append_right _ (List.mem_append_right _ (List.mem_append_right _ (List.mem_append_right _ (List.mem_append_right _ (List.mem_append_left _ (List.mem_of_getElem? (i := 65) rfl)))))))))))))))
theorem tW654 : (.selects R_ZoneNodesModel y_ZoneNodesModel_update y_ZoneNodesModel_update : Cond) ∈ TW := (List.mem_append_right _ (List.mem_append_right _ (List.mem_append_right _ (List.mem_append_right _ (List.mem_append_right _ (List.mem_append_right _ (List.mem_append_right _ (List.mem_append_right _ (List.mem_append_right _ (List.mem_append_right _ (List.mem_append_right _ (List.mem_append_right _ (List.mem_append_right _ (List.mem_append_left _ (List.mem_of_getElem? (i := 66) rfl)))))))))))))))
theorem tW655 : (.methodLink R_ZoneNodesLaw 45 y_ZoneNodes_arm : Cond) ∈ TW := (List.mem_append_right _ (List.mem_append_right _ (List.mem_append_right _ (List.mem_append_right _ (List.mem_append_right _ (List.mem_append_right _ (List.mem_append_right _ (List.mem_append_right _ (List.mem_append_right _ (List.mem_append_right _ (List.mem_append_right _ (List.mem_append_right _ (List.mem_append_right _ (List.mem_append_left _ (List.mem_of_getElem? (i := 67) rfl)))))))))))))))
theorem tW657 : (.instanceMethod y_ZoneNodes_arm : Cond) ∈ TW := (List.mem_append_right _ (List.mem_append_right _ (List.mem_append_right _ (List.mem_append_right _ (List.mem_append_right _ (List.mem_append_right _ (List.mem_append_right _ (List.mem_append_right _ (List.mem_append_right _ (List.mem_append_right _ (List.mem_append_right _ (List.mem_append_right _ (List.mem_append_right _ (List.mem_append_left _ (List.mem_of_getElem? (i := 68) rfl)))))))))))))))
theorem tW658 : (.selects R_ZoneNodes y_ZoneNodes_arm y_ZoneNodes_arm : Cond) ∈ TW := (List.mem_append_right _ (List.mem_append_right _ (List.mem_append_right _ (List.mem_append_right _ (List.mem_append_right _ (List.mem_append_right _ (List.mem_append_right _ (List.mem_append_right _ (List.mem_append_right _ (List.mem_append_right _ (List.mem_append_right _ (List.mem_append_right _ (List.mem_append_right _ (List.mem_append_left _ (List.mem_of_getElem? (i := 69) rfl)))))))))))))))
theorem tW659 : (.methodLink R_ZoneNodesLaw 49 y_ZoneNodesModel_arm : Cond) ∈ TW := (List.mem_append_right _ (List.mem_append_right _ (List.mem_append_right _ (List.mem_append_right _ (List.mem_append_right _ (List.mem_append_right _ (List.mem_append_right _ (List.mem_append_right _ (List.mem_append_right _ (List.mem_append_right _ (List.mem_append_right _ (List.mem_append_right _ (List.mem_append_right _ (List.mem_append_left _ (List.mem_of_getElem? (i := 70) rfl)))))))))))))))
theorem tW661 : (.instanceMethod y_ZoneNodesModel_arm : Cond) ∈ TW := (List.mem_append_right _ (List.mem_append_right _ (List.mem_append_right _ (List.mem_append_right _ (List.mem_append_right _ (List.mem_append_right _ (List.mem_append_right _ (List.mem_append_right _ (List.mem_append_right _ (List.mem_append_right _ (List.mem_append_right _ (List.mem_append_right _ (List.mem_append_right _ (List.mem_append_left _ (List.mem_of_getElem? (i := 71) rfl)))))))))))))))
theorem tW662 : (.selects R_ZoneNodesModel y_ZoneNodesModel_arm y_ZoneNodesModel_arm : Cond) ∈ TW := (List.mem_append_right _ (List.mem_append_right _ (List.mem_append_right _ (List.mem_append_right _ (List.mem_append_right _ (List.mem_append_right _ (List.mem_append_right _ (List.mem_append_right _ (List.mem_append_right _ (List.mem_append_right _ (List.mem_append_right _ (List.mem_append_right _ (List.mem_append_right _ (List.mem_append_left _ (List.mem_of_getElem? (i := 72) rfl)))))))))))))))
theorem tW663 : (.methodLink R_ZoneNodesLaw 50 y_ZoneNodes_tick : Cond) ∈ TW := (List.mem_append_right _ (List.mem_append_right _ (List.mem_append_right _ (List.mem_append_right _ (List.mem_append_right _ (List.mem_append_right _ (List.mem_append_right _ (List.mem_append_right _ (List.mem_append_right _ (List.mem_append_right _ (List.mem_append_right _ (List.mem_append_right _ (List.mem_append_right _ (List.mem_append_left _ (List.mem_of_getElem? (i := 73) rfl)))))))))))))))
theorem tW665 : (.instanceMethod y_ZoneNodes_tick : Cond) ∈ TW := (List.mem_append_right _ (List.mem_append_right _ (List.mem_append_right _ (List.mem_append_right _ (List.mem_append_right _ (List.mem_append_right _ (List.mem_append_right _ (List.mem_append_right _ (List.mem_append_right _ (List.mem_append_right _ (List.mem_append_right _ (List.mem_append_right _ (List.mem_append_right _ (List.mem_append_left _ (List.mem_of_getElem? (i := 74) rfl)))))))))))))))
theorem tW666 : (.selects R_ZoneNodes y_ZoneNodes_tick y_ZoneNodes_tick : Cond) ∈ TW := (List.mem_append_right _ (List.mem_append_right _ (List.mem_append_right _ (List.mem_append_right _ (List.mem_append_right _ (List.mem_append_right _ (List.mem_append_right _ (List.mem_append_right _ (List.mem_append_right _ (List.mem_append_right _ (List.mem_append_right _ (List.mem_append_right _ (List.mem_append_right _ (List.mem_append_left _ (List.mem_of_getElem? (i := 75) rfl)))))))))))))))
theorem tW667 : (.methodLink R_ZoneNodesLaw 53 y_ZoneNodesModel_tick : Cond) ∈ TW := (List.mem_append_right _ (List.mem_append_right _ (List.mem_append_right _ (List.mem_append_right _ (List.mem_append_right _ (List.mem_append_right _ (List.mem_append_right _ (List.mem_append_right _ (List.mem_append_right _ (List.mem_append_right _ (List.mem_append_right _ (List.mem_append_right _ (List.mem_append_right _ (List.mem_append_left _ (List.mem_of_getElem? (i := 76) rfl)))))))))))))))
theorem tW669 : (.instanceMethod y_ZoneNodesModel_tick : Cond) ∈ TW := (List.mem_append_right _ (List.mem_append_right _ (List.mem_append_right _ (List.mem_append_right _ (List.mem_append_right _ (List.mem_append_right _ (List.mem_append_right _ (List.mem_append_right _ (List.mem_append_right _ (List.mem_append_right _ (List.mem_append_right _ (List.mem_append_right _ (List.mem_append_right _ (List.mem_append_left _ (List.mem_of_getElem? (i := 77) rfl)))))))))))))))
theorem tW670 : (.selects R_ZoneNodesModel y_ZoneNodesModel_tick y_ZoneNodesModel_tick : Cond) ∈ TW := (List.mem_append_right _ (List.mem_append_right _ (List.mem_append_right _ (List.mem_append_right _ (List.mem_append_right _ (List.mem_append_right _ (List.mem_append_right _ (List.mem_append_right _ (List.mem_append_right _ (List.mem_append_right _ (List.mem_append_right _ (List.mem_append_right _ (List.mem_append_right _ (List.mem_append_left _ (List.mem_of_getElem? (i := 78) rfl)))))))))))))))
theorem tW671 : (.methodLink R_ZoneNodesLaw 54 y_ZoneNodes_deliver : Cond) ∈ TW := (List.mem_append_right _ (List.mem_append_right _ (List.mem_append_right _ (List.mem_append_right _ (List.mem_append_right _ (List.mem_append_right _ (List.mem_append_right _ (List.mem_append_right _ (List.mem_append_right _ (List.mem_append_right _ (List.mem_append_right _ (List.mem_append_right _ (List.mem_append_right _ (List.mem_append_left _ (List.mem_of_getElem? (i := 79) rfl)))))))))))))))
theorem tW673 : (.instanceMethod y_ZoneNodes_deliver : Cond) ∈ TW := (List.mem_append_right _ (List.mem_append_right _ (List.mem_append_right _ (List.mem_append_right _ (List.mem_append_right _ (List.mem_append_right _ (List.mem_append_right _ (List.mem_append_right _ (List.mem_append_right _ (List.mem_append_right _ (List.mem_append_right _ (List.mem_append_right _ (List.mem_append_right _ (List.mem_append_left _ (List.mem_of_getElem? (i := 80) rfl)))))))))))))))
theorem tW674 : (.selects R_ZoneNodes y_ZoneNodes_deliver y_ZoneNodes_deliver : Cond) ∈ TW := (List.mem_append_right _ (List.mem_append_right _ (List.mem_append_right _ (List.mem_append_right _ (List.mem_append_right _ (List.mem_append_right _ (List.mem_append_right _ (List.mem_append_right _ (List.mem_append_right _ (List.mem_append_right _ (List.mem_append_right _ (List.mem_append_right _ (List.mem_append_right _ (List.mem_append_left _ (List.mem_of_getElem? (i := 81) rfl)))))))))))))))
theorem tW675 : (.methodLink R_ZoneNodesLaw 57 y_ZoneNodesModel_deliver : Cond) ∈ TW := (List.mem_append_right _ (List.mem_append_right _ (List.mem_append_right _ (List.mem_append_right _ (List.mem_append_right _ (List.mem_append_right _ (List.mem_append_right _ (List.mem_append_right _ (List.mem_append_right _ (List.mem_append_right _ (List.mem_append_right _ (List.mem_append_right _ (List.mem_append_right _ (List.mem_append_left _ (List.mem_of_getElem? (i := 82) rfl)))))))))))))))
theorem tW677 : (.instanceMethod y_ZoneNodesModel_deliver : Cond) ∈ TW := (List.mem_append_right _ (List.mem_append_right _ (List.mem_append_right _ (List.mem_append_right _ (List.mem_append_right _ (List.mem_append_right _ (List.mem_append_right _ (List.mem_append_right _ (List.mem_append_right _ (List.mem_append_right _ (List.mem_append_right _ (List.mem_append_right _ (List.mem_append_right _ (List.mem_append_left _ (List.mem_of_getElem? (i := 83) rfl)))))))))))))))
theorem tW678 : (.selects R_ZoneNodesModel y_ZoneNodesModel_deliver y_ZoneNodesModel_deliver : Cond) ∈ TW := (List.mem_append_right _ (List.mem_append_right _ (List.mem_append_right _ (List.mem_append_right _ (List.mem_append_right _ (List.mem_append_right _ (List.mem_append_right _ (List.mem_append_right _ (List.mem_append_right _ (List.mem_append_right _ (List.mem_append_right _ (List.mem_append_right _ (List.mem_append_right _ (List.mem_append_left _ (List.mem_of_getElem? (i := 84) rfl)))))))))))))))
theorem tW679 : (.methodLink R_ZoneNodesLaw 58 y_ZoneNodes_drop : Cond) ∈ TW := (List.mem_append_right _ (List.mem_append_right _ (List.mem_append_right _ (List.mem_append_right _ (List.mem_append_right _ (List.mem_append_right _ (List.mem_append_right _ (List.mem_append_right _ (List.mem_append_right _ (List.mem_append_right _ (List.mem_append_right _ (List.mem_append_right _ (List.mem_append_right _ (List.mem_append_left _ (List.mem_of_getElem? (i := 85) rfl)))))))))))))))
theorem tW681 : (.instanceMethod y_ZoneNodes_drop : Cond) ∈ TW := (List.mem_append_right _ (List.mem_append_right _ (List.mem_append_right _ (List.mem_append_right _ (List.mem_append_right _ (List.mem_append_right _ (List.mem_append_right _ (List.mem_append_right _ (List.mem_append_right _ (List.mem_append_right _ (List.mem_append_right _ (List.mem_append_right _ (List.mem_append_right _ (List.mem_append_left _ (List.mem_of_getElem? (i := 86) rfl)))))))))))))))
theorem tW682 : (.selects R_ZoneNodes y_ZoneNodes_drop y_ZoneNodes_drop : Cond) ∈ TW := (List.mem_append_right _ (List.mem_append_right _ (List.mem_append_right _ (List.mem_append_right _ (List.mem_append_right _ (List.mem_append_right _ (List.mem_append_right _ (List.mem_append_right _ (List.mem_append_right _ (List.mem_append_right _ (List.mem_append_right _ (List.mem_append_right _ (List.mem_append_right _ (List.mem_append_left _ (List.mem_of_getElem? (i := 87) rfl)))))))))))))))
theorem tW683 : (.methodLink R_ZoneNodesLaw 61 y_ZoneNodesModel_drop : Cond) ∈ TW := (List.mem_append_right _ (List.mem_append_right _ (List.mem_append_right _ (List.mem_append_right _ (List.mem_append_right _ (List.mem_append_right _ (List.mem_append_right _ (List.mem_append_right _ (List.mem_append_right _ (List.mem_append_right _ (List.mem_append_right _ (List.mem_append_right _ (List.mem_append_right _ (List.mem_append_left _ (List.mem_of_getElem? (i := 88) rfl)))))))))))))))
theorem tW685 : (.instanceMethod y_ZoneNodesModel_drop : Cond) ∈ TW := (List.mem_append_right _ (List.mem_append_right _ (List.mem_append_right _ (List.mem_append_right _ (List.mem_append_right _ (List.mem_append_right _ (List.mem_append_right _ (List.mem_append_right _ (List.mem_append_right _ (List.mem_append_right _ (List.mem_append_right _ (List.mem_append_right _ (List.mem_append_right _ (List.mem_append_left _ (List.mem_of_getElem? (i := 89) rfl)))))))))))))))
theorem tW686 : (.selects R_ZoneNodesModel y_ZoneNodesModel_drop y_ZoneNodesModel_drop : Cond) ∈ TW := (List.mem_append_right _ (List.mem_append_right _ (List.mem_append_right _ (List.mem_append_right _ (List.mem_append_right _ (List.mem_append_right _ (List.mem_append_right _ (List.mem_append_right _ (List.mem_append_right _ (List.mem_append_right _ (List.mem_append_right _ (List.mem_append_right _ (List.mem_append_right _ (List.mem_append_left _ (List.mem_of_getElem? (i := 90) rfl)))))))))))))))
theorem tW687 : (.methodLink R_ZoneNodesLaw 62 y_ZoneNodes_alter : Cond) ∈ TW := (List.mem_append_right _ (List.mem_append_right _ (List.mem_append_right _ (List.mem_append_right _ (List.mem_append_right _ (List.mem_append_right _ (List.mem_append_right _ (List.mem_append_right _ (List.mem_append_right _ (List.mem_append_right _ (List.mem_append_right _ (List.mem_append_right _ (List.mem_append_right _ (List.mem_append_left _ (List.mem_of_getElem? (i := 91) rfl)))))))))))))))
theorem tW689 : (.instanceMethod y_ZoneNodes_alter : Cond) ∈ TW := (List.mem_append_right _ (List.mem_append_right _ (List.mem_append_right _ (List.mem_append_right _ (List.mem_append_right _ (List.mem_append_right _ (List.mem_append_right _ (List.mem_append_right _ (List.mem_append_right _ (List.mem_append_right _ (List.mem_append_right _ (List.mem_append_right _ (List.mem_append_right _ (List.mem_append_left _ (List.mem_of_getElem? (i := 92) rfl)))))))))))))))
theorem tW690 : (.selects R_ZoneNodes y_ZoneNodes_alter y_ZoneNodes_alter : Cond) ∈ TW := (List.mem_append_right _ (List.mem_append_right _ (List.mem_append_right _ (List.mem_append_right _ (List.mem_append_right _ (List.mem_append_right _ (List.mem_append_right _ (List.mem_append_right _ (List.mem_append_right _ (List.mem_append_right _ (List.mem_append_right _ (List.mem_append_right _ (List.mem_append_right _ (List.mem_append_left _ (List.mem_of_getElem? (i := 93) rfl)))))))))))))))
theorem tW691 : (.methodLink R_ZoneNodesLaw 65 y_ZoneNodesModel_alter : Cond) ∈ TW := (List.mem_append_right _ (List.mem_append_right _ (List.mem_append_right _ (List.mem_append_right _ (List.mem_append_right _ (List.mem_append_right _ (List.mem_append_right _ (List.mem_append_right _ (List.mem_append_right _ (List.mem_append_right _ (List.mem_append_right _ (List.mem_append_right _ (List.mem_append_right _ (List.mem_append_left _ (List.mem_of_getElem? (i := 94) rfl)))))))))))))))
theorem tW693 : (.instanceMethod y_ZoneNodesModel_alter : Cond) ∈ TW := (List.mem_append_right _ (List.mem_append_right _ (List.mem_append_right _ (List.mem_append_right _ (List.mem_append_right _ (List.mem_append_right _ (List.mem_append_right _ (List.mem_append_right _ (List.mem_append_right _ (List.mem_append_right _ (List.mem_append_right _ (List.mem_append_right _ (List.mem_append_right _ (List.mem_append_left _ (List.mem_of_getElem? (i := 95) rfl)))))))))))))))
theorem tW694 : (.selects R_ZoneNodesModel y_ZoneNodesModel_alter y_ZoneNodesModel_alter : Cond) ∈ TW := (List.mem_append_right _ (List.mem_append_right _ (List.mem_append_right _ (List.mem_append_right _ (List.mem_append_right _ (List.mem_append_right _ (List.mem_append_right _ (List.mem_append_right _ (List.mem_append_right _ (List.mem_append_right _ (List.mem_append_right _ (List.mem_append_right _ (List.mem_append_right _ (List.mem_append_left _ (List.mem_of_getElem? (i := 96) rfl)))))))))))))))
theorem tW695 : (.methodLink R_ZoneNodesLaw 66 y_ZoneNodes_crash : Cond) ∈ TW := (List.mem_append_right _ (List.mem_append_right _ (List.mem_append_right _ (List.mem_append_right _ (List.mem_append_right _ (List.mem_append_right _ (List.mem_append_right _ (List.mem_append_right _ (List.mem_append_right _ (List.mem_append_right _ (List.mem_append_right _ (List.mem_append_right _ (List.mem_append_right _ (List.mem_append_left _ (List.mem_of_getElem? (i := 97) rfl)))))))))))))))
theorem tW697 : (.instanceMethod y_ZoneNodes_crash : Cond) ∈ TW := (List.mem_append_right _ (List.mem_append_right _ (List.mem_append_right _ (List.mem_append_right _ (List.mem_append_right _ (List.mem_append_right _ (List.mem_append_right _ (List.mem_append_right _ (List.mem_append_right _ (List.mem_append_right _ (List.mem_append_right _ (List.mem_append_right _ (List.mem_append_right _ (List.mem_append_left _ (List.mem_of_getElem? (i := 98) rfl)))))))))))))))
theorem tW698 : (.selects R_ZoneNodes y_ZoneNodes_crash y_ZoneNodes_crash : Cond) ∈ TW := (List.mem_append_right _ (List.mem_append_right _ (List.mem_append_right _ (List.mem_append_right _ (List.mem_append_right _ (List.mem_append_right _ (List.mem_append_right _ (List.mem_append_right _ (List.mem_append_right _ (List.mem_append_right _ (List.mem_append_right _ (List.mem_append_right _ (List.mem_append_right _ (List.mem_append_left _ (List.mem_of_getElem? (i := 99) rfl)))))))))))))))
theorem tW699 : (.methodLink R_ZoneNodesLaw 69 y_ZoneNodesModel_crash : Cond) ∈ TW := (List.mem_append_right _ (List.mem_append_right _ (List.mem_append_right _ (List.mem_append_right _ (List.mem_append_right _ (List.mem_append_right _ (List.mem_append_right _ (List.mem_append_right _ (List.mem_append_right _ (List.mem_append_right _ (List.mem_append_right _ (List.mem_append_right _ (List.mem_append_right _ (List.mem_append_left _ (List.mem_of_getElem? (i := 100) rfl)))))))))))))))
theorem tW700 : (.methodLink R_ZoneNodesLaw 70 y_ZoneNodes_restart : Cond) ∈ TW := (List.mem_append_right _ (List.mem_append_right _ (List.mem_append_right _ (List.mem_append_right _ (List.mem_append_right _ (List.mem_append_right _ (List.mem_append_right _ (List.mem_append_right _ (List.mem_append_right _ (List.mem_append_right _ (List.mem_append_right _ (List.mem_append_right _ (List.mem_append_right _ (List.mem_append_left _ (List.mem_of_getElem? (i := 101) rfl)))))))))))))))
theorem tW702 : (.instanceMethod y_ZoneNodes_restart : Cond) ∈ TW := (List.mem_append_right _ (List.mem_append_right _ (List.mem_append_right _ (List.mem_append_right _ (List.mem_append_right _ (List.mem_append_right _ (List.mem_append_right _ (List.mem_append_right _ (List.mem_append_right _ (List.mem_append_right _ (List.mem_append_right _ (List.mem_append_right _ (List.mem_append_right _ (List.mem_append_left _ (List.mem_of_getElem? (i := 102) rfl)))))))))))))))
theorem tW703 : (.selects R_ZoneNodes y_ZoneNodes_restart y_ZoneNodes_restart : Cond) ∈ TW := (List.mem_append_right _ (List.mem_append_right _ (List.mem_append_right _ (List.mem_append_right _ (List.mem_append_right _ (List.mem_append_right _ (List.mem_append_right _ (List.mem_append_right _ (List.mem_append_right _ (List.mem_append_right _ (List.mem_append_right _ (List.mem_append_right _ (List.mem_append_right _ (List.mem_append_left _ (List.mem_of_getElem? (i := 103) rfl)))))))))))))))
theorem tW704 : (.methodLink R_ZoneNodesLaw 73 y_ZoneNodesModel_restart : Cond) ∈ TW := (List.mem_append_right _ (List.mem_append_right _ (List.mem_append_right _ (List.mem_append_right _ (List.mem_append_right _ (List.mem_append_right _ (List.mem_append_right _ (List.mem_append_right _ (List.mem_append_right _ (List.mem_append_right _ (List.mem_append_right _ (List.mem_append_right _ (List.mem_append_right _ (List.mem_append_left _ (List.mem_of_getElem? (i := 104) rfl)))))))))))))))
theorem tW706 : (.instanceMethod y_ZoneNodesModel_restart : Cond) ∈ TW := (List.mem_append_right _ (List.mem_append_right _ (List.mem_append_right _ (List.mem_append_right _ (List.mem_append_right _ (List.mem_append_right _ (List.mem_append_right _ (List.mem_append_right _ (List.mem_append_right _ (List.mem_append_right _ (List.mem_append_right _ (List.mem_append_right _ (List.mem_append_right _ (List.mem_append_left _ (List.mem_of_getElem? (i := 105) rfl)))))))))))))))
theorem tW707 : (.selects R_ZoneNodesModel y_ZoneNodesModel_restart y_ZoneNodesModel_restart : Cond) ∈ TW := (List.mem_append_right _ (List.mem_append_right _ (List.mem_append_right _ (List.mem_append_right _ (List.mem_append_right _ (List.mem_append_right _ (List.mem_append_right _ (List.mem_append_right _ (List.mem_append_right _ (List.mem_append_right _ (List.mem_append_right _ (List.mem_append_right _ (List.mem_append_right _ (List.mem_append_left _ (List.mem_of_getElem? (i := 106) rfl)))))))))))))))
theorem tW708 : (.methodLink R_ZoneNodesLaw 74 y_ZoneNodes_messages : Cond) ∈ TW := (List.mem_append_right _ (List.mem_append_right _ (List.mem_append_right _ (List.mem_append_right _ (List.mem_append_right _ (List.mem_append_right _ (List.mem_append_right _ (List.mem_append_right _ (List.mem_append_right _ (List.mem_append_right _ (List.mem_append_right _ (List.mem_append_right _ (List.mem_append_right _ (List.mem_append_left _ (List.mem_of_getElem? (i := 107) rfl)))))))))))))))
theorem tW710 : (.instanceMethod y_ZoneNodes_messages : Cond) ∈ TW := (List.mem_append_right _ (List.mem_append_right _ (List.mem_append_right _ (List.mem_append_right _ (List.mem_append_right _ (List.mem_append_right _ (List.mem_append_right _ (List.mem_append_right _ (List.mem_append_right _ (List.mem_append_right _ (List.mem_append_right _ (List.mem_append_right _ (List.mem_append_right _ (List.mem_append_left _ (List.mem_of_getElem? (i := 108) rfl)))))))))))))))
theorem tW711 : (.selects R_ZoneNodes y_ZoneNodes_messages y_ZoneNodes_messages : Cond) ∈ TW := (List.mem_append_right _ (List.mem_append_right _ (List.mem_append_right _ (List.mem_append_right _ (List.mem_append_right _ (List.mem_append_right _ (List.mem_append_right _ (List.mem_append_right _ (List.mem_append_right _ (List.mem_append_right _ (List.mem_append_right _ (List.mem_append_right _ (List.mem_append_right _ (List.mem_append_left _ (List.mem_of_getElem? (i := 109) rfl)))))))))))))))
theorem tW712 : (.methodLink R_ZoneNodesLaw 78 y_ZoneNodesModel_messages : Cond) ∈ TW := (List.mem_append_right _ (List.mem_append_right _ (List.mem_append_right _ (List.mem_append_right _ (List.mem_append_right _ (List.mem_append_right _ (List.mem_append_right _ (List.mem_append_right _ (List.mem_append_right _ (List.mem_append_right _ (List.mem_append_right _ (List.mem_append_right _ (List.mem_append_right _ (List.mem_append_left _ (List.mem_of_getElem? (i := 110) rfl)))))))))))))))
theorem tW714 : (.instanceMethod y_ZoneNodesModel_messages : Cond) ∈ TW := (List.mem_append_right _ (List.mem_append_right _ (List.mem_append_right _ (List.mem_append_right _ (List.mem_append_right _ (List.mem_append_right _ (List.mem_append_right _ (List.mem_append_right _ (List.mem_append_right _ (List.mem_append_right _ (List.mem_append_right _ (List.mem_append_right _ (List.mem_append_right _ (List.mem_append_left _ (List.mem_of_getElem? (i := 111) rfl)))))))))))))))
theorem tW715 : (.selects R_ZoneNodesModel y_ZoneNodesModel_messages y_ZoneNodesModel_messages : Cond) ∈ TW := (List.mem_append_right _ (List.mem_append_right _ (List.mem_append_right _ (List.mem_append_right _ (List.mem_append_right _ (List.mem_append_right _ (List.mem_append_right _ (List.mem_append_right _ (List.mem_append_right _ (List.mem_append_right _ (List.mem_append_right _ (List.mem_append_right _ (List.mem_append_right _ (List.mem_append_left _ (List.mem_of_getElem? (i := 112) rfl)))))))))))))))
theorem tW716 : (.methodLink R_ZoneNodesLaw 79 y_ZoneNodes_message : Cond) ∈ TW := (List.mem_append_right _ (List.mem_append_right _ (List.mem_append_right _ (List.mem_append_right _ (List.mem_append_right _ (List.mem_append_right _ (List.mem_append_right _ (List.mem_append_right _ (List.mem_append_right _ (List.mem_append_right _ (List.mem_append_right _ (List.mem_append_right _ (List.mem_append_right _ (List.mem_append_left _ (List.mem_of_getElem? (i := 113) rfl)))))))))))))))
theorem tW718 : (.instanceMethod y_ZoneNodes_message : Cond) ∈ TW := (List.mem_append_right _ (List.mem_append_right _ (List.mem_append_right _ (List.mem_append_right _ (List.mem_append_right _ (List.mem_append_right _ (List.mem_append_right _ (List.mem_append_right _ (List.mem_append_right _ (List.mem_append_right _ (List.mem_append_right _ (List.mem_append_right _ (List.mem_append_right _ (List.mem_append_left _ (List.mem_of_getElem? (i := 114) rfl)))))))))))))))
theorem tW719 : (.selects R_ZoneNodes y_ZoneNodes_message y_ZoneNodes_message : Cond) ∈ TW := (List.mem_append_right _ (List.mem_append_right _ (List.mem_append_right _ (List.mem_append_right _ (List.mem_append_right _ (List.mem_append_right _ (List.mem_append_right _ (List.mem_append_right _ (List.mem_append_right _ (List.mem_append_right _ (List.mem_append_right _ (List.mem_append_right _ (List.mem_append_right _ (List.mem_append_left _ (List.mem_of_getElem? (i := 115) rfl)))))))))))))))
theorem tW720 : (.methodLink R_ZoneNodesLaw 83 y_ZoneNodesModel_message : Cond) ∈ TW := (List.mem_append_right _ (List.mem_append_right _ (List.mem_append_right _ (List.mem_append_right _ (List.mem_append_right _ (List.mem_append_right _ (List.mem_append_right _ (List.mem_append_right _ (List.mem_append_right _ (List.mem_append_right _ (List.mem_append_right _ (List.mem_append_right _ (List.mem_append_right _ (List.mem_append_left _ (List.mem_of_getElem? (i := 116) rfl)))))))))))))))
theorem tW722 : (.instanceMethod y_ZoneNodesModel_message : Cond) ∈ TW := (List.mem_append_right _ (List.mem_append_right _ (List.mem_append_right _ (List.mem_append_right _ (List.mem_append_right _ (List.mem_append_right _ (List.mem_append_right _ (List.mem_append_right _ (List.mem_append_right _ (List.mem_append_right _ (List.mem_append_right _ (List.mem_append_right _ (List.mem_append_right _ (List.mem_append_left _ (List.mem_of_getElem? (i := 117) rfl)))))))))))))))
theorem tW723 : (.selects R_ZoneNodesModel y_ZoneNodesModel_message y_ZoneNodesModel_message : Cond) ∈ TW := (List.mem_append_right _ (List.mem_append_right _ (List.mem_append_right _ (List.mem_append_right _ (List.mem_append_right _ (List.mem_append_right _ (List.mem_append_right _ (List.mem_append_right _ (List.mem_append_right _ (List.mem_append_right _ (List.mem_append_right _ (List.mem_append_right _ (List.mem_append_right _ (List.mem_append_left _ (List.mem_of_getElem? (i := 118) rfl)))))))))))))))
theorem tW724 : (.methodLink R_ZoneNodesLaw 84 y_ZoneNodes_serial : Cond) ∈ TW := (List.mem_append_right _ (List.mem_append_right _ (List.mem_append_right _ (List.mem_append_right _ (List.mem_append_right _ (List.mem_append_right _ (List.mem_append_right _ (List.mem_append_right _ (List.mem_append_right _ (List.mem_append_right _ (List.mem_append_right _ (List.mem_append_right _ (List.mem_append_right _ (List.mem_append_left _ (List.mem_of_getElem? (i := 119) rfl)))))))))))))))
theorem tW726 : (.instanceMethod y_ZoneNodes_serial : Cond) ∈ TW := (List.mem_append_right _ (List.mem_append_right _ (List.mem_append_right _ (List.mem_append_right _ (List.mem_append_right _ (List.mem_append_right _ (List.mem_append_right _ (List.mem_append_right _ (List.mem_append_right _ (List.mem_append_right _ (List.mem_append_right _ (List.mem_append_right _ (List.mem_append_right _ (List.mem_append_left _ (List.mem_of_getElem? (i := 120) rfl)))))))))))))))
theorem tW727 : (.selects R_ZoneNodes y_ZoneNodes_serial y_ZoneNodes_serial : Cond) ∈ TW := (List.mem_append_right _ (List.mem_append_right _ (List.mem_append_right _ (List.mem_append_right _ (List.mem_append_right _ (List.mem_append_right _ (List.mem_append_right _ (List.mem_append_right _ (List.mem_append_right _ (List.mem_append_right _ (List.mem_append_right _ (List.mem_append_right _ (List.mem_append_right _ (List.mem_append_left _ (List.mem_of_getElem? (i := 121) rfl)))))))))))))))
theorem tW728 : (.methodLink R_ZoneNodesLaw 87 y_ZoneNodesModel_serial : Cond) ∈ TW := (List.mem_append_right _ (List.mem_append_right _ (List.mem_append_right _ (List.mem_append_right _ (List.mem_append_right _ (List.mem_append_right _ (List.mem_append_right _ (List.mem_append_right _ (List.mem_append_right _ (List.mem_append_right _ (List.mem_append_right _ (List.mem_append_right _ (List.mem_append_right _ (List.mem_append_left _ (List.mem_of_getElem? (i := 122) rfl)))))))))))))))
theorem tW730 : (.instanceMethod y_ZoneNodesModel_serial : Cond) ∈ TW := (List.mem_append_right _ (List.mem_append_right _ (List.mem_append_right _ (List.mem_append_right _ (List.mem_append_right _ (List.mem_append_right _ (List.mem_append_right _ (List.mem_append_right _ (List.mem_append_right _ (List.mem_append_right _ (List.mem_append_right _ (List.mem_append_right _ (List.mem_append_right _ (List.mem_append_left _ (List.mem_of_getElem? (i := 123) rfl)))))))))))))))
theorem tW731 : (.selects R_ZoneNodesModel y_ZoneNodesModel_serial y_ZoneNodesModel_serial : Cond) ∈ TW := (List.mem_append_right _ (List.mem_append_right _ (List.mem_append_right _ (List.mem_append_right _ (List.mem_append_right _ (List.mem_append_right _ (List.mem_append_right _ (List.mem_append_right _ (List.mem_append_right _ (List.mem_append_right _ (List.mem_append_right _ (List.mem_append_right _ (List.mem_append_right _ (List.mem_append_left _ (List.mem_of_getElem? (i := 124) rfl)))))))))))))))
theorem tW732 : (.methodLink R_ZoneNodesLaw 88 y_ZoneNodes_size : Cond) ∈ TW := (List.mem_append_right _ (List.mem_append_right _ (List.mem_append_right _ (List.mem_append_right _ (List.mem_append_right _ (List.mem_append_right _ (List.mem_append_right _ (List.mem_append_right _ (List.mem_append_right _ (List.mem_append_right _ (List.mem_append_right _ (List.mem_append_right _ (List.mem_append_right _ (List.mem_append_left _ (List.mem_of_getElem? (i := 125) rfl)))))))))))))))
theorem tW734 : (.instanceMethod y_ZoneNodes_size : Cond) ∈ TW := (List.mem_append_right _ (List.mem_append_right _ (List.mem_append_right _ (List.mem_append_right _ (List.mem_append_right _ (List.mem_append_right _ (List.mem_append_right _ (List.mem_append_right _ (List.mem_append_right _ (List.mem_append_right _ (List.mem_append_right _ (List.mem_append_right _ (List.mem_append_right _ (List.mem_append_left _ (List.mem_of_getElem? (i := 126) rfl)))))))))))))))
theorem tW735 : (.selects R_ZoneNodes y_ZoneNodes_size y_ZoneNodes_size : Cond) ∈ TW := (List.mem_append_right _ (List.mem_append_right _ (List.mem_append_right _ (List.mem_append_right _ (List.mem_append_right _ (List.mem_append_right _ (List.mem_append_right _ (List.mem_append_right _ (List.mem_append_right _ (List.mem_append_right _ (List.mem_append_right _ (List.mem_append_right _ (List.mem_append_right _ (List.mem_append_left _ (List.mem_of_getElem? (i := 127) rfl)))))))))))))))
theorem tW736 : (.methodLink R_ZoneNodesLaw 91 y_ZoneNodesModel_size : Cond) ∈ TW := (List.mem_append_right _ (List.mem_append_right _ (List.mem_append_right _ (List.mem_append_right _ (List.mem_append_right _ (List.mem_append_right _ (List.mem_append_right _ (List.mem_append_right _ (List.mem_append_right _ (List.mem_append_right _ (List.mem_append_right _ (List.mem_append_right _ (List.mem_append_right _ (List.mem_append_left _ (List.mem_of_getElem? (i := 128) rfl)))))))))))))))
theorem tW738 : (.instanceMethod y_ZoneNodesModel_size : Cond) ∈ TW := (List.mem_append_right _ (List.mem_append_right _ (List.mem_append_right _ (List.mem_append_right _ (List.mem_append_right _ (List.mem_append_right _ (List.mem_append_right _ (List.mem_append_right _ (List.mem_append_right _ (List.mem_append_right _ (List.mem_append_right _ (List.mem_append_right _ (List.mem_append_right _ (List.mem_append_left _ (List.mem_of_getElem? (i := 129) rfl)))))))))))))))
theorem tW739 : (.selects R_ZoneNodesModel y_ZoneNodesModel_size y_ZoneNodesModel_size : Cond) ∈ TW := (List.mem_append_right _ (List.mem_append_right _ (List.mem_append_right _ (List.mem_append_right _ (List.mem_append_right _ (List.mem_append_right _ (List.mem_append_right _ (List.mem_append_right _ (List.mem_append_right _ (List.mem_append_right _ (List.mem_append_right _ (List.mem_append_right _ (List.mem_append_right _ (List.mem_append_left _ (List.mem_of_getElem? (i := 130) rfl)))))))))))))))
theorem tW740 : (.methodLink R_ZoneNodesLaw 92 y_ZoneNodes_has : Cond) ∈ TW := (List.mem_append_right _ (List.mem_append_right _ (List.mem_append_right _ (List.mem_append_right _ (List.mem_append_right _ (List.mem_append_right _ (List.mem_append_right _ (List.mem_append_right _ (List.mem_append_right _ (List.mem_append_right _ (List.mem_append_right _ (List.mem_append_right _ (List.mem_append_right _ (List.mem_append_left _ (List.mem_of_getElem? (i := 131) rfl)))))))))))))))
theorem tW742 : (.instanceMethod y_ZoneNodes_has : Cond) ∈ TW := (List.mem_append_right _ (List.mem_append_right _ (List.mem_append_right _ (List.mem_append_right _ (List.mem_append_right _ (List.mem_append_right _ (List.mem_append_right _ (List.mem_append_right _ (List.mem_append_right _ (List.mem_append_right _ (List.mem_append_right _ (List.mem_append_right _ (List.mem_append_right _ (List.mem_append_left _ (List.mem_of_getElem? (i := 132) rfl)))))))))))))))
theorem tW743 : (.selects R_ZoneNodes y_ZoneNodes_has y_ZoneNodes_has : Cond) ∈ TW := (List.mem_append_right _ (List.mem_append_right _ (List.mem_append_right _ (List.mem_append_right _ (List.mem_append_right _ (List.mem_append_right _ (List.mem_append_right _ (List.mem_append_right _ (List.mem_append_right _ (List.mem_append_right _ (List.mem_append_right _ (List.mem_append_right _ (List.mem_append_right _ (List.mem_append_left _ (List.mem_of_getElem? (i := 133) rfl)))))))))))))))
theorem tW744 : (.methodLink R_ZoneNodesLaw 95 y_ZoneNodesModel_has : Cond) ∈ TW := (List.mem_append_right _ (List.mem_append_right _ (List.mem_append_right _ (List.mem_append_right _ (List.mem_append_right _ (List.mem_append_right _ (List.mem_append_right _ (List.mem_append_right _ (List.mem_append_right _ (List.mem_append_right _ (List.mem_append_right _ (List.mem_append_right _ (List.mem_append_right _ (List.mem_append_left _ (List.mem_of_getElem? (i := 134) rfl)))))))))))))))
theorem tW746 : (.instanceMethod y_ZoneNodesModel_has : Cond) ∈ TW := (List.mem_append_right _ (List.mem_append_right _ (List.mem_append_right _ (List.mem_append_right _ (List.mem_append_right _ (List.mem_append_right _ (List.mem_append_right _ (List.mem_append_right _ (List.mem_append_right _ (List.mem_append_right _ (List.mem_append_right _ (List.mem_append_right _ (List.mem_append_right _ (List.mem_append_left _ (List.mem_of_getElem? (i := 135) rfl)))))))))))))))
theorem tW747 : (.selects R_ZoneNodesModel y_ZoneNodesModel_has y_ZoneNodesModel_has : Cond) ∈ TW := (List.mem_append_right _ (List.mem_append_right _ (List.mem_append_right _ (List.mem_append_right _ (List.mem_append_right _ (List.mem_append_right _ (List.mem_append_right _ (List.mem_append_right _ (List.mem_append_right _ (List.mem_append_right _ (List.mem_append_right _ (List.mem_append_right _ (List.mem_append_right _ (List.mem_append_left _ (List.mem_of_getElem? (i := 136) rfl)))))))))))))))
theorem tW748 : (.methodLink R_ZoneNodesLaw 96 y_ZoneNodes_query : Cond) ∈ TW := (List.mem_append_right _ (List.mem_append_right _ (List.mem_append_right _ (List.mem_append_right _ (List.mem_append_right _ (List.mem_append_right _ (List.mem_append_right _ (List.mem_append_right _ (List.mem_append_right _ (List.mem_append_right _ (List.mem_append_right _ (List.mem_append_right _ (List.mem_append_right _ (List.mem_append_left _ (List.mem_of_getElem? (i := 137) rfl)))))))))))))))
theorem tW750 : (.instanceMethod y_ZoneNodes_query : Cond) ∈ TW := (List.mem_append_right _ (List.mem_append_right _ (List.mem_append_right _ (List.mem_append_right _ (List.mem_append_right _ (List.mem_append_right _ (List.mem_append_right _ (List.mem_append_right _ (List.mem_append_right _ (List.mem_append_right _ (List.mem_append_right _ (List.mem_append_right _ (List.mem_append_right _ (List.mem_append_left _ (List.mem_of_getElem? (i := 138) rfl)))))))))))))))
theorem tW751 : (.selects R_ZoneNodes y_ZoneNodes_query y_ZoneNodes_query : Cond) ∈ TW := (List.mem_append_right _ (List.mem_append_right _ (List.mem_append_right _ (List.mem_append_right _ (List.mem_append_right _ (List.mem_append_right _ (List.mem_append_right _ (List.mem_append_right _ (List.mem_append_right _ (List.mem_append_right _ (List.mem_append_right _ (List.mem_append_right _ (List.mem_append_right _ (List.mem_append_left _ (List.mem_of_getElem? (i := 139) rfl)))))))))))))))
theorem tW752 : (.methodLink R_ZoneNodesLaw 99 y_ZoneNodesModel_query : Cond) ∈ TW := (List.mem_append_right _ (List.mem_append_right _ (List.mem_append_right _ (List.mem_append_right _ (List.mem_append_right _ (List.mem_append_right _ (List.mem_append_right _ (List.mem_append_right _ (List.mem_append_right _ (List.mem_append_right _ (List.mem_append_right _ (List.mem_append_right _ (List.mem_append_right _ (List.mem_append_left _ (List.mem_of_getElem? (i := 140) rfl)))))))))))))))
theorem tW754 : (.instanceMethod y_ZoneNodesModel_query : Cond) ∈ TW := (List.mem_append_right _ (List.mem_append_right _ (List.mem_append_right _ (List.mem_append_right _ (List.mem_append_right _ (List.mem_append_right _ (List.mem_append_right _ (List.mem_append_right _ (List.mem_append_right _ (List.mem_append_right _ (List.mem_append_right _ (List.mem_append_right _ (List.mem_append_right _ (List.mem_append_left _ (List.mem_of_getElem? (i := 141) rfl)))))))))))))))
theorem tW755 : (.selects R_ZoneNodesModel y_ZoneNodesModel_query y_ZoneNodesModel_query : Cond) ∈ TW := (List.mem_append_right _ (List.mem_append_right _ (List.mem_append_right _ (List.mem_append_right _ (List.mem_append_right _ (List.mem_append_right _ (List.mem_append_right _ (List.mem_append_right _ (List.mem_append_right _ (List.mem_append_right _ (List.mem_append_right _ (List.mem_append_right _ (List.mem_append_right _ (List.mem_append_left _ (List.mem_of_getElem? (i := 142) rfl)))))))))))))))
theorem tW756 : (.methodLink R_ZoneNodesLaw 100 y_ZoneNodes_state : Cond) ∈ TW := (List.mem_append_right _ (List.mem_append_right _ (List.mem_append_right _ (List.mem_append_right _ (List.mem_append_right _ (List.mem_append_right _ (List.mem_append_right _ (List.mem_append_right _ (List.mem_append_right _ (List.mem_append_right _ (List.mem_append_right _ (List.mem_append_right _ (List.mem_append_right _ (List.mem_append_left _ (List.mem_of_getElem? (i := 143) rfl)))))))))))))))
theorem tW758 : (.instanceMethod y_ZoneNodes_state : Cond) ∈ TW := (List.mem_append_right _ (List.mem_append_right _ (List.mem_append_right _ (List.mem_append_right _ (List.mem_append_right _ (List.mem_append_right _ (List.mem_append_right _ (List.mem_append_right _ (List.mem_append_right _ (List.mem_append_right _ (List.mem_append_right _ (List.mem_append_right _ (List.mem_append_right _ (List.mem_append_left _ (List.mem_of_getElem? (i := 144) rfl)))))))))))))))
theorem tW759 : (.selects R_ZoneNodes y_ZoneNodes_state y_ZoneNodes_state : Cond) ∈ TW := (List.mem_append_right _ (List.mem_append_right _ (List.mem_append_right _ (List.mem_append_right _ (List.mem_append_right _ (List.mem_append_right _ (List.mem_append_right _ (List.mem_append_right _ (List.mem_append_right _ (List.mem_append_right _ (List.mem_append_right _ (List.mem_append_right _ (List.mem_append_right _ (List.mem_append_left _ (List.mem_of_getElem? (i := 145) rfl)))))))))))))))
theorem tW760 : (.methodLink R_ZoneNodesLaw 103 y_ZoneNodesModel_state : Cond) ∈ TW := (List.mem_append_right _ (List.mem_append_right _ (List.mem_append_right _ (List.mem_append_right _ (List.mem_append_right _ (List.mem_append_right _ (List.mem_append_right _ (List.mem_append_right _ (List.mem_append_right _ (List.mem_append_right _ (List.mem_append_right _ (List.mem_append_right _ (List.mem_append_right _ (List.mem_append_left _ (List.mem_of_getElem? (i := 146) rfl)))))))))))))))
theorem tW762 : (.instanceMethod y_ZoneNodesModel_state : Cond) ∈ TW := (List.mem_append_right _ (List.mem_append_right _ (List.mem_append_right _ (List.mem_append_right _ (List.mem_append_right _ (List.mem_append_right _ (List.mem_append_right _ (List.mem_append_right _ (List.mem_append_right _ (List.mem_append_right _ (List.mem_append_right _ (List.mem_append_right _ (List.mem_append_right _ (List.mem_append_left _ (List.mem_of_getElem? (i := 147) rfl)))))))))))))))
theorem tW763 : (.selects R_ZoneNodesModel y_ZoneNodesModel_state y_ZoneNodesModel_state : Cond) ∈ TW := (List.mem_append_right _ (List.mem_append_right _ (List.mem_append_right _ (List.mem_append_right _ (List.mem_append_right _ (List.mem_append_right _ (List.mem_append_right _ (List.mem_append_right _ (List.mem_append_right _ (List.mem_append_right _ (List.mem_append_right _ (List.mem_append_right _ (List.mem_append_right _ (List.mem_append_left _ (List.mem_of_getElem? (i := 148) rfl)))))))))))))))
theorem tW764 : (.methodLink R_ZoneNodesLaw 104 y_ZoneNodes_journal : Cond) ∈ TW := (List.mem_append_right _ (List.mem_append_right _ (List.mem_append_right _ (List.mem_append_right _ (List.mem_append_right _ (List.mem_append_right _ (List.mem_append_right _ (List.mem_append_right _ (List.mem_append_right _ (List.mem_append_right _ (List.mem_append_right _ (List.mem_append_right _ (List.mem_append_right _ (List.mem_append_left _ (List.mem_of_getElem? (i := 149) rfl)))))))))))))))
theorem tW766 : (.instanceMethod y_ZoneNodes_journal : Cond) ∈ TW := (List.mem_append_right _ (List.mem_append_right _ (List.mem_append_right _ (List.mem_append_right _ (List.mem_append_right _ (List.mem_append_right _ (List.mem_append_right _ (List.mem_append_right _ (List.mem_append_right _ (List.mem_append_right _ (List.mem_append_right _ (List.mem_append_right _ (List.mem_append_right _ (List.mem_append_right _ (List.mem_append_left _ (List.mem_of_getElem? (i := 0) rfl))))))))))))))))
theorem tW767 : (.selects R_ZoneNodes y_ZoneNodes_journal y_ZoneNodes_journal : Cond) ∈ TW := (List.mem_append_right _ (List.mem_append_right _ (List.mem_append_right _ (List.mem_append_right _ (List.mem_append_right _ (List.mem_append_right _ (List.mem_append_right _ (List.mem_append_right _ (List.mem_append_right _ (List.mem_append_right _ (List.mem_append_right _ (List.mem_append_right _ (List.mem_append_right _ (List.mem_append_right _ (List.mem_append_left _ (List.mem_of_getElem? (i := 1) rfl))))))))))))))))
theorem tW768 : (.methodLink R_ZoneNodesLaw 107 y_ZoneNodesModel_journal : Cond) ∈ TW := (List.mem_append_right _ (List.mem_append_right _ (List.mem_append_right _ (List.mem_append_right _ (List.mem_append_right _ (List.mem_append_right _ (List.mem_append_right _ (List.mem_append_right _ (List.mem_append_right _ (List.mem_append_right _ (List.mem_append_right _ (List.mem_append_right _ (List.mem_append_right _ (List.mem_append_right _ (List.mem_append_left _ (List.mem_of_getElem? (i := 2) rfl))))))))))))))))
theorem tW770 : (.instanceMethod y_ZoneNodesModel_journal : Cond) ∈ TW := (List.mem_append_right _ (List.mem_append_right _ (List.mem_append_right _ (List.mem_append_right _ (List.mem_append_right _ (List.mem_append_right _ (List.mem_append_right _ (List.mem_append_right _ (List.mem_append_right _ (List.mem_append_right _ (List.mem_append_right _ (List.mem_append_right _ (List.mem_append_right _ (List.mem_append_right _ (List.mem_append_left _ (List.mem_of_getElem? (i := 3) rfl))))))))))))))))
theorem tW771 : (.selects R_ZoneNodesModel y_ZoneNodesModel_journal y_ZoneNodesModel_journal : Cond) ∈ TW := (List.mem_append_right _ (List.mem_append_right _ (List.mem_append_right _ (List.mem_append_right _ (List.mem_append_right _ (List.mem_append_right _ (List.mem_append_right _ (List.mem_append_right _ (List.mem_append_right _ (List.mem_append_right _ (List.mem_append_right _ (List.mem_append_right _ (List.mem_append_right _ (List.mem_append_right _ (List.mem_append_left _ (List.mem_of_getElem? (i := 4) rfl))))))))))))))))
theorem tW2 : (.code objectInit ⟨#[0xb1]⟩ 1 none : Cond) ∈ TW := (List.mem_append_right _ (List.mem_append_right _ (List.mem_append_right _ (List.mem_append_right _ (List.mem_append_right _ (List.mem_append_right _ (List.mem_append_right _ (List.mem_append_right _ (List.mem_append_right _ (List.mem_append_right _ (List.mem_append_right _ (List.mem_append_right _ (List.mem_append_right _ (List.mem_append_right _ (List.mem_append_right _ (List.mem_append_left _ (List.mem_of_getElem? (i := 0) rfl)))))))))))))))))
theorem tW12 : (.code y_Records_init b_Records_init 1 none : Cond) ∈ TW := (List.mem_append_right _ (List.mem_append_right _ (List.mem_append_right _ (List.mem_append_right _ (List.mem_append_right _ (List.mem_append_right _ (List.mem_append_right _ (List.mem_append_right _ (List.mem_append_right _ (List.mem_append_right _ (List.mem_append_right _ (List.mem_append_right _ (List.mem_append_right _ (List.mem_append_right _ (List.mem_append_right _ (List.mem_append_left _ (List.mem_of_getElem? (i := 1) rfl)))))))))))))))))
theorem tW21 : (.code y_Entry_init b_Entry_init 1 none : Cond) ∈ TW := (List.mem_append_right _ (List.mem_append_right _ (List.mem_append_right _ (List.mem_append_right _ (List.mem_append_right _ (List.mem_append_right _ (List.mem_append_right _ (List.mem_append_right _ (List.mem_append_right _ (List.mem_append_right _ (List.mem_append_right _ (List.mem_append_right _ (List.mem_append_right _ (List.mem_append_right _ (List.mem_append_right _ (List.mem_append_left _ (List.mem_of_getElem? (i := 2) rfl)))))))))))))))))
theorem tW24 : (.code y_Records_valuesOf b_Records_valuesOf 3 (some .int) : Cond) ∈ TW := (List.mem_append_right _ (List.mem_append_right _ (List.mem_append_right _ (List.mem_append_right _ (List.mem_append_right _ (List.mem_append_right _ (List.mem_append_right _ (List.mem_append_right _ (List.mem_append_right _ (List.mem_append_right _ (List.mem_append_right _ (List.mem_append_right _ (List.mem_append_right _ (List.mem_append_right _ (List.mem_append_right _ (List.mem_append_left _ (List.mem_of_getElem? (i := 3) rfl)))))))))))))))))
theorem tW28 : (.code y_Records_setValues b_Records_setValues 4 none : Cond) ∈ TW := (List.mem_append_right _ (List.mem_append_right _ (List.mem_append_right _ (List.mem_append_right _ (List.mem_append_right _ (List.mem_append_right _ (List.mem_append_right _ (List.mem_append_right _ (List.mem_append_right _ (List.mem_append_right _ (List.mem_append_right _ (List.mem_append_right _ (List.mem_append_right _ (List.mem_append_right _ (List.mem_append_right _ (List.mem_append_left _ (List.mem_of_getElem? (i := 4) rfl)))))))))))))))))
theorem tW39 : (.code y_Journal_init b_Journal_init 2 none : Cond) ∈ TW := (List.mem_append_right _ (List.mem_append_right _ (List.mem_append_right _ (List.mem_append_right _ (List.mem_append_right _ (List.mem_append_right _ (List.mem_append_right _ (List.mem_append_right _ (List.mem_append_right _ (List.mem_append_right _ (List.mem_append_right _ (List.mem_append_right _ (List.mem_append_right _ (List.mem_append_right _ (List.mem_append_right _ (List.mem_append_left _ (List.mem_of_getElem? (i := 5) rfl)))))))))))))))))
theorem tW46 : (.code y_Records_put b_Records_put 4 none : Cond) ∈ TW := (List.mem_append_right _ (List.mem_append_right _ (List.mem_append_right _ (List.mem_append_right _ (List.mem_append_right _ (List.mem_append_right _ (List.mem_append_right _ (List.mem_append_right _ (List.mem_append_right _ (List.mem_append_right _ (List.mem_append_right _ (List.mem_append_right _ (List.mem_append_right _ (List.mem_append_right _ (List.mem_append_right _ (List.mem_append_left _ (List.mem_of_getElem? (i := 6) rfl)))))))))))))))))
theorem tW53 : (.code y_Secondary_rest b_Secondary_rest 2 none : Cond) ∈ TW := (List.mem_append_right _ (List.mem_append_right _ (List.mem_append_right _ (List.mem_append_right _ (List.mem_append_right _ (List.mem_append_right _ (List.mem_append_right _ (List.mem_append_right _ (List.mem_append_right _ (List.mem_append_right _ (List.mem_append_right _ (List.mem_append_right _ (List.mem_append_right _ (List.mem_append_right _ (List.mem_append_right _ (List.mem_append_left _ (List.mem_of_getElem? (i := 7) rfl)))))))))))))))))
theorem tW67 : (.code y_Secondary_comeUp b_Secondary_comeUp 2 none : Cond) ∈ TW := (List.mem_append_right _ (List.mem_append_right _ (List.mem_append_right _ (List.mem_append_right _ (List.mem_append_right _ (List.mem_append_right _ (List.mem_append_right _ (List.mem_append_right _ (List.mem_append_right _ (List.mem_append_right _ (List.mem_append_right _ (List.mem_append_right _ (List.mem_append_right _ (List.mem_append_right _ (List.mem_append_right _ (List.mem_append_left _ (List.mem_of_getElem? (i := 8) rfl)))))))))))))))))
theorem tW77 : (.code y_Message_init b_Message_init 1 none : Cond) ∈ TW := (List.mem_append_right _ (List.mem_append_right _ (List.mem_append_right _ (List.mem_append_right _ (List.mem_append_right _ (List.mem_append_right _ (List.mem_append_right _ (List.mem_append_right _ (List.mem_append_right _ (List.mem_append_right _ (List.mem_append_right _ (List.mem_append_right _ (List.mem_append_right _ (List.mem_append_right _ (List.mem_append_right _ (List.mem_append_left _ (List.mem_of_getElem? (i := 9) rfl)))))))))))))))))
theorem tW86 : (.code y_Draft_init b_Draft_init 1 none : Cond) ∈ TW := (List.mem_append_right _ (List.mem_append_right _ (List.mem_append_right _ (List.mem_append_right _ (List.mem_append_right _ (List.mem_append_right _ (List.mem_append_right _ (List.mem_append_right _ (List.mem_append_right _ (List.mem_append_right _ (List.mem_append_right _ (List.mem_append_right _ (List.mem_append_right _ (List.mem_append_right _ (List.mem_append_right _ (List.mem_append_left _ (List.mem_of_getElem? (i := 10) rfl)))))))))))))))))
theorem tW93 : (.code y_Wire_init b_Wire_init 2 none : Cond) ∈ TW := (List.mem_append_right _ (List.mem_append_right _ (List.mem_append_right _ (List.mem_append_right _ (List.mem_append_right _ (List.mem_append_right _ (List.mem_append_right _ (List.mem_append_right _ (List.mem_append_right _ (List.mem_append_right _ (List.mem_append_right _ (List.mem_append_right _ (List.mem_append_right _ (List.mem_append_right _ (List.mem_append_right _ (List.mem_append_left _ (List.mem_of_getElem? (i := 11) rfl)))))))))))))))))
theorem tW99 : (.code y_ZoneNodes_within b_ZoneNodes_within 3 (some .boolean) : Cond) ∈ TW := (List.mem_append_right _ (List.mem_append_right _ (List.mem_append_right _ (List.mem_append_right _ (List.mem_append_right _ (List.mem_append_right _ (List.mem_append_right _ (List.mem_append_right _ (List.mem_append_right _ (List.mem_append_right _ (List.mem_append_right _ (List.mem_append_right _ (List.mem_append_right _ (List.mem_append_right _ (List.mem_append_right _ (List.mem_append_left _ (List.mem_of_getElem? (i := 12) rfl)))))))))))))))))
theorem tW106 : (.code y_Primary_init b_Primary_init 2 none : Cond) ∈ TW := (List.mem_append_right _ (List.mem_append_right _ (List.mem_append_right _ (List.mem_append_right _ (List.mem_append_right _ (List.mem_append_right _ (List.mem_append_right _ (List.mem_append_right _ (List.mem_append_right _ (List.mem_append_right _ (List.mem_append_right _ (List.mem_append_right _ (List.mem_append_right _ (List.mem_append_right _ (List.mem_append_right _ (List.mem_append_left _ (List.mem_of_getElem? (i := 13) rfl)))))))))))))))))
theorem tW111 : (.code y_Secondary_init b_Secondary_init 5 none : Cond) ∈ TW := (List.mem_append_right _ (List.mem_append_right _ (List.mem_append_right _ (List.mem_append_right _ (List.mem_append_right _ (List.mem_append_right _ (List.mem_append_right _ (List.mem_append_right _ (List.mem_append_right _ (List.mem_append_right _ (List.mem_append_right _ (List.mem_append_right _ (List.mem_append_right _ (List.mem_append_right _ (List.mem_append_right _ (List.mem_append_left _ (List.mem_of_getElem? (i := 14) rfl)))))))))))))))))
theorem tW115 : (.code y_Wire_at b_Wire_at 2 (some (.object "ZoneNodes$Message")) : Cond) ∈ TW := (List.mem_append_right _ (List.mem_append_right _ (List.mem_append_right _ (List.mem_append_right _ (List.mem_append_right _ (List.mem_append_right _ (List.mem_append_right _ (List.mem_append_right _ (List.mem_append_right _ (List.mem_append_right _ (List.mem_append_right _ (List.mem_append_right _ (List.mem_append_right _ (List.mem_append_right _ (List.mem_append_right _ (List.mem_append_left _ (List.mem_of_getElem? (i := 15) rfl)))))))))))))))))
theorem tW120 : (.code y_Journal_leadsTo b_Journal_leadsTo 5 (some .boolean) : Cond) ∈ TW := (List.mem_append_right _ (List.mem_append_right _ (List.mem_append_right _ (List.mem_append_right _ (List.mem_append_right _ (List.mem_append_right _ (List.mem_append_right _ (List.mem_append_right _ (List.mem_append_right _ (List.mem_append_right _ (List.mem_append_right _ (List.mem_append_right _ (List.mem_append_right _ (List.mem_append_right _ (List.mem_append_right _ (List.mem_append_left _ (List.mem_of_getElem? (i := 16) rfl)))))))))))))))))
theorem tW123 : (.code y_ZoneNodes_coded b_ZoneNodes_coded 4 (some .int) : Cond) ∈ TW := (List.mem_append_right _ (List.mem_append_right _ (List.mem_append_right _ (List.mem_append_right _ (List.mem_append_right _ (List.mem_append_right _ (List.mem_append_right _ (List.mem_append_right _ (List.mem_append_right _ (List.mem_append_right _ (List.mem_append_right _ (List.mem_append_right _ (List.mem_append_right _ (List.mem_append_right _ (List.mem_append_right _ (List.mem_append_left _ (List.mem_of_getElem? (i := 17) rfl)))))))))))))))))
theorem tW128 : (.code y_Records_listInto b_Records_listInto 7 (some .int) : Cond) ∈ TW := (List.mem_append_right _ (List.mem_append_right _ (List.mem_append_right _ (List.mem_append_right _ (List.mem_append_right _ (List.mem_append_right _ (List.mem_append_right _ (List.mem_append_right _ (List.mem_append_right _ (List.mem_append_right _ (List.mem_append_right _ (List.mem_append_right _ (List.mem_append_right _ (List.mem_append_right _ (List.mem_append_right _ (List.mem_append_left _ (List.mem_of_getElem? (i := 18) rfl)))))))))))))))))
theorem tW132 : (.code y_Journal_startOfWay b_Journal_startOfWay 4 (some .int) : Cond) ∈ TW := (List.mem_append_right _ (List.mem_append_right _ (List.mem_append_right _ (List.mem_append_right _ (List.mem_append_right _ (List.mem_append_right _ (List.mem_append_right _ (List.mem_append_right _ (List.mem_append_right _ (List.mem_append_right _ (List.mem_append_right _ (List.mem_append_right _ (List.mem_append_right _ (List.mem_append_right _ (List.mem_append_right _ (List.mem_append_left _ (List.mem_of_getElem? (i := 19) rfl)))))))))))))))))
theorem tW137 : (.code y_Message_isOnStream b_Message_isOnStream 1 (some .boolean) : Cond) ∈ TW := (List.mem_append_right _ (List.mem_append_right _ (List.mem_append_right _ (List.mem_append_right _ (List.mem_append_right _ (List.mem_append_right _ (List.mem_append_right _ (List.mem_append_right _ (List.mem_append_right _ (List.mem_append_right _ (List.mem_append_right _ (List.mem_append_right _ (List.mem_append_right _ (List.mem_append_right _ (List.mem_append_right _ (List.mem_append_left _ (List.mem_of_getElem? (i := 20) rfl)))))))))))))))))
theorem tW141 : (.code y_Wire_countLossy b_Wire_countLossy 3 (some .int) : Cond) ∈ TW := (List.mem_append_right _ (List.mem_append_right _ (List.mem_append_right _ (List.mem_append_right _ (List.mem_append_right _ (List.mem_append_right _ (List.mem_append_right _ (List.mem_append_right _ (List.mem_append_right _ (List.mem_append_right _ (List.mem_append_right _ (List.mem_append_right _ (List.mem_append_right _ (List.mem_append_right _ (List.mem_append_right _ (List.mem_append_left _ (List.mem_of_getElem? (i := 21) rfl)))))))))))))))))
theorem tW145 : (.code y_Wire_put b_Wire_put 5 (some (.object "ZoneNodes$Message")) : Cond) ∈ TW := (List.mem_append_right _ (List.mem_append_right _ (List.mem_append_right _ (List.mem_append_right _ (List.mem_append_right _ (List.mem_append_right _ (List.mem_append_right _ (List.mem_append_right _ (List.mem_append_right _ (List.mem_append_right _ (List.mem_append_right _ (List.mem_append_right _ (List.mem_append_right _ (List.mem_append_right _ (List.mem_append_right _ (List.mem_append_left _ (List.mem_of_getElem? (i := 22) rfl)))))))))))))))))
theorem tW151 : (.code Lib.Math.min.name Lib.Math.min.code 2 (some .int) : Cond) ∈ TW := (List.mem_append_right _ (List.mem_append_right _ (List.mem_append_right _ (List.mem_append_right _ (List.mem_append_right _ (List.mem_append_right _ (List.mem_append_right _ (List.mem_append_right _ (List.mem_append_right _ (List.mem_append_right _ (List.mem_append_right _ (List.mem_append_right _ (List.mem_append_right _ (List.mem_append_right _ (List.mem_append_right _ (List.mem_append_left _ (List.mem_of_getElem? (i := 23) rfl)))))))))))))))))
theorem tW153 : (.code y_Primary_workOutItems b_Primary_workOutItems 5 none : Cond) ∈ TW := (List.mem_append_right _ (List.mem_append_right _ (List.mem_append_right _ (List.mem_append_right _ (List.mem_append_right _ (List.mem_append_right _ (List.mem_append_right _ (List.mem_append_right _ (List.mem_append_right _ (List.mem_append_right _ (List.mem_append_right _ (List.mem_append_right _ (List.mem_append_right _ (List.mem_append_right _ (List.mem_append_right _ (List.mem_append_left _ (List.mem_of_getElem? (i := 24) rfl)))))))))))))))))
theorem tW157 : (.code y_Wire_sendParts b_Wire_sendParts 7 none : Cond) ∈ TW := (List.mem_append_right _ (List.mem_append_right _ (List.mem_append_right _ (List.mem_append_right _ (List.mem_append_right _ (List.mem_append_right _ (List.mem_append_right _ (List.mem_append_right _ (List.mem_append_right _ (List.mem_append_right _ (List.mem_append_right _ (List.mem_append_right _ (List.mem_append_right _ (List.mem_append_right _ (List.mem_append_right _ (List.mem_append_left _ (List.mem_of_getElem? (i := 25) rfl)))))))))))))))))
theorem tW161 : (.code y_Wire_sendLossy b_Wire_sendLossy 4 none : Cond) ∈ TW := (List.mem_append_right _ (List.mem_append_right _ (List.mem_append_right _ (List.mem_append_right _ (List.mem_append_right _ (List.mem_append_right _ (List.mem_append_right _ (List.mem_append_right _ (List.mem_append_right _ (List.mem_append_right _ (List.mem_append_right _ (List.mem_append_right _ (List.mem_append_right _ (List.mem_append_right _ (List.mem_append_right _ (List.mem_append_left _ (List.mem_of_getElem? (i := 26) rfl)))))))))))))))))
theorem tW168 : (.code y_ZoneNodes_isLater b_ZoneNodes_isLater 2 (some .boolean) : Cond) ∈ TW := (List.mem_append_right _ (List.mem_append_right _ (List.mem_append_right _ (List.mem_append_right _ (List.mem_append_right _ (List.mem_append_right _ (List.mem_append_right _ (List.mem_append_right _ (List.mem_append_right _ (List.mem_append_right _ (List.mem_append_right _ (List.mem_append_right _ (List.mem_append_right _ (List.mem_append_right _ (List.mem_append_right _ (List.mem_append_left _ (List.mem_of_getElem? (i := 27) rfl)))))))))))))))))
theorem tW171 : (.code y_Secondary_lacks b_Secondary_lacks 2 (some .boolean) : Cond) ∈ TW := (List.mem_append_right _ (List.mem_append_right _ (List.mem_append_right _ (List.mem_append_right _ (List.mem_append_right _ (List.mem_append_right _ (List.mem_append_right _ (List.mem_append_right _ (List.mem_append_right _ (List.mem_append_right _ (List.mem_append_right _ (List.mem_append_right _ (List.mem_append_right _ (List.mem_append_right _ (List.mem_append_right _ (List.mem_append_left _ (List.mem_of_getElem? (i := 28) rfl)))))))))))))))))
theorem tW175 : (.code y_Secondary_ask b_Secondary_ask 3 none : Cond) ∈ TW := (List.mem_append_right _ (List.mem_append_right _ (List.mem_append_right _ (List.mem_append_right _ (List.mem_append_right _ (List.mem_append_right _ (List.mem_append_right _ (List.mem_append_right _ (List.mem_append_right _ (List.mem_append_right _ (List.mem_append_right _ (List.mem_append_right _ (List.mem_append_right _ (List.mem_append_right _ (List.mem_append_right _ (List.mem_append_left _ (List.mem_of_getElem? (i := 29) rfl)))))))))))))))))
theorem tW179 : (.code y_Wire_sendFetch b_Wire_sendFetch 5 none : Cond) ∈ TW := (List.mem_append_right _ (List.mem_append_right _ (List.mem_append_right _ (List.mem_append_right _ (List.mem_append_right _ (List.mem_append_right _ (List.mem_append_right _ (List.mem_append_right _ (List.mem_append_right _ (List.mem_append_right _ (List.mem_append_right _ (List.mem_append_right _ (List.mem_append_right _ (List.mem_append_right _ (List.mem_append_right _ (List.mem_append_left _ (List.mem_of_getElem? (i := 30) rfl)))))))))))))))))
theorem tW183 : (.code y_Secondary_becomeRefreshed b_Secondary_becomeRefreshed 2 none : Cond) ∈ TW := (List.mem_append_right _ (List.mem_append_right _ (List.mem_append_right _ (List.mem_append_right _ (List.mem_append_right _ (List.mem_append_right _ (List.mem_append_right _ (List.mem_append_right _ (List.mem_append_right _ (List.mem_append_right _ (List.mem_append_right _ (List.mem_append_right _ (List.mem_append_right _ (List.mem_append_right _ (List.mem_append_right _ (List.mem_append_left _ (List.mem_of_getElem? (i := 31) rfl)))))))))))))))))
theorem tW186 : (.code y_ZoneNodes_formOf b_ZoneNodes_formOf 1 (some .int) : Cond) ∈ TW := (List.mem_append_right _ (List.mem_append_right _ (List.mem_append_right _ (List.mem_append_right _ (List.mem_append_right _ (List.mem_append_right _ (List.mem_append_right _ (List.mem_append_right _ (List.mem_append_right _ (List.mem_append_right _ (List.mem_append_right _ (List.mem_append_right _ (List.mem_append_right _ (List.mem_append_right _ (List.mem_append_right _ (List.mem_append_left _ (List.mem_of_getElem? (i := 32) rfl)))))))))))))))))
theorem tW188 : (.code y_ZoneNodes_nameOf b_ZoneNodes_nameOf 1 (some .int) : Cond) ∈ TW := (List.mem_append_right _ (List.mem_append_right _ (List.mem_append_right _ (List.mem_append_right _ (List.mem_append_right _ (List.mem_append_right _ (List.mem_append_right _ (List.mem_append_right _ (List.mem_append_right _ (List.mem_append_right _ (List.mem_append_right _ (List.mem_append_right _ (List.mem_append_right _ (List.mem_append_right _ (List.mem_append_right _ (List.mem_append_left _ (List.mem_of_getElem? (i := 33) rfl)))))))))))))))))
theorem tW190 : (.code y_ZoneNodes_typeOf b_ZoneNodes_typeOf 1 (some .int) : Cond) ∈ TW := (List.mem_append_right _ (List.mem_append_right _ (List.mem_append_right _ (List.mem_append_right _ (List.mem_append_right _ (List.mem_append_right _ (List.mem_append_right _ (List.mem_append_right _ (List.mem_append_right _ (List.mem_append_right _ (List.mem_append_right _ (List.mem_append_right _ (List.mem_append_right _ (List.mem_append_right _ (List.mem_append_right _ (List.mem_append_left _ (List.mem_of_getElem? (i := 34) rfl)))))))))))))))))
theorem tW192 : (.code y_ZoneNodes_valueOf b_ZoneNodes_valueOf 1 (some .int) : Cond) ∈ TW := (List.mem_append_right _ (List.mem_append_right _ (List.mem_append_right _ (List.mem_append_right _ (List.mem_append_right _ (List.mem_append_right _ (List.mem_append_right _ (List.mem_append_right _ (List.mem_append_right _ (List.mem_append_right _ (List.mem_append_right _ (List.mem_append_right _ (List.mem_append_right _ (List.mem_append_right _ (List.mem_append_right _ (List.mem_append_left _ (List.mem_of_getElem? (i := 35) rfl)))))))))))))))))
theorem tW196 : (.code y_Records_takeAway b_Records_takeAway 4 none : Cond) ∈ TW := (List.mem_append_right _ (List.mem_append_right _ (List.mem_append_right _ (List.mem_append_right _ (List.mem_append_right _ (List.mem_append_right _ (List.mem_append_right _ (List.mem_append_right _ (List.mem_append_right _ (List.mem_append_right _ (List.mem_append_right _ (List.mem_append_right _ (List.mem_append_right _ (List.mem_append_right _ (List.mem_append_right _ (List.mem_append_left _ (List.mem_of_getElem? (i := 36) rfl)))))))))))))))))
theorem tW200 : (.code y_Records_copyFrom b_Records_copyFrom 3 none : Cond) ∈ TW := (List.mem_append_right _ (List.mem_append_right _ (List.mem_append_right _ (List.mem_append_right _ (List.mem_append_right _ (List.mem_append_right _ (List.mem_append_right _ (List.mem_append_right _ (List.mem_append_right _ (List.mem_append_right _ (List.mem_append_right _ (List.mem_append_right _ (List.mem_append_right _ (List.mem_append_right _ (List.mem_append_right _ (List.mem_append_left _ (List.mem_of_getElem? (i := 37) rfl)))))))))))))))))
theorem tW204 : (.code y_Records_empty b_Records_empty 2 none : Cond) ∈ TW := (List.mem_append_right _ (List.mem_append_right _ (List.mem_append_right _ (List.mem_append_right _ (List.mem_append_right _ (List.mem_append_right _ (List.mem_append_right _ (List.mem_append_right _ (List.mem_append_right _ (List.mem_append_right _ (List.mem_append_right _ (List.mem_append_right _ (List.mem_append_right _ (List.mem_append_right _ (List.mem_append_right _ (List.mem_append_left _ (List.mem_of_getElem? (i := 38) rfl)))))))))))))))))
theorem tW208 : (.code y_Records_takeItem b_Records_takeItem 2 none : Cond) ∈ TW := (List.mem_append_right _ (List.mem_append_right _ (List.mem_append_right _ (List.mem_append_right _ (List.mem_append_right _ (List.mem_append_right _ (List.mem_append_right _ (List.mem_append_right _ (List.mem_append_right _ (List.mem_append_right _ (List.mem_append_right _ (List.mem_append_right _ (List.mem_append_right _ (List.mem_append_right _ (List.mem_append_right _ (List.mem_append_left _ (List.mem_of_getElem? (i := 39) rfl)))))))))))))))))
theorem tW212 : (.code y_Secondary_beginIncoming b_Secondary_beginIncoming 2 none : Cond) ∈ TW := (List.mem_append_right _ (List.mem_append_right _ (List.mem_append_right _ (List.mem_append_right _ (List.mem_append_right _ (List.mem_append_right _ (List.mem_append_right _ (List.mem_append_right _ (List.mem_append_right _ (List.mem_append_right _ (List.mem_append_right _ (List.mem_append_right _ (List.mem_append_right _ (List.mem_append_right _ (List.mem_append_right _ (List.mem_append_left _ (List.mem_of_getElem? (i := 40) rfl)))))))))))))))))
theorem tW216 : (.code y_Wire_takeOut b_Wire_takeOut 4 none : Cond) ∈ TW := (List.mem_append_right _ (List.mem_append_right _ (List.mem_append_right _ (List.mem_append_right _ (List.mem_append_right _ (List.mem_append_right _ (List.mem_append_right _ (List.mem_append_right _ (List.mem_append_right _ (List.mem_append_right _ (List.mem_append_right _ (List.mem_append_right _ (List.mem_append_right _ (List.mem_append_right _ (List.mem_append_right _ (List.mem_append_left _ (List.mem_of_getElem? (i := 41) rfl)))))))))))))))))
theorem tW221 : (.code y_Secondary_takePart b_Secondary_takePart 4 none : Cond) ∈ TW := (List.mem_append_right _ (List.mem_append_right _ (List.mem_append_right _ (List.mem_append_right _ (List.mem_append_right _ (List.mem_append_right _ (List.mem_append_right _ (List.mem_append_right _ (List.mem_append_right _ (List.mem_append_right _ (List.mem_append_right _ (List.mem_append_right _ (List.mem_append_right _ (List.mem_append_right _ (List.mem_append_right _ (List.mem_append_left _ (List.mem_of_getElem? (i := 42) rfl)))))))))))))))))
theorem tW225 : (.code y_Wire_endStreamOf b_Wire_endStreamOf 3 none : Cond) ∈ TW := (List.mem_append_right _ (List.mem_append_right _ (List.mem_append_right _ (List.mem_append_right _ (List.mem_append_right _ (List.mem_append_right _ (List.mem_append_right _ (List.mem_append_right _ (List.mem_append_right _ (List.mem_append_right _ (List.mem_append_right _ (List.mem_append_right _ (List.mem_append_right _ (List.mem_append_right _ (List.mem_append_right _ (List.mem_append_left _ (List.mem_of_getElem? (i := 43) rfl)))))))))))))))))
theorem tW229 : (.code y_Secondary_loseStream b_Secondary_loseStream 2 none : Cond) ∈ TW := (List.mem_append_right _ (List.mem_append_right _ (List.mem_append_right _ (List.mem_append_right _ (List.mem_append_right _ (List.mem_append_right _ (List.mem_append_right _ (List.mem_append_right _ (List.mem_append_right _ (List.mem_append_right _ (List.mem_append_right _ (List.mem_append_right _ (List.mem_append_right _ (List.mem_append_right _ (List.mem_append_right _ (List.mem_append_left _ (List.mem_of_getElem? (i := 44) rfl)))))))))))))))))
theorem tW233 : (.code y_Secondary_hearTell b_Secondary_hearTell 5 none : Cond) ∈ TW := (List.mem_append_right _ (List.mem_append_right _ (List.mem_append_right _ (List.mem_append_right _ (List.mem_append_right _ (List.mem_append_right _ (List.mem_append_right _ (List.mem_append_right _ (List.mem_append_right _ (List.mem_append_right _ (List.mem_append_right _ (List.mem_append_right _ (List.mem_append_right _ (List.mem_append_right _ (List.mem_append_right _ (List.mem_append_left _ (List.mem_of_getElem? (i := 45) rfl)))))))))))))))))
theorem tW237 : (.code y_Secondary_hearNotify b_Secondary_hearNotify 4 none : Cond) ∈ TW := (List.mem_append_right _ (List.mem_append_right _ (List.mem_append_right _ (List.mem_append_right _ (List.mem_append_right _ (List.mem_append_right _ (List.mem_append_right _ (List.mem_append_right _ (List.mem_append_right _ (List.mem_append_right _ (List.mem_append_right _ (List.mem_append_right _ (List.mem_append_right _ (List.mem_append_right _ (List.mem_append_right _ (List.mem_append_left _ (List.mem_of_getElem? (i := 46) rfl)))))))))))))))))
theorem tW242 : (.code y_ZoneNodes_isRecord b_ZoneNodes_isRecord 3 (some .boolean) : Cond) ∈ TW := (List.mem_append_right _ (List.mem_append_right _ (List.mem_append_right _ (List.mem_append_right _ (List.mem_append_right _ (List.mem_append_right _ (List.mem_append_right _ (List.mem_append_right _ (List.mem_append_right _ (List.mem_append_right _ (List.mem_append_right _ (List.mem_append_right _ (List.mem_append_right _ (List.mem_append_right _ (List.mem_append_right _ (List.mem_append_left _ (List.mem_of_getElem? (i := 47) rfl)))))))))))))))))
theorem tW246 : (.code y_Draft_addChange b_Draft_addChange 2 (some .boolean) : Cond) ∈ TW := (List.mem_append_right _ (List.mem_append_right _ (List.mem_append_right _ (List.mem_append_right _ (List.mem_append_right _ (List.mem_append_right _ (List.mem_append_right _ (List.mem_append_right _ (List.mem_append_right _ (List.mem_append_right _ (List.mem_append_right _ (List.mem_append_right _ (List.mem_append_right _ (List.mem_append_right _ (List.mem_append_right _ (List.mem_append_left _ (List.mem_of_getElem? (i := 48) rfl)))))))))))))))))
theorem tW250 : (.code y_ZoneNodes_isNode b_ZoneNodes_isNode 1 (some .boolean) : Cond) ∈ TW := (List.mem_append_right _ (List.mem_append_right _ (List.mem_append_right _ (List.mem_append_right _ (List.mem_append_right _ (List.mem_append_right _ (List.mem_append_right _ (List.mem_append_right _ (List.mem_append_right _ (List.mem_append_right _ (List.mem_append_right _ (List.mem_append_right _ (List.mem_append_right _ (List.mem_append_right _ (List.mem_append_right _ (List.mem_append_left _ (List.mem_of_getElem? (i := 49) rfl)))))))))))))))))
theorem tW253 : (.code y_ZoneNodes_isUp b_ZoneNodes_isUp 2 (some .boolean) : Cond) ∈ TW := (List.mem_append_right _ (List.mem_append_right _ (List.mem_append_right _ (List.mem_append_right _ (List.mem_append_right _ (List.mem_append_right _ (List.mem_append_right _ (List.mem_append_right _ (List.mem_append_right _ (List.mem_append_right _ (List.mem_append_right _ (List.mem_append_right _ (List.mem_append_right _ (List.mem_append_right _ (List.mem_append_right _ (List.mem_append_left _ (List.mem_of_getElem? (i := 50) rfl)))))))))))))))))
theorem tW257 : (.code y_ZoneNodes_takePrimaryDown b_ZoneNodes_takePrimaryDown 2 none : Cond) ∈ TW := (List.mem_append_right _ (List.mem_append_right _ (List.mem_append_right _ (List.mem_append_right _ (List.mem_append_right _ (List.mem_append_right _ (List.mem_append_right _ (List.mem_append_right _ (List.mem_append_right _ (List.mem_append_right _ (List.mem_append_right _ (List.mem_append_right _ (List.mem_append_right _ (List.mem_append_right _ (List.mem_append_right _ (List.mem_append_left _ (List.mem_of_getElem? (i := 51) rfl)))))))))))))))))
theorem tW261 : (.code y_Wire_isBehindAnotherPart b_Wire_isBehindAnotherPart 3 (some .boolean) : Cond) ∈ TW := (List.mem_append_right _ (List.mem_append_right _ (List.mem_append_right _ (List.mem_append_right _ (List.mem_append_right _ (List.mem_append_right _ (List.mem_append_right _ (List.mem_append_right _ (List.mem_append_right _ (List.mem_append_right _ (List.mem_append_right _ (List.mem_append_right _ (List.mem_append_right _ (List.mem_append_right _ (List.mem_append_right _ (List.mem_append_left _ (List.mem_of_getElem? (i := 52) rfl)))))))))))))))))
theorem tW266 : (.code y_ZoneNodes_arriveAtPrimary b_ZoneNodes_arriveAtPrimary 2 none : Cond) ∈ TW := (List.mem_append_right _ (List.mem_append_right _ (List.mem_append_right _ (List.mem_append_right _ (List.mem_append_right _ (List.mem_append_right _ (List.mem_append_right _ (List.mem_append_right _ (List.mem_append_right _ (List.mem_append_right _ (List.mem_append_right _ (List.mem_append_right _ (List.mem_append_right _ (List.mem_append_right _ (List.mem_append_right _ (List.mem_append_left _ (List.mem_of_getElem? (i := 53) rfl)))))))))))))))))
theorem tW270 : (.code y_ZoneNodes_arriveAtSecondary b_ZoneNodes_arriveAtSecondary 3 none : Cond) ∈ TW := (List.mem_append_right _ (List.mem_append_right _ (List.mem_append_right _ (List.mem_append_right _ (List.mem_append_right _ (List.mem_append_right _ (List.mem_append_right _ (List.mem_append_right _ (List.mem_append_right _ (List.mem_append_right _ (List.mem_append_right _ (List.mem_append_right _ (List.mem_append_right _ (List.mem_append_right _ (List.mem_append_right _ (List.mem_append_left _ (List.mem_of_getElem? (i := 54) rfl)))))))))))))))))
theorem tW275 : (.code y_ZoneNodes_recordsOf b_ZoneNodes_recordsOf 2 (some (.object "ZoneNodes$Records")) : Cond) ∈ TW := (List.mem_append_right _ (List.mem_append_right _ (List.mem_append_right _ (List.mem_append_right _ (List.mem_append_right _ (List.mem_append_right _ (List.mem_append_right _ (List.mem_append_right _ (List.mem_append_right _ (List.mem_append_right _ (List.mem_append_right _ (List.mem_append_right _ (List.mem_append_right _ (List.mem_append_right _ (List.mem_append_right _ (List.mem_append_left _ (List.mem_of_getElem? (i := 55) rfl)))))))))))))))))
theorem tW279 : (.code y_Records_contains b_Records_contains 4 (some .boolean) : Cond) ∈ TW := (List.mem_append_right _ (List.mem_append_right _ (List.mem_append_right _ (List.mem_append_right _ (List.mem_append_right _ (List.mem_append_right _ (List.mem_append_right _ (List.mem_append_right _ (List.mem_append_right _ (List.mem_append_right _ (List.mem_append_right _ (List.mem_append_right _ (List.mem_append_right _ (List.mem_append_right _ (List.mem_append_right _ (List.mem_append_left _ (List.mem_of_getElem? (i := 56) rfl)))))))))))))))))
theorem tW284 : (.code y_Records_hasOtherThanAlias b_Records_hasOtherThanAlias 3 (some .boolean) : Cond) ∈ TW := (List.mem_append_right _ (List.mem_append_right _ (List.mem_append_right _ (List.mem_append_right _ (List.mem_append_right _ (List.mem_append_right _ (List.mem_append_right _ (List.mem_append_right _ (List.mem_append_right _ (List.mem_append_right _ (List.mem_append_right _ (List.mem_append_right _ (List.mem_append_right _ (List.mem_append_right _ (List.mem_append_right _ (List.mem_append_left _ (List.mem_of_getElem? (i := 57) rfl)))))))))))))))))
theorem tW291 : (.code y_Records_aliasOf b_Records_aliasOf 3 (some .int) : Cond) ∈ TW := (List.mem_append_right _ (List.mem_append_right _ (List.mem_append_right _ (List.mem_append_right _ (List.mem_append_right _ (List.mem_append_right _ (List.mem_append_right _ (List.mem_append_right _ (List.mem_append_right _ (List.mem_append_right _ (List.mem_append_right _ (List.mem_append_right _ (List.mem_append_right _ (List.mem_append_right _ (List.mem_append_right _ (List.mem_append_left _ (List.mem_of_getElem? (i := 58) rfl)))))))))))))))))
theorem tW295 : (.code y_Records_isUsed b_Records_isUsed 2 (some .boolean) : Cond) ∈ TW := (List.mem_append_right _ (List.mem_append_right _ (List.mem_append_right _ (List.mem_append_right _ (List.mem_append_right _ (List.mem_append_right _ (List.mem_append_right _ (List.mem_append_right _ (List.mem_append_right _ (List.mem_append_right _ (List.mem_append_right _ (List.mem_append_right _ (List.mem_append_right _ (List.mem_append_right _ (List.mem_append_right _ (List.mem_append_left _ (List.mem_of_getElem? (i := 59) rfl)))))))))))))))))
theorem tW300 : (.code y_Integer_bitCount b_Integer_bitCount 1 (some .int) : Cond) ∈ TW := (List.mem_append_right _ (List.mem_append_right _ (List.mem_append_right _ (List.mem_append_right _ (List.mem_append_right _ (List.mem_append_right _ (List.mem_append_right _ (List.mem_append_right _ (List.mem_append_right _ (List.mem_append_right _ (List.mem_append_right _ (List.mem_append_right _ (List.mem_append_right _ (List.mem_append_right _ (List.mem_append_right _ (List.mem_append_left _ (List.mem_of_getElem? (i := 60) rfl)))))))))))))))))
theorem tW304 : (.code y_Records_addIfAllowed b_Records_addIfAllowed 4 none : Cond) ∈ TW := (List.mem_append_right _ (List.mem_append_right _ (List.mem_append_right _ (List.mem_append_right _ (List.mem_append_right _ (List.mem_append_right _ (List.mem_append_right _ (List.mem_append_right _ (List.mem_append_right _ (List.mem_append_right _ (List.mem_append_right _ (List.mem_append_right _ (List.mem_append_right _ (List.mem_append_right _ (List.mem_append_right _ (List.mem_append_left _ (List.mem_of_getElem? (i := 61) rfl)))))))))))))))))
theorem tW308 : (.code y_Records_clearIfAllowed b_Records_clearIfAllowed 3 none : Cond) ∈ TW := (List.mem_append_right _ (List.mem_append_right _ (List.mem_append_right _ (List.mem_append_right _ (List.mem_append_right _ (List.mem_append_right _ (List.mem_append_right _ (List.mem_append_right _ (List.mem_append_right _ (List.mem_append_right _ (List.mem_append_right _ (List.mem_append_right _ (List.mem_append_right _ (List.mem_append_right _ (List.mem_append_right _ (List.mem_append_left _ (List.mem_of_getElem? (i := 62) rfl)))))))))))))))))
theorem tW312 : (.code y_Records_removeIfAllowed b_Records_removeIfAllowed 5 none : Cond) ∈ TW := (List.mem_append_right _ (List.mem_append_right _ (List.mem_append_right _ (List.mem_append_right _ (List.mem_append_right _ (List.mem_append_right _ (List.mem_append_right _ (List.mem_append_right _ (List.mem_append_right _ (List.mem_append_right _ (List.mem_append_right _ (List.mem_append_right _ (List.mem_append_right _ (List.mem_append_right _ (List.mem_append_right _ (List.mem_append_left _ (List.mem_of_getElem? (i := 63) rfl)))))))))))))))))
theorem tW316 : (.code y_Records_makeChange b_Records_makeChange 6 none : Cond) ∈ TW := (List.mem_append_right _ (List.mem_append_right _ (List.mem_append_right _ (List.mem_append_right _ (List.mem_append_right _ (List.mem_append_right _ (List.mem_append_right _ (List.mem_append_right _ (List.mem_append_right _ (List.mem_append_right _ (List.mem_append_right _ (List.mem_append_right _ (List.mem_append_right _ (List.mem_append_right _ (List.mem_append_right _ (List.mem_append_left _ (List.mem_of_getElem? (i := 64) rfl)))))))))))))))))
theorem tW320 : (.code y_Records_becomeDifference b_Records_becomeDifference 4 none : Cond) ∈ TW := (List.mem_append_right _ (List.mem_append_right _ (List.mem_append_right _ (List.mem_append_right _ (List.mem_append_right _ (List.mem_append_right _ (List.mem_append_right _ (List.mem_append_right _ (List.mem_append_right _ (List.mem_append_right _ (List.mem_append_right _ (List.mem_append_right _ (List.mem_append_right _ (List.mem_append_right _ (List.mem_append_right _ (List.mem_append_left _ (List.mem_of_getElem? (i := 65) rfl)))))))))))))))))
theorem tW324 : (.code y_Journal_latest b_Journal_latest 1 (some (.object "ZoneNodes$Entry")) : Cond) ∈ TW := (List.mem_append_right _ (List.mem_append_right _ (List.mem_append_right _ (List.mem_append_right _ (List.mem_append_right _ (List.mem_append_right _ (List.mem_append_right _ (List.mem_append_right _ (List.mem_append_right _ (List.mem_append_right _ (List.mem_append_right _ (List.mem_append_right _ (List.mem_append_right _ (List.mem_append_right _ (List.mem_append_right _ (List.mem_append_left _ (List.mem_of_getElem? (i := 66) rfl)))))))))))))))))
theorem tW328 : (.code y_Records_exchange b_Records_exchange 4 none : Cond) ∈ TW := (List.mem_append_right _ (List.mem_append_right _ (List.mem_append_right _ (List.mem_append_right _ (List.mem_append_right _ (List.mem_append_right _ (List.mem_append_right _ (List.mem_append_right _ (List.mem_append_right _ (List.mem_append_right _ (List.mem_append_right _ (List.mem_append_right _ (List.mem_append_right _ (List.mem_append_right _ (List.mem_append_right _ (List.mem_append_left _ (List.mem_of_getElem? (i := 67) rfl)))))))))))))))))
theorem tW332 : (.code y_Journal_keepLatest b_Journal_keepLatest 3 none : Cond) ∈ TW := (List.mem_append_right _ (List.mem_append_right _ (List.mem_append_right _ (List.mem_append_right _ (List.mem_append_right _ (List.mem_append_right _ (List.mem_append_right _ (List.mem_append_right _ (List.mem_append_right _ (List.mem_append_right _ (List.mem_append_right _ (List.mem_append_right _ (List.mem_append_right _ (List.mem_append_right _ (List.mem_append_right _ (List.mem_append_left _ (List.mem_of_getElem? (i := 68) rfl)))))))))))))))))
theorem tW336 : (.code y_Journal_append b_Journal_append 5 none : Cond) ∈ TW := (List.mem_append_right _ (List.mem_append_right _ (List.mem_append_right _ (List.mem_append_right _ (List.mem_append_right _ (List.mem_append_right _ (List.mem_append_right _ (List.mem_append_right _ (List.mem_append_right _ (List.mem_append_right _ (List.mem_append_right _ (List.mem_append_right _ (List.mem_append_right _ (List.mem_append_right _ (List.mem_append_right _ (List.mem_append_left _ (List.mem_of_getElem? (i := 69) rfl)))))))))))))))))
theorem tW340 : (.code y_Journal_markLatest b_Journal_markLatest 1 none : Cond) ∈ TW := (List.mem_append_right _ (List.mem_append_right _ (List.mem_append_right _ (List.mem_append_right _ (List.mem_append_right _ (List.mem_append_right _ (List.mem_append_right _ (List.mem_append_right _ (List.mem_append_right _ (List.mem_append_right _ (List.mem_append_right _ (List.mem_append_right _ (List.mem_append_right _ (List.mem_append_right _ (List.mem_append_right _ (List.mem_append_left _ (List.mem_of_getElem? (i := 70) rfl)))))))))))))))))
theorem tW344 : (.code y_Primary_becomeLatest b_Primary_becomeLatest 2 none : Cond) ∈ TW := (List.mem_append_right _ (List.mem_append_right _ (List.mem_append_right _ (List.mem_append_right _ (List.mem_append_right _ (List.mem_append_right _ (List.mem_append_right _ (List.mem_append_right _ (List.mem_append_right _ (List.mem_append_right _ (List.mem_append_right _ (List.mem_append_right _ (List.mem_append_right _ (List.mem_append_right _ (List.mem_append_right _ (List.mem_append_left _ (List.mem_of_getElem? (i := 71) rfl)))))))))))))))))
theorem tW349 : (.code y_Primary_takeStep b_Primary_takeStep 2 none : Cond) ∈ TW := (List.mem_append_right _ (List.mem_append_right _ (List.mem_append_right _ (List.mem_append_right _ (List.mem_append_right _ (List.mem_append_right _ (List.mem_append_right _ (List.mem_append_right _ (List.mem_append_right _ (List.mem_append_right _ (List.mem_append_right _ (List.mem_append_right _ (List.mem_append_right _ (List.mem_append_right _ (List.mem_append_right _ (List.mem_append_left _ (List.mem_of_getElem? (i := 72) rfl)))))))))))))))))
theorem tW355 : (.code y_Draft_changeRecords b_Draft_changeRecords 3 none : Cond) ∈ TW := (List.mem_append_right _ (List.mem_append_right _ (List.mem_append_right _ (List.mem_append_right _ (List.mem_append_right _ (List.mem_append_right _ (List.mem_append_right _ (List.mem_append_right _ (List.mem_append_right _ (List.mem_append_right _ (List.mem_append_right _ (List.mem_append_right _ (List.mem_append_right _ (List.mem_append_right _ (List.mem_append_right _ (List.mem_append_left _ (List.mem_of_getElem? (i := 73) rfl)))))))))))))))))
theorem tW359 : (.code y_Records_total b_Records_total 3 (some .int) : Cond) ∈ TW := (List.mem_append_right _ (List.mem_append_right _ (List.mem_append_right _ (List.mem_append_right _ (List.mem_append_right _ (List.mem_append_right _ (List.mem_append_right _ (List.mem_append_right _ (List.mem_append_right _ (List.mem_append_right _ (List.mem_append_right _ (List.mem_append_right _ (List.mem_append_right _ (List.mem_append_right _ (List.mem_append_right _ (List.mem_append_left _ (List.mem_of_getElem? (i := 74) rfl)))))))))))))))))
theorem tW363 : (.code y_Records_sameAs b_Records_sameAs 3 (some .boolean) : Cond) ∈ TW := (List.mem_append_right _ (List.mem_append_right _ (List.mem_append_right _ (List.mem_append_right _ (List.mem_append_right _ (List.mem_append_right _ (List.mem_append_right _ (List.mem_append_right _ (List.mem_append_right _ (List.mem_append_right _ (List.mem_append_right _ (List.mem_append_right _ (List.mem_append_right _ (List.mem_append_right _ (List.mem_append_right _ (List.mem_append_left _ (List.mem_of_getElem? (i := 75) rfl)))))))))))))))))
theorem tW367 : (.code y_Primary_writeNext b_Primary_writeNext 2 (some .boolean) : Cond) ∈ TW := (List.mem_append_right _ (List.mem_append_right _ (List.mem_append_right _ (List.mem_append_right _ (List.mem_append_right _ (List.mem_append_right _ (List.mem_append_right _ (List.mem_append_right _ (List.mem_append_right _ (List.mem_append_right _ (List.mem_append_right _ (List.mem_append_right _ (List.mem_append_right _ (List.mem_append_right _ (List.mem_append_right _ (List.mem_append_left _ (List.mem_of_getElem? (i := 76) rfl)))))))))))))))))
theorem tW371 : (.code y_ZoneNodes_notifySecondaries b_ZoneNodes_notifySecondaries 2 none : Cond) ∈ TW := (List.mem_append_right _ (List.mem_append_right _ (List.mem_append_right _ (List.mem_append_right _ (List.mem_append_right _ (List.mem_append_right _ (List.mem_append_right _ (List.mem_append_right _ (List.mem_append_right _ (List.mem_append_right _ (List.mem_append_right _ (List.mem_append_right _ (List.mem_append_right _ (List.mem_append_right _ (List.mem_append_right _ (List.mem_append_left _ (List.mem_of_getElem? (i := 77) rfl)))))))))))))))))
theorem tW377 : (.code y_Draft_addNeed b_Draft_addNeed 2 (some .boolean) : Cond) ∈ TW := (List.mem_append_right _ (List.mem_append_right _ (List.mem_append_right _ (List.mem_append_right _ (List.mem_append_right _ (List.mem_append_right _ (List.mem_append_right _ (List.mem_append_right _ (List.mem_append_right _ (List.mem_append_right _ (List.mem_append_right _ (List.mem_append_right _ (List.mem_append_right _ (List.mem_append_right _ (List.mem_append_right _ (List.mem_append_left _ (List.mem_of_getElem? (i := 78) rfl)))))))))))))))))
theorem tW381 : (.code y_ZoneNodes_lookUp b_ZoneNodes_lookUp 6 (some .int) : Cond) ∈ TW := (List.mem_append_right _ (List.mem_append_right _ (List.mem_append_right _ (List.mem_append_right _ (List.mem_append_right _ (List.mem_append_right _ (List.mem_append_right _ (List.mem_append_right _ (List.mem_append_right _ (List.mem_append_right _ (List.mem_append_right _ (List.mem_append_right _ (List.mem_append_right _ (List.mem_append_right _ (List.mem_append_right _ (List.mem_append_left _ (List.mem_of_getElem? (i := 79) rfl)))))))))))))))))
theorem tW384 : (.code y_Secondary_isExpired b_Secondary_isExpired 2 (some .boolean) : Cond) ∈ TW := (List.mem_append_right _ (List.mem_append_right _ (List.mem_append_right _ (List.mem_append_right _ (List.mem_append_right _ (List.mem_append_right _ (List.mem_append_right _ (List.mem_append_right _ (List.mem_append_right _ (List.mem_append_right _ (List.mem_append_right _ (List.mem_append_right _ (List.mem_append_right _ (List.mem_append_right _ (List.mem_append_right _ (List.mem_append_left _ (List.mem_of_getElem? (i := 80) rfl)))))))))))))))))
theorem tW389 : (.code y_Draft_mixed b_Draft_mixed 3 (some .int) : Cond) ∈ TW := (List.mem_append_right _ (List.mem_append_right _ (List.mem_append_right _ (List.mem_append_right _ (List.mem_append_right _ (List.mem_append_right _ (List.mem_append_right _ (List.mem_append_right _ (List.mem_append_right _ (List.mem_append_right _ (List.mem_append_right _ (List.mem_append_right _ (List.mem_append_right _ (List.mem_append_right _ (List.mem_append_right _ (List.mem_append_left _ (List.mem_of_getElem? (i := 81) rfl)))))))))))))))))
theorem tW394 : (.code y_Draft_answerTo b_Draft_answerTo 4 (some .int) : Cond) ∈ TW := (List.mem_append_right _ (List.mem_append_right _ (List.mem_append_right _ (List.mem_append_right _ (List.mem_append_right _ (List.mem_append_right _ (List.mem_append_right _ (List.mem_append_right _ (List.mem_append_right _ (List.mem_append_right _ (List.mem_append_right _ (List.mem_append_right _ (List.mem_append_right _ (List.mem_append_right _ (List.mem_append_right _ (List.mem_append_left _ (List.mem_of_getElem? (i := 82) rfl)))))))))))))))))
theorem tW397 : (.code y_Draft_isExact b_Draft_isExact 5 (some .boolean) : Cond) ∈ TW := (List.mem_append_right _ (List.mem_append_right _ (List.mem_append_right _ (List.mem_append_right _ (List.mem_append_right _ (List.mem_append_right _ (List.mem_append_right _ (List.mem_append_right _ (List.mem_append_right _ (List.mem_append_right _ (List.mem_append_right _ (List.mem_append_right _ (List.mem_append_right _ (List.mem_append_right _ (List.mem_append_right _ (List.mem_append_left _ (List.mem_of_getElem? (i := 83) rfl)))))))))))))))))
theorem tW401 : (.code y_ZoneNodes_knowsKey b_ZoneNodes_knowsKey 2 (some .boolean) : Cond) ∈ TW := (List.mem_append_right _ (List.mem_append_right _ (List.mem_append_right _ (List.mem_append_right _ (List.mem_append_right _ (List.mem_append_right _ (List.mem_append_right _ (List.mem_append_right _ (List.mem_append_right _ (List.mem_append_right _ (List.mem_append_right _ (List.mem_append_right _ (List.mem_append_right _ (List.mem_append_right _ (List.mem_append_right _ (List.mem_append_left _ (List.mem_of_getElem? (i := 84) rfl)))))))))))))))))
theorem tW405 : (.code y_Draft_sealWith b_Draft_sealWith 5 (some .int) : Cond) ∈ TW := (List.mem_append_right _ (List.mem_append_right _ (List.mem_append_right _ (List.mem_append_right _ (List.mem_append_right _ (List.mem_append_right _ (List.mem_append_right _ (List.mem_append_right _ (List.mem_append_right _ (List.mem_append_right _ (List.mem_append_right _ (List.mem_append_right _ (List.mem_append_right _ (List.mem_append_right _ (List.mem_append_right _ (List.mem_append_left _ (List.mem_of_getElem? (i := 85) rfl)))))))))))))))))
theorem tW411 : (.code y_Draft_unmetNeed b_Draft_unmetNeed 4 (some .int) : Cond) ∈ TW := (List.mem_append_right _ (List.mem_append_right _ (List.mem_append_right _ (List.mem_append_right _ (List.mem_append_right _ (List.mem_append_right _ (List.mem_append_right _ (List.mem_append_right _ (List.mem_append_right _ (List.mem_append_right _ (List.mem_append_right _ (List.mem_append_right _ (List.mem_append_right _ (List.mem_append_right _ (List.mem_append_right _ (List.mem_append_left _ (List.mem_of_getElem? (i := 86) rfl)))))))))))))))))
theorem tW415 : (.code y_Journal_dropLatest b_Journal_dropLatest 1 none : Cond) ∈ TW := (List.mem_append_right _ (List.mem_append_right _ (List.mem_append_right _ (List.mem_append_right _ (List.mem_append_right _ (List.mem_append_right _ (List.mem_append_right _ (List.mem_append_right _ (List.mem_append_right _ (List.mem_append_right _ (List.mem_append_right _ (List.mem_append_right _ (List.mem_append_right _ (List.mem_append_right _ (List.mem_append_right _ (List.mem_append_left _ (List.mem_of_getElem? (i := 87) rfl)))))))))))))))))
theorem tW420 : (.code y_Primary_comeUp b_Primary_comeUp 2 none : Cond) ∈ TW := (List.mem_append_right _ (List.mem_append_right _ (List.mem_append_right _ (List.mem_append_right _ (List.mem_append_right _ (List.mem_append_right _ (List.mem_append_right _ (List.mem_append_right _ (List.mem_append_right _ (List.mem_append_right _ (List.mem_append_right _ (List.mem_append_right _ (List.mem_append_right _ (List.mem_append_right _ (List.mem_append_right _ (List.mem_append_left _ (List.mem_of_getElem? (i := 88) rfl)))))))))))))))))
theorem tW424 : (.code y_Secondary_askIfTimeHasCome b_Secondary_askIfTimeHasCome 5 none : Cond) ∈ TW := (List.mem_append_right _ (List.mem_append_right _ (List.mem_append_right _ (List.mem_append_right _ (List.mem_append_right _ (List.mem_append_right _ (List.mem_append_right _ (List.mem_append_right _ (List.mem_append_right _ (List.mem_append_right _ (List.mem_append_right _ (List.mem_append_right _ (List.mem_append_right _ (List.mem_append_right _ (List.mem_append_right _ (List.mem_append_left _ (List.mem_of_getElem? (i := 89) rfl)))))))))))))))))
theorem tW428 : (.code y_ZoneNodes_refusal b_ZoneNodes_refusal 6 (some .int) : Cond) ∈ TW := (List.mem_append_right _ (List.mem_append_right _ (List.mem_append_right _ (List.mem_append_right _ (List.mem_append_right _ (List.mem_append_right _ (List.mem_append_right _ (List.mem_append_right _ (List.mem_append_right _ (List.mem_append_right _ (List.mem_append_right _ (List.mem_append_right _ (List.mem_append_right _ (List.mem_append_right _ (List.mem_append_right _ (List.mem_append_left _ (List.mem_of_getElem? (i := 90) rfl)))))))))))))))))
theorem tW432 : (.code y_Draft_empty b_Draft_empty 1 none : Cond) ∈ TW := (List.mem_append_right _ (List.mem_append_right _ (List.mem_append_right _ (List.mem_append_right _ (List.mem_append_right _ (List.mem_append_right _ (List.mem_append_right _ (List.mem_append_right _ (List.mem_append_right _ (List.mem_append_right _ (List.mem_append_right _ (List.mem_append_right _ (List.mem_append_right _ (List.mem_append_right _ (List.mem_append_right _ (List.mem_append_left _ (List.mem_of_getElem? (i := 91) rfl)))))))))))))))))
theorem tW436 : (.code y_ZoneNodes_makeChanges b_ZoneNodes_makeChanges 2 (some .int) : Cond) ∈ TW := (List.mem_append_right _ (List.mem_append_right _ (List.mem_append_right _ (List.mem_append_right _ (List.mem_append_right _ (List.mem_append_right _ (List.mem_append_right _ (List.mem_append_right _ (List.mem_append_right _ (List.mem_append_right _ (List.mem_append_right _ (List.mem_append_right _ (List.mem_append_right _ (List.mem_append_right _ (List.mem_append_right _ (List.mem_append_left _ (List.mem_of_getElem? (i := 92) rfl)))))))))))))))))
theorem tW468 : (.code y_ZoneNodesModel_place b_ZoneNodesModel_place 3 (some .int) : Cond) ∈ TW := (List.mem_append_right _ (List.mem_append_right _ (List.mem_append_right _ (List.mem_append_right _ (List.mem_append_right _ (List.mem_append_right _ (List.mem_append_right _ (List.mem_append_right _ (List.mem_append_right _ (List.mem_append_right _ (List.mem_append_right _ (List.mem_append_right _ (List.mem_append_right _ (List.mem_append_right _ (List.mem_append_right _ (List.mem_append_left _ (List.mem_of_getElem? (i := 93) rfl)))))))))))))))))
theorem tW472 : (.code y_ZoneNodesModel_rest b_ZoneNodesModel_rest 3 none : Cond) ∈ TW := (List.mem_append_right _ (List.mem_append_right _ (List.mem_append_right _ (List.mem_append_right _ (List.mem_append_right _ (List.mem_append_right _ (List.mem_append_right _ (List.mem_append_right _ (List.mem_append_right _ (List.mem_append_right _ (List.mem_append_right _ (List.mem_append_right _ (List.mem_append_right _ (List.mem_append_right _ (List.mem_append_right _ (List.mem_append_left _ (List.mem_of_getElem? (i := 94) rfl)))))))))))))))))
theorem tW477 : (.code y_ZoneNodesModel_isMessage b_ZoneNodesModel_isMessage 2 (some .boolean) : Cond) ∈ TW := (List.mem_append_right _ (List.mem_append_right _ (List.mem_append_right _ (List.mem_append_right _ (List.mem_append_right _ (List.mem_append_right _ (List.mem_append_right _ (List.mem_append_right _ (List.mem_append_right _ (List.mem_append_right _ (List.mem_append_right _ (List.mem_append_right _ (List.mem_append_right _ (List.mem_append_right _ (List.mem_append_right _ (List.mem_append_left _ (List.mem_of_getElem? (i := 95) rfl)))))))))))))))))
theorem tW482 : (.code y_ZoneNodesModel_isRecord b_ZoneNodesModel_isRecord 3 (some .boolean) : Cond) ∈ TW := (List.mem_append_right _ (List.mem_append_right _ (List.mem_append_right _ (List.mem_append_right _ (List.mem_append_right _ (List.mem_append_right _ (List.mem_append_right _ (List.mem_append_right _ (List.mem_append_right _ (List.mem_append_right _ (List.mem_append_right _ (List.mem_append_right _ (List.mem_append_right _ (List.mem_append_right _ (List.mem_append_right _ (List.mem_append_left _ (List.mem_of_getElem? (i := 96) rfl)))))))))))))))))
theorem tW486 : (.code y_ZoneNodesModel_say b_ZoneNodesModel_say 6 none : Cond) ∈ TW := (List.mem_append_right _ (List.mem_append_right _ (List.mem_append_right _ (List.mem_append_right _ (List.mem_append_right _ (List.mem_append_right _ (List.mem_append_right _ (List.mem_append_right _ (List.mem_append_right _ (List.mem_append_right _ (List.mem_append_right _ (List.mem_append_right _ (List.mem_append_right _ (List.mem_append_right _ (List.mem_append_right _ (List.mem_append_left _ (List.mem_of_getElem? (i := 97) rfl)))))))))))))))))
theorem tW490 : (.code y_ZoneNodesModel_remove b_ZoneNodesModel_remove 3 none : Cond) ∈ TW := (List.mem_append_right _ (List.mem_append_right _ (List.mem_append_right _ (List.mem_append_right _ (List.mem_append_right _ (List.mem_append_right _ (List.mem_append_right _ (List.mem_append_right _ (List.mem_append_right _ (List.mem_append_right _ (List.mem_append_right _ (List.mem_append_right _ (List.mem_append_right _ (List.mem_append_right _ (List.mem_append_right _ (List.mem_append_left _ (List.mem_of_getElem? (i := 98) rfl)))))))))))))))))
theorem tW494 : (.code y_ZoneNodesModel_isNode b_ZoneNodesModel_isNode 1 (some .boolean) : Cond) ∈ TW := (List.mem_append_right _ (List.mem_append_right _ (List.mem_append_right _ (List.mem_append_right _ (List.mem_append_right _ (List.mem_append_right _ (List.mem_append_right _ (List.mem_append_right _ (List.mem_append_right _ (List.mem_append_right _ (List.mem_append_right _ (List.mem_append_right _ (List.mem_append_right _ (List.mem_append_right _ (List.mem_append_right _ (List.mem_append_left _ (List.mem_of_getElem? (i := 99) rfl)))))))))))))))))
theorem tW497 : (.code y_ZoneNodesModel_cutOff b_ZoneNodesModel_cutOff 3 none : Cond) ∈ TW := (List.mem_append_right _ (List.mem_append_right _ (List.mem_append_right _ (List.mem_append_right _ (List.mem_append_right _ (List.mem_append_right _ (List.mem_append_right _ (List.mem_append_right _ (List.mem_append_right _ (List.mem_append_right _ (List.mem_append_right _ (List.mem_append_right _ (List.mem_append_right _ (List.mem_append_right _ (List.mem_append_right _ (List.mem_append_left _ (List.mem_of_getElem? (i := 100) rfl)))))))))))))))))
theorem tW501 : (.code y_ZoneNodesModel_append b_ZoneNodesModel_append 8 none : Cond) ∈ TW := (List.mem_append_right _ (List.mem_append_right _ (List.mem_append_right _ (List.mem_append_right _ (List.mem_append_right _ (List.mem_append_right _ (List.mem_append_right _ (List.mem_append_right _ (List.mem_append_right _ (List.mem_append_right _ (List.mem_append_right _ (List.mem_append_right _ (List.mem_append_right _ (List.mem_append_right _ (List.mem_append_right _ (List.mem_append_left _ (List.mem_of_getElem? (i := 101) rfl)))))))))))))))))
theorem tW505 : (.code y_ZoneNodesModel_send b_ZoneNodesModel_send 6 none : Cond) ∈ TW := (List.mem_append_right _ (List.mem_append_right _ (List.mem_append_right _ (List.mem_append_right _ (List.mem_append_right _ (List.mem_append_right _ (List.mem_append_right _ (List.mem_append_right _ (List.mem_append_right _ (List.mem_append_right _ (List.mem_append_right _ (List.mem_append_right _ (List.mem_append_right _ (List.mem_append_right _ (List.mem_append_right _ (List.mem_append_left _ (List.mem_of_getElem? (i := 102) rfl)))))))))))))))))
theorem tW510 : (.code y_ZoneNodesModel_itemsFor b_ZoneNodesModel_itemsFor 6 (some .int) : Cond) ∈ TW := (List.mem_append_right _ (List.mem_append_right _ (List.mem_append_right _ (List.mem_append_right _ (List.mem_append_right _ (List.mem_append_right _ (List.mem_append_right _ (List.mem_append_right _ (List.mem_append_right _ (List.mem_append_right _ (List.mem_append_right _ (List.mem_append_right _ (List.mem_append_right _ (List.mem_append_right _ (List.mem_append_right _ (List.mem_append_left _ (List.mem_of_getElem? (i := 103) rfl)))))))))))))))))
theorem tW514 : (.code y_ZoneNodesModel_refreshed b_ZoneNodesModel_refreshed 2 none : Cond) ∈ TW := (List.mem_append_right _ (List.mem_append_right _ (List.mem_append_right _ (List.mem_append_right _ (List.mem_append_right _ (List.mem_append_right _ (List.mem_append_right _ (List.mem_append_right _ (List.mem_append_right _ (List.mem_append_right _ (List.mem_append_right _ (List.mem_append_right _ (List.mem_append_right _ (List.mem_append_right _ (List.mem_append_right _ (List.mem_append_left _ (List.mem_of_getElem? (i := 104) rfl)))))))))))))))))
theorem tW518 : (.code y_ZoneNodesModel_isNews b_ZoneNodesModel_isNews 3 (some .boolean) : Cond) ∈ TW := (List.mem_append_right _ (List.mem_append_right _ (List.mem_append_right _ (List.mem_append_right _ (List.mem_append_right _ (List.mem_append_right _ (List.mem_append_right _ (List.mem_append_right _ (List.mem_append_right _ (List.mem_append_right _ (List.mem_append_right _ (List.mem_append_right _ (List.mem_append_right _ (List.mem_append_right _ (List.mem_append_right _ (List.mem_append_left _ (List.mem_of_getElem? (i := 105) rfl)))))))))))))))))
theorem tW522 : (.code y_ZoneNodesModel_takePart b_ZoneNodesModel_takePart 6 none : Cond) ∈ TW := (List.mem_append_right _ (List.mem_append_right _ (List.mem_append_right _ (List.mem_append_right _ (List.mem_append_right _ (List.mem_append_right _ (List.mem_append_right _ (List.mem_append_right _ (List.mem_append_right _ (List.mem_append_right _ (List.mem_append_right _ (List.mem_append_right _ (List.mem_append_right _ (List.mem_append_right _ (List.mem_append_right _ (List.mem_append_left _ (List.mem_of_getElem? (i := 106) rfl)))))))))))))))))
theorem tW526 : (.code y_ZoneNodesModel_takeFetch b_ZoneNodesModel_takeFetch 7 none : Cond) ∈ TW := (List.mem_append_right _ (List.mem_append_right _ (List.mem_append_right _ (List.mem_append_right _ (List.mem_append_right _ (List.mem_append_right _ (List.mem_append_right _ (List.mem_append_right _ (List.mem_append_right _ (List.mem_append_right _ (List.mem_append_right _ (List.mem_append_right _ (List.mem_append_right _ (List.mem_append_right _ (List.mem_append_right _ (List.mem_append_left _ (List.mem_of_getElem? (i := 107) rfl)))))))))))))))))
theorem tW530 : (.code y_ZoneNodesModel_takeTell b_ZoneNodesModel_takeTell 3 none : Cond) ∈ TW := (List.mem_append_right _ (List.mem_append_right _ (List.mem_append_right _ (List.mem_append_right _ (List.mem_append_right _ (List.mem_append_right _ (List.mem_append_right _ (List.mem_append_right _ (List.mem_append_right _ (List.mem_append_right _ (List.mem_append_right _ (List.mem_append_right _ (List.mem_append_right _ (List.mem_append_right _ (List.mem_append_right _ (List.mem_append_left _ (List.mem_of_getElem? (i := 108) rfl)))))))))))))))))
theorem tW534 : (.code y_ZoneNodesModel_ask b_ZoneNodesModel_ask 2 none : Cond) ∈ TW := (List.mem_append_right _ (List.mem_append_right _ (List.mem_append_right _ (List.mem_append_right _ (List.mem_append_right _ (List.mem_append_right _ (List.mem_append_right _ (List.mem_append_right _ (List.mem_append_right _ (List.mem_append_right _ (List.mem_append_right _ (List.mem_append_right _ (List.mem_append_right _ (List.mem_append_right _ (List.mem_append_right _ (List.mem_append_left _ (List.mem_of_getElem? (i := 109) rfl)))))))))))))))))
theorem tW540 : (.code y_ZoneNodesModel_shown b_ZoneNodesModel_shown 7 (some .int) : Cond) ∈ TW := (List.mem_append_right _ (List.mem_append_right _ (List.mem_append_right _ (List.mem_append_right _ (List.mem_append_right _ (List.mem_append_right _ (List.mem_append_right _ (List.mem_append_right _ (List.mem_append_right _ (List.mem_append_right _ (List.mem_append_right _ (List.mem_append_right _ (List.mem_append_right _ (List.mem_append_right _ (List.mem_append_right _ (List.mem_append_left _ (List.mem_of_getElem? (i := 110) rfl)))))))))))))))))
theorem tW544 : (.code y_ZoneNodesModel_notifyBoth b_ZoneNodesModel_notifyBoth 1 none : Cond) ∈ TW := (List.mem_append_right _ (List.mem_append_right _ (List.mem_append_right _ (List.mem_append_right _ (List.mem_append_right _ (List.mem_append_right _ (List.mem_append_right _ (List.mem_append_right _ (List.mem_append_right _ (List.mem_append_right _ (List.mem_append_right _ (List.mem_append_right _ (List.mem_append_right _ (List.mem_append_right _ (List.mem_append_right _ (List.mem_append_left _ (List.mem_of_getElem? (i := 111) rfl)))))))))))))))))
theorem tW548 : (.code y_ZoneNodesModel_install b_ZoneNodesModel_install 3 none : Cond) ∈ TW := (List.mem_append_right _ (List.mem_append_right _ (List.mem_append_right _ (List.mem_append_right _ (List.mem_append_right _ (List.mem_append_right _ (List.mem_append_right _ (List.mem_append_right _ (List.mem_append_right _ (List.mem_append_right _ (List.mem_append_right _ (List.mem_append_right _ (List.mem_append_right _ (List.mem_append_right _ (List.mem_append_right _ (List.mem_append_left _ (List.mem_of_getElem? (i := 112) rfl)))))))))))))))))
theorem tW553 : (.code y_ZoneNodesModel_mixed b_ZoneNodesModel_mixed 3 (some .int) : Cond) ∈ TW := (List.mem_append_right _ (List.mem_append_right _ (List.mem_append_right _ (List.mem_append_right _ (List.mem_append_right _ (List.mem_append_right _ (List.mem_append_right _ (List.mem_append_right _ (List.mem_append_right _ (List.mem_append_right _ (List.mem_append_right _ (List.mem_append_right _ (List.mem_append_right _ (List.mem_append_right _ (List.mem_append_right _ (List.mem_append_left _ (List.mem_of_getElem? (i := 113) rfl)))))))))))))))))
theorem tW556 : (.code y_ZoneNodesModel_line b_ZoneNodesModel_line 2 (some .int) : Cond) ∈ TW := (List.mem_append_right _ (List.mem_append_right _ (List.mem_append_right _ (List.mem_append_right _ (List.mem_append_right _ (List.mem_append_right _ (List.mem_append_right _ (List.mem_append_right _ (List.mem_append_right _ (List.mem_append_right _ (List.mem_append_right _ (List.mem_append_right _ (List.mem_append_right _ (List.mem_append_right _ (List.mem_append_right _ (List.mem_append_left _ (List.mem_of_getElem? (i := 114) rfl)))))))))))))))))
theorem tW560 : (.code y_ZoneNodesModel_sealed b_ZoneNodesModel_sealed 5 (some .int) : Cond) ∈ TW := (List.mem_append_right _ (List.mem_append_right _ (List.mem_append_right _ (List.mem_append_right _ (List.mem_append_right _ (List.mem_append_right _ (List.mem_append_right _ (List.mem_append_right _ (List.mem_append_right _ (List.mem_append_right _ (List.mem_append_right _ (List.mem_append_right _ (List.mem_append_right _ (List.mem_append_right _ (List.mem_append_right _ (List.mem_append_left _ (List.mem_of_getElem? (i := 115) rfl)))))))))))))))))
theorem tW564 : (.code y_ZoneNodesModel_works b_ZoneNodesModel_works 5 (some .int) : Cond) ∈ TW := (List.mem_append_right _ (List.mem_append_right _ (List.mem_append_right _ (List.mem_append_right _ (List.mem_append_right _ (List.mem_append_right _ (List.mem_append_right _ (List.mem_append_right _ (List.mem_append_right _ (List.mem_append_right _ (List.mem_append_right _ (List.mem_append_right _ (List.mem_append_right _ (List.mem_append_right _ (List.mem_append_right _ (List.mem_append_left _ (List.mem_of_getElem? (i := 116) rfl)))))))))))))))))
theorem tW568 : (.code y_ZoneNodesModel_add b_ZoneNodesModel_add 8 none : Cond) ∈ TW := (List.mem_append_right _ (List.mem_append_right _ (List.mem_append_right _ (List.mem_append_right _ (List.mem_append_right _ (List.mem_append_right _ (List.mem_append_right _ (List.mem_append_right _ (List.mem_append_right _ (List.mem_append_right _ (List.mem_append_right _ (List.mem_append_right _ (List.mem_append_right _ (List.mem_append_right _ (List.mem_append_right _ (List.mem_append_left _ (List.mem_of_getElem? (i := 117) rfl)))))))))))))))))
theorem tW572 : (.code y_ZoneNodesModel_count b_ZoneNodesModel_count 5 (some .int) : Cond) ∈ TW := (List.mem_append_right _ (List.mem_append_right _ (List.mem_append_right _ (List.mem_append_right _ (List.mem_append_right _ (List.mem_append_right _ (List.mem_append_right _ (List.mem_append_right _ (List.mem_append_right _ (List.mem_append_right _ (List.mem_append_right _ (List.mem_append_right _ (List.mem_append_right _ (List.mem_append_right _ (List.mem_append_right _ (List.mem_append_left _ (List.mem_of_getElem? (i := 118) rfl)))))))))))))))))
theorem tW578 : (.code y_ZoneNodesModel_meets b_ZoneNodesModel_meets 5 (some .boolean) : Cond) ∈ TW := (List.mem_append_right _ (List.mem_append_right _ (List.mem_append_right _ (List.mem_append_right _ (List.mem_append_right _ (List.mem_append_right _ (List.mem_append_right _ (List.mem_append_right _ (List.mem_append_right _ (List.mem_append_right _ (List.mem_append_right _ (List.mem_append_right _ (List.mem_append_right _ (List.mem_append_right _ (List.mem_append_right _ (List.mem_append_left _ (List.mem_of_getElem? (i := 119) rfl)))))))))))))))))
theorem tW582 : (.code y_ZoneNodesModel_exact b_ZoneNodesModel_exact 8 (some .boolean) : Cond) ∈ TW := (List.mem_append_right _ (List.mem_append_right _ (List.mem_append_right _ (List.mem_append_right _ (List.mem_append_right _ (List.mem_append_right _ (List.mem_append_right _ (List.mem_append_right _ (List.mem_append_right _ (List.mem_append_right _ (List.mem_append_right _ (List.mem_append_right _ (List.mem_append_right _ (List.mem_append_right _ (List.mem_append_right _ (List.mem_append_left _ (List.mem_of_getElem? (i := 120) rfl)))))))))))))))))
theorem tW586 : (.code y_ZoneNodesModel_crash b_ZoneNodesModel_crash 3 (some .boolean) : Cond) ∈ TW := (List.mem_append_right _ (List.mem_append_right _ (List.mem_append_right _ (List.mem_append_right _ (List.mem_append_right _ (List.mem_append_right _ (List.mem_append_right _ (List.mem_append_right _ (List.mem_append_right _ (List.mem_append_right _ (List.mem_append_right _ (List.mem_append_right _ (List.mem_append_right _ (List.mem_append_right _ (List.mem_append_right _ (List.mem_append_left _ (List.mem_of_getElem? (i := 121) rfl)))))))))))))))))
theorem tW590 : (.code y_ZoneNodesModel_refusal b_ZoneNodesModel_refusal 8 (some .int) : Cond) ∈ TW := (List.mem_append_right _ (List.mem_append_right _ (List.mem_append_right _ (List.mem_append_right _ (List.mem_append_right _ (List.mem_append_right _ (List.mem_append_right _ (List.mem_append_right _ (List.mem_append_right _ (List.mem_append_right _ (List.mem_append_right _ (List.mem_append_right _ (List.mem_append_right _ (List.mem_append_right _ (List.mem_append_right _ (List.mem_append_left _ (List.mem_of_getElem? (i := 122) rfl)))))))))))))))))
theorem tW594 : (.code y_ZoneNodesModel_perform b_ZoneNodesModel_perform 10 none : Cond) ∈ TW := (List.mem_append_right _ (List.mem_append_right _ (List.mem_append_right _ (List.mem_append_right _ (List.mem_append_right _ (List.mem_append_right _ (List.mem_append_right _ (List.mem_append_right _ (List.mem_append_right _ (List.mem_append_right _ (List.mem_append_right _ (List.mem_append_right _ (List.mem_append_right _ (List.mem_append_right _ (List.mem_append_right _ (List.mem_append_left _ (List.mem_of_getElem? (i := 123) rfl)))))))))))))))))
theorem tW598 : (.code y_ZoneNodesModel_write b_ZoneNodesModel_write 2 (some .int) : Cond) ∈ TW := (List.mem_append_right _ (List.mem_append_right _ (List.mem_append_right _ (List.mem_append_right _ (List.mem_append_right _ (List.mem_append_right _ (List.mem_append_right _ (List.mem_append_right _ (List.mem_append_right _ (List.mem_append_right _ (List.mem_append_right _ (List.mem_append_right _ (List.mem_append_right _ (List.mem_append_right _ (List.mem_append_right _ (List.mem_append_left _ (List.mem_of_getElem? (i := 124) rfl)))))))))))))))))
theorem tW604 : (.code y_ZoneNodesLaw_cell b_ZoneNodesLaw_cell 2 (some .int) : Cond) ∈ TW := (List.mem_append_right _ (List.mem_append_right _ (List.mem_append_right _ (List.mem_append_right _ (List.mem_append_right _ (List.mem_append_right _ (List.mem_append_right _ (List.mem_append_right _ (List.mem_append_right _ (List.mem_append_right _ (List.mem_append_right _ (List.mem_append_right _ (List.mem_append_right _ (List.mem_append_right _ (List.mem_append_right _ (List.mem_append_left _ (List.mem_of_getElem? (i := 125) rfl)))))))))))))))))
theorem tW608 : (.code y_ZoneNodes_init b_ZoneNodes_init 9 none : Cond) ∈ TW := (List.mem_append_right _ (List.mem_append_right _ (List.mem_append_right _ (List.mem_append_right _ (List.mem_append_right _ (List.mem_append_right _ (List.mem_append_right _ (List.mem_append_right _ (List.mem_append_right _ (List.mem_append_right _ (List.mem_append_right _ (List.mem_append_right _ (List.mem_append_right _ (List.mem_append_right _ (List.mem_append_right _ (List.mem_append_left _ (List.mem_of_getElem? (i := 126) rfl)))))))))))))))))
theorem tW613 : (.code y_ZoneNodesModel_init b_ZoneNodesModel_init 6 none : Cond) ∈ TW := (List.mem_append_right _ (List.mem_append_right _ (List.mem_append_right _ (List.mem_append_right _ (List.mem_append_right _ (List.mem_append_right _ (List.mem_append_right _ (List.mem_append_right _ (List.mem_append_right _ (List.mem_append_right _ (List.mem_append_right _ (List.mem_append_right _ (List.mem_append_right _ (List.mem_append_right _ (List.mem_append_right _ (List.mem_append_left _ (List.mem_of_getElem? (i := 127) rfl)))))))))))))))))
theorem tW616 : (.code y_ZoneNodes_key b_ZoneNodes_key 3 (some .boolean) : Cond) ∈ TW := (List.mem_append_right _ (List.mem_append_right _ (List.mem_append_right _ (List.mem_append_right _ (List.mem_append_right _ (List.mem_append_right _ (List.mem_append_right _ (List.mem_append_right _ (List.mem_append_right _ (List.mem_append_right _ (List.mem_append_right _ (List.mem_append_right _ (List.mem_append_right _ (List.mem_append_right _ (List.mem_append_right _ (List.mem_append_left _ (List.mem_of_getElem? (i := 128) rfl)))))))))))))))))
theorem tW620 : (.code y_ZoneNodesModel_key b_ZoneNodesModel_key 3 (some .boolean) : Cond) ∈ TW := (List.mem_append_right _ (List.mem_append_right _ (List.mem_append_right _ (List.mem_append_right _ (List.mem_append_right _ (List.mem_append_right _ (List.mem_append_right _ (List.mem_append_right _ (List.mem_append_right _ (List.mem_append_right _ (List.mem_append_right _ (List.mem_append_right _ (List.mem_append_right _ (List.mem_append_right _ (List.mem_append_right _ (List.mem_append_left _ (List.mem_of_getElem? (i := 129) rfl)))))))))))))))))
theorem tW624 : (.code y_ZoneNodes_need b_ZoneNodes_need 5 (some .boolean) : Cond) ∈ TW := (List.mem_append_right _ (List.mem_append_right _ (List.mem_append_right _ (List.mem_append_right _ (List.mem_append_right _ (List.mem_append_right _ (List.mem_append_right _ (List.mem_append_right _ (List.mem_append_right _ (List.mem_append_right _ (List.mem_append_right _ (List.mem_append_right _ (List.mem_append_right _ (List.mem_append_right _ (List.mem_append_right _ (List.mem_append_left _ (List.mem_of_getElem? (i := 130) rfl)))))))))))))))))
theorem tW628 : (.code y_ZoneNodesModel_need b_ZoneNodesModel_need 5 (some .boolean) : Cond) ∈ TW := (List.mem_append_right _ (List.mem_append_right _ (List.mem_append_right _ (List.mem_append_right _ (List.mem_append_right _ (List.mem_append_right _ (List.mem_append_right _ (List.mem_append_right _ (List.mem_append_right _ (List.mem_append_right _ (List.mem_append_right _ (List.mem_append_right _ (List.mem_append_right _ (List.mem_append_right _ (List.mem_append_right _ (List.mem_append_left _ (List.mem_of_getElem? (i := 131) rfl)))))))))))))))))
theorem tW632 : (.code y_ZoneNodes_change b_ZoneNodes_change 5 (some .boolean) : Cond) ∈ TW := (List.mem_append_right _ (List.mem_append_right _ (List.mem_append_right _ (List.mem_append_right _ (List.mem_append_right _ (List.mem_append_right _ (List.mem_append_right _ (List.mem_append_right _ (List.mem_append_right _ (List.mem_append_right _ (List.mem_append_right _ (List.mem_append_right _ (List.mem_append_right _ (List.mem_append_right _ (List.mem_append_right _ (List.mem_append_left _ (List.mem_of_getElem? (i := 132) rfl)))))))))))))))))
theorem tW636 : (.code y_ZoneNodesModel_change b_ZoneNodesModel_change 5 (some .boolean) : Cond) ∈ TW := (List.mem_append_right _ (List.mem_append_right _ (List.mem_append_right _ (List.mem_append_right _ (List.mem_append_right _ (List.mem_append_right _ (List.mem_append_right _ (List.mem_append_right _ (List.mem_append_right _ (List.mem_append_right _ (List.mem_append_right _ (List.mem_append_right _ (List.mem_append_right _ (List.mem_append_right _ (List.mem_append_right _ (List.mem_append_left _ (List.mem_of_getElem? (i := 133) rfl)))))))))))))))))
theorem tW640 : (.code y_ZoneNodes_seal b_ZoneNodes_seal 3 (some .int) : Cond) ∈ TW := (List.mem_append_right _ (List.mem_append_right _ (List.mem_append_right _ (List.mem_append_right _ (List.mem_append_right _ (List.mem_append_right _ (List.mem_append_right _ (List.mem_append_right _ (List.mem_append_right _ (List.mem_append_right _ (List.mem_append_right _ (List.mem_append_right _ (List.mem_append_right _ (List.mem_append_right _ (List.mem_append_right _ (List.mem_append_left _ (List.mem_of_getElem? (i := 134) rfl)))))))))))))))))
theorem tW644 : (.code y_ZoneNodesModel_seal b_ZoneNodesModel_seal 3 (some .int) : Cond) ∈ TW := (List.mem_append_right _ (List.mem_append_right _ (List.mem_append_right _ (List.mem_append_right _ (List.mem_append_right _ (List.mem_append_right _ (List.mem_append_right _ (List.mem_append_right _ (List.mem_append_right _ (List.mem_append_right _ (List.mem_append_right _ (List.mem_append_right _ (List.mem_append_right _ (List.mem_append_right _ (List.mem_append_right _ (List.mem_append_left _ (List.mem_of_getElem? (i := 135) rfl)))))))))))))))))
theorem tW648 : (.code y_ZoneNodes_update b_ZoneNodes_update 5 (some .int) : Cond) ∈ TW := (List.mem_append_right _ (List.mem_append_right _ (List.mem_append_right _ (List.mem_append_right _ (List.mem_append_right _ (List.mem_append_right _ (List.mem_append_right _ (List.mem_append_right _ (List.mem_append_right _ (List.mem_append_right _ (List.mem_append_right _ (List.mem_append_right _ (List.mem_append_right _ (List.mem_append_right _ (List.mem_append_right _ (List.mem_append_left _ (List.mem_of_getElem? (i := 136) rfl)))))))))))))))))
theorem tW652 : (.code y_ZoneNodesModel_update b_ZoneNodesModel_update 8 (some .int) : Cond) ∈ TW := (List.mem_append_right _ (List.mem_append_right _ (List.mem_append_right _ (List.mem_append_right _ (List.mem_append_right _ (List.mem_append_right _ (List.mem_append_right _ (List.mem_append_right _ (List.mem_append_right _ (List.mem_append_right _ (List.mem_append_right _ (List.mem_append_right _ (List.mem_append_right _ (List.mem_append_right _ (List.mem_append_right _ (List.mem_append_left _ (List.mem_of_getElem? (i := 137) rfl)))))))))))))))))
theorem tW656 : (.code y_ZoneNodes_arm b_ZoneNodes_arm 2 (some .boolean) : Cond) ∈ TW := (List.mem_append_right _ (List.mem_append_right _ (List.mem_append_right _ (List.mem_append_right _ (List.mem_append_right _ (List.mem_append_right _ (List.mem_append_right _ (List.mem_append_right _ (List.mem_append_right _ (List.mem_append_right _ (List.mem_append_right _ (List.mem_append_right _ (List.mem_append_right _ (List.mem_append_right _ (List.mem_append_right _ (List.mem_append_left _ (List.mem_of_getElem? (i := 138) rfl)))))))))))))))))
theorem tW660 : (.code y_ZoneNodesModel_arm b_ZoneNodesModel_arm 2 (some .boolean) : Cond) ∈ TW := (List.mem_append_right _ (List.mem_append_right _ (List.mem_append_right _ (List.mem_append_right _ (List.mem_append_right _ (List.mem_append_right _ (List.mem_append_right _ (List.mem_append_right _ (List.mem_append_right _ (List.mem_append_right _ (List.mem_append_right _ (List.mem_append_right _ (List.mem_append_right _ (List.mem_append_right _ (List.mem_append_right _ (List.mem_append_left _ (List.mem_of_getElem? (i := 139) rfl)))))))))))))))))
theorem tW664 : (.code y_ZoneNodes_tick b_ZoneNodes_tick 4 (some .boolean) : Cond) ∈ TW := (List.mem_append_right _ (List.mem_append_right _ (List.mem_append_right _ (List.mem_append_right _ (List.mem_append_right _ (List.mem_append_right _ (List.mem_append_right _ (List.mem_append_right _ (List.mem_append_right _ (List.mem_append_right _ (List.mem_append_right _ (List.mem_append_right _ (List.mem_append_right _ (List.mem_append_right _ (List.mem_append_right _ (List.mem_append_left _ (List.mem_of_getElem? (i := 140) rfl)))))))))))))))))
theorem tW668 : (.code y_ZoneNodesModel_tick b_ZoneNodesModel_tick 6 (some .boolean) : Cond) ∈ TW := (List.mem_append_right _ (List.mem_append_right _ (List.mem_append_right _ (List.mem_append_right _ (List.mem_append_right _ (List.mem_append_right _ (List.mem_append_right _ (List.mem_append_right _ (List.mem_append_right _ (List.mem_append_right _ (List.mem_append_right _ (List.mem_append_right _ (List.mem_append_right _ (List.mem_append_right _ (List.mem_append_right _ (List.mem_append_left _ (List.mem_of_getElem? (i := 141) rfl)))))))))))))))))
theorem tW672 : (.code y_ZoneNodes_deliver b_ZoneNodes_deliver 3 (some .boolean) : Cond) ∈ TW := (List.mem_append_right _ (List.mem_append_right _ (List.mem_append_right _ (List.mem_append_right _ (List.mem_append_right _ (List.mem_append_right _ (List.mem_append_right _ (List.mem_append_right _ (List.mem_append_right _ (List.mem_append_right _ (List.mem_append_right _ (List.mem_append_right _ (List.mem_append_right _ (List.mem_append_right _ (List.mem_append_right _ (List.mem_append_left _ (List.mem_of_getElem? (i := 142) rfl)))))))))))))))))
theorem tW676 : (.code y_ZoneNodesModel_deliver b_ZoneNodesModel_deliver 8 (some .boolean) : Cond) ∈ TW := (List.mem_append_right _ (List.mem_append_right _ (List.mem_append_right _ (List.mem_append_right _ (List.mem_append_right _ (List.mem_append_right _ (List.mem_append_right _ (List.mem_append_right _ (List.mem_append_right _ (List.mem_append_right _ (List.mem_append_right _ (List.mem_append_right _ (List.mem_append_right _ (List.mem_append_right _ (List.mem_append_right _ (List.mem_append_left _ (List.mem_of_getElem? (i := 143) rfl)))))))))))))))))
theorem tW680 : (.code y_ZoneNodes_drop b_ZoneNodes_drop 3 (some .boolean) : Cond) ∈ TW := (List.mem_append_right _ (List.mem_append_right _ (List.mem_append_right _ (List.mem_append_right _ (List.mem_append_right _ (List.mem_append_right _ (List.mem_append_right _ (List.mem_append_right _ (List.mem_append_right _ (List.mem_append_right _ (List.mem_append_right _ (List.mem_append_right _ (List.mem_append_right _ (List.mem_append_right _ (List.mem_append_right _ (List.mem_append_left _ (List.mem_of_getElem? (i := 144) rfl)))))))))))))))))
theorem tW684 : (.code y_ZoneNodesModel_drop b_ZoneNodesModel_drop 2 (some .boolean) : Cond) ∈ TW := (List.mem_append_right _ (List.mem_append_right _ (List.mem_append_right _ (List.mem_append_right _ (List.mem_append_right _ (List.mem_append_right _ (List.mem_append_right _ (List.mem_append_right _ (List.mem_append_right _ (List.mem_append_right _ (List.mem_append_right _ (List.mem_append_right _ (List.mem_append_right _ (List.mem_append_right _ (List.mem_append_right _ (List.mem_append_left _ (List.mem_of_getElem? (i := 145) rfl)))))))))))))))))
theorem tW688 : (.code y_ZoneNodes_alter b_ZoneNodes_alter 3 (some .boolean) : Cond) ∈ TW := (List.mem_append_right _ (List.mem_append_right _ (List.mem_append_right _ (List.mem_append_right _ (List.mem_append_right _ (List.mem_append_right _ (List.mem_append_right _ (List.mem_append_right _ (List.mem_append_right _ (List.mem_append_right _ (List.mem_append_right _ (List.mem_append_right _ (List.mem_append_right _ (List.mem_append_right _ (List.mem_append_right _ (List.mem_append_left _ (List.mem_of_getElem? (i := 146) rfl)))))))))))))))))
theorem tW692 : (.code y_ZoneNodesModel_alter b_ZoneNodesModel_alter 2 (some .boolean) : Cond) ∈ TW := (List.mem_append_right _ (List.mem_append_right _ (List.mem_append_right _ (List.mem_append_right _ (List.mem_append_right _ (List.mem_append_right _ (List.mem_append_right _ (List.mem_append_right _ (List.mem_append_right _ (List.mem_append_right _ (List.mem_append_right _ (List.mem_append_right _ (List.mem_append_right _ (List.mem_append_right _ (List.mem_append_right _ (List.mem_append_left _ (List.mem_of_getElem? (i := 147) rfl)))))))))))))))))
theorem tW696 : (.code y_ZoneNodes_crash b_ZoneNodes_crash 2 (some .boolean) : Cond) ∈ TW := (List.mem_append_right _ (List.mem_append_right _ (List.mem_append_right _ (List.mem_append_right _ (List.mem_append_right _ (List.mem_append_right _ (List.mem_append_right _ (List.mem_append_right _ (List.mem_append_right _ (List.mem_append_right _ (List.mem_append_right _ (List.mem_append_right _ (List.mem_append_right _ (List.mem_append_right _ (List.mem_append_right _ (List.mem_append_left _ (List.mem_of_getElem? (i := 148) rfl)))))))))))))))))
theorem tW701 : (.code y_ZoneNodes_restart b_ZoneNodes_restart 2 (some .boolean) : Cond) ∈ TW := (List.mem_append_right _ (List.mem_append_right _ (List.mem_append_right _ (List.mem_append_right _ (List.mem_append_right _ (List.mem_append_right _ (List.mem_append_right _ (List.mem_append_right _ (List.mem_append_right _ (List.mem_append_right _ (List.mem_append_right _ (List.mem_append_right _ (List.mem_append_right _ (List.mem_append_right _ (List.mem_append_right _ (List.mem_append_left _ (List.mem_of_getElem? (i := 149) rfl)))))))))))))))))
theorem tW705 : (.code y_ZoneNodesModel_restart b_ZoneNodesModel_restart 3 (some .boolean) : Cond) ∈ TW := (List.mem_append_right _ (List.mem_append_right _ (List.mem_append_right _ (List.mem_append_right _ (List.mem_append_right _ (List.mem_append_right _ (List.mem_append_right _ (List.mem_append_right _ (List.mem_append_right _ (List.mem_append_right _ (List.mem_append_right _ (List.mem_append_right _ (List.mem_append_right _ (List.mem_append_right _ (List.mem_append_right _ (List.mem_append_right _ (List.mem_of_getElem? (i := 0) rfl)))))))))))))))))
theorem tW709 : (.code y_ZoneNodes_messages b_ZoneNodes_messages 1 (some .int) : Cond) ∈ TW := (List.mem_append_right _ (List.mem_append_right _ (List.mem_append_right _ (List.mem_append_right _ (List.mem_append_right _ (List.mem_append_right _ (List.mem_append_right _ (List.mem_append_right _ (List.mem_append_right _ (List.mem_append_right _ (List.mem_append_right _ (List.mem_append_right _ (List.mem_append_right _ (List.mem_append_right _ (List.mem_append_right _ (List.mem_append_right _ (List.mem_of_getElem? (i := 1) rfl)))))))))))))))))
theorem tW713 : (.code y_ZoneNodesModel_messages b_ZoneNodesModel_messages 1 (some .int) : Cond) ∈ TW := (List.mem_append_right _ (List.mem_append_right _ (List.mem_append_right _ (List.mem_append_right _ (List.mem_append_right _ (List.mem_append_right _ (List.mem_append_right _ (List.mem_append_right _ (List.mem_append_right _ (List.mem_append_right _ (List.mem_append_right _ (List.mem_append_right _ (List.mem_append_right _ (List.mem_append_right _ (List.mem_append_right _ (List.mem_append_right _ (List.mem_of_getElem? (i := 2) rfl)))))))))))))))))
theorem tW717 : (.code y_ZoneNodes_message b_ZoneNodes_message 4 (some .int) : Cond) ∈ TW := (List.mem_append_right _ (List.mem_append_right _ (List.mem_append_right _ (List.mem_append_right _ (List.mem_append_right _ (List.mem_append_right _ (List.mem_append_right _ (List.mem_append_right _ (List.mem_append_right _ (List.mem_append_right _ (List.mem_append_right _ (List.mem_append_right _ (List.mem_append_right _ (List.mem_append_right _ (List.mem_append_right _ (List.mem_append_right _ (List.mem_of_getElem? (i := 3) rfl)))))))))))))))))
theorem tW721 : (.code y_ZoneNodesModel_message b_ZoneNodesModel_message 2 (some .int) : Cond) ∈ TW := (List.mem_append_right _ (List.mem_append_right _ (List.mem_append_right _ (List.mem_append_right _ (List.mem_append_right _ (List.mem_append_right _ (List.mem_append_right _ (List.mem_append_right _ (List.mem_append_right _ (List.mem_append_right _ (List.mem_append_right _ (List.mem_append_right _ (List.mem_append_right _ (List.mem_append_right _ (List.mem_append_right _ (List.mem_append_right _ (List.mem_of_getElem? (i := 4) rfl)))))))))))))))))
theorem tW725 : (.code y_ZoneNodes_serial b_ZoneNodes_serial 2 (some .int) : Cond) ∈ TW := (List.mem_append_right _ (List.mem_append_right _ (List.mem_append_right _ (List.mem_append_right _ (List.mem_append_right _ (List.mem_append_right _ (List.mem_append_right _ (List.mem_append_right _ (List.mem_append_right _ (List.mem_append_right _ (List.mem_append_right _ (List.mem_append_right _ (List.mem_append_right _ (List.mem_append_right _ (List.mem_append_right _ (List.mem_append_right _ (List.mem_of_getElem? (i := 5) rfl)))))))))))))))))
theorem tW729 : (.code y_ZoneNodesModel_serial b_ZoneNodesModel_serial 2 (some .int) : Cond) ∈ TW := (List.mem_append_right _ (List.mem_append_right _ (List.mem_append_right _ (List.mem_append_right _ (List.mem_append_right _ (List.mem_append_right _ (List.mem_append_right _ (List.mem_append_right _ (List.mem_append_right _ (List.mem_append_right _ (List.mem_append_right _ (List.mem_append_right _ (List.mem_append_right _ (List.mem_append_right _ (List.mem_append_right _ (List.mem_append_right _ (List.mem_of_getElem? (i := 6) rfl)))))))))))))))))
theorem tW733 : (.code y_ZoneNodes_size b_ZoneNodes_size 3 (some .int) : Cond) ∈ TW := (List.mem_append_right _ (List.mem_append_right _ (List.mem_append_right _ (List.mem_append_right _ (List.mem_append_right _ (List.mem_append_right _ (List.mem_append_right _ (List.mem_append_right _ (List.mem_append_right _ (List.mem_append_right _ (List.mem_append_right _ (List.mem_append_right _ (List.mem_append_right _ (List.mem_append_right _ (List.mem_append_right _ (List.mem_append_right _ (List.mem_of_getElem? (i := 7) rfl)))))))))))))))))
theorem tW737 : (.code y_ZoneNodesModel_size b_ZoneNodesModel_size 4 (some .int) : Cond) ∈ TW := (List.mem_append_right _ (List.mem_append_right _ (List.mem_append_right _ (List.mem_append_right _ (List.mem_append_right _ (List.mem_append_right _ (List.mem_append_right _ (List.mem_append_right _ (List.mem_append_right _ (List.mem_append_right _ (List.mem_append_right _ (List.mem_append_right _ (List.mem_append_right _ (List.mem_append_right _ (List.mem_append_right _ (List.mem_append_right _ (List.mem_of_getElem? (i := 8) rfl)))))))))))))))))
theorem tW741 : (.code y_ZoneNodes_has b_ZoneNodes_has 6 (some .boolean) : Cond) ∈ TW := (List.mem_append_right _ (List.mem_append_right _ (List.mem_append_right _ (List.mem_append_right _ (List.mem_append_right _ (List.mem_append_right _ (List.mem_append_right _ (List.mem_append_right _ (List.mem_append_right _ (List.mem_append_right _ (List.mem_append_right _ (List.mem_append_right _ (List.mem_append_right _ (List.mem_append_right _ (List.mem_append_right _ (List.mem_append_right _ (List.mem_of_getElem? (i := 9) rfl)))))))))))))))))
theorem tW745 : (.code y_ZoneNodesModel_has b_ZoneNodesModel_has 5 (some .boolean) : Cond) ∈ TW := (List.mem_append_right _ (List.mem_append_right _ (List.mem_append_right _ (List.mem_append_right _ (List.mem_append_right _ (List.mem_append_right _ (List.mem_append_right _ (List.mem_append_right _ (List.mem_append_right _ (List.mem_append_right _ (List.mem_append_right _ (List.mem_append_right _ (List.mem_append_right _ (List.mem_append_right _ (List.mem_append_right _ (List.mem_append_right _ (List.mem_of_getElem? (i := 10) rfl)))))))))))))))))
theorem tW749 : (.code y_ZoneNodes_query b_ZoneNodes_query 5 (some .int) : Cond) ∈ TW := (List.mem_append_right _ (List.mem_append_right _ (List.mem_append_right _ (List.mem_append_right _ (List.mem_append_right _ (List.mem_append_right _ (List.mem_append_right _ (List.mem_append_right _ (List.mem_append_right _ (List.mem_append_right _ (List.mem_append_right _ (List.mem_append_right _ (List.mem_append_right _ (List.mem_append_right _ (List.mem_append_right _ (List.mem_append_right _ (List.mem_of_getElem? (i := 11) rfl)))))))))))))))))
theorem tW753 : (.code y_ZoneNodesModel_query b_ZoneNodesModel_query 8 (some .int) : Cond) ∈ TW := (List.mem_append_right _ (List.mem_append_right _ (List.mem_append_right _ (List.mem_append_right _ (List.mem_append_right _ (List.mem_append_right _ (List.mem_append_right _ (List.mem_append_right _ (List.mem_append_right _ (List.mem_append_right _ (List.mem_append_right _ (List.mem_append_right _ (List.mem_append_right _ (List.mem_append_right _ (List.mem_append_right _ (List.mem_append_right _ (List.mem_of_getElem? (i := 12) rfl)))))))))))))))))
theorem tW757 : (.code y_ZoneNodes_state b_ZoneNodes_state 2 (some .int) : Cond) ∈ TW := (List.mem_append_right _ (List.mem_append_right _ (List.mem_append_right _ (List.mem_append_right _ (List.mem_append_right _ (List.mem_append_right _ (List.mem_append_right _ (List.mem_append_right _ (List.mem_append_right _ (List.mem_append_right _ (List.mem_append_right _ (List.mem_append_right _ (List.mem_append_right _ (List.mem_append_right _ (List.mem_append_right _ (List.mem_append_right _ (List.mem_of_getElem? (i := 13) rfl)))))))))))))))))
theorem tW761 : (.code y_ZoneNodesModel_state b_ZoneNodesModel_state 2 (some .int) : Cond) ∈ TW := (List.mem_append_right _ (List.mem_append_right _ (List.mem_append_right _ (List.mem_append_right _ (List.mem_append_right _ (List.mem_append_right _ (List.mem_append_right _ (List.mem_append_right _ (List.mem_append_right _ (List.mem_append_right _ (List.mem_append_right _ (List.mem_append_right _ (List.mem_append_right _ (List.mem_append_right _ (List.mem_append_right _ (List.mem_append_right _ (List.mem_of_getElem? (i := 14) rfl)))))))))))))))))
theorem tW765 : (.code y_ZoneNodes_journal b_ZoneNodes_journal 1 (some .int) : Cond) ∈ TW := (List.mem_append_right _ (List.mem_append_right _ (List.mem_append_right _ (List.mem_append_right _ (List.mem_append_right _ (List.mem_append_right _ (List.mem_append_right _ (List.mem_append_right _ (List.mem_append_right _ (List.mem_append_right _ (List.mem_append_right _ (List.mem_append_right _ (List.mem_append_right _ (List.mem_append_right _ (List.mem_append_right _ (List.mem_append_right _ (List.mem_of_getElem? (i := 15) rfl)))))))))))))))))
theorem tW769 : (.code y_ZoneNodesModel_journal b_ZoneNodesModel_journal 1 (some .int) : Cond) ∈ TW := (List.mem_append_right _ (List.mem_append_right _ (List.mem_append_right _ (List.mem_append_right _ (List.mem_append_right _ (List.mem_append_right _ (List.mem_append_right _ (List.mem_append_right _ (List.mem_append_right _ (List.mem_append_right _ (List.mem_append_right _ (List.mem_append_right _ (List.mem_append_right _ (List.mem_append_right _ (List.mem_append_right _ (List.mem_append_right _ (List.mem_of_getElem? (i := 16) rfl)))))))))))))))))
theorem in_t1 {w : Cond} (h : w ∈ tables_1_1) : w ∈ lw_tbl := List.mem_append_right _ (List.mem_append_left _ h)
theorem in_t2 {w : Cond} (h : w ∈ tables_1_2) : w ∈ lw_tbl := List.mem_append_right _ (List.mem_append_right _ (List.mem_append_left _ h))
theorem in_t3 {w : Cond} (h : w ∈ tables_1_3) : w ∈ lw_tbl := List.mem_append_right _ (List.mem_append_right _ (List.mem_append_right _ (List.mem_append_left _ h)))
theorem in_t4 {w : Cond} (h : w ∈ tables_1_4) : w ∈ lw_tbl := List.mem_append_right _ (List.mem_append_right _ (List.mem_append_right _ (List.mem_append_right _ (List.mem_append_left _ h))))
theorem in_t5 {w : Cond} (h : w ∈ tables_1_5) : w ∈ lw_tbl := List.mem_append_right _ (List.mem_append_right _ (List.mem_append_right _ (List.mem_append_right _ (List.mem_append_right _ (h)))))
theorem tg_0 : GoodIn lw_tbl (u_ws R_Draft F_Draft 4) := zg_r _ [83, 85, 87, 89] (by decide +kernel) (by decide +kernel)
theorem tg_1 : GoodIn lw_tbl (u_ws R_Entry F_Entry 4) := zg_r _ [207, 209, 211, 213] (by decide +kernel) (by decide +kernel)
theorem tg_2 : GoodIn lw_tbl (u_ws R_Journal F_Journal 2) := zg_r _ [221, 223] (by decide +kernel) (by decide +kernel)
theorem tg_3 : GoodIn lw_tbl (u_ws R_Message F_Message 10) := zg_r _ [132, 134, 136, 138, 140, 142, 144, 146, 148, 150] (by decide +kernel) (by decide +kernel)
theorem tg_4 : GoodIn lw_tbl (u_ws R_Primary F_Primary 9) := zg_r _ [257, 259, 261, 263, 265, 267, 269, 271, 273] (by decide +kernel) (by decide +kernel)
theorem tg_5 : GoodIn lw_tbl (u_ws R_Records F_Records 1) := zg_r _ [179] (by decide +kernel) (by decide +kernel)
theorem tg_6 : GoodIn lw_tbl (u_ws R_Secondary F_Secondary 13) := zg_r _ [310, 312, 314, 316, 318, 320, 322, 324, 326, 328, 330, 332, 334] (by decide +kernel) (by decide +kernel)
theorem tg_7 : GoodIn lw_tbl (u_ws R_Wire F_Wire 2) := zg_r _ [156, 158] (by decide +kernel) (by decide +kernel)
theorem tg_8 : GoodIn lw_tbl (u_ws R_ZoneNodes F_ZoneNodes 7) := zg_r _ [344, 346, 348, 350, 352, 354, 356] (by decide +kernel) (by decide +kernel)
theorem tg_9 : GoodIn lw_tbl (u_ws R_ZoneNodesModel F_ZoneNodesModel 32) := zg_r _ [810, 812, 814, 816, 818, 820, 822, 824, 826, 828, 830, 832, 834, 836, 838, 840, 842, 844, 846, 848, 850, 852, 854, 856, 858, 860, 862, 864, 866, 868, 870, 872] (by decide +kernel) (by decide +kernel)
theorem tg_10 : GoodIn lw_tbl (TW_0) := zg_r _ [78, 71, 92, 79, 80, 177, 178, 194, 195, 173, 58, 175, 197, 200, 187, 188, 216, 190, 60, 192, 230, 231, 232, 234, 236, 0, 171, 172, 238, 240, 182, 183, 59, 184, 185, 242, 244, 255, 250, 226, 227, 228, 305, 307, 299, 287, 61, 289, 1, 295, 309, 280, 281, 296, 298, 291, 293, 294, 283, 284, 285, 106, 107, 99, 100, 153, 102, 56, 104, 70, 337, 93, 338, 73, 74, 54, 76, 339, 94, 95, 55, 96, 97, 340, 161, 342, 163, 53, 164, 166, 167, 57, 168, 169, 341, 276, 277, 278, 154, 591, 592, 593, 218, 613, 615, 18, 371, 248, 246, 617, 618, 619, 609, 610, 611, 110, 538, 539, 540, 558, 560, 14, 562, 564, 15, 626, 627, 64, 605, 606, 607, 622, 623, 624, 554, 555, 556, 586, 308, 301, 303, 642, 637, 639, 20, 582, 584, 16, 652, 653] (by decide +kernel) (by decide +kernel)
theorem tg_11 : GoodIn lw_tbl (TW_1) := zg_r _ [654, 648, 650, 21, 426, 419, 422, 441, 467, 476, 477, 478, 668, 448, 449, 664, 665, 666, 669, 670, 671, 660, 662, 22, 542, 543, 544, 343, 656, 657, 658, 534, 535, 536, 546, 547, 548, 644, 645, 646, 633, 634, 635, 82, 367, 368, 370, 381, 382, 383, 686, 687, 689, 691, 23, 530, 532, 12, 596, 597, 598, 600, 601, 603, 17, 629, 631, 19, 677, 719, 721, 24, 731, 732, 733, 750, 432, 434, 4, 487, 488, 489, 746, 747, 748, 751, 429, 430, 752, 753, 63, 485, 463, 465, 7, 468, 470, 8, 472, 474, 9, 455, 456, 457, 506, 507, 508, 518, 519, 520, 522, 523, 524, 526, 527, 528, 502, 503, 504, 510, 511, 512, 514, 516, 11, 253, 498, 500, 10, 484, 447, 451, 452, 453, 480, 481, 482, 490, 491, 492, 494, 495, 496, 550, 552, 13, 714, 81, 373, 374] (by decide +kernel) (by decide +kernel)
theorem tg_12 : GoodIn lw_tbl (TW_2) := zg_r _ [375, 743, 744, 739, 740, 741, 400, 397, 398, 424, 428, 415, 416, 436, 438, 5, 389, 391, 2, 393, 394, 395, 409, 410, 411, 412, 413, 701, 702, 703, 705, 697, 698, 699, 578, 579, 580, 405, 407, 3, 566, 567, 568, 443, 445, 6, 787, 788, 781, 770, 782, 783, 784, 785, 786, 789, 790, 791, 794, 797, 798, 799, 800, 801, 803, 804, 805, 806, 807, 808, 809, 778, 779, 780, 771, 62, 772, 774, 776, 25, 802, 987, 989, 43, 795, 883, 884, 793, 886, 888, 26, 959, 961, 38, 952, 953, 955, 957, 37, 975, 977, 42, 971, 973, 41, 796, 1019, 1021, 49, 1011, 1013, 47, 999, 1001, 44, 1023, 1025, 50, 1015, 1017, 48, 1007, 1009, 46, 1003, 1005, 45, 1044, 792, 1061, 1063, 51, 967, 969, 40, 963, 965, 39, 905, 902, 903, 906, 908, 28, 898, 900, 27, 940, 942, 35] (by decide +kernel) (by decide +kernel)
theorem tg_13 : GoodIn lw_tbl (TW_3) := zg_r _ [936, 938, 34, 924, 926, 31, 918, 919, 920, 922, 30, 928, 930, 32, 948, 949, 950, 914, 916, 29, 932, 934, 33, 944, 946, 36, 65, 66, 762, 52, 763, 67, 68, 765, 766, 767, 768, 359, 360, 361, 875, 876, 877, 363, 364, 365, 879, 880, 881, 377, 378, 379, 890, 891, 892, 385, 386, 387, 894, 895, 896, 401, 402, 403, 910, 911, 912, 570, 571, 572, 979, 980, 981, 574, 575, 576, 1027, 1028, 1029, 587, 588, 589, 995, 996, 997, 673, 674, 675, 983, 984, 985, 678, 679, 680, 991, 992, 993, 682, 683, 684, 1031, 693, 694, 695, 1032, 1033, 1034, 706, 707, 708, 1036, 1037, 1038, 710, 711, 712, 1040, 1041, 1042, 715, 716, 717, 1045, 1046, 1047, 723, 724, 725, 1049, 1050, 1051, 727, 728, 729, 1053, 1054, 1055, 735, 736, 737, 1057, 1058, 1059, 754, 755, 756, 1065, 1066, 1067, 758] (by decide +kernel) (by decide +kernel)
theorem tg_14 : GoodIn lw_tbl (TW_4) := zg_r _ [759, 760, 1069, 1070, 1071] (by decide +kernel) (by decide +kernel)
set_option maxRecDepth 100000 in
theorem tg_15 : GoodIn lw_tbl (TW_5) := zg_cons (in_t1 (List.mem_of_getElem? (i := 20) rfl)) rfl (zg_cons (in_t1 (List.mem_of_getElem? (i := 124) rfl)) rfl (zg_cons (in_t1 (List.mem_of_getElem? (i := 141) rfl)) rfl (zg_cons (in_t1 (List.mem_of_getElem? (i := 181) rfl)) rfl (zg_cons (in_t1 (List.mem_of_getElem? (i := 185) rfl)) rfl (zg_cons (in_t1 (List.mem_of_getElem? (i := 134) rfl)) rfl (zg_cons (in_t1 (List.mem_of_getElem? (i := 177) rfl)) rfl (zg_cons (in_t1 (List.mem_of_getElem? (i := 238) rfl)) rfl (zg_cons (in_t1 (List.mem_of_getElem? (i := 234) rfl)) rfl (zg_cons (in_t1 (List.mem_of_getElem? (i := 53) rfl)) rfl (zg_cons (in_t1 (List.mem_of_getElem? (i := 25) rfl)) rfl (zg_cons (in_t1 (List.mem_of_getElem? (i := 46) rfl)) rfl (zg_cons (in_t1 (List.mem_of_getElem? (i := 113) rfl)) rfl (zg_cons (in_t1 (List.mem_of_getElem? (i := 118) rfl)) rfl (zg_cons (in_t1 (List.mem_of_getElem? (i := 227) rfl)) rfl (zg_cons (in_t3 (List.mem_of_getElem? (i := 62) rfl)) rfl (zg_cons (in_t3 (List.mem_of_getElem? (i := 84) rfl)) rfl (zg_cons (in_t2 (List.mem_of_getElem? (i := 80) rfl)) rfl (zg_cons (in_t3 (List.mem_of_getElem? (i := 88) rfl)) rfl (zg_cons (in_t3 (List.mem_of_getElem? (i := 80) rfl)) rfl (zg_cons (in_t3 (List.mem_of_getElem? (i := 9) rfl)) rfl (zg_cons (in_t3 (List.mem_of_getElem? (i := 29) rfl)) rfl (zg_cons (in_t3 (List.mem_of_getElem? (i := 33) rfl)) rfl (zg_cons (in_t3 (List.mem_of_getElem? (i := 96) rfl)) rfl (zg_cons (in_t3 (List.mem_of_getElem? (i := 76) rfl)) rfl (zg_cons (in_t3 (List.mem_of_getElem? (i := 93) rfl)) rfl (zg_cons (in_t3 (List.mem_of_getElem? (i := 25) rfl)) rfl (zg_cons (in_t3 (List.mem_of_getElem? (i := 111) rfl)) rfl (zg_cons (in_t3 (List.mem_of_getElem? (i := 108) rfl)) rfl (zg_cons (in_t3 (List.mem_of_getElem? (i := 53) rfl)) rfl (zg_cons (in_t3 (List.mem_of_getElem? (i := 123) rfl)) rfl (zg_cons (in_t3 (List.mem_of_getElem? (i := 119) rfl)) rfl (zg_cons (in_t2 (List.mem_of_getElem? (i := 135) rfl)) rfl (zg_cons (in_t2 (List.mem_of_getElem? (i := 128) rfl)) rfl (zg_cons (in_t2 (List.mem_of_getElem? (i := 131) rfl)) rfl (zg_cons (in_t2 (List.mem_of_getElem? (i := 150) rfl)) rfl (zg_cons (in_t2 (List.mem_of_getElem? (i := 187) rfl)) rfl (zg_cons (in_t2 (List.mem_of_getElem? (i := 158) rfl)) rfl (zg_cons (in_t3 (List.mem_of_getElem? (i := 135) rfl)) rfl (zg_cons (in_t3 (List.mem_of_getElem? (i := 140) rfl)) rfl (zg_cons (in_t3 (List.mem_of_getElem? (i := 131) rfl)) rfl (zg_cons (in_t3 (List.mem_of_getElem? (i := 13) rfl)) rfl (zg_cons (in_t3 (List.mem_of_getElem? (i := 127) rfl)) rfl (zg_cons (in_t3 (List.mem_of_getElem? (i := 5) rfl)) rfl (zg_cons (in_t3 (List.mem_of_getElem? (i := 17) rfl)) rfl (zg_cons (in_t3 (List.mem_of_getElem? (i := 115) rfl)) rfl (zg_cons (in_t3 (List.mem_of_getElem? (i := 104) rfl)) rfl (zg_cons (in_t2 (List.mem_of_getElem? (i := 77) rfl)) rfl (zg_cons (in_t2 (List.mem_of_getElem? (i := 92) rfl)) rfl (zg_cons (in_t3 (List.mem_of_getElem? (i := 156) rfl)) rfl (zg_cons (in_t3 (List.mem_of_getElem? (i := 160) rfl)) rfl (zg_cons (in_t3 (List.mem_of_getElem? (i := 1) rfl)) rfl (zg_cons (in_t3 (List.mem_of_getElem? (i := 67) rfl)) rfl (zg_cons (in_t3 (List.mem_of_getElem? (i := 72) rfl)) rfl (zg_cons (in_t3 (List.mem_of_getElem? (i := 100) rfl)) rfl (zg_cons (in_t3 (List.mem_of_getElem? (i := 190) rfl)) rfl (zg_cons (in_t3 (List.mem_of_getElem? (i := 202) rfl)) rfl (zg_cons (in_t2 (List.mem_of_getElem? (i := 143) rfl)) rfl (zg_cons (in_t3 (List.mem_of_getElem? (i := 217) rfl)) rfl (zg_cons (in_t2 (List.mem_of_getElem? (i := 139) rfl)) rfl (zg_cons (in_t2 (List.mem_of_getElem? (i := 194) rfl)) rfl (zg_cons (in_t2 (List.mem_of_getElem? (i := 174) rfl)) rfl (zg_cons (in_t2 (List.mem_of_getElem? (i := 179) rfl)) rfl (zg_cons (in_t2 (List.mem_of_getElem? (i := 183) rfl)) rfl (zg_cons (in_t2 (List.mem_of_getElem? (i := 166) rfl)) rfl (zg_cons (in_t2 (List.mem_of_getElem? (i := 217) rfl)) rfl (zg_cons (in_t2 (List.mem_of_getElem? (i := 229) rfl)) rfl (zg_cons (in_t2 (List.mem_of_getElem? (i := 233) rfl)) rfl (zg_cons (in_t2 (List.mem_of_getElem? (i := 237) rfl)) rfl (zg_cons (in_t2 (List.mem_of_getElem? (i := 213) rfl)) rfl (zg_cons (in_t2 (List.mem_of_getElem? (i := 221) rfl)) rfl (zg_cons (in_t2 (List.mem_of_getElem? (i := 225) rfl)) rfl (zg_cons (in_t2 (List.mem_of_getElem? (i := 209) rfl)) rfl (zg_cons (in_t2 (List.mem_of_getElem? (i := 162) rfl)) rfl (zg_cons (in_t2 (List.mem_of_getElem? (i := 191) rfl)) rfl (zg_cons (in_t2 (List.mem_of_getElem? (i := 201) rfl)) rfl (zg_cons (in_t2 (List.mem_of_getElem? (i := 205) rfl)) rfl (zg_cons (in_t3 (List.mem_of_getElem? (i := 21) rfl)) rfl (zg_cons (in_t2 (List.mem_of_getElem? (i := 84) rfl)) rfl (zg_cons (in_t3 (List.mem_of_getElem? (i := 213) rfl)) rfl (zg_cons (in_t3 (List.mem_of_getElem? (i := 210) rfl)) rfl (zg_cons (in_t2 (List.mem_of_getElem? (i := 107) rfl)) rfl (zg_cons (in_t2 (List.mem_of_getElem? (i := 125) rfl)) rfl (zg_cons (in_t2 (List.mem_of_getElem? (i := 147) rfl)) rfl (zg_cons (in_t2 (List.mem_of_getElem? (i := 100) rfl)) rfl (zg_cons (in_t2 (List.mem_of_getElem? (i := 104) rfl)) rfl (zg_cons (in_t2 (List.mem_of_getElem? (i := 122) rfl)) rfl (zg_cons (in_t3 (List.mem_of_getElem? (i := 172) rfl)) rfl (zg_cons (in_t3 (List.mem_of_getElem? (i := 168) rfl)) rfl (zg_cons (in_t3 (List.mem_of_getElem? (i := 49) rfl)) rfl (zg_cons (in_t2 (List.mem_of_getElem? (i := 116) rfl)) rfl (zg_cons (in_t3 (List.mem_of_getElem? (i := 37) rfl)) rfl (zg_cons (in_t2 (List.mem_of_getElem? (i := 154) rfl)) rfl (zg_cons (in_t4 (List.mem_of_getElem? (i := 1) rfl)) rfl (zg_cons (in_t4 (List.mem_of_getElem? (i := 5) rfl)) rfl (zg_cons (in_t4 (List.mem_of_getElem? (i := 218) rfl)) rfl (zg_cons (in_t4 (List.mem_of_getElem? (i := 113) rfl)) rfl (zg_cons (in_t4 (List.mem_of_getElem? (i := 117) rfl)) rfl (zg_cons (in_t4 (List.mem_of_getElem? (i := 190) rfl)) rfl (zg_cons (in_t4 (List.mem_of_getElem? (i := 182) rfl)) rfl (zg_cons (in_t4 (List.mem_of_getElem? (i := 186) rfl)) rfl (zg_cons (in_t4 (List.mem_of_getElem? (i := 206) rfl)) rfl (zg_cons (in_t4 (List.mem_of_getElem? (i := 202) rfl)) rfl (zg_cons (in_t5 (List.mem_of_getElem? (i := 10) rfl)) rfl (zg_cons (in_t5 (List.mem_of_getElem? (i := 2) rfl)) rfl (zg_cons (in_t4 (List.mem_of_getElem? (i := 230) rfl)) rfl (zg_cons (in_t5 (List.mem_of_getElem? (i := 14) rfl)) rfl (zg_cons (in_t5 (List.mem_of_getElem? (i := 6) rfl)) rfl (zg_cons (in_t4 (List.mem_of_getElem? (i := 238) rfl)) rfl (zg_cons (in_t4 (List.mem_of_getElem? (i := 234) rfl)) rfl (zg_cons (in_t5 (List.mem_of_getElem? (i := 52) rfl)) rfl (zg_cons (in_t4 (List.mem_of_getElem? (i := 198) rfl)) rfl (zg_cons (in_t4 (List.mem_of_getElem? (i := 194) rfl)) rfl (zg_cons (in_t4 (List.mem_of_getElem? (i := 132) rfl)) rfl (zg_cons (in_t4 (List.mem_of_getElem? (i := 137) rfl)) rfl (zg_cons (in_t4 (List.mem_of_getElem? (i := 129) rfl)) rfl (zg_cons (in_t4 (List.mem_of_getElem? (i := 171) rfl)) rfl (zg_cons (in_t4 (List.mem_of_getElem? (i := 167) rfl)) rfl (zg_cons (in_t4 (List.mem_of_getElem? (i := 155) rfl)) rfl (zg_cons (in_t4 (List.mem_of_getElem? (i := 151) rfl)) rfl (zg_cons (in_t4 (List.mem_of_getElem? (i := 159) rfl)) rfl (zg_cons (in_t4 (List.mem_of_getElem? (i := 179) rfl)) rfl (zg_cons (in_t4 (List.mem_of_getElem? (i := 145) rfl)) rfl (zg_cons (in_t4 (List.mem_of_getElem? (i := 163) rfl)) rfl (zg_cons (in_t4 (List.mem_of_getElem? (i := 175) rfl)) rfl (zg_cons (in_t3 (List.mem_of_getElem? (i := 232) rfl)) rfl (zg_cons (in_t1 (List.mem_of_getElem? (i := 17) rfl)) rfl (zg_cons (in_t3 (List.mem_of_getElem? (i := 237) rfl)) rfl (zg_cons (in_t2 (List.mem_of_getElem? (i := 70) rfl)) rfl (zg_cons (in_t4 (List.mem_of_getElem? (i := 106) rfl)) rfl (zg_cons (in_t2 (List.mem_of_getElem? (i := 74) rfl)) rfl (zg_cons (in_t4 (List.mem_of_getElem? (i := 110) rfl)) rfl (zg_cons (in_t2 (List.mem_of_getElem? (i := 88) rfl)) rfl (zg_cons (in_t4 (List.mem_of_getElem? (i := 121) rfl)) rfl (zg_cons (in_t2 (List.mem_of_getElem? (i := 96) rfl)) rfl (zg_cons (in_t4 (List.mem_of_getElem? (i := 125) rfl)) rfl (zg_cons (in_t2 (List.mem_of_getElem? (i := 112) rfl)) rfl (zg_cons (in_t4 (List.mem_of_getElem? (i := 141) rfl)) rfl (zg_cons (in_t3 (List.mem_of_getElem? (i := 41) rfl)) rfl (zg_cons (in_t4 (List.mem_of_getElem? (i := 210) rfl)) rfl (zg_cons (in_t3 (List.mem_of_getElem? (i := 45) rfl)) rfl (zg_cons (in_t5 (List.mem_of_getElem? (i := 18) rfl)) rfl (zg_cons (in_t3 (List.mem_of_getElem? (i := 58) rfl)) rfl (zg_cons (in_t4 (List.mem_of_getElem? (i := 226) rfl)) rfl (zg_cons (in_t3 (List.mem_of_getElem? (i := 144) rfl)) rfl (zg_cons (in_t4 (List.mem_of_getElem? (i := 214) rfl)) rfl (zg_cons (in_t3 (List.mem_of_getElem? (i := 149) rfl)) rfl (zg_cons (in_t4 (List.mem_of_getElem? (i := 222) rfl)) rfl (zg_cons (in_t3 (List.mem_of_getElem? (i := 153) rfl)) rfl (zg_cons (in_t3 (List.mem_of_getElem? (i := 164) rfl)) rfl (zg_nil))))))))))))))))))))))))))))))))))))))))))))))))))))))))))))))))))))))))))))))))))))))))))))))))))))))))))))))))))))))))))))))))))))))))))))))))))))))
set_option maxRecDepth 100000 in
theorem tg_16 : GoodIn lw_tbl (TW_6) := zg_cons (in_t5 (List.mem_of_getElem? (i := 23) rfl)) rfl (zg_cons (in_t3 (List.mem_of_getElem? (i := 177) rfl)) rfl (zg_cons (in_t5 (List.mem_of_getElem? (i := 27) rfl)) rfl (zg_cons (in_t3 (List.mem_of_getElem? (i := 181) rfl)) rfl (zg_cons (in_t5 (List.mem_of_getElem? (i := 31) rfl)) rfl (zg_cons (in_t3 (List.mem_of_getElem? (i := 186) rfl)) rfl (zg_cons (in_t5 (List.mem_of_getElem? (i := 36) rfl)) rfl (zg_cons (in_t3 (List.mem_of_getElem? (i := 194) rfl)) rfl (zg_cons (in_t5 (List.mem_of_getElem? (i := 40) rfl)) rfl (zg_cons (in_t3 (List.mem_of_getElem? (i := 198) rfl)) rfl (zg_cons (in_t5 (List.mem_of_getElem? (i := 44) rfl)) rfl (zg_cons (in_t3 (List.mem_of_getElem? (i := 206) rfl)) rfl (zg_cons (in_t5 (List.mem_of_getElem? (i := 48) rfl)) rfl (zg_cons (in_t3 (List.mem_of_getElem? (i := 225) rfl)) rfl (zg_cons (in_t5 (List.mem_of_getElem? (i := 56) rfl)) rfl (zg_cons (in_t3 (List.mem_of_getElem? (i := 229) rfl)) rfl (zg_cons (in_t5 (List.mem_of_getElem? (i := 60) rfl)) rfl (zg_nil)))))))))))))))))
theorem tw_tbl : GoodIn lw_tbl TW := zg_app tg_0 (zg_app tg_1 (zg_app tg_2 (zg_app tg_3 (zg_app tg_4 (zg_app tg_5 (zg_app tg_6 (zg_app tg_7 (zg_app tg_8 (zg_app tg_9 (zg_app tg_10 (zg_app tg_11 (zg_app tg_12 (zg_app tg_13 (zg_app tg_14 (zg_app tg_15 (tg_16))))))))))))))))
theorem tw_good : ∀ w ∈ TW, ((w.onTables && w.keeps) = true ∨ ∃ ty, w = .arrayClass ty) := fun w h => (tw_tbl w h).2
/-! links of nest mates; arrays of references -/
def nw_F : List (String × Nat × String × String × String × String) := [(R_ZoneNodes, 110, R_Message, "kind", "I", R_ZoneNodes), (R_ZoneNodes, 130, R_Message, "altered", "Z", R_ZoneNodes), (R_ZoneNodes, 74, R_Primary, "up", "Z", R_ZoneNodes), (R_ZoneNodes, 89, R_Primary, "armed", "I", R_ZoneNodes), (R_Journal, 22, R_Entry, "oldSerial", "I", R_ZoneNodes), (R_Primary, 93, R_Journal, "count", "I", R_ZoneNodes), (R_Primary, 106, R_Journal, "rows", "[LZoneNodes$Entry;", R_ZoneNodes), (R_Primary, 65, R_Entry, "gone", "LZoneNodes$Records;", R_ZoneNodes), (R_Primary, 70, R_Entry, "come", "LZoneNodes$Records;", R_ZoneNodes), (R_Wire, 26, R_Message, "kind", "I", R_ZoneNodes), (R_Wire, 29, R_Message, "secondary", "I", R_ZoneNodes), (R_Wire, 84, R_Message, "serial", "I", R_ZoneNodes), (R_Wire, 85, R_Message, "altered", "Z", R_ZoneNodes), (R_Wire, 52, R_Primary, "itemCount", "I", R_ZoneNodes), (R_Wire, 57, R_Primary, "serial", "I", R_ZoneNodes), (R_Wire, 60, R_Message, "number", "I", R_ZoneNodes), (R_Wire, 63, R_Primary, "itemsAreWhole", "Z", R_ZoneNodes), (R_Wire, 66, R_Message, "whole", "Z", R_ZoneNodes), (R_Wire, 69, R_Message, "last", "Z", R_ZoneNodes), (R_Wire, 78, R_Message, "itemCount", "I", R_ZoneNodes), (R_Wire, 79, R_Message, "items", "[I", R_ZoneNodes), (R_Wire, 83, R_Primary, "items", "[I", R_ZoneNodes), (R_ZoneNodes, 237, R_Message, "hasSerial", "Z", R_ZoneNodes), (R_ZoneNodes, 240, R_Message, "serial", "I", R_ZoneNodes), (R_ZoneNodes, 119, R_Message, "secondary", "I", R_ZoneNodes), (R_ZoneNodes, 168, R_Primary, "serial", "I", R_ZoneNodes), (R_Wire, 48, R_Message, "hasSerial", "Z", R_ZoneNodes), (R_Secondary, 80, R_Message, "number", "I", R_ZoneNodes), (R_Secondary, 90, R_Message, "itemCount", "I", R_ZoneNodes), (R_Secondary, 93, R_Message, "items", "[I", R_ZoneNodes), (R_Secondary, 100, R_Message, "last", "Z", R_ZoneNodes), (R_Secondary, 107, R_Message, "serial", "I", R_ZoneNodes), (R_Secondary, 83, R_Message, "whole", "Z", R_ZoneNodes), (R_ZoneNodes, 145, R_Secondary, "up", "Z", R_ZoneNodes), (R_ZoneNodes, 257, R_Secondary, "number", "I", R_ZoneNodes), (R_ZoneNodes, 201, R_Secondary, "hasVersion", "Z", R_ZoneNodes), (R_ZoneNodes, 204, R_Secondary, "records", "LZoneNodes$Records;", R_ZoneNodes), (R_ZoneNodes, 197, R_Primary, "records", "LZoneNodes$Records;", R_ZoneNodes), (R_ZoneNodes, 190, R_Primary, "entries", "LZoneNodes$Journal;", R_ZoneNodes), (R_ZoneNodes, 194, R_Journal, "count", "I", R_ZoneNodes), (R_Journal, 25, R_Entry, "marked", "Z", R_ZoneNodes), (R_Journal, 29, R_Entry, "gone", "LZoneNodes$Records;", R_ZoneNodes), (R_Journal, 39, R_Entry, "come", "LZoneNodes$Records;", R_ZoneNodes), (R_Primary, 77, R_Entry, "oldSerial", "I", R_ZoneNodes), (R_ZoneNodes, 213, R_Primary, "next", "LZoneNodes$Records;", R_ZoneNodes), (R_ZoneNodes, 158, R_Message, "number", "I", R_ZoneNodes), (R_ZoneNodes, 161, R_Message, "itemCount", "I", R_ZoneNodes), (R_ZoneNodes, 154, R_Wire, "count", "I", R_ZoneNodes), (R_Primary, 83, R_Entry, "marked", "Z", R_ZoneNodes), (R_ZoneNodes, 171, R_Secondary, "serial", "I", R_ZoneNodes), (R_ZoneNodes, 187, R_Secondary, "phase", "I", R_ZoneNodes)]
theorem nFm0 : ((R_ZoneNodes, 110, R_Message, "kind", "I", R_ZoneNodes) : String × Nat × String × String × String × String) ∈ nw_F := List.mem_of_getElem? (i := 0) rfl
theorem nFm1 : ((R_ZoneNodes, 130, R_Message, "altered", "Z", R_ZoneNodes) : String × Nat × String × String × String × String) ∈ nw_F := List.mem_of_getElem? (i := 1) rfl
theorem nFm2 : ((R_ZoneNodes, 74, R_Primary, "up", "Z", R_ZoneNodes) : String × Nat × String × String × String × String) ∈ nw_F := List.mem_of_getElem? (i := 2) rfl
theorem nFm3 : ((R_ZoneNodes, 89, R_Primary, "armed", "I", R_ZoneNodes) : String × Nat × String × String × String × String) ∈ nw_F := List.mem_of_getElem? (i := 3) rfl
theorem nFm4 : ((R_Journal, 22, R_Entry, "oldSerial", "I", R_ZoneNodes) : String × Nat × String × String × String × String) ∈ nw_F := List.mem_of_getElem? (i := 4) rfl
theorem nFm5 : ((R_Primary, 93, R_Journal, "count", "I", R_ZoneNodes) : String × Nat × String × String × String × String) ∈ nw_F := List.mem_of_getElem? (i := 5) rfl
theorem nFm6 : ((R_Primary, 106, R_Journal, "rows", "[LZoneNodes$Entry;", R_ZoneNodes) : String × Nat × String × String × String × String) ∈ nw_F := List.mem_of_getElem? (i := 6) rfl
theorem nFm7 : ((R_Primary, 65, R_Entry, "gone", "LZoneNodes$Records;", R_ZoneNodes) : String × Nat × String × String × String × String) ∈ nw_F := List.mem_of_getElem? (i := 7) rfl
theorem nFm8 : ((R_Primary, 70, R_Entry, "come", "LZoneNodes$Records;", R_ZoneNodes) : String × Nat × String × String × String × String) ∈ nw_F := List.mem_of_getElem? (i := 8) rfl
theorem nFm9 : ((R_Wire, 26, R_Message, "kind", "I", R_ZoneNodes) : String × Nat × String × String × String × String) ∈ nw_F := List.mem_of_getElem? (i := 9) rfl
theorem nFm10 : ((R_Wire, 29, R_Message, "secondary", "I", R_ZoneNodes) : String × Nat × String × String × String × String) ∈ nw_F := List.mem_of_getElem? (i := 10) rfl
theorem nFm11 : ((R_Wire, 84, R_Message, "serial", "I", R_ZoneNodes) : String × Nat × String × String × String × String) ∈ nw_F := List.mem_of_getElem? (i := 11) rfl
theorem nFm12 : ((R_Wire, 85, R_Message, "altered", "Z", R_ZoneNodes) : String × Nat × String × String × String × String) ∈ nw_F := List.mem_of_getElem? (i := 12) rfl
theorem nFm13 : ((R_Wire, 52, R_Primary, "itemCount", "I", R_ZoneNodes) : String × Nat × String × String × String × String) ∈ nw_F := List.mem_of_getElem? (i := 13) rfl
theorem nFm14 : ((R_Wire, 57, R_Primary, "serial", "I", R_ZoneNodes) : String × Nat × String × String × String × String) ∈ nw_F := List.mem_of_getElem? (i := 14) rfl
theorem nFm15 : ((R_Wire, 60, R_Message, "number", "I", R_ZoneNodes) : String × Nat × String × String × String × String) ∈ nw_F := List.mem_of_getElem? (i := 15) rfl
theorem nFm16 : ((R_Wire, 63, R_Primary, "itemsAreWhole", "Z", R_ZoneNodes) : String × Nat × String × String × String × String) ∈ nw_F := List.mem_of_getElem? (i := 16) rfl
theorem nFm17 : ((R_Wire, 66, R_Message, "whole", "Z", R_ZoneNodes) : String × Nat × String × String × String × String) ∈ nw_F := List.mem_of_getElem? (i := 17) rfl
theorem nFm18 : ((R_Wire, 69, R_Message, "last", "Z", R_ZoneNodes) : String × Nat × String × String × String × String) ∈ nw_F := List.mem_of_getElem? (i := 18) rfl
theorem nFm19 : ((R_Wire, 78, R_Message, "itemCount", "I", R_ZoneNodes) : String × Nat × String × String × String × String) ∈ nw_F := List.mem_of_getElem? (i := 19) rfl
theorem nFm20 : ((R_Wire, 79, R_Message, "items", "[I", R_ZoneNodes) : String × Nat × String × String × String × String) ∈ nw_F := List.mem_of_getElem? (i := 20) rfl
theorem nFm21 : ((R_Wire, 83, R_Primary, "items", "[I", R_ZoneNodes) : String × Nat × String × String × String × String) ∈ nw_F := List.mem_of_getElem? (i := 21) rfl
theorem nFm22 : ((R_ZoneNodes, 237, R_Message, "hasSerial", "Z", R_ZoneNodes) : String × Nat × String × String × String × String) ∈ nw_F := List.mem_of_getElem? (i := 22) rfl
theorem nFm23 : ((R_ZoneNodes, 240, R_Message, "serial", "I", R_ZoneNodes) : String × Nat × String × String × String × String) ∈ nw_F := List.mem_of_getElem? (i := 23) rfl
theorem nFm24 : ((R_ZoneNodes, 119, R_Message, "secondary", "I", R_ZoneNodes) : String × Nat × String × String × String × String) ∈ nw_F := List.mem_of_getElem? (i := 24) rfl
theorem nFm25 : ((R_ZoneNodes, 168, R_Primary, "serial", "I", R_ZoneNodes) : String × Nat × String × String × String × String) ∈ nw_F := List.mem_of_getElem? (i := 25) rfl
theorem nFm26 : ((R_Wire, 48, R_Message, "hasSerial", "Z", R_ZoneNodes) : String × Nat × String × String × String × String) ∈ nw_F := List.mem_of_getElem? (i := 26) rfl
theorem nFm27 : ((R_Secondary, 80, R_Message, "number", "I", R_ZoneNodes) : String × Nat × String × String × String × String) ∈ nw_F := List.mem_of_getElem? (i := 27) rfl
theorem nFm28 : ((R_Secondary, 90, R_Message, "itemCount", "I", R_ZoneNodes) : String × Nat × String × String × String × String) ∈ nw_F := List.mem_of_getElem? (i := 28) rfl
theorem nFm29 : ((R_Secondary, 93, R_Message, "items", "[I", R_ZoneNodes) : String × Nat × String × String × String × String) ∈ nw_F := List.mem_of_getElem? (i := 29) rfl
theorem nFm30 : ((R_Secondary, 100, R_Message, "last", "Z", R_ZoneNodes) : String × Nat × String × String × String × String) ∈ nw_F := List.mem_of_getElem? (i := 30) rfl
theorem nFm31 : ((R_Secondary, 107, R_Message, "serial", "I", R_ZoneNodes) : String × Nat × String × String × String × String) ∈ nw_F := List.mem_of_getElem? (i := 31) rfl
theorem nFm32 : ((R_Secondary, 83, R_Message, "whole", "Z", R_ZoneNodes) : String × Nat × String × String × String × String) ∈ nw_F := List.mem_of_getElem? (i := 32) rfl
theorem nFm33 : ((R_ZoneNodes, 145, R_Secondary, "up", "Z", R_ZoneNodes) : String × Nat × String × String × String × String) ∈ nw_F := List.mem_of_getElem? (i := 33) rfl
theorem nFm34 : ((R_ZoneNodes, 257, R_Secondary, "number", "I", R_ZoneNodes) : String × Nat × String × String × String × String) ∈ nw_F := List.mem_of_getElem? (i := 34) rfl
theorem nFm35 : ((R_ZoneNodes, 201, R_Secondary, "hasVersion", "Z", R_ZoneNodes) : String × Nat × String × String × String × String) ∈ nw_F := List.mem_of_getElem? (i := 35) rfl
theorem nFm36 : ((R_ZoneNodes, 204, R_Secondary, "records", "LZoneNodes$Records;", R_ZoneNodes) : String × Nat × String × String × String × String) ∈ nw_F := List.mem_of_getElem? (i := 36) rfl
theorem nFm37 : ((R_ZoneNodes, 197, R_Primary, "records", "LZoneNodes$Records;", R_ZoneNodes) : String × Nat × String × String × String × String) ∈ nw_F := List.mem_of_getElem? (i := 37) rfl
theorem nFm38 : ((R_ZoneNodes, 190, R_Primary, "entries", "LZoneNodes$Journal;", R_ZoneNodes) : String × Nat × String × String × String × String) ∈ nw_F := List.mem_of_getElem? (i := 38) rfl
theorem nFm39 : ((R_ZoneNodes, 194, R_Journal, "count", "I", R_ZoneNodes) : String × Nat × String × String × String × String) ∈ nw_F := List.mem_of_getElem? (i := 39) rfl
theorem nFm40 : ((R_Journal, 25, R_Entry, "marked", "Z", R_ZoneNodes) : String × Nat × String × String × String × String) ∈ nw_F := List.mem_of_getElem? (i := 40) rfl
theorem nFm41 : ((R_Journal, 29, R_Entry, "gone", "LZoneNodes$Records;", R_ZoneNodes) : String × Nat × String × String × String × String) ∈ nw_F := List.mem_of_getElem? (i := 41) rfl
theorem nFm42 : ((R_Journal, 39, R_Entry, "come", "LZoneNodes$Records;", R_ZoneNodes) : String × Nat × String × String × String × String) ∈ nw_F := List.mem_of_getElem? (i := 42) rfl
theorem nFm43 : ((R_Primary, 77, R_Entry, "oldSerial", "I", R_ZoneNodes) : String × Nat × String × String × String × String) ∈ nw_F := List.mem_of_getElem? (i := 43) rfl
theorem nFm44 : ((R_ZoneNodes, 213, R_Primary, "next", "LZoneNodes$Records;", R_ZoneNodes) : String × Nat × String × String × String × String) ∈ nw_F := List.mem_of_getElem? (i := 44) rfl
theorem nFm45 : ((R_ZoneNodes, 158, R_Message, "number", "I", R_ZoneNodes) : String × Nat × String × String × String × String) ∈ nw_F := List.mem_of_getElem? (i := 45) rfl
theorem nFm46 : ((R_ZoneNodes, 161, R_Message, "itemCount", "I", R_ZoneNodes) : String × Nat × String × String × String × String) ∈ nw_F := List.mem_of_getElem? (i := 46) rfl
theorem nFm47 : ((R_ZoneNodes, 154, R_Wire, "count", "I", R_ZoneNodes) : String × Nat × String × String × String × String) ∈ nw_F := List.mem_of_getElem? (i := 47) rfl
theorem nFm48 : ((R_Primary, 83, R_Entry, "marked", "Z", R_ZoneNodes) : String × Nat × String × String × String × String) ∈ nw_F := List.mem_of_getElem? (i := 48) rfl
theorem nFm49 : ((R_ZoneNodes, 171, R_Secondary, "serial", "I", R_ZoneNodes) : String × Nat × String × String × String × String) ∈ nw_F := List.mem_of_getElem? (i := 49) rfl
theorem nFm50 : ((R_ZoneNodes, 187, R_Secondary, "phase", "I", R_ZoneNodes) : String × Nat × String × String × String × String) ∈ nw_F := List.mem_of_getElem? (i := 50) rfl
def nw_M : List (String × Nat × MethodName × String) := [(R_Entry, 9, y_Records_init, R_ZoneNodes), (R_Journal, 17, y_Entry_init, R_ZoneNodes), (R_Primary, 11, y_Records_init, R_ZoneNodes), (R_Secondary, 11, y_Records_init, R_ZoneNodes), (R_Wire, 17, y_Message_init, R_ZoneNodes), (R_ZoneNodes, 19, y_Draft_init, R_ZoneNodes), (R_Wire, 22, y_ZoneNodes_within, R_ZoneNodes), (R_Records, 65, y_ZoneNodes_coded, R_ZoneNodes), (R_Secondary, 115, y_ZoneNodes_isLater, R_ZoneNodes), (R_Records, 46, y_ZoneNodes_formOf, R_ZoneNodes), (R_Records, 37, y_ZoneNodes_nameOf, R_ZoneNodes), (R_Records, 40, y_ZoneNodes_typeOf, R_ZoneNodes), (R_Records, 43, y_ZoneNodes_valueOf, R_ZoneNodes), (R_Draft, 42, y_ZoneNodes_nameOf, R_ZoneNodes), (R_Draft, 45, y_ZoneNodes_typeOf, R_ZoneNodes), (R_Draft, 34, y_ZoneNodes_formOf, R_ZoneNodes), (R_Draft, 57, y_ZoneNodes_valueOf, R_ZoneNodes)]
theorem nMm0 : ((R_Entry, 9, y_Records_init, R_ZoneNodes) : String × Nat × MethodName × String) ∈ nw_M := List.mem_of_getElem? (i := 0) rfl
theorem nMm1 : ((R_Journal, 17, y_Entry_init, R_ZoneNodes) : String × Nat × MethodName × String) ∈ nw_M := List.mem_of_getElem? (i := 1) rfl
theorem nMm2 : ((R_Primary, 11, y_Records_init, R_ZoneNodes) : String × Nat × MethodName × String) ∈ nw_M := List.mem_of_getElem? (i := 2) rfl
theorem nMm3 : ((R_Secondary, 11, y_Records_init, R_ZoneNodes) : String × Nat × MethodName × String) ∈ nw_M := List.mem_of_getElem? (i := 3) rfl
theorem nMm4 : ((R_Wire, 17, y_Message_init, R_ZoneNodes) : String × Nat × MethodName × String) ∈ nw_M := List.mem_of_getElem? (i := 4) rfl
theorem nMm5 : ((R_ZoneNodes, 19, y_Draft_init, R_ZoneNodes) : String × Nat × MethodName × String) ∈ nw_M := List.mem_of_getElem? (i := 5) rfl
theorem nMm6 : ((R_Wire, 22, y_ZoneNodes_within, R_ZoneNodes) : String × Nat × MethodName × String) ∈ nw_M := List.mem_of_getElem? (i := 6) rfl
theorem nMm7 : ((R_Records, 65, y_ZoneNodes_coded, R_ZoneNodes) : String × Nat × MethodName × String) ∈ nw_M := List.mem_of_getElem? (i := 7) rfl
theorem nMm8 : ((R_Secondary, 115, y_ZoneNodes_isLater, R_ZoneNodes) : String × Nat × MethodName × String) ∈ nw_M := List.mem_of_getElem? (i := 8) rfl
theorem nMm9 : ((R_Records, 46, y_ZoneNodes_formOf, R_ZoneNodes) : String × Nat × MethodName × String) ∈ nw_M := List.mem_of_getElem? (i := 9) rfl
theorem nMm10 : ((R_Records, 37, y_ZoneNodes_nameOf, R_ZoneNodes) : String × Nat × MethodName × String) ∈ nw_M := List.mem_of_getElem? (i := 10) rfl
theorem nMm11 : ((R_Records, 40, y_ZoneNodes_typeOf, R_ZoneNodes) : String × Nat × MethodName × String) ∈ nw_M := List.mem_of_getElem? (i := 11) rfl
theorem nMm12 : ((R_Records, 43, y_ZoneNodes_valueOf, R_ZoneNodes) : String × Nat × MethodName × String) ∈ nw_M := List.mem_of_getElem? (i := 12) rfl
theorem nMm13 : ((R_Draft, 42, y_ZoneNodes_nameOf, R_ZoneNodes) : String × Nat × MethodName × String) ∈ nw_M := List.mem_of_getElem? (i := 13) rfl
theorem nMm14 : ((R_Draft, 45, y_ZoneNodes_typeOf, R_ZoneNodes) : String × Nat × MethodName × String) ∈ nw_M := List.mem_of_getElem? (i := 14) rfl
theorem nMm15 : ((R_Draft, 34, y_ZoneNodes_formOf, R_ZoneNodes) : String × Nat × MethodName × String) ∈ nw_M := List.mem_of_getElem? (i := 15) rfl
theorem nMm16 : ((R_Draft, 57, y_ZoneNodes_valueOf, R_ZoneNodes) : String × Nat × MethodName × String) ∈ nw_M := List.mem_of_getElem? (i := 16) rfl
def ao_L : List String := [R_Entry, R_Message, R_Secondary]
theorem ao_2 : R_Entry ∈ ao_L := List.mem_of_getElem? (i := 0) rfl
theorem ao_3 : R_Message ∈ ao_L := List.mem_of_getElem? (i := 1) rfl
theorem ao_4 : R_Secondary ∈ ao_L := List.mem_of_getElem? (i := 2) rfl
abbrev w_ZoneNodes_within : List Cond := .code y_ZoneNodes_within b_ZoneNodes_within 3 (some .boolean) :: TW
abbrev w_Draft_init : List Cond := .code y_Draft_init b_Draft_init 1 none :: TW
abbrev w_Records_init : List Cond := .code y_Records_init b_Records_init 1 none :: TW
abbrev w_Entry_init : List Cond := .code y_Entry_init b_Entry_init 1 none :: TW
abbrev w_Journal_init : List Cond := .code y_Journal_init b_Journal_init 2 none :: TW
abbrev w_Records_setValues : List Cond := .code y_Records_setValues b_Records_setValues 4 none :: TW
abbrev w_Records_valuesOf : List Cond := .code y_Records_valuesOf b_Records_valuesOf 3 (some .int) :: TW
abbrev w_Records_put : List Cond := .code y_Records_put b_Records_put 4 none :: TW
abbrev w_Primary_init : List Cond := .code y_Primary_init b_Primary_init 2 none :: TW
abbrev w_Secondary_rest : List Cond := .code y_Secondary_rest b_Secondary_rest 2 none :: TW
abbrev w_Secondary_comeUp : List Cond := .code y_Secondary_comeUp b_Secondary_comeUp 2 none :: TW
abbrev w_Secondary_init : List Cond := .code y_Secondary_init b_Secondary_init 5 none :: TW
abbrev w_Message_init : List Cond := .code y_Message_init b_Message_init 1 none :: TW
abbrev w_Wire_init : List Cond := .code y_Wire_init b_Wire_init 2 none :: TW
abbrev w_ZoneNodes_init : List Cond := .code y_ZoneNodes_init b_ZoneNodes_init 9 none :: TW
abbrev w_Wire_at : List Cond := .code y_Wire_at b_Wire_at 2 (some (.object "ZoneNodes$Message")) :: TW
abbrev w_ZoneNodes_alter : List Cond := .code y_ZoneNodes_alter b_ZoneNodes_alter 3 (some .boolean) :: TW
abbrev w_ZoneNodes_arm : List Cond := .code y_ZoneNodes_arm b_ZoneNodes_arm 2 (some .boolean) :: TW
abbrev w_Journal_leadsTo : List Cond := .code y_Journal_leadsTo b_Journal_leadsTo 5 (some .boolean) :: TW
abbrev w_Journal_startOfWay : List Cond := .code y_Journal_startOfWay b_Journal_startOfWay 4 (some .int) :: TW
abbrev w_ZoneNodes_coded : List Cond := .code y_ZoneNodes_coded b_ZoneNodes_coded 4 (some .int) :: TW
abbrev w_Records_listInto : List Cond := .code y_Records_listInto b_Records_listInto 7 (some .int) :: TW
abbrev w_Primary_workOutItems : List Cond := .code y_Primary_workOutItems b_Primary_workOutItems 5 none :: TW
abbrev w_Message_isOnStream : List Cond := .code y_Message_isOnStream b_Message_isOnStream 1 (some .boolean) :: TW
abbrev w_Wire_countLossy : List Cond := .code y_Wire_countLossy b_Wire_countLossy 3 (some .int) :: TW
abbrev w_Wire_put : List Cond := .code y_Wire_put b_Wire_put 5 (some (.object "ZoneNodes$Message")) :: TW
abbrev w_Wire_sendLossy : List Cond := .code y_Wire_sendLossy b_Wire_sendLossy 4 none :: TW
abbrev w_Wire_sendParts : List Cond := .code y_Wire_sendParts b_Wire_sendParts 7 none :: TW
abbrev w_ZoneNodes_arriveAtPrimary : List Cond := .code y_ZoneNodes_arriveAtPrimary b_ZoneNodes_arriveAtPrimary 2 none :: TW
abbrev w_Secondary_ask : List Cond := .code y_Secondary_ask b_Secondary_ask 3 none :: TW
abbrev w_ZoneNodes_isLater : List Cond := .code y_ZoneNodes_isLater b_ZoneNodes_isLater 2 (some .boolean) :: TW
abbrev w_Secondary_lacks : List Cond := .code y_Secondary_lacks b_Secondary_lacks 2 (some .boolean) :: TW
abbrev w_Secondary_hearNotify : List Cond := .code y_Secondary_hearNotify b_Secondary_hearNotify 4 none :: TW
abbrev w_Secondary_becomeRefreshed : List Cond := .code y_Secondary_becomeRefreshed b_Secondary_becomeRefreshed 2 none :: TW
abbrev w_Wire_sendFetch : List Cond := .code y_Wire_sendFetch b_Wire_sendFetch 5 none :: TW
abbrev w_Secondary_hearTell : List Cond := .code y_Secondary_hearTell b_Secondary_hearTell 5 none :: TW
abbrev w_Secondary_loseStream : List Cond := .code y_Secondary_loseStream b_Secondary_loseStream 2 none :: TW
abbrev w_Records_copyFrom : List Cond := .code y_Records_copyFrom b_Records_copyFrom 3 none :: TW
abbrev w_ZoneNodes_formOf : List Cond := .code y_ZoneNodes_formOf b_ZoneNodes_formOf 1 (some .int) :: TW
abbrev w_ZoneNodes_nameOf : List Cond := .code y_ZoneNodes_nameOf b_ZoneNodes_nameOf 1 (some .int) :: TW
abbrev w_ZoneNodes_typeOf : List Cond := .code y_ZoneNodes_typeOf b_ZoneNodes_typeOf 1 (some .int) :: TW
abbrev w_ZoneNodes_valueOf : List Cond := .code y_ZoneNodes_valueOf b_ZoneNodes_valueOf 1 (some .int) :: TW
abbrev w_Records_takeAway : List Cond := .code y_Records_takeAway b_Records_takeAway 4 none :: TW
abbrev w_Records_takeItem : List Cond := .code y_Records_takeItem b_Records_takeItem 2 none :: TW
abbrev w_Records_empty : List Cond := .code y_Records_empty b_Records_empty 2 none :: TW
abbrev w_Secondary_beginIncoming : List Cond := .code y_Secondary_beginIncoming b_Secondary_beginIncoming 2 none :: TW
abbrev w_Secondary_takePart : List Cond := .code y_Secondary_takePart b_Secondary_takePart 4 none :: TW
abbrev w_Wire_takeOut : List Cond := .code y_Wire_takeOut b_Wire_takeOut 4 none :: TW
abbrev w_Wire_endStreamOf : List Cond := .code y_Wire_endStreamOf b_Wire_endStreamOf 3 none :: TW
abbrev w_ZoneNodes_arriveAtSecondary : List Cond := .code y_ZoneNodes_arriveAtSecondary b_ZoneNodes_arriveAtSecondary 3 none :: TW
abbrev w_ZoneNodes_isRecord : List Cond := .code y_ZoneNodes_isRecord b_ZoneNodes_isRecord 3 (some .boolean) :: TW
abbrev w_Draft_addChange : List Cond := .code y_Draft_addChange b_Draft_addChange 2 (some .boolean) :: TW
abbrev w_ZoneNodes_change : List Cond := .code y_ZoneNodes_change b_ZoneNodes_change 5 (some .boolean) :: TW
abbrev w_ZoneNodes_isNode : List Cond := .code y_ZoneNodes_isNode b_ZoneNodes_isNode 1 (some .boolean) :: TW
abbrev w_ZoneNodes_isUp : List Cond := .code y_ZoneNodes_isUp b_ZoneNodes_isUp 2 (some .boolean) :: TW
abbrev w_ZoneNodes_takePrimaryDown : List Cond := .code y_ZoneNodes_takePrimaryDown b_ZoneNodes_takePrimaryDown 2 none :: TW
abbrev w_ZoneNodes_crash : List Cond := .code y_ZoneNodes_crash b_ZoneNodes_crash 2 (some .boolean) :: TW
abbrev w_Wire_isBehindAnotherPart : List Cond := .code y_Wire_isBehindAnotherPart b_Wire_isBehindAnotherPart 3 (some .boolean) :: TW
abbrev w_ZoneNodes_deliver : List Cond := .code y_ZoneNodes_deliver b_ZoneNodes_deliver 3 (some .boolean) :: TW
abbrev w_ZoneNodes_drop : List Cond := .code y_ZoneNodes_drop b_ZoneNodes_drop 3 (some .boolean) :: TW
abbrev w_ZoneNodes_recordsOf : List Cond := .code y_ZoneNodes_recordsOf b_ZoneNodes_recordsOf 2 (some (.object "ZoneNodes$Records")) :: TW
abbrev w_Records_contains : List Cond := .code y_Records_contains b_Records_contains 4 (some .boolean) :: TW
abbrev w_ZoneNodes_has : List Cond := .code y_ZoneNodes_has b_ZoneNodes_has 6 (some .boolean) :: TW
abbrev w_ZoneNodes_journal : List Cond := .code y_ZoneNodes_journal b_ZoneNodes_journal 1 (some .int) :: TW
abbrev w_ZoneNodes_key : List Cond := .code y_ZoneNodes_key b_ZoneNodes_key 3 (some .boolean) :: TW
abbrev w_ZoneNodes_knowsKey : List Cond := .code y_ZoneNodes_knowsKey b_ZoneNodes_knowsKey 2 (some .boolean) :: TW
abbrev w_Records_aliasOf : List Cond := .code y_Records_aliasOf b_Records_aliasOf 3 (some .int) :: TW
abbrev w_Records_hasOtherThanAlias : List Cond := .code y_Records_hasOtherThanAlias b_Records_hasOtherThanAlias 3 (some .boolean) :: TW
abbrev w_Records_isUsed : List Cond := .code y_Records_isUsed b_Records_isUsed 2 (some .boolean) :: TW
abbrev w_Integer_bitCount : List Cond := .code y_Integer_bitCount b_Integer_bitCount 1 (some .int) :: TW
abbrev w_ZoneNodes_lookUp : List Cond := .code y_ZoneNodes_lookUp b_ZoneNodes_lookUp 6 (some .int) :: TW
abbrev w_ZoneNodes_notifySecondaries : List Cond := .code y_ZoneNodes_notifySecondaries b_ZoneNodes_notifySecondaries 2 none :: TW
abbrev w_Records_addIfAllowed : List Cond := .code y_Records_addIfAllowed b_Records_addIfAllowed 4 none :: TW
abbrev w_Records_clearIfAllowed : List Cond := .code y_Records_clearIfAllowed b_Records_clearIfAllowed 3 none :: TW
abbrev w_Records_removeIfAllowed : List Cond := .code y_Records_removeIfAllowed b_Records_removeIfAllowed 5 none :: TW
abbrev w_Records_makeChange : List Cond := .code y_Records_makeChange b_Records_makeChange 6 none :: TW
abbrev w_Draft_changeRecords : List Cond := .code y_Draft_changeRecords b_Draft_changeRecords 3 none :: TW
abbrev w_Records_becomeDifference : List Cond := .code y_Records_becomeDifference b_Records_becomeDifference 4 none :: TW
abbrev w_Journal_append : List Cond := .code y_Journal_append b_Journal_append 5 none :: TW
abbrev w_Journal_markLatest : List Cond := .code y_Journal_markLatest b_Journal_markLatest 1 none :: TW
abbrev w_Journal_keepLatest : List Cond := .code y_Journal_keepLatest b_Journal_keepLatest 3 none :: TW
abbrev w_Journal_latest : List Cond := .code y_Journal_latest b_Journal_latest 1 (some (.object "ZoneNodes$Entry")) :: TW
abbrev w_Records_exchange : List Cond := .code y_Records_exchange b_Records_exchange 4 none :: TW
abbrev w_Primary_becomeLatest : List Cond := .code y_Primary_becomeLatest b_Primary_becomeLatest 2 none :: TW
abbrev w_Primary_takeStep : List Cond := .code y_Primary_takeStep b_Primary_takeStep 2 none :: TW
abbrev w_Primary_writeNext : List Cond := .code y_Primary_writeNext b_Primary_writeNext 2 (some .boolean) :: TW
abbrev w_Records_sameAs : List Cond := .code y_Records_sameAs b_Records_sameAs 3 (some .boolean) :: TW
abbrev w_Records_total : List Cond := .code y_Records_total b_Records_total 3 (some .int) :: TW
abbrev w_ZoneNodes_makeChanges : List Cond := .code y_ZoneNodes_makeChanges b_ZoneNodes_makeChanges 2 (some .int) :: TW
abbrev w_ZoneNodes_message : List Cond := .code y_ZoneNodes_message b_ZoneNodes_message 4 (some .int) :: TW
abbrev w_ZoneNodes_messages : List Cond := .code y_ZoneNodes_messages b_ZoneNodes_messages 1 (some .int) :: TW
abbrev w_Draft_addNeed : List Cond := .code y_Draft_addNeed b_Draft_addNeed 2 (some .boolean) :: TW
abbrev w_ZoneNodes_need : List Cond := .code y_ZoneNodes_need b_ZoneNodes_need 5 (some .boolean) :: TW
abbrev w_Secondary_isExpired : List Cond := .code y_Secondary_isExpired b_Secondary_isExpired 2 (some .boolean) :: TW
abbrev w_ZoneNodes_query : List Cond := .code y_ZoneNodes_query b_ZoneNodes_query 5 (some .int) :: TW
abbrev w_Draft_mixed : List Cond := .code y_Draft_mixed b_Draft_mixed 3 (some .int) :: TW
abbrev w_Draft_sealWith : List Cond := .code y_Draft_sealWith b_Draft_sealWith 5 (some .int) :: TW
abbrev w_Draft_answerTo : List Cond := .code y_Draft_answerTo b_Draft_answerTo 4 (some .int) :: TW
abbrev w_Draft_isExact : List Cond := .code y_Draft_isExact b_Draft_isExact 5 (some .boolean) :: TW
abbrev w_Draft_unmetNeed : List Cond := .code y_Draft_unmetNeed b_Draft_unmetNeed 4 (some .int) :: TW
abbrev w_ZoneNodes_refusal : List Cond := .code y_ZoneNodes_refusal b_ZoneNodes_refusal 6 (some .int) :: TW
abbrev w_Journal_dropLatest : List Cond := .code y_Journal_dropLatest b_Journal_dropLatest 1 none :: TW
abbrev w_Primary_comeUp : List Cond := .code y_Primary_comeUp b_Primary_comeUp 2 none :: TW
abbrev w_ZoneNodes_restart : List Cond := .code y_ZoneNodes_restart b_ZoneNodes_restart 2 (some .boolean) :: TW
abbrev w_ZoneNodes_seal : List Cond := .code y_ZoneNodes_seal b_ZoneNodes_seal 3 (some .int) :: TW
abbrev w_ZoneNodes_serial : List Cond := .code y_ZoneNodes_serial b_ZoneNodes_serial 2 (some .int) :: TW
abbrev w_ZoneNodes_size : List Cond := .code y_ZoneNodes_size b_ZoneNodes_size 3 (some .int) :: TW
abbrev w_ZoneNodes_state : List Cond := .code y_ZoneNodes_state b_ZoneNodes_state 2 (some .int) :: TW
abbrev w_Secondary_askIfTimeHasCome : List Cond := .code y_Secondary_askIfTimeHasCome b_Secondary_askIfTimeHasCome 5 none :: TW
abbrev w_ZoneNodes_tick : List Cond := .code y_ZoneNodes_tick b_ZoneNodes_tick 4 (some .boolean) :: TW
abbrev w_Draft_empty : List Cond := .code y_Draft_empty b_Draft_empty 1 none :: TW
abbrev w_ZoneNodes_update : List Cond := .code y_ZoneNodes_update b_ZoneNodes_update 5 (some .int) :: TW
abbrev w_ZoneNodesModel_place : List Cond := .code y_ZoneNodesModel_place b_ZoneNodesModel_place 3 (some .int) :: TW
abbrev w_ZoneNodesModel_rest : List Cond := .code y_ZoneNodesModel_rest b_ZoneNodesModel_rest 3 none :: TW
abbrev w_ZoneNodesModel_init : List Cond := .code y_ZoneNodesModel_init b_ZoneNodesModel_init 6 none :: TW
abbrev w_ZoneNodesModel_isMessage : List Cond := .code y_ZoneNodesModel_isMessage b_ZoneNodesModel_isMessage 2 (some .boolean) :: TW
abbrev w_ZoneNodesModel_alter : List Cond := .code y_ZoneNodesModel_alter b_ZoneNodesModel_alter 2 (some .boolean) :: TW
abbrev w_ZoneNodesModel_arm : List Cond := .code y_ZoneNodesModel_arm b_ZoneNodesModel_arm 2 (some .boolean) :: TW
abbrev w_ZoneNodesModel_isRecord : List Cond := .code y_ZoneNodesModel_isRecord b_ZoneNodesModel_isRecord 3 (some .boolean) :: TW
abbrev w_ZoneNodesModel_say : List Cond := .code y_ZoneNodesModel_say b_ZoneNodesModel_say 6 none :: TW
abbrev w_ZoneNodesModel_change : List Cond := .code y_ZoneNodesModel_change b_ZoneNodesModel_change 5 (some .boolean) :: TW
abbrev w_ZoneNodesModel_remove : List Cond := .code y_ZoneNodesModel_remove b_ZoneNodesModel_remove 3 none :: TW
abbrev w_ZoneNodesModel_cutOff : List Cond := .code y_ZoneNodesModel_cutOff b_ZoneNodesModel_cutOff 3 none :: TW
abbrev w_ZoneNodesModel_isNode : List Cond := .code y_ZoneNodesModel_isNode b_ZoneNodesModel_isNode 1 (some .boolean) :: TW
abbrev w_ZoneNodesModel_crash : List Cond := .code y_ZoneNodesModel_crash b_ZoneNodesModel_crash 3 (some .boolean) :: TW
abbrev w_ZoneNodesModel_append : List Cond := .code y_ZoneNodesModel_append b_ZoneNodesModel_append 8 none :: TW
abbrev w_ZoneNodesModel_send : List Cond := .code y_ZoneNodesModel_send b_ZoneNodesModel_send 6 none :: TW
abbrev w_ZoneNodesModel_ask : List Cond := .code y_ZoneNodesModel_ask b_ZoneNodesModel_ask 2 none :: TW
abbrev w_ZoneNodesModel_isNews : List Cond := .code y_ZoneNodesModel_isNews b_ZoneNodesModel_isNews 3 (some .boolean) :: TW
abbrev w_ZoneNodesModel_itemsFor : List Cond := .code y_ZoneNodesModel_itemsFor b_ZoneNodesModel_itemsFor 6 (some .int) :: TW
abbrev w_ZoneNodesModel_takeFetch : List Cond := .code y_ZoneNodesModel_takeFetch b_ZoneNodesModel_takeFetch 7 none :: TW
abbrev w_ZoneNodesModel_refreshed : List Cond := .code y_ZoneNodesModel_refreshed b_ZoneNodesModel_refreshed 2 none :: TW
abbrev w_ZoneNodesModel_takePart : List Cond := .code y_ZoneNodesModel_takePart b_ZoneNodesModel_takePart 6 none :: TW
abbrev w_ZoneNodesModel_takeTell : List Cond := .code y_ZoneNodesModel_takeTell b_ZoneNodesModel_takeTell 3 none :: TW
abbrev w_ZoneNodesModel_deliver : List Cond := .code y_ZoneNodesModel_deliver b_ZoneNodesModel_deliver 8 (some .boolean) :: TW
abbrev w_ZoneNodesModel_drop : List Cond := .code y_ZoneNodesModel_drop b_ZoneNodesModel_drop 2 (some .boolean) :: TW
abbrev w_ZoneNodesModel_has : List Cond := .code y_ZoneNodesModel_has b_ZoneNodesModel_has 5 (some .boolean) :: TW
abbrev w_ZoneNodesModel_journal : List Cond := .code y_ZoneNodesModel_journal b_ZoneNodesModel_journal 1 (some .int) :: TW
abbrev w_ZoneNodesModel_key : List Cond := .code y_ZoneNodesModel_key b_ZoneNodesModel_key 3 (some .boolean) :: TW
abbrev w_ZoneNodesModel_message : List Cond := .code y_ZoneNodesModel_message b_ZoneNodesModel_message 2 (some .int) :: TW
abbrev w_ZoneNodesModel_messages : List Cond := .code y_ZoneNodesModel_messages b_ZoneNodesModel_messages 1 (some .int) :: TW
abbrev w_ZoneNodesModel_need : List Cond := .code y_ZoneNodesModel_need b_ZoneNodesModel_need 5 (some .boolean) :: TW
abbrev w_ZoneNodesModel_shown : List Cond := .code y_ZoneNodesModel_shown b_ZoneNodesModel_shown 7 (some .int) :: TW
abbrev w_ZoneNodesModel_query : List Cond := .code y_ZoneNodesModel_query b_ZoneNodesModel_query 8 (some .int) :: TW
abbrev w_ZoneNodesModel_notifyBoth : List Cond := .code y_ZoneNodesModel_notifyBoth b_ZoneNodesModel_notifyBoth 1 none :: TW
abbrev w_ZoneNodesModel_install : List Cond := .code y_ZoneNodesModel_install b_ZoneNodesModel_install 3 none :: TW
abbrev w_ZoneNodesModel_restart : List Cond := .code y_ZoneNodesModel_restart b_ZoneNodesModel_restart 3 (some .boolean) :: TW
abbrev w_ZoneNodesModel_line : List Cond := .code y_ZoneNodesModel_line b_ZoneNodesModel_line 2 (some .int) :: TW
abbrev w_ZoneNodesModel_mixed : List Cond := .code y_ZoneNodesModel_mixed b_ZoneNodesModel_mixed 3 (some .int) :: TW
abbrev w_ZoneNodesModel_sealed : List Cond := .code y_ZoneNodesModel_sealed b_ZoneNodesModel_sealed 5 (some .int) :: TW
abbrev w_ZoneNodesModel_seal : List Cond := .code y_ZoneNodesModel_seal b_ZoneNodesModel_seal 3 (some .int) :: TW
abbrev w_ZoneNodesModel_serial : List Cond := .code y_ZoneNodesModel_serial b_ZoneNodesModel_serial 2 (some .int) :: TW
abbrev w_ZoneNodesModel_size : List Cond := .code y_ZoneNodesModel_size b_ZoneNodesModel_size 4 (some .int) :: TW
abbrev w_ZoneNodesModel_state : List Cond := .code y_ZoneNodesModel_state b_ZoneNodesModel_state 2 (some .int) :: TW
abbrev w_ZoneNodesModel_tick : List Cond := .code y_ZoneNodesModel_tick b_ZoneNodesModel_tick 6 (some .boolean) :: TW
abbrev w_ZoneNodesModel_works : List Cond := .code y_ZoneNodesModel_works b_ZoneNodesModel_works 5 (some .int) :: TW
abbrev w_ZoneNodesModel_add : List Cond := .code y_ZoneNodesModel_add b_ZoneNodesModel_add 8 none :: TW
abbrev w_ZoneNodesModel_perform : List Cond := .code y_ZoneNodesModel_perform b_ZoneNodesModel_perform 10 none :: TW
abbrev w_ZoneNodesModel_exact : List Cond := .code y_ZoneNodesModel_exact b_ZoneNodesModel_exact 8 (some .boolean) :: TW
abbrev w_ZoneNodesModel_count : List Cond := .code y_ZoneNodesModel_count b_ZoneNodesModel_count 5 (some .int) :: TW
abbrev w_ZoneNodesModel_meets : List Cond := .code y_ZoneNodesModel_meets b_ZoneNodesModel_meets 5 (some .boolean) :: TW
abbrev w_ZoneNodesModel_refusal : List Cond := .code y_ZoneNodesModel_refusal b_ZoneNodesModel_refusal 8 (some .int) :: TW
abbrev w_ZoneNodesModel_write : List Cond := .code y_ZoneNodesModel_write b_ZoneNodesModel_write 2 (some .int) :: TW
abbrev w_ZoneNodesModel_update : List Cond := .code y_ZoneNodesModel_update b_ZoneNodesModel_update 8 (some .int) :: TW
abbrev w_ZoneNodesLaw_cell : List Cond := .code y_ZoneNodesLaw_cell b_ZoneNodesLaw_cell 2 (some .int) :: TW
abbrev b_ZoneNodesLaw_law : ByteArray := code
end
section
/-! An abstract heap (what the program's cells hold, by address; and the heap's size), and the rows of the walk over it. -/
abbrev zh_E : Type := (Nat × vp_A) ⊕ (Nat × List Value)
abbrev zh_T : Type := (Nat → Option zh_E) × Nat
abbrev zh_G : Type := va_G × (Nat → ClassId) × Nat
def zh_e (G : zh_G) (e : zh_E) : va_E := match e with
  | .inl x => .inl (G.2.1 x.1, x.2)
  | .inr o => .inr o
def zh_up (X : zh_T) (a : Nat) (e : zh_E) : zh_T := (fun q => if q = a then some e else X.1 q, X.2)
def zh_al (X : zh_T) (e : zh_E) : zh_T := (fun q => if q = X.2 then some e else X.1 q, X.2 + 1)
def zh_w (G : zh_G) (X : zh_T) (H : Heap) : Prop := (∀ (a : Nat) (e : zh_E), X.1 a = some e → G.2.2 ≤ a ∧ va_at G.1 classes (a, zh_e G e) H) ∧ H.size = X.2 ∧ G.2.2 ≤ X.2
def zh_k (G : zh_G) (U : State) : Prop := va_K G.1 classes (zh_tys G.2.1) U ∧ (∀ t ∈ nw_F, va_Nw (.fieldLinkNest t.1 t.2.1 t.2.2.1 t.2.2.2.1 t.2.2.2.2.1 t.2.2.2.2.2) U) ∧ (∀ t ∈ nw_M, va_Nw (.methodLinkNest t.1 t.2.1 t.2.2.1 t.2.2.2) U) ∧ ∀ C ∈ ao_L, va_AO C U
def zh_A (G : zh_G) : Nat → Prop := fun q => G.2.2 ≤ q
def zh_W (G : zh_G) (X : zh_T) (U : State) : Prop := zh_w G X U.heap ∧ zh_k G U
def zh_Q (G : zh_G) (rv : Option Value) (X : zh_T) : Array Value → State → Outcome → State → Prop := fun _ st oc t => (oc = .returned rv ∧ zh_W G X t) ∧ va_F (zh_A G) st t
def zM (l : Launch) (G : zh_G) (y : MethodName) (ws : List Cond) (fr lo : Nat) (X : zh_T) (av : List Value) (rv : Option Value) (X1 : zh_T) (mc ms : Nat) : Prop :=
  Met l y ws { frames := fr, cells := mc, slots := ms, locals := lo } (va_Pc av (zh_W G X)) (zh_Q G rv X1) mc ms (zh_A G)
theorem zh_k.moved {G : zh_G} {s U : State} (hW : s.WarmedH U.vm) (h : zh_k G s) : zh_k G U :=
  ⟨va_K.moved hW.alike h.1, fun t ht => va_Nw.warmF hW (h.2.1 t ht), fun t ht => va_Nw.warmM hW (h.2.2.1 t ht), fun C hC => va_AO.moved hW.alike (h.2.2.2 C hC)⟩
theorem zh_k.same {G : zh_G} {s U : State} (hv : s.vm = U.vm) (h : zh_k G s) : zh_k G U := zh_k.moved (by rw [← hv]; exact State.WarmedH.refl s) h
theorem zh_blind (G : zh_G) (X : zh_T) (av : List Value) : FrameBlind (va_Pc av (zh_W G X)) := fun a U g mk q => ⟨q.1, q.2.1, zh_k.same (s := U) rfl q.2.2⟩
theorem zh_end {G : zh_G} {X : zh_T} {s t : State} {H : Heap} {locs : List Loc} {rv : Option Value} {args : Array Value} (hk : zh_k G s) (hX : zh_w G X H) (hS : va_S (zh_A G) s.heap H locs) (ht : t.heap = H) (hW : s.WarmedH t.vm) : zh_Q G rv X args s (.returned rv) t :=
  ⟨⟨rfl, by rw [ht]; exact hX, zh_k.moved hW hk⟩, hS.F ht⟩
/-! the monad -/
def zb1 {α β : Type} (f : Option α) (g : α → Option β) : Option β := match f with
  | some a => g a
  | none => none
def zb2 {α β : Type} (f : Option (α × zh_T)) (g : α → zh_T → Option β) : Option β := match f with
  | some a => g a.1 a.2
  | none => none
def zbs {α β γ : Type} (f : Option (α ⊕ β)) (h : α → Option γ) (g : β → Option γ) : Option γ := match f with
  | some (.inl a) => h a
  | some (.inr b) => g b
  | none => none
def zbt {α β γ : Type} (f : Option ((α × zh_T) ⊕ (β × zh_T))) (h : α → zh_T → Option γ) (g : β → zh_T → Option γ) : Option γ := match f with
  | some (.inl a) => h a.1 a.2
  | some (.inr b) => g b.1 b.2
  | none => none
def zbo {β : Type} (q : Option Nat) (n : Option β) (g : Nat → Option β) : Option β := match q with
  | some a => g a
  | none => n
theorem zb1_s {α β : Type} {f : Option α} {g : α → Option β} {o : β} (h : zb1 f g = some o) : ∃ a, f = some a ∧ g a = some o := by
  cases f with
  | none => cases h
  | some a => exact ⟨a, rfl, h⟩
theorem zb2_s {α β : Type} {f : Option (α × zh_T)} {g : α → zh_T → Option β} {o : β} (h : zb2 f g = some o) : ∃ a X, f = some (a, X) ∧ g a X = some o := by
  cases f with
  | none => cases h
  | some a => exact ⟨a.1, a.2, rfl, h⟩
theorem zbs_s {α β γ : Type} {f : Option (α ⊕ β)} {h : α → Option γ} {g : β → Option γ} {o : γ} (e : zbs f h g = some o) : ∃ z, f = some z ∧ Sum.elim h g z = some o := by
  cases f with
  | none => cases e
  | some z => cases z with
    | inl a => exact ⟨_, rfl, e⟩
    | inr b => exact ⟨_, rfl, e⟩
theorem zbt_s {α β γ : Type} {f : Option ((α × zh_T) ⊕ (β × zh_T))} {h : α → zh_T → Option γ} {g : β → zh_T → Option γ} {o : γ} (e : zbt f h g = some o) : ∃ z, f = some z ∧ Sum.elim (fun a => h a.1 a.2) (fun b => g b.1 b.2) z = some o := by
  cases f with
  | none => cases e
  | some z => cases z with
    | inl a => exact ⟨_, rfl, e⟩
    | inr b => exact ⟨_, rfl, e⟩
theorem zs_l {α β γ : Type} {h : α → Option γ} {g : β → Option γ} {a : α} {o : γ} (e : Sum.elim h g (Sum.inl a) = some o) : h a = some o := e
theorem zs_r {α β γ : Type} {h : α → Option γ} {g : β → Option γ} {b : β} {o : γ} (e : Sum.elim h g (Sum.inr b) = some o) : g b = some o := e
theorem zt_l {α β γ : Type} {h : α → zh_T → Option γ} {g : β → zh_T → Option γ} {a : α} {X : zh_T} {o : γ} (e : Sum.elim (fun a : α × zh_T => h a.1 a.2) (fun b : β × zh_T => g b.1 b.2) (Sum.inl (a, X)) = some o) : h a X = some o := e
theorem zt_r {α β γ : Type} {h : α → zh_T → Option γ} {g : β → zh_T → Option γ} {b : β} {X : zh_T} {o : γ} (e : Sum.elim (fun a : α × zh_T => h a.1 a.2) (fun b : β × zh_T => g b.1 b.2) (Sum.inr (b, X)) = some o) : g b X = some o := e
theorem zbo_n {β : Type} {n : Option β} {g : Nat → Option β} {o : β} (h : zbo none n g = some o) : n = some o := h
theorem zbo_s {β : Type} {n : Option β} {g : Nat → Option β} {o : β} {a : Nat} (h : zbo (some a) n g = some o) : g a = some o := h
theorem zs_p {α β : Type} {a a' : α} {b b' : β} (h : some (a, b) = some (a', b')) : a = a' ∧ b = b' := by
  cases h
  exact ⟨rfl, rfl⟩
theorem zi_t {α : Type} {c : Prop} [Decidable c] {a b : Option α} {o : α} (h : c) (e : (if c then a else b) = some o) : a = some o := by rwa [if_pos h] at e
theorem zi_f {α : Type} {c : Prop} [Decidable c] {a b : Option α} {o : α} (h : ¬ c) (e : (if c then a else b) = some o) : b = some o := by rwa [if_neg h] at e
theorem zi_or {α : Type} {c : Prop} [Decidable c] {a b : Option α} {o : α} (e : (if c then a else b) = some o) : (c ∧ a = some o) ∨ (¬ c ∧ b = some o) := by
  by_cases h : c
  · exact Or.inl ⟨h, zi_t h e⟩
  · exact Or.inr ⟨h, zi_f h e⟩
abbrev zi_rem (x y : Int32) : Int32 := x - x / y * y
abbrev zi_ushr (x y : Int32) : Int32 := (x.toUInt32 >>> (y.toUInt32 &&& Int32.toUInt32 31)).toInt32
def zbz (x : Int32) : Option Int32 := if x = 0 ∨ x = 1 then some x else none
theorem zbz_s {x y : Int32} (h : zbz x = some y) : x = y ∧ narrow .boolean (.int y) = .int y := by
  unfold zbz at h
  split at h
  · rename_i h1
    cases h
    rcases h1 with rfl | rfl
    · exact ⟨rfl, by decide⟩
    · exact ⟨rfl, by decide⟩
  · cases h
/-! the cells: a field, an element -/
def zg (X : zh_T) (a ci k : Nat) : Option Value := match X.1 a with
  | some (.inr o) => if o.1 = ci then o.2[k]? else none
  | _ => none
def zgi (X : zh_T) (a ci k : Nat) : Option Int32 := match zg X a ci k with
  | some (.int v) => some v
  | _ => none
def zgl (X : zh_T) (a ci k : Nat) : Option Int64 := match zg X a ci k with
  | some (.long v) => some v
  | _ => none
def zgr (X : zh_T) (a ci k : Nat) : Option Nat := match zg X a ci k with
  | some (.ref v) => some v
  | _ => none
def zgq (X : zh_T) (a ci k : Nat) : Option (Option Nat) := match zg X a ci k with
  | some (.ref v) => some (some v)
  | some .null => some none
  | _ => none
def zck (X : zh_T) (a ci : Nat) : Option Unit := match X.1 a with
  | some (.inr o) => if o.1 = ci then some () else none
  | _ => none
def zp (X : zh_T) (a ci k : Nat) (v : Value) : Option zh_T := match X.1 a with
  | some (.inr o) => if o.1 = ci ∧ k < o.2.length then some (zh_up X a (.inr (o.1, o.2.set k v))) else none
  | _ => none
def zpz (X : zh_T) (a ci k : Nat) (v : Int32) : Option zh_T := if v = 0 ∨ v = 1 then zp X a ci k (.int v) else none
def zai (X : zh_T) (a : Nat) (i : Int32) : Option Int32 := match X.1 a with
  | some (.inl (0, n, .inl f)) => if i < 0 ∨ n ≤ i.toNatClampNeg then none else some (f i.toNatClampNeg)
  | _ => none
def zaz (X : zh_T) (a : Nat) (i : Int32) : Option Int32 := match X.1 a with
  | some (.inl (1, n, .inl f)) => if i < 0 ∨ n ≤ i.toNatClampNeg then none else some (f i.toNatClampNeg)
  | _ => none
def zsi (X : zh_T) (a : Nat) (i x : Int32) : Option zh_T := match X.1 a with
  | some (.inl (0, n, .inl f)) => if i < 0 ∨ n ≤ i.toNatClampNeg then none else some (zh_up X a (.inl (0, n, .inl (upd f i.toNatClampNeg x))))
  | _ => none
def zsz (X : zh_T) (a : Nat) (i x : Int32) : Option zh_T := match X.1 a with
  | some (.inl (1, n, .inl f)) => if i < 0 ∨ n ≤ i.toNatClampNeg ∨ ¬ (x = 0 ∨ x = 1) then none else some (zh_up X a (.inl (1, n, .inl (upd f i.toNatClampNeg x))))
  | _ => none
def zaq (X : zh_T) (t a : Nat) (i : Int32) : Option (Option Nat) := match X.1 a with
  | some (.inl (u, n, .inr (.inr (.inr (.inr f))))) => if u ≠ t ∨ i < 0 ∨ n ≤ i.toNatClampNeg then none else some (f i.toNatClampNeg)
  | _ => none
def zar (X : zh_T) (t a : Nat) (i : Int32) : Option Nat := zb1 (zaq X t a i) fun q => q
def zsr (X : zh_T) (t ci a : Nat) (i : Int32) (v : Nat) : Option zh_T := zb1 (zck X v ci) fun _ => match X.1 a with
  | some (.inl (u, n, .inr (.inr (.inr (.inr f))))) => if u ≠ t ∨ i < 0 ∨ n ≤ i.toNatClampNeg then none else some (zh_up X a (.inl (u, n, .inr (.inr (.inr (.inr (va_up f i.toNatClampNeg (some v))))))))
  | _ => none
def zln (X : zh_T) (t a : Nat) : Option Int32 := match X.1 a with
  | some (.inl x) => if x.1 = t then some (Int32.ofNat x.2.1) else none
  | _ => none
def znw (X : zh_T) (ci : Nat) (fs : List Value) : Option (Nat × zh_T) := some (X.2, zh_al X (.inr (ci, fs)))
def zna (X : zh_T) (t n : Nat) : Option (Nat × zh_T) := some (X.2, zh_al X (.inl (t, n, .inl (fun _ => 0))))
def znq (X : zh_T) (t n : Nat) : Option (Nat × zh_T) := some (X.2, zh_al X (.inl (t, n, .inr (.inr (.inr (.inr (fun _ => none)))))))
theorem zg_s {X : zh_T} {a ci k : Nat} {v : Value} (h : zg X a ci k = some v) : ∃ fs, X.1 a = some (.inr (ci, fs)) ∧ fs[k]? = some v := by
  unfold zg at h
  split at h
  · rename_i o ho
    split at h
    · rename_i hc
      exact ⟨o.2, by rw [ho, ← hc], h⟩
    · cases h
  · cases h
theorem zgi_v {X : zh_T} {a ci k : Nat} {x : Int32} (h : zgi X a ci k = some x) : zg X a ci k = some (.int x) := by
  unfold zgi at h
  split at h
  · rename_i v hv
    cases h
    exact hv
  · cases h
theorem zgl_v {X : zh_T} {a ci k : Nat} {x : Int64} (h : zgl X a ci k = some x) : zg X a ci k = some (.long x) := by
  unfold zgl at h
  split at h
  · rename_i v hv
    cases h
    exact hv
  · cases h
theorem zgr_v {X : zh_T} {a ci k : Nat} {x : Nat} (h : zgr X a ci k = some x) : zg X a ci k = some (.ref x) := by
  unfold zgr at h
  split at h
  · rename_i v hv
    cases h
    exact hv
  · cases h
theorem zgq_v {X : zh_T} {a ci k : Nat} {x : Option Nat} (h : zgq X a ci k = some x) : zg X a ci k = some (va_rf x) := by
  unfold zgq at h
  split at h
  · rename_i v hv
    cases h
    exact hv
  · rename_i hv
    cases h
    exact hv
  · cases h
theorem zck_s {X : zh_T} {a ci : Nat} {u : Unit} (h : zck X a ci = some u) : ∃ fs, X.1 a = some (.inr (ci, fs)) := by
  unfold zck at h
  split at h
  · rename_i o ho
    split at h
    · rename_i hc
      exact ⟨o.2, by rw [ho, ← hc]⟩
    · cases h
  · cases h
theorem zp_s {X X1 : zh_T} {a ci k : Nat} {v : Value} (h : zp X a ci k v = some X1) : ∃ fs, X.1 a = some (.inr (ci, fs)) ∧ k < fs.length ∧ X1 = zh_up X a (.inr (ci, fs.set k v)) := by
  unfold zp at h
  split at h
  · rename_i o ho
    split at h
    · rename_i hc
      cases h
      exact ⟨o.2, by rw [ho, ← hc.1], hc.2, by rw [← hc.1]⟩
    · cases h
  · cases h
theorem zpz_v {X X1 : zh_T} {a ci k : Nat} {v : Int32} (h : zpz X a ci k v = some X1) : zp X a ci k (.int v) = some X1 := by
  unfold zpz at h
  split at h
  · exact h
  · cases h
theorem zpz_01 {X X1 : zh_T} {a ci k : Nat} {v : Int32} (h : zpz X a ci k v = some X1) : v = 0 ∨ v = 1 := by
  unfold zpz at h
  split at h
  · assumption
  · cases h
theorem zpz_n {X X1 : zh_T} {a ci k : Nat} {v : Int32} (h : zpz X a ci k v = some X1) : narrow .boolean (.int v) = .int v := by
  rcases zpz_01 h with rfl | rfl <;> decide
theorem zpz_f {X X1 : zh_T} {a ci k : Nat} {v : Int32} (h : zpz X a ci k v = some X1) : fits .boolean (.int v) = true := by
  rcases zpz_01 h with rfl | rfl <;> decide
theorem zai_s {X : zh_T} {a : Nat} {i v : Int32} (h : zai X a i = some v) : ∃ n f, X.1 a = some (.inl (0, n, .inl f)) ∧ vp_in i n ∧ v = f i.toNatClampNeg := by
  unfold zai at h
  split at h
  · rename_i n f ho
    split at h
    · cases h
    · rename_i hc
      cases h
      exact ⟨n, f, ho, hc, rfl⟩
  · cases h
theorem zaz_s {X : zh_T} {a : Nat} {i v : Int32} (h : zaz X a i = some v) : ∃ n f, X.1 a = some (.inl (1, n, .inl f)) ∧ vp_in i n ∧ v = f i.toNatClampNeg := by
  unfold zaz at h
  split at h
  · rename_i n f ho
    split at h
    · cases h
    · rename_i hc
      cases h
      exact ⟨n, f, ho, hc, rfl⟩
  · cases h
theorem zsi_s {X X1 : zh_T} {a : Nat} {i x : Int32} (h : zsi X a i x = some X1) : ∃ n f, X.1 a = some (.inl (0, n, .inl f)) ∧ vp_in i n ∧ X1 = zh_up X a (.inl (0, n, .inl (upd f i.toNatClampNeg x))) := by
  unfold zsi at h
  split at h
  · rename_i n f ho
    split at h
    · cases h
    · rename_i hc
      cases h
      exact ⟨n, f, ho, hc, rfl⟩
  · cases h
theorem zsz_s {X X1 : zh_T} {a : Nat} {i x : Int32} (h : zsz X a i x = some X1) : ∃ n f, X.1 a = some (.inl (1, n, .inl f)) ∧ vp_in i n ∧ (x = 0 ∨ x = 1) ∧ X1 = zh_up X a (.inl (1, n, .inl (upd f i.toNatClampNeg x))) := by
  unfold zsz at h
  split at h
  · rename_i n f ho
    split at h
    · cases h
    · rename_i hc
      cases h
      exact ⟨n, f, ho, fun q => hc (q.elim Or.inl fun z => Or.inr (Or.inl z)), Classical.not_not.mp fun q => hc (Or.inr (Or.inr q)), rfl⟩
  · cases h
theorem zaq_s {X : zh_T} {t a : Nat} {i : Int32} {q : Option Nat} (h : zaq X t a i = some q) : ∃ n f, X.1 a = some (.inl (t, n, .inr (.inr (.inr (.inr f))))) ∧ vp_in i n ∧ q = f i.toNatClampNeg := by
  unfold zaq at h
  split at h
  · rename_i u n f ho
    split at h
    · cases h
    · rename_i hc
      cases h
      have hu : u = t := Classical.not_not.mp fun z => hc (Or.inl z)
      subst hu
      exact ⟨n, f, ho, fun z => hc (Or.inr z), rfl⟩
  · cases h
theorem zar_v {X : zh_T} {t a : Nat} {i : Int32} {b : Nat} (h : zar X t a i = some b) : zaq X t a i = some (some b) := by
  unfold zar at h
  obtain ⟨q, h1, h2⟩ := zb1_s h
  rw [h1, h2]
theorem zsr_s {X X1 : zh_T} {t ci a : Nat} {i : Int32} {v : Nat} (h : zsr X t ci a i v = some X1) : ∃ n f vs, X.1 a = some (.inl (t, n, .inr (.inr (.inr (.inr f))))) ∧ vp_in i n ∧ X.1 v = some (.inr (ci, vs)) ∧ X1 = zh_up X a (.inl (t, n, .inr (.inr (.inr (.inr (va_up f i.toNatClampNeg (some v))))))) := by
  unfold zsr at h
  obtain ⟨u0, h1, h⟩ := zb1_s h
  obtain ⟨vs, hv⟩ := zck_s h1
  split at h
  · rename_i u n f ho
    split at h
    · cases h
    · rename_i hc
      cases h
      have hu : u = t := Classical.not_not.mp fun z => hc (Or.inl z)
      subst hu
      exact ⟨n, f, vs, ho, fun z => hc (Or.inr z), hv, rfl⟩
  · cases h
theorem zln_s {X : zh_T} {t a : Nat} {v : Int32} (h : zln X t a = some v) : ∃ x : vp_A, X.1 a = some (.inl (t, x)) ∧ Int32.ofNat x.1 = v := by
  unfold zln at h
  split at h
  · rename_i x ho
    split at h
    · rename_i hc
      cases h
      exact ⟨x.2, by rw [ho, ← hc], rfl⟩
    · cases h
  · cases h

section ZROWS
variable {p : Program} {l : Launch} {e : Env} {R : Room} {s : State} {m : MethodId} {args : Array Value} {below : List Frame} {meth : Method} {c : Code} {H : Heap} {locs : List Loc} {cells slots : Nat} {Q : State → Prop}
variable {cc : ByteArray} {pc : Nat} {ls : Array Slot} {rest : List Value} {G : zh_G} {X X1 : zh_T} {a : Nat} {H0 : Heap} {Ts : List Cond}
theorem zh_one (h : zh_w G X H) {x : zh_E} (he : X.1 a = some x) : va_P G.1 classes [(a, zh_e G x)] H := by
  intro k q hk
  match k, hk with
  | 0, hk =>
    cases hk
    exact (h.1 a x he).2
  | k + 1, hk => cases hk
/-- one cell has changed -/
theorem zh_set (h : zh_w G X H) {x y : zh_E} (he : X.1 a = some x) {H1 : Heap} (hy : va_at G.1 classes (a, zh_e G y) H1) (hz : H1.size = H.size) (ho : ∀ q : Nat, q ≠ a → H1[q]? = H[q]?) : zh_w G (zh_up X a y) H1 := by
  refine ⟨fun b z hb => ?_, hz.trans h.2.1, h.2.2⟩
  unfold zh_up at hb
  dsimp only at hb
  split at hb
  · rename_i hba
    cases hb
    subst hba
    exact ⟨(h.1 _ _ he).1, hy⟩
  · rename_i hba
    exact ⟨(h.1 b z hb).1, (h.1 b z hb).2.kept (ho b hba)⟩
/-- one cell is new -/
theorem zh_new (h : zh_w G X H) {y : zh_E} {H1 : Heap} (hy : va_at G.1 classes (H.size, zh_e G y) H1) (hz : H1.size = H.size + 1) (ho : ∀ q : Nat, q < H.size → H1[q]? = H[q]?) : zh_w G (zh_al X y) H1 := by
  refine ⟨fun b z hb => ?_, by rw [hz, h.2.1]; rfl, Nat.le_succ_of_le h.2.2⟩
  unfold zh_al at hb
  dsimp only at hb
  split at hb
  · rename_i hba
    cases hb
    subst hba
    exact ⟨h.2.2, by rw [← h.2.1]; exact hy⟩
  · exact ⟨(h.1 b z hb).1, (h.1 b z hb).2.kept (ho b (h.1 b z hb).2.lt)⟩
theorem zh_lt (h : zh_w G X H) {x : zh_E} (he : X.1 a = some x) : zh_A G a := (h.1 a x he).1
theorem zr_get {own C : String} {T : u_T} {N ci index : Nat} {v : Value} (hx : p.tables.exec = Jvm.exec) (hb : c.code = cc) (hts : ∀ w ∈ Ts, w.before args s = true) (hin : ∀ w ∈ u_ws C T N, w ∈ Ts) (hown : s.vm.findClass own = some m.cls) (hk : zh_k G s) (hX : zh_w G X H) (hc : classes[ci]? = some (C, T, N)) (k : Nat) (hN : k < N) (hlink : (Cond.fieldLink own index C (T k).2.1 (T k).2.2.1).before args s = true) (hs : (T k).1 = C) (hv : zg X a ci k = some v) (hdg : decode cc pc = .ok (.getfield index, 3))
    (kk : W p l e R s m args below meth c H locs cells slots Q (F0 m (pc + 3) ls (v :: rest))) : W p l e R s m args below meth c H locs cells slots Q (F0 m pc ls (.ref a :: rest)) := by
  obtain ⟨fs, h1, h2⟩ := zg_s hv
  exact va_get hx hb hts hin hown hk.1 (zh_one hX h1) 0 rfl hc k hN hlink (fun x h => by rw [hs] at h; exact h) h2 hdg kk
theorem zr_getN {own C host : String} {T : u_T} {N ci index : Nat} {v : Value} (hx : p.tables.exec = Jvm.exec) (hb : c.code = cc) (hts : ∀ w ∈ Ts, w.before args s = true) (hin : ∀ w ∈ u_ws C T N, w ∈ Ts) (hown : s.vm.findClass own = some m.cls) (hk : zh_k G s) (hX : zh_w G X H) (hc : classes[ci]? = some (C, T, N)) (k : Nat) (hN : k < N) {fn fd : String} (hfn : (T k).2.1 = fn) (hfd : (T k).2.2.1 = fd) (hlink : va_Nw (.fieldLinkNest own index C fn fd host) s) (hs : (T k).1 = C) (hv : zg X a ci k = some v) (hdg : decode cc pc = .ok (.getfield index, 3))
    (kk : W p l e R s m args below meth c H locs cells slots Q (F0 m (pc + 3) ls (v :: rest))) : W p l e R s m args below meth c H locs cells slots Q (F0 m pc ls (.ref a :: rest)) := by
  subst hfn
  subst hfd
  obtain ⟨fs, h1, h2⟩ := zg_s hv
  exact va_getN hx hb hts hin hown hk.1 (zh_one hX h1) 0 rfl hc k hN (va_Nw.use rfl hlink) (fun x h => by rw [hs] at h; exact h) h2 hdg kk
/-- a field of an object of the world: where it lies, and what a write to it makes of the world -/
theorem zh_fld {C : String} {T : u_T} {N ci : Nat} (hts : ∀ w ∈ Ts, w.before args s = true) (hin : ∀ w ∈ u_ws C T N, w ∈ Ts) (ty0 : Nat → FieldType) (hty : ∀ k, k < N → parseFieldDescriptor (T k).2.2.1 = some (ty0 k)) (hnm : ∀ a, a < N → ∀ b, b < N → a ≠ b → (T a).2.1 ≠ (T b).2.1) (hk : zh_k G s) (hX : zh_w G X H) (hc : classes[ci]? = some (C, T, N)) {k : Nat} (hN : k < N) {fs : List Value} (h1 : X.1 a = some (.inr (ci, fs))) (hl : k < fs.length) :
    ∃ (cell : Cell) (cf : Nat) (kf : Class) (fi : Nat) (f : Field) (kC : Class), H[a]? = some cell ∧ cell.vm = .none ∧ f.slot < cell.slots.size ∧ s.fieldFound? (T k).1 (T k).2.1 (T k).2.2.1 = some (cf, kf, fi, f) ∧ f.isStatic = false ∧ s.vm.findClass C = some cell.cls ∧ s.vm.classes[cell.cls]? = some kC ∧ kC.kind = .ordinary ∧
      ∀ (v : Value) (H' : Heap), H'[a]? = some (cell.setSlot f.slot v) → H'.size = H.size → (∀ q : Nat, q ≠ a → H'[q]? = H[q]?) → zh_w G (zh_up X a (.inr (ci, fs.set k v))) H' := by
  obtain ⟨r, hr1, cell, q1, q2, q3, q4⟩ := (hX.1 a _ h1).2
  cases hr1.symm.trans hc
  obtain ⟨hSl, hfc, kC, hkC, hkind⟩ := hk.1.1 ci _ hc
  obtain ⟨cf, kf, fi, f, hi, hsl⟩ := hSl k hN
  refine ⟨cell, cf, kf, fi, f, kC, q1, q3, by rw [hsl]; exact k2_hasslot (q4 k hN), hi, (u_facts hfc hkC (u_lays hts hin hN) hi).1, by rw [q2]; exact hfc, by rw [q2]; exact hkC, hkind, fun v H' e1 e2 e3 => ?_⟩
  rw [hsl] at e1
  exact zh_set hX h1 ⟨_, hc, t_OB.to (V := updV (vp_V fs) k v) ⟨_, e1, q2, q3, t_set q4 (va_apart (own := C) hts hin ty0 hty hnm hk.1 hc) hN v⟩ (fun j _ => vp_updV_set hl v j)⟩ e2 e3
theorem zr_put {own C : String} {T : u_T} {N ci index : Nat} {ty : FieldType} {v : Value} (hx : p.tables.exec = Jvm.exec) (hb : c.code = cc) (hts : ∀ w ∈ Ts, w.before args s = true) (hin : ∀ w ∈ u_ws C T N, w ∈ Ts) (ty0 : Nat → FieldType) (hty : ∀ k, k < N → parseFieldDescriptor (T k).2.2.1 = some (ty0 k)) (hnm : ∀ a, a < N → ∀ b, b < N → a ≠ b → (T a).2.1 ≠ (T b).2.1) (hown : s.vm.findClass own = some m.cls) (hk : zh_k G s) (hX : zh_w G X H) (hS : va_S (zh_A G) H0 H locs) (hc : classes[ci]? = some (C, T, N)) (k : Nat) (hN : k < N) (hlink : (Cond.fieldLink own index C (T k).2.1 (T k).2.2.1).before args s = true) (hs : (T k).1 = C) (hfin : (T k).2.2.2 = false) (hd : parseFieldDescriptor (T k).2.2.1 = some ty) (hn : narrow ty v = v) (hfit : fits ty v = true) (hp : zp X a ci k v = some X1) (hdg : decode cc pc = .ok (.putfield index, 3))
    (kk : ∀ (H1 : Heap) (locs1 : List Loc), zh_w G X1 H1 → va_S (zh_A G) H0 H1 locs1 → W p l e R s m args below meth c H1 locs1 cells slots Q (F0 m (pc + 3) ls rest)) : W p l e R s m args below meth c H locs cells slots Q (F0 m pc ls (v :: .ref a :: rest)) := by
  obtain ⟨fs, h1, hl, rfl⟩ := zp_s hp
  obtain ⟨cell, cf, kf, fi, f, kC, q1, q3, q5, hi, hst, hfc, hkC, hkind, hw⟩ := zh_fld hts hin ty0 hty hnm hk hX hc hN h1 hl
  have hlay := hts _ (hin _ (u_in_lay hN))
  rw [u_lay, if_neg (by rw [hfin]; decide)] at hlay
  refine W.putK hx hb (f := f) ⟨hown, hlink, ⟨_, _, _, by rw [hs] at hi; exact hi⟩, hst⟩ (u_store hfc hkC hkind hlay hi hd hn hfit) q1 q3 q5 rfl rfl hdg fun H' e1 e2 e3 => ?_
  exact kk H' _ (hw v H' e1 e2 e3) (hS.put e2 e3 (zh_lt hX h1))
theorem zr_putN {own C host : String} {T : u_T} {N ci index : Nat} {ty : FieldType} {v : Value} (hx : p.tables.exec = Jvm.exec) (hb : c.code = cc) (hts : ∀ w ∈ Ts, w.before args s = true) (hin : ∀ w ∈ u_ws C T N, w ∈ Ts) (ty0 : Nat → FieldType) (hty : ∀ k, k < N → parseFieldDescriptor (T k).2.2.1 = some (ty0 k)) (hnm : ∀ a, a < N → ∀ b, b < N → a ≠ b → (T a).2.1 ≠ (T b).2.1) (hown : s.vm.findClass own = some m.cls) (hk : zh_k G s) (hX : zh_w G X H) (hS : va_S (zh_A G) H0 H locs) (hc : classes[ci]? = some (C, T, N)) (k : Nat) (hN : k < N) {fn fd : String} (hfn : (T k).2.1 = fn) (hfd : (T k).2.2.1 = fd) (hlink : va_Nw (.fieldLinkNest own index C fn fd host) s) (hs : (T k).1 = C) (hfin : (T k).2.2.2 = false) (hd : parseFieldDescriptor (T k).2.2.1 = some ty) (hn : narrow ty v = v) (hfit : fits ty v = true) (hp : zp X a ci k v = some X1) (hdg : decode cc pc = .ok (.putfield index, 3))
    (kk : ∀ (H1 : Heap) (locs1 : List Loc), zh_w G X1 H1 → va_S (zh_A G) H0 H1 locs1 → W p l e R s m args below meth c H1 locs1 cells slots Q (F0 m (pc + 3) ls rest)) : W p l e R s m args below meth c H locs cells slots Q (F0 m pc ls (v :: .ref a :: rest)) := by
  subst hfn
  subst hfd
  obtain ⟨fs, h1, hl, rfl⟩ := zp_s hp
  obtain ⟨cell, cf, kf, fi, f, kC, q1, q3, q5, hi, hst, hfc, hkC, hkind, hw⟩ := zh_fld hts hin ty0 hty hnm hk hX hc hN h1 hl
  have hlay := hts _ (hin _ (u_in_lay hN))
  rw [u_lay, if_neg (by rw [hfin]; decide)] at hlay
  refine va_WputK hx hb (f := f) hown (va_Nw.use rfl hlink) (by rw [hs] at hi; exact hi) hst (u_store hfc hkC hkind hlay hi hd hn hfit) q1 q3 q5 rfl rfl hdg fun H' e1 e2 e3 => ?_
  exact kk H' _ (hw v H' e1 e2 e3) (hS.put e2 e3 (zh_lt hX h1))
theorem zr_putF {own C : String} {T : u_T} {N ci index : Nat} {ty : FieldType} {v : Value} (hx : p.tables.exec = Jvm.exec) (hb : c.code = cc) (hts : ∀ w ∈ Ts, w.before args s = true) (hin : ∀ w ∈ u_ws C T N, w ∈ Ts) (ty0 : Nat → FieldType) (hty : ∀ k, k < N → parseFieldDescriptor (T k).2.2.1 = some (ty0 k)) (hnm : ∀ a, a < N → ∀ b, b < N → a ≠ b → (T a).2.1 ≠ (T b).2.1) (hown : s.vm.findClass own = some m.cls) (hk : zh_k G s) (hX : zh_w G X H) (hS : va_S (zh_A G) H0 H locs) (hc : classes[ci]? = some (C, T, N)) (k : Nat) (hN : k < N) (hlink : (Cond.fieldLink own index C (T k).2.1 (T k).2.2.1).before args s = true) (hs : (T k).1 = C) (hfin : (T k).2.2.2 = true) (hin2 : meth.name = "<init>") (hdecl : (T k).1 = own) (hd : parseFieldDescriptor (T k).2.2.1 = some ty) (hn : narrow ty v = v) (hfit : fits ty v = true) (hp : zp X a ci k v = some X1) (hdg : decode cc pc = .ok (.putfield index, 3))
    (kk : ∀ (H1 : Heap) (locs1 : List Loc), zh_w G X1 H1 → va_S (zh_A G) H0 H1 locs1 → W p l e R s m args below meth c H1 locs1 cells slots Q (F0 m (pc + 3) ls rest)) : W p l e R s m args below meth c H locs cells slots Q (F0 m pc ls (v :: .ref a :: rest)) := by
  obtain ⟨fs, h1, hl, rfl⟩ := zp_s hp
  obtain ⟨cell, cf, kf, fi, f, kC, q1, q3, q5, hi, hst, hfc, hkC, hkind, hw⟩ := zh_fld hts hin ty0 hty hnm hk hX hc hN h1 hl
  have hlay := hts _ (hin _ (u_in_lay hN))
  rw [u_lay, if_pos hfin] at hlay
  have hcf : m.cls = cf := by
    obtain ⟨_, _, c', _, _, _, -, -, hf', -, -, -, hown2, -⟩ := Cond.laysFinal_spec hlay
    cases hi.symm.trans hf'
    rw [hdecl] at hown2
    exact Option.some.inj (hown.symm.trans hown2)
  refine W.putFinK hx hb hown hlink (by rw [hs] at hi; exact hi) hst hcf hin2 (u_fits hfc hkC hkind (Or.inr hlay) hi hd hn hfit) q1 q3 q5 rfl rfl hdg fun H' e1 e2 e3 => ?_
  exact kk H' _ (hw v H' e1 e2 e3) (hS.put e2 e3 (zh_lt hX h1))
theorem zr_iaload {i v : Int32} (hx : p.tables.exec = Jvm.exec) (hb : c.code = cc) (hk : zh_k G s) (hX : zh_w G X H) (hv : zai X a i = some v) (hdg : decode cc pc = .ok (.iaload, 1))
    (kk : W p l e R s m args below meth c H locs cells slots Q (F0 m (pc + 1) ls (.int v :: rest))) : W p l e R s m args below meth c H locs cells slots Q (F0 m pc ls (.int i :: .ref a :: rest)) := by
  obtain ⟨n, f, h1, h2, rfl⟩ := zai_s hv
  exact va_iald hx hb hk.1 (zh_one hX h1) 0 0 rfl rfl h2 hdg kk
theorem zr_baload {i v : Int32} (hx : p.tables.exec = Jvm.exec) (hb : c.code = cc) (hk : zh_k G s) (hX : zh_w G X H) (hv : zaz X a i = some v) (hdg : decode cc pc = .ok (.baload, 1))
    (kk : W p l e R s m args below meth c H locs cells slots Q (F0 m (pc + 1) ls (.int v :: rest))) : W p l e R s m args below meth c H locs cells slots Q (F0 m pc ls (.int i :: .ref a :: rest)) := by
  obtain ⟨n, f, h1, h2, rfl⟩ := zaz_s hv
  exact va_zald hx hb hk.1 (zh_one hX h1) 0 1 rfl rfl h2 hdg kk
theorem zr_iastore {i x : Int32} (hx : p.tables.exec = Jvm.exec) (hb : c.code = cc) (hk : zh_k G s) (hX : zh_w G X H) (hS : va_S (zh_A G) H0 H locs) (hv : zsi X a i x = some X1) (hdg : decode cc pc = .ok (.iastore, 1))
    (kk : ∀ (H1 : Heap) (locs1 : List Loc), zh_w G X1 H1 → va_S (zh_A G) H0 H1 locs1 → W p l e R s m args below meth c H1 locs1 cells slots Q (F0 m (pc + 1) ls rest)) : W p l e R s m args below meth c H locs cells slots Q (F0 m pc ls (.int x :: .int i :: .ref a :: rest)) := by
  obtain ⟨n, f, h1, h2, rfl⟩ := zsi_s hv
  refine W.iast hx hb (hX.1 a _ h1).2 ((hk.1.2 0 _ rfl).1 n (fun j => .int (f j))) (fun q => by cases q) (by show ¬ (i < 0 ∨ (arrV _ _ _).slots.size ≤ _); rw [arrV_size]; exact h2) rfl rfl hdg fun H1 e1 z oq => ?_
  refine kk H1 _ (zh_set hX h1 ?_ z oq) (hS.put z oq (zh_lt hX h1))
  show H1[a]? = some (vp_cell _ _)
  rw [e1]
  show some ((vp_cell _ _).setSlot _ _) = some (vp_cell _ _)
  rw [vp_cell_i, vp_cell_i, arrV_store]
  congr 2
  funext q
  by_cases hq : q = i.toNatClampNeg
  · subst hq
    simp [updV, upd]
  · simp [updV, upd, hq]
theorem zr_bastore {i x : Int32} (hx : p.tables.exec = Jvm.exec) (hb : c.code = cc) (hk : zh_k G s) (hX : zh_w G X H) (hS : va_S (zh_A G) H0 H locs) (hv : zsz X a i x = some X1) (hdg : decode cc pc = .ok (.bastore, 1))
    (kk : ∀ (H1 : Heap) (locs1 : List Loc), zh_w G X1 H1 → va_S (zh_A G) H0 H1 locs1 → W p l e R s m args below meth c H1 locs1 cells slots Q (F0 m (pc + 1) ls rest)) : W p l e R s m args below meth c H locs cells slots Q (F0 m pc ls (.int x :: .int i :: .ref a :: rest)) := by
  obtain ⟨n, f, h1, h2, h3, rfl⟩ := zsz_s hv
  have h4 : narrow .boolean (.int x) = .int x := by rcases h3 with rfl | rfl <;> decide
  refine W.zast hx hb (hX.1 a _ h1).2 ((hk.1.2 1 _ rfl).1 n (fun j => .int (f j))) (fun q => by cases q) (by show ¬ (i < 0 ∨ (arrV _ _ _).slots.size ≤ _); rw [arrV_size]; exact h2) rfl rfl hdg fun H1 e1 z oq => ?_
  refine kk H1 _ (zh_set hX h1 ?_ z oq) (hS.put z oq (zh_lt hX h1))
  show H1[a]? = some (vp_cell _ _)
  rw [e1, h4]
  show some ((vp_cell _ _).setSlot _ _) = some (vp_cell _ _)
  rw [vp_cell_i, vp_cell_i, arrV_store]
  congr 2
  funext q
  by_cases hq : q = i.toNatClampNeg
  · subst hq
    simp [updV, upd]
  · simp [updV, upd, hq]
theorem zr_aaload {t : Nat} {C : String} {i : Int32} {q : Option Nat} (hx : p.tables.exec = Jvm.exec) (hb : c.code = cc) (hk : zh_k G s) (hX : zh_w G X H) (ht : (zh_tys G.2.1)[t]? = some (G.2.1 t, .object C)) (hv : zaq X t a i = some q) (hdg : decode cc pc = .ok (.aaload, 1))
    (kk : W p l e R s m args below meth c H locs cells slots Q (F0 m (pc + 1) ls (va_rf q :: rest))) : W p l e R s m args below meth c H locs cells slots Q (F0 m pc ls (.int i :: .ref a :: rest)) := by
  obtain ⟨n, f, h1, h2, rfl⟩ := zaq_s hv
  exact va_aldq hx hb hk.1 (zh_one hX h1) 0 t rfl ht h2 hdg kk
theorem zr_aastore {t ci : Nat} {r : vw_C} {i : Int32} {v : Nat} (hx : p.tables.exec = Jvm.exec) (hb : c.code = cc) (hk : zh_k G s) (hX : zh_w G X H) (hS : va_S (zh_A G) H0 H locs) (hc : classes[ci]? = some r) (ht : (zh_tys G.2.1)[t]? = some (G.2.1 t, .object r.1)) (hv : zsr X t ci a i v = some X1) (hdg : decode cc pc = .ok (.aastore, 1))
    (kk : ∀ (H1 : Heap) (locs1 : List Loc), zh_w G X1 H1 → va_S (zh_A G) H0 H1 locs1 → W p l e R s m args below meth c H1 locs1 cells slots Q (F0 m (pc + 1) ls rest)) : W p l e R s m args below meth c H locs cells slots Q (F0 m pc ls (.ref v :: .int i :: .ref a :: rest)) := by
  obtain ⟨n, f, vs, h1, h2, h3, rfl⟩ := zsr_s hv
  have hlt : i.toNatClampNeg < n := Nat.not_le.mp fun q => h2 (Or.inr q)
  have h0 : ¬ i < 0 := fun q => h2 (Or.inl q)
  obtain ⟨r', hr', cellV, g1, g2, g3, -⟩ := (hX.1 v _ h3).2
  have hcls := (hk.1.1 ci r hc).2
  obtain ⟨kA, comp, k1, k2, k3, -⟩ := (hk.1.2 t _ ht).2
  have hcomp : comp = G.1.1 ci := Option.some.inj (k3.symm.trans hcls.1)
  subst hcomp
  obtain ⟨kC, hkC, -⟩ := hcls.2
  refine W.aast hx hb (hX.1 a _ h1).2 (fun q h => by cases h) (fun h => by cases h) k1 k2 rfl hkC ⟨h0, by show _ < (arrV _ _ _).slots.size; rw [arrV_size]; exact hlt⟩ g1 (fun q h => by rw [g3] at h; cases h) (by rw [g2]; exact hkC) (by rw [g2]; exact va_assign hcls) rfl rfl hdg fun H1 e1 z oq => ?_
  refine kk H1 _ (zh_set hX h1 ?_ z oq) (hS.put z oq (zh_lt hX h1))
  show H1[a]? = some (vp_cell _ _)
  rw [e1]
  show some ((vp_cell _ _).setSlot _ _) = some (vp_cell _ _)
  rw [vp_cell_q, vp_cell_q, arrV_store]
  congr 2
  funext q
  by_cases hq : q = i.toNatClampNeg
  · subst hq
    simp [updV, va_up, va_rf]
  · simp [updV, va_up, hq]
theorem zr_alen {t : Nat} {ty : FieldType} {v : Int32} (hx : p.tables.exec = Jvm.exec) (hb : c.code = cc) (hk : zh_k G s) (hX : zh_w G X H) (ht : (zh_tys G.2.1)[t]? = some (G.2.1 t, ty)) (hv : zln X t a = some v) (hdg : decode cc pc = .ok (.arraylength, 1))
    (kk : W p l e R s m args below meth c H locs cells slots Q (F0 m (pc + 1) ls (.int v :: rest))) : W p l e R s m args below meth c H locs cells slots Q (F0 m pc ls (.ref a :: rest)) := by
  obtain ⟨x, h1, h2⟩ := zln_s hv
  exact va_alen hx hb hk.1 (zh_one hX h1) 0 t rfl ht h2 hdg kk
theorem zr_new {own C : String} {T : u_T} {N ci index : Nat} {fs : List Value} (hx : p.tables.exec = Jvm.exec) (hb : c.code = cc) (hts : ∀ w ∈ Ts, w.before args s = true) (hin : ∀ w ∈ u_ws C T N, w ∈ Ts) (ty : Nat → FieldType) (hty : ∀ k, k < N → parseFieldDescriptor (T k).2.2.1 = some (ty k)) (hown : s.vm.findClass own = some m.cls) (hcl : (Cond.classLink own index C).before args s = true) (hinst : (Cond.instantiable C N).before args s = true) (hini : (Cond.initialized C).before args s = true)
    (hk : zh_k G s) (hX : zh_w G X H) (hS : va_S (zh_A G) H0 H locs) (hc : classes[ci]? = some (C, T, N)) (hn : znw X ci fs = some (a, X1)) (hfs : ∀ j, j < N → defaultValue (ty j) = vp_V fs j) (hcells : cells + 1 ≤ R.cells) (hslots : slots + N ≤ R.slots) (hdg : decode cc pc = .ok (.new index, 3))
    (kk : ∀ H1 : Heap, zh_w G X1 H1 → va_S (zh_A G) H0 H1 locs → W p l e R s m args below meth c H1 locs (cells + 1) (slots + N) Q (F0 m (pc + 3) ls (.ref a :: rest))) : W p l e R s m args below meth c H locs cells slots Q (F0 m pc ls rest) := by
  unfold znw at hn
  cases hn
  have hKn := hk.1.1 ci _ hc
  refine W.newcK hx hb hown hcl hinst hini rfl hdg hcells hslots hKn.2.1 rfl fun H1 kC hkC e1 z1 o1 => ?_
  rw [hX.2.1]
  refine kk H1 (zh_new hX ⟨_, hc, (u_born ty hts hin hKn hkC e1 hty).to hfs⟩ z1 o1) ⟨Nat.le_trans hS.1 (by omega), fun x h1 h2 => (o1 x (Nat.lt_of_lt_of_le h1 hS.1)).trans (hS.2.1 x h1 h2), hS.2.2⟩
theorem zr_newai {n : Int32} {N' : Nat} (hx : p.tables.exec = Jvm.exec) (hb : c.code = cc) (harr : (Cond.arrayClass (newarray.typeOf .int)).before args s = true) (hk : zh_k G s) (hX : zh_w G X H) (hS : va_S (zh_A G) H0 H locs) (ha : zna X 0 N' = some (a, X1)) (hn : ¬ n < 0) (hN : n.toNatClampNeg = N') (hbytes : N' * componentBytes (newarray.typeOf .int) ≤ 536870912) (hcells : cells + 1 ≤ R.cells) (hslots : slots + N' ≤ R.slots) (hdg : decode cc pc = .ok (.newarray .int, 2))
    (kk : ∀ H1 : Heap, zh_w G X1 H1 → va_S (zh_A G) H0 H1 locs → W p l e R s m args below meth c H1 locs (cells + 1) (slots + N') Q (F0 m (pc + 2) ls (.ref a :: rest))) : W p l e R s m args below meth c H locs cells slots Q (F0 m pc ls (.int n :: rest)) := by
  unfold zna at ha
  cases ha
  have hR : s.vm.findClass ("[" ++ (newarray.typeOf .int).toString) = some (G.2.1 0) := (hk.1.2 0 _ rfl).2
  refine va_newaK (atype := .int) hx hb harr rfl hdg rfl hn hN hbytes hcells hslots rfl ?_
  intro H1 cA e1 z1 o1 hAr hNm
  have hcA : cA = G.2.1 0 := Option.some.inj (hNm.symm.trans hR)
  subst hcA
  have e2 : va_at G.1 classes (H.size, zh_e G (.inl (0, N', .inl (fun _ => 0)))) H1 := e1
  rw [hX.2.1]
  exact kk H1 (zh_new hX e2 z1 o1) ⟨Nat.le_trans hS.1 (by omega), fun x h1 h2 => (o1 x (Nat.lt_of_lt_of_le h1 hS.1)).trans (hS.2.1 x h1 h2), hS.2.2⟩
theorem zr_newaz {n : Int32} {N' : Nat} (hx : p.tables.exec = Jvm.exec) (hb : c.code = cc) (harr : (Cond.arrayClass (newarray.typeOf .boolean)).before args s = true) (hk : zh_k G s) (hX : zh_w G X H) (hS : va_S (zh_A G) H0 H locs) (ha : zna X 1 N' = some (a, X1)) (hn : ¬ n < 0) (hN : n.toNatClampNeg = N') (hbytes : N' * componentBytes (newarray.typeOf .boolean) ≤ 536870912) (hcells : cells + 1 ≤ R.cells) (hslots : slots + N' ≤ R.slots) (hdg : decode cc pc = .ok (.newarray .boolean, 2))
    (kk : ∀ H1 : Heap, zh_w G X1 H1 → va_S (zh_A G) H0 H1 locs → W p l e R s m args below meth c H1 locs (cells + 1) (slots + N') Q (F0 m (pc + 2) ls (.ref a :: rest))) : W p l e R s m args below meth c H locs cells slots Q (F0 m pc ls (.int n :: rest)) := by
  unfold zna at ha
  cases ha
  have hR : s.vm.findClass ("[" ++ (newarray.typeOf .boolean).toString) = some (G.2.1 1) := (hk.1.2 1 _ rfl).2
  refine va_newaK (atype := .boolean) hx hb harr rfl hdg rfl hn hN hbytes hcells hslots rfl ?_
  intro H1 cA e1 z1 o1 hAr hNm
  have hcA : cA = G.2.1 1 := Option.some.inj (hNm.symm.trans hR)
  subst hcA
  have e2 : va_at G.1 classes (H.size, zh_e G (.inl (1, N', .inl (fun _ => 0)))) H1 := e1
  rw [hX.2.1]
  exact kk H1 (zh_new hX e2 z1 o1) ⟨Nat.le_trans hS.1 (by omega), fun x h1 h2 => (o1 x (Nat.lt_of_lt_of_le h1 hS.1)).trans (hS.2.1 x h1 h2), hS.2.2⟩
theorem zr_newq {own C : String} {index t : Nat} {n : Int32} {N' : Nat} (hx : p.tables.exec = Jvm.exec) (hb : c.code = cc) (hown : s.vm.findClass own = some m.cls) (hcl : (Cond.classLink own index C).before args s = true) (hover : va_AO C s) (hk : zh_k G s) (hX : zh_w G X H) (hS : va_S (zh_A G) H0 H locs) (ht : (zh_tys G.2.1)[t]? = some (G.2.1 t, .object C)) (ha : znq X t N' = some (a, X1)) (hn : ¬ n < 0) (hN : n.toNatClampNeg = N') (hbytes : N' * 4 ≤ 536870912) (hcells : cells + 1 ≤ R.cells) (hslots : slots + N' ≤ R.slots) (hdg : decode cc pc = .ok (.anewarray index, 3))
    (kk : ∀ H1 : Heap, zh_w G X1 H1 → va_S (zh_A G) H0 H1 locs → W p l e R s m args below meth c H1 locs (cells + 1) (slots + N') Q (F0 m (pc + 3) ls (.ref a :: rest))) : W p l e R s m args below meth c H locs cells slots Q (F0 m pc ls (.int n :: rest)) := by
  unfold znq at ha
  cases ha
  subst hN
  refine W.anew hx hb hown hcl (va_AO.use hover) rfl hdg rfl hn hbytes hcells hslots fun cA kA comp f1 f2 f3 f4 => ?_
  generalize hH1 : H.push ({ cls := cA, slots := Array.replicate n.toNatClampNeg .null, vm := .none } : Cell) = H1
  have z1 : H1.size = H.size + 1 := by rw [← hH1, Array.size_push]
  have e1 : H1[H.size]? = some (arrV cA n.toNatClampNeg (fun _ => .null)) := by rw [← hH1, Array.getElem?_push_size, ← arrV_new]
  have o1 : ∀ q : Nat, q < H.size → H1[q]? = H[q]? := fun q hq => by rw [← hH1, Array.getElem?_push, if_neg (Nat.ne_of_lt hq)]
  have hcA : cA = G.2.1 t := by
    obtain ⟨_, _, -, -, -, g4⟩ := (hk.1.2 t _ ht).2
    exact Option.some.inj (f1.symm.trans g4)
  subst hcA
  rw [hX.2.1]
  exact kk H1 (zh_new hX e1 z1 o1) ⟨Nat.le_trans hS.1 (by omega), fun x h1 h2 => (o1 x (Nat.lt_of_lt_of_le h1 hS.1)).trans (hS.2.1 x h1 h2), hS.2.2⟩
theorem zv_q {q : Option Nat} : (va_rf q).category = 1 := by cases q <;> rfl
theorem zr_astore_nq {k : Fin 4} {i nL : Nat} {q : Option Nat} {lv lv' : List (Nat × Value)} (hx : p.tables.exec = Jvm.exec) (hb : c.code = cc) (hdg : decode cc pc = .ok (.astore_n k, 1)) (hi : (k : Nat) = i) (h : lv_has ls nL lv) (hn : i < nL) (hl : (i, va_rf q) :: lv.filter (fun q => !(q.1 == i) && !(q.1 + 1 == i && q.2.category == 2)) = lv')
    (kk : ∀ ls' : Array Slot, lv_has ls' nL lv' → W p l e R s m args below meth c H locs cells slots Q (F0 m (pc + 1) ls' rest)) : W p l e R s m args below meth c H locs cells slots Q (F0 m pc ls (va_rf q :: rest)) := by
  cases q with
  | none => exact lv_astore_nN hx hb hdg hi h hn hl kk
  | some x => exact lv_astore_n hx hb hdg hi h hn hl kk
theorem zr_astoreq {i nL : Nat} {q : Option Nat} {lv lv' : List (Nat × Value)} (hx : p.tables.exec = Jvm.exec) (hb : c.code = cc) (hdg : decode cc pc = .ok (.astore i, 2)) (h : lv_has ls nL lv) (hn : i < nL) (hl : (i, va_rf q) :: lv.filter (fun q => !(q.1 == i) && !(q.1 + 1 == i && q.2.category == 2)) = lv')
    (kk : ∀ ls' : Array Slot, lv_has ls' nL lv' → W p l e R s m args below meth c H locs cells slots Q (F0 m (pc + 2) ls' rest)) : W p l e R s m args below meth c H locs cells slots Q (F0 m pc ls (va_rf q :: rest)) := by
  cases q with
  | none => exact lv_astoreN hx hb hdg h hn hl kk
  | some x => exact lv_astore hx hb hdg h hn hl kk
/-! calls -/
theorem zh_good {y : MethodName} {b : ByteArray} {n : Nat} {r : Option FieldType} (h : Cond.code y b n r ∈ TW) : GoodIn TW (.code y b n r :: TW) := by
  intro w hw
  rcases List.mem_cons.mp hw with rfl | h1
  · exact ⟨h, Or.inl rfl⟩
  · exact ⟨h1, tw_good w h1⟩
theorem zh_pre (av : List Value) (hk : zh_k G s) (hX : zh_w G X H) : ∀ U : State, U.heap = H → s.WarmedH U.vm → va_Pc av (zh_W G X) av.toArray U := fun U hU hW => ⟨rfl, by rw [hU]; exact hX, zh_k.moved hW hk⟩
theorem zr_runV {own : String} {nL n index maxL fr lo mc ms b : Nat} {y : MethodName} {bytes : ByteArray} {ret : Option FieldType} {As rest st0 : List Value} {rv : Option Value} {C : String} {T : u_T} {N ci : Nat} {u : Unit} (hx : p.tables.exec = Jvm.exec) (hb : c.code = cc) (hml : c.maxLocals = nL) (hown : s.vm.findClass own = some m.cls) (hts : ∀ w ∈ TW, w.before args s = true) (hk : zh_k G s) (hX : zh_w G X H) (hM : zM l G y (.code y bytes maxL ret :: TW) fr lo X (.ref b :: As) rv X1 mc ms) (hl : (Cond.methodLink own index y).before args s = true) (hcode : Cond.code y bytes maxL ret ∈ TW) (hini : (Cond.initialized y.cls).before args s = true) (hinst : (Cond.instanceMethod y).before args s = true) (hsel : (Cond.selects C y y).before args s = true) (hc : classes[ci]? = some (C, T, N)) (hck : zck X b ci = some u)
    (hd : y.cls ≠ "java/lang/invoke/MethodHandle" ∧ y.cls ≠ "java/lang/invoke/VarHandle" ∧ (parseMethodDescriptor y.desc).map (fun d => d.parameters.length) = some n) (hR : fr + 1 ≤ R.frames ∧ 8 + (maxL + 11) + lo ≤ R.locals) (hg : (F0 m pc ls st0).method = m) (hn : As.length = n) (hsize : ls.size = nL) (hstack : st0 = As.reverse ++ .ref b :: rest) (hW : 2 * (F0 m pc ls st0).monitorRoom + (rest.map fun v => v.category).sum ≤ 8) (hdg : decode cc pc = .ok (.invokevirtual index, 3)) (hf : cells + mc ≤ R.cells ∧ slots + ms ≤ R.slots) :
    va_Run p l e R s m args below meth c H locs cells slots mc ms (F0 m pc ls st0) rest (zh_Q G rv X1 (Value.ref b :: As).toArray) (zh_A G) := by
  obtain ⟨fs, h1⟩ := zck_s hck
  exact va_runV (Ts := TW) ⟨hx, hb, hml, hown, hts⟩ hM ⟨callB_of n hts (zh_good hcode) rfl rfl rfl hini hl hd hR, hinst, hsel⟩ ⟨zh_blind G X _, va_recv (q0 := 0) (fs := fs) hk.1 (zh_one hX h1) hc rfl, zh_pre (.ref b :: As) hk hX⟩ hg hn hsize hstack hW hdg hf
theorem zr_runVN {own : String} {nL n index maxL fr lo mc ms b : Nat} {y : MethodName} {bytes : ByteArray} {ret : Option FieldType} {As rest st0 : List Value} {rv : Option Value} {host : String} {C : String} {T : u_T} {N ci : Nat} {u : Unit} (hx : p.tables.exec = Jvm.exec) (hb : c.code = cc) (hml : c.maxLocals = nL) (hown : s.vm.findClass own = some m.cls) (hts : ∀ w ∈ TW, w.before args s = true) (hk : zh_k G s) (hX : zh_w G X H) (hM : zM l G y (.code y bytes maxL ret :: TW) fr lo X (.ref b :: As) rv X1 mc ms) (hl : va_Nw (.methodLinkNest own index y host) s) (hcode : Cond.code y bytes maxL ret ∈ TW) (hini : (Cond.initialized y.cls).before args s = true) (hinst : (Cond.instanceMethod y).before args s = true) (hsel : (Cond.selects C y y).before args s = true) (hc : classes[ci]? = some (C, T, N)) (hck : zck X b ci = some u)
    (hd : y.cls ≠ "java/lang/invoke/MethodHandle" ∧ y.cls ≠ "java/lang/invoke/VarHandle" ∧ (parseMethodDescriptor y.desc).map (fun d => d.parameters.length) = some n) (hR : fr + 1 ≤ R.frames ∧ 8 + (maxL + 11) + lo ≤ R.locals) (hg : (F0 m pc ls st0).method = m) (hn : As.length = n) (hsize : ls.size = nL) (hstack : st0 = As.reverse ++ .ref b :: rest) (hW : 2 * (F0 m pc ls st0).monitorRoom + (rest.map fun v => v.category).sum ≤ 8) (hdg : decode cc pc = .ok (.invokevirtual index, 3)) (hf : cells + mc ≤ R.cells ∧ slots + ms ≤ R.slots) :
    va_Run p l e R s m args below meth c H locs cells slots mc ms (F0 m pc ls st0) rest (zh_Q G rv X1 (Value.ref b :: As).toArray) (zh_A G) := by
  obtain ⟨fs, h1⟩ := zck_s hck
  exact va_runVN (Ts := TW) ⟨hx, hb, hml, hown, hts⟩ hM ⟨va_cnB n hts (zh_good hcode) rfl rfl rfl hl hini hd hR, hinst, hsel⟩ ⟨zh_blind G X _, va_recv (q0 := 0) (fs := fs) hk.1 (zh_one hX h1) hc rfl, zh_pre (.ref b :: As) hk hX⟩ hg hn hsize hstack hW hdg hf
theorem zr_runS {own : String} {nL n index maxL fr lo mc ms : Nat} {y : MethodName} {bytes : ByteArray} {ret : Option FieldType} {As rest st0 : List Value} {rv : Option Value} (hx : p.tables.exec = Jvm.exec) (hb : c.code = cc) (hml : c.maxLocals = nL) (hown : s.vm.findClass own = some m.cls) (hts : ∀ w ∈ TW, w.before args s = true) (hk : zh_k G s) (hX : zh_w G X H) (hM : zM l G y (.code y bytes maxL ret :: TW) fr lo X (As) rv X1 mc ms) (hl : (Cond.methodLink own index y).before args s = true) (hcode : Cond.code y bytes maxL ret ∈ TW) (hini : (Cond.initialized y.cls).before args s = true) (hstat : (Cond.static y).before args s = true)
    (hd : y.cls ≠ "java/lang/invoke/MethodHandle" ∧ y.cls ≠ "java/lang/invoke/VarHandle" ∧ (parseMethodDescriptor y.desc).map (fun d => d.parameters.length) = some n) (hR : fr + 1 ≤ R.frames ∧ 8 + (maxL + 11) + lo ≤ R.locals) (hg : (F0 m pc ls st0).method = m) (hn : As.length = n) (hsize : ls.size = nL) (hstack : st0 = As.reverse ++ rest) (hW : 2 * (F0 m pc ls st0).monitorRoom + (rest.map fun v => v.category).sum ≤ 8) (hdg : decode cc pc = .ok (.invokestatic index, 3)) (hf : cells + mc ≤ R.cells ∧ slots + ms ≤ R.slots) :
    va_Run p l e R s m args below meth c H locs cells slots mc ms (F0 m pc ls st0) rest (zh_Q G rv X1 (As).toArray) (zh_A G) := by
  exact va_runS (Ts := TW) ⟨hx, hb, hml, hown, hts⟩ hM ⟨callB_of n hts (zh_good hcode) rfl rfl rfl hini hl hd hR, hstat⟩ ⟨zh_blind G X _, zh_pre (As) hk hX⟩ hg hn hsize hstack hW hdg hf
theorem zr_runSN {own : String} {nL n index maxL fr lo mc ms : Nat} {y : MethodName} {bytes : ByteArray} {ret : Option FieldType} {As rest st0 : List Value} {rv : Option Value} {host : String} (hx : p.tables.exec = Jvm.exec) (hb : c.code = cc) (hml : c.maxLocals = nL) (hown : s.vm.findClass own = some m.cls) (hts : ∀ w ∈ TW, w.before args s = true) (hk : zh_k G s) (hX : zh_w G X H) (hM : zM l G y (.code y bytes maxL ret :: TW) fr lo X (As) rv X1 mc ms) (hl : va_Nw (.methodLinkNest own index y host) s) (hcode : Cond.code y bytes maxL ret ∈ TW) (hini : (Cond.initialized y.cls).before args s = true) (hstat : (Cond.static y).before args s = true)
    (hd : y.cls ≠ "java/lang/invoke/MethodHandle" ∧ y.cls ≠ "java/lang/invoke/VarHandle" ∧ (parseMethodDescriptor y.desc).map (fun d => d.parameters.length) = some n) (hR : fr + 1 ≤ R.frames ∧ 8 + (maxL + 11) + lo ≤ R.locals) (hg : (F0 m pc ls st0).method = m) (hn : As.length = n) (hsize : ls.size = nL) (hstack : st0 = As.reverse ++ rest) (hW : 2 * (F0 m pc ls st0).monitorRoom + (rest.map fun v => v.category).sum ≤ 8) (hdg : decode cc pc = .ok (.invokestatic index, 3)) (hf : cells + mc ≤ R.cells ∧ slots + ms ≤ R.slots) :
    va_Run p l e R s m args below meth c H locs cells slots mc ms (F0 m pc ls st0) rest (zh_Q G rv X1 (As).toArray) (zh_A G) := by
  exact va_runSN (Ts := TW) ⟨hx, hb, hml, hown, hts⟩ hM ⟨va_cnB n hts (zh_good hcode) rfl rfl rfl hl hini hd hR, hstat, trivial⟩ ⟨zh_blind G X _, zh_pre (As) hk hX⟩ hg hn hsize hstack hW hdg hf
theorem zr_runI {own : String} {nL n index maxL fr lo mc ms b : Nat} {y : MethodName} {bytes : ByteArray} {As rest st0 : List Value} {rv : Option Value} (hx : p.tables.exec = Jvm.exec) (hb : c.code = cc) (hml : c.maxLocals = nL) (hown : s.vm.findClass own = some m.cls) (hts : ∀ w ∈ TW, w.before args s = true) (hk : zh_k G s) (hX : zh_w G X H) (hM : zM l G y (.code y bytes maxL none :: TW) fr lo X (.ref b :: As) rv X1 mc ms) (hl : (Cond.methodLink own index y).before args s = true) (hcode : Cond.code y bytes maxL none ∈ TW) (hini : (Cond.initialized y.cls).before args s = true) (hinst : (Cond.instanceMethod y).before args s = true)
    (hd : y.cls ≠ "java/lang/invoke/MethodHandle" ∧ y.cls ≠ "java/lang/invoke/VarHandle" ∧ (parseMethodDescriptor y.desc).map (fun d => d.parameters.length) = some n) (hR : fr + 1 ≤ R.frames ∧ 8 + (maxL + 11) + lo ≤ R.locals) (hg : (F0 m pc ls st0).method = m) (hn : As.length = n) (hsize : ls.size = nL) (hstack : st0 = As.reverse ++ .ref b :: rest) (hW : 2 * (F0 m pc ls st0).monitorRoom + (rest.map fun v => v.category).sum ≤ 8) (hdg : decode cc pc = .ok (.invokespecial index, 3)) (hf : cells + mc ≤ R.cells ∧ slots + ms ≤ R.slots) (hy1 : y.name = "<init>" := by rfl) :
    va_Run p l e R s m args below meth c H locs cells slots mc ms (F0 m pc ls st0) rest (zh_Q G rv X1 (Value.ref b :: As).toArray) (zh_A G) := by
  exact va_runI (Ts := TW) ⟨hx, hb, hml, hown, hts⟩ hM ⟨callB_of n hts (zh_good hcode) rfl rfl rfl hini hl hd hR, hy1, hinst⟩ ⟨zh_blind G X _, zh_pre (.ref b :: As) hk hX⟩ hg hn hsize hstack hW hdg hf
theorem zr_runIN {own : String} {nL n index maxL fr lo mc ms b : Nat} {y : MethodName} {bytes : ByteArray} {As rest st0 : List Value} {rv : Option Value} {host : String} (hx : p.tables.exec = Jvm.exec) (hb : c.code = cc) (hml : c.maxLocals = nL) (hown : s.vm.findClass own = some m.cls) (hts : ∀ w ∈ TW, w.before args s = true) (hk : zh_k G s) (hX : zh_w G X H) (hM : zM l G y (.code y bytes maxL none :: TW) fr lo X (.ref b :: As) rv X1 mc ms) (hl : va_Nw (.methodLinkNest own index y host) s) (hcode : Cond.code y bytes maxL none ∈ TW) (hini : (Cond.initialized y.cls).before args s = true) (hinst : (Cond.instanceMethod y).before args s = true)
    (hd : y.cls ≠ "java/lang/invoke/MethodHandle" ∧ y.cls ≠ "java/lang/invoke/VarHandle" ∧ (parseMethodDescriptor y.desc).map (fun d => d.parameters.length) = some n) (hR : fr + 1 ≤ R.frames ∧ 8 + (maxL + 11) + lo ≤ R.locals) (hg : (F0 m pc ls st0).method = m) (hn : As.length = n) (hsize : ls.size = nL) (hstack : st0 = As.reverse ++ .ref b :: rest) (hW : 2 * (F0 m pc ls st0).monitorRoom + (rest.map fun v => v.category).sum ≤ 8) (hdg : decode cc pc = .ok (.invokespecial index, 3)) (hf : cells + mc ≤ R.cells ∧ slots + ms ≤ R.slots) (hy1 : y.name = "<init>" := by rfl) :
    va_Run p l e R s m args below meth c H locs cells slots mc ms (F0 m pc ls st0) rest (zh_Q G rv X1 (Value.ref b :: As).toArray) (zh_A G) := by
  exact va_runIN (Ts := TW) ⟨hx, hb, hml, hown, hts⟩ hM ⟨va_cnB n hts (zh_good hcode) rfl rfl rfl hl hini hd hR, hy1, hinst⟩ ⟨zh_blind G X _, zh_pre (.ref b :: As) hk hX⟩ hg hn hsize hstack hW hdg hf
theorem zr_callg {rv : Option Value} {st0 : List Value} {mc ms : Nat} {av : Array Value} (hr : va_Run p l e R s m args below meth c H locs cells slots mc ms (F0 m pc ls st0) rest (zh_Q G rv X1 av) (zh_A G)) (hS : va_S (zh_A G) H0 H locs)
    (kk : ∀ (H1 : Heap) (locs1 : List Loc), zh_w G X1 H1 → va_S (zh_A G) H0 H1 locs1 → W p l e R s m args below meth c H1 locs1 (cells + mc) (slots + ms) Q (F0 m (pc + 3) ls (rv.toList ++ rest))) : W p l e R s m args below meth c H locs cells slots Q (F0 m pc ls st0) := by
  intro T hT Y
  obtain ⟨v, st₀, t, T', L, h0, Y', hL, e1, e2, ⟨⟨hv, hW⟩, hz, hq⟩, st⟩ := hr T hT Y
  cases hv
  rw [h0] at hz hq
  obtain ⟨t2, a1, b1⟩ := kk T'.heap (locs ++ L) (by rw [e1]; exact hW.1) ⟨Nat.le_trans hS.1 (by rw [e1]; exact hz), fun q h1 h2 => by rw [e1, hq q (Nat.lt_of_lt_of_le h1 hS.1) h2]; exact hS.2.1 q h1 h2, fun q hq => by
      rcases List.mem_append.mp hq with h | h
      · exact hS.2.2 q h
      · exact hL q h⟩ T' rfl Y'
  exact ⟨t2, st t2 a1, b1⟩
theorem zr_calli {r : Int32} {st0 : List Value} {mc ms : Nat} {av : Array Value} (hr : va_Run p l e R s m args below meth c H locs cells slots mc ms (F0 m pc ls st0) rest (zh_Q G (some (.int r)) X1 av) (zh_A G)) (hS : va_S (zh_A G) H0 H locs)
    (kk : ∀ (H1 : Heap) (locs1 : List Loc), zh_w G X1 H1 → va_S (zh_A G) H0 H1 locs1 → W p l e R s m args below meth c H1 locs1 (cells + mc) (slots + ms) Q (F0 m (pc + 3) ls (.int r :: rest))) : W p l e R s m args below meth c H locs cells slots Q (F0 m pc ls st0) := zr_callg hr hS kk
theorem zr_calll {r : Int64} {st0 : List Value} {mc ms : Nat} {av : Array Value} (hr : va_Run p l e R s m args below meth c H locs cells slots mc ms (F0 m pc ls st0) rest (zh_Q G (some (.long r)) X1 av) (zh_A G)) (hS : va_S (zh_A G) H0 H locs)
    (kk : ∀ (H1 : Heap) (locs1 : List Loc), zh_w G X1 H1 → va_S (zh_A G) H0 H1 locs1 → W p l e R s m args below meth c H1 locs1 (cells + mc) (slots + ms) Q (F0 m (pc + 3) ls (.long r :: rest))) : W p l e R s m args below meth c H locs cells slots Q (F0 m pc ls st0) := zr_callg hr hS kk
theorem zr_callq {r : Option Nat} {st0 : List Value} {mc ms : Nat} {av : Array Value} (hr : va_Run p l e R s m args below meth c H locs cells slots mc ms (F0 m pc ls st0) rest (zh_Q G (some (va_rf r)) X1 av) (zh_A G)) (hS : va_S (zh_A G) H0 H locs)
    (kk : ∀ (H1 : Heap) (locs1 : List Loc), zh_w G X1 H1 → va_S (zh_A G) H0 H1 locs1 → W p l e R s m args below meth c H1 locs1 (cells + mc) (slots + ms) Q (F0 m (pc + 3) ls (va_rf r :: rest))) : W p l e R s m args below meth c H locs cells slots Q (F0 m pc ls st0) := zr_callg hr hS kk
theorem zr_callv  {st0 : List Value} {mc ms : Nat} {av : Array Value} (hr : va_Run p l e R s m args below meth c H locs cells slots mc ms (F0 m pc ls st0) rest (zh_Q G none X1 av) (zh_A G)) (hS : va_S (zh_A G) H0 H locs)
    (kk : ∀ (H1 : Heap) (locs1 : List Loc), zh_w G X1 H1 → va_S (zh_A G) H0 H1 locs1 → W p l e R s m args below meth c H1 locs1 (cells + mc) (slots + ms) Q (F0 m (pc + 3) ls (rest))) : W p l e R s m args below meth c H locs cells slots Q (F0 m pc ls st0) := zr_callg hr hS kk
/-! switches -/
theorem zsw_lo {x k : Int32} {lo : Int} (h : x = k) (q : ¬ k.toInt < lo) : ¬ x.toInt < lo := by rw [h]; exact q
theorem zsw_hi {x k : Int32} {hi : Int} (h : x = k) (q : ¬ hi < k.toInt) : ¬ hi < x.toInt := by rw [h]; exact q
theorem zsw_at {x k : Int32} {lo off : Int} {offs : Array Int} (h : x = k) (q : offs[(k.toInt - lo).toNat]? = some off) : offs[(x.toInt - lo).toNat]? = some off := by rw [h]; exact q
theorem zsl_at {x k : Int32} {ps : List (Int × Int)} {d off : Int} (h : x = k) (q : Op.lookupswitch.offset ps d k.toInt = off) : Op.lookupswitch.offset ps d x.toInt = off := by rw [h]; exact q
end ZROWS
/-! a contract, from the walk of the body -/
theorem zr_ofW {l : Launch} {G : zh_G} {y : MethodName} {cc : ByteArray} {maxL fr lo mc ms : Nat} {ret : Option FieldType} {X X1 : zh_T} {av : List Value} {rv : Option Value} (hy : plainName y.cls = true) (hlen : (lg_sl av).length ≤ maxL)
    (body : ∀ (p : Program) (e : Env) (s : State) (m : MethodId) (args : Array Value) (below : List Frame) (meth : Method) (c : Code) (ls : Array Slot), p.tables.exec = Jvm.exec → c.code = cc → c.maxLocals = maxL → meth.sig.returnType = ret → (∀ w ∈ TW, w.before args s = true) → s.vm.findClass y.cls = some m.cls → meth.name = y.name → meth.locks = false → zh_k G s → zh_w G X s.heap → lv_has ls maxL (lv_args 0 av) →
      W p l e { frames := fr, cells := mc, slots := ms, locals := lo } s m args below meth c s.heap [] 0 0 (MQ below (zh_Q G rv X1) args s mc ms (zh_A G)) (F0 m 0 ls [])) : zM l G y (.code y cc maxL ret :: TW) fr lo X av rv X1 mc ms := by
  refine Met.ofW (cc := cc) (maxL := maxL) (ret := ret) hy rfl ?_
  intro p e s m args below meth c s₁ B hml hv
  obtain ⟨rfl, hX, hk⟩ := hv
  have hts := atoms_spec (ws := .code y cc maxL ret :: TW) B.pre
  rw [lg_entry_eq]
  exact body p e s m _ below meth c _ B.exec B.bytes hml B.returns (fun w hw => hts w (List.mem_cons_of_mem _ hw)) (findClass_of_methodNamed B.named) (name_of_methodNamed B.named B.method).1 B.notSynchronized hk hX (lv_entry av hlen)
end
section
/-! links of nest mates, a row a link -/
theorem nF0 {G : zh_G} {s : State} (h : zh_k G s) : va_Nw (.fieldLinkNest R_ZoneNodes 110 R_Message "kind" "I" R_ZoneNodes) s := h.2.1 (R_ZoneNodes, 110, R_Message, "kind", "I", R_ZoneNodes) nFm0
theorem nF1 {G : zh_G} {s : State} (h : zh_k G s) : va_Nw (.fieldLinkNest R_ZoneNodes 130 R_Message "altered" "Z" R_ZoneNodes) s := h.2.1 (R_ZoneNodes, 130, R_Message, "altered", "Z", R_ZoneNodes) nFm1
theorem nF2 {G : zh_G} {s : State} (h : zh_k G s) : va_Nw (.fieldLinkNest R_ZoneNodes 74 R_Primary "up" "Z" R_ZoneNodes) s := h.2.1 (R_ZoneNodes, 74, R_Primary, "up", "Z", R_ZoneNodes) nFm2
theorem nF3 {G : zh_G} {s : State} (h : zh_k G s) : va_Nw (.fieldLinkNest R_ZoneNodes 89 R_Primary "armed" "I" R_ZoneNodes) s := h.2.1 (R_ZoneNodes, 89, R_Primary, "armed", "I", R_ZoneNodes) nFm3
theorem nF4 {G : zh_G} {s : State} (h : zh_k G s) : va_Nw (.fieldLinkNest R_Journal 22 R_Entry "oldSerial" "I" R_ZoneNodes) s := h.2.1 (R_Journal, 22, R_Entry, "oldSerial", "I", R_ZoneNodes) nFm4
theorem nF5 {G : zh_G} {s : State} (h : zh_k G s) : va_Nw (.fieldLinkNest R_Primary 93 R_Journal "count" "I" R_ZoneNodes) s := h.2.1 (R_Primary, 93, R_Journal, "count", "I", R_ZoneNodes) nFm5
theorem nF6 {G : zh_G} {s : State} (h : zh_k G s) : va_Nw (.fieldLinkNest R_Primary 106 R_Journal "rows" "[LZoneNodes$Entry;" R_ZoneNodes) s := h.2.1 (R_Primary, 106, R_Journal, "rows", "[LZoneNodes$Entry;", R_ZoneNodes) nFm6
theorem nF7 {G : zh_G} {s : State} (h : zh_k G s) : va_Nw (.fieldLinkNest R_Primary 65 R_Entry "gone" "LZoneNodes$Records;" R_ZoneNodes) s := h.2.1 (R_Primary, 65, R_Entry, "gone", "LZoneNodes$Records;", R_ZoneNodes) nFm7
theorem nF8 {G : zh_G} {s : State} (h : zh_k G s) : va_Nw (.fieldLinkNest R_Primary 70 R_Entry "come" "LZoneNodes$Records;" R_ZoneNodes) s := h.2.1 (R_Primary, 70, R_Entry, "come", "LZoneNodes$Records;", R_ZoneNodes) nFm8
theorem nF9 {G : zh_G} {s : State} (h : zh_k G s) : va_Nw (.fieldLinkNest R_Wire 26 R_Message "kind" "I" R_ZoneNodes) s := h.2.1 (R_Wire, 26, R_Message, "kind", "I", R_ZoneNodes) nFm9
theorem nF10 {G : zh_G} {s : State} (h : zh_k G s) : va_Nw (.fieldLinkNest R_Wire 29 R_Message "secondary" "I" R_ZoneNodes) s := h.2.1 (R_Wire, 29, R_Message, "secondary", "I", R_ZoneNodes) nFm10
theorem nF11 {G : zh_G} {s : State} (h : zh_k G s) : va_Nw (.fieldLinkNest R_Wire 84 R_Message "serial" "I" R_ZoneNodes) s := h.2.1 (R_Wire, 84, R_Message, "serial", "I", R_ZoneNodes) nFm11
theorem nF12 {G : zh_G} {s : State} (h : zh_k G s) : va_Nw (.fieldLinkNest R_Wire 85 R_Message "altered" "Z" R_ZoneNodes) s := h.2.1 (R_Wire, 85, R_Message, "altered", "Z", R_ZoneNodes) nFm12
theorem nF13 {G : zh_G} {s : State} (h : zh_k G s) : va_Nw (.fieldLinkNest R_Wire 52 R_Primary "itemCount" "I" R_ZoneNodes) s := h.2.1 (R_Wire, 52, R_Primary, "itemCount", "I", R_ZoneNodes) nFm13
theorem nF14 {G : zh_G} {s : State} (h : zh_k G s) : va_Nw (.fieldLinkNest R_Wire 57 R_Primary "serial" "I" R_ZoneNodes) s := h.2.1 (R_Wire, 57, R_Primary, "serial", "I", R_ZoneNodes) nFm14
theorem nF15 {G : zh_G} {s : State} (h : zh_k G s) : va_Nw (.fieldLinkNest R_Wire 60 R_Message "number" "I" R_ZoneNodes) s := h.2.1 (R_Wire, 60, R_Message, "number", "I", R_ZoneNodes) nFm15
theorem nF16 {G : zh_G} {s : State} (h : zh_k G s) : va_Nw (.fieldLinkNest R_Wire 63 R_Primary "itemsAreWhole" "Z" R_ZoneNodes) s := h.2.1 (R_Wire, 63, R_Primary, "itemsAreWhole", "Z", R_ZoneNodes) nFm16
theorem nF17 {G : zh_G} {s : State} (h : zh_k G s) : va_Nw (.fieldLinkNest R_Wire 66 R_Message "whole" "Z" R_ZoneNodes) s := h.2.1 (R_Wire, 66, R_Message, "whole", "Z", R_ZoneNodes) nFm17
theorem nF18 {G : zh_G} {s : State} (h : zh_k G s) : va_Nw (.fieldLinkNest R_Wire 69 R_Message "last" "Z" R_ZoneNodes) s := h.2.1 (R_Wire, 69, R_Message, "last", "Z", R_ZoneNodes) nFm18
theorem nF19 {G : zh_G} {s : State} (h : zh_k G s) : va_Nw (.fieldLinkNest R_Wire 78 R_Message "itemCount" "I" R_ZoneNodes) s := h.2.1 (R_Wire, 78, R_Message, "itemCount", "I", R_ZoneNodes) nFm19
theorem nF20 {G : zh_G} {s : State} (h : zh_k G s) : va_Nw (.fieldLinkNest R_Wire 79 R_Message "items" "[I" R_ZoneNodes) s := h.2.1 (R_Wire, 79, R_Message, "items", "[I", R_ZoneNodes) nFm20
theorem nF21 {G : zh_G} {s : State} (h : zh_k G s) : va_Nw (.fieldLinkNest R_Wire 83 R_Primary "items" "[I" R_ZoneNodes) s := h.2.1 (R_Wire, 83, R_Primary, "items", "[I", R_ZoneNodes) nFm21
theorem nF22 {G : zh_G} {s : State} (h : zh_k G s) : va_Nw (.fieldLinkNest R_ZoneNodes 237 R_Message "hasSerial" "Z" R_ZoneNodes) s := h.2.1 (R_ZoneNodes, 237, R_Message, "hasSerial", "Z", R_ZoneNodes) nFm22
theorem nF23 {G : zh_G} {s : State} (h : zh_k G s) : va_Nw (.fieldLinkNest R_ZoneNodes 240 R_Message "serial" "I" R_ZoneNodes) s := h.2.1 (R_ZoneNodes, 240, R_Message, "serial", "I", R_ZoneNodes) nFm23
theorem nF24 {G : zh_G} {s : State} (h : zh_k G s) : va_Nw (.fieldLinkNest R_ZoneNodes 119 R_Message "secondary" "I" R_ZoneNodes) s := h.2.1 (R_ZoneNodes, 119, R_Message, "secondary", "I", R_ZoneNodes) nFm24
theorem nF25 {G : zh_G} {s : State} (h : zh_k G s) : va_Nw (.fieldLinkNest R_ZoneNodes 168 R_Primary "serial" "I" R_ZoneNodes) s := h.2.1 (R_ZoneNodes, 168, R_Primary, "serial", "I", R_ZoneNodes) nFm25
theorem nF26 {G : zh_G} {s : State} (h : zh_k G s) : va_Nw (.fieldLinkNest R_Wire 48 R_Message "hasSerial" "Z" R_ZoneNodes) s := h.2.1 (R_Wire, 48, R_Message, "hasSerial", "Z", R_ZoneNodes) nFm26
theorem nF27 {G : zh_G} {s : State} (h : zh_k G s) : va_Nw (.fieldLinkNest R_Secondary 80 R_Message "number" "I" R_ZoneNodes) s := h.2.1 (R_Secondary, 80, R_Message, "number", "I", R_ZoneNodes) nFm27
theorem nF28 {G : zh_G} {s : State} (h : zh_k G s) : va_Nw (.fieldLinkNest R_Secondary 90 R_Message "itemCount" "I" R_ZoneNodes) s := h.2.1 (R_Secondary, 90, R_Message, "itemCount", "I", R_ZoneNodes) nFm28
theorem nF29 {G : zh_G} {s : State} (h : zh_k G s) : va_Nw (.fieldLinkNest R_Secondary 93 R_Message "items" "[I" R_ZoneNodes) s := h.2.1 (R_Secondary, 93, R_Message, "items", "[I", R_ZoneNodes) nFm29
theorem nF30 {G : zh_G} {s : State} (h : zh_k G s) : va_Nw (.fieldLinkNest R_Secondary 100 R_Message "last" "Z" R_ZoneNodes) s := h.2.1 (R_Secondary, 100, R_Message, "last", "Z", R_ZoneNodes) nFm30
theorem nF31 {G : zh_G} {s : State} (h : zh_k G s) : va_Nw (.fieldLinkNest R_Secondary 107 R_Message "serial" "I" R_ZoneNodes) s := h.2.1 (R_Secondary, 107, R_Message, "serial", "I", R_ZoneNodes) nFm31
theorem nF32 {G : zh_G} {s : State} (h : zh_k G s) : va_Nw (.fieldLinkNest R_Secondary 83 R_Message "whole" "Z" R_ZoneNodes) s := h.2.1 (R_Secondary, 83, R_Message, "whole", "Z", R_ZoneNodes) nFm32
theorem nF33 {G : zh_G} {s : State} (h : zh_k G s) : va_Nw (.fieldLinkNest R_ZoneNodes 145 R_Secondary "up" "Z" R_ZoneNodes) s := h.2.1 (R_ZoneNodes, 145, R_Secondary, "up", "Z", R_ZoneNodes) nFm33
theorem nF34 {G : zh_G} {s : State} (h : zh_k G s) : va_Nw (.fieldLinkNest R_ZoneNodes 257 R_Secondary "number" "I" R_ZoneNodes) s := h.2.1 (R_ZoneNodes, 257, R_Secondary, "number", "I", R_ZoneNodes) nFm34
theorem nF35 {G : zh_G} {s : State} (h : zh_k G s) : va_Nw (.fieldLinkNest R_ZoneNodes 201 R_Secondary "hasVersion" "Z" R_ZoneNodes) s := h.2.1 (R_ZoneNodes, 201, R_Secondary, "hasVersion", "Z", R_ZoneNodes) nFm35
theorem nF36 {G : zh_G} {s : State} (h : zh_k G s) : va_Nw (.fieldLinkNest R_ZoneNodes 204 R_Secondary "records" "LZoneNodes$Records;" R_ZoneNodes) s := h.2.1 (R_ZoneNodes, 204, R_Secondary, "records", "LZoneNodes$Records;", R_ZoneNodes) nFm36
theorem nF37 {G : zh_G} {s : State} (h : zh_k G s) : va_Nw (.fieldLinkNest R_ZoneNodes 197 R_Primary "records" "LZoneNodes$Records;" R_ZoneNodes) s := h.2.1 (R_ZoneNodes, 197, R_Primary, "records", "LZoneNodes$Records;", R_ZoneNodes) nFm37
theorem nF38 {G : zh_G} {s : State} (h : zh_k G s) : va_Nw (.fieldLinkNest R_ZoneNodes 190 R_Primary "entries" "LZoneNodes$Journal;" R_ZoneNodes) s := h.2.1 (R_ZoneNodes, 190, R_Primary, "entries", "LZoneNodes$Journal;", R_ZoneNodes) nFm38
theorem nF39 {G : zh_G} {s : State} (h : zh_k G s) : va_Nw (.fieldLinkNest R_ZoneNodes 194 R_Journal "count" "I" R_ZoneNodes) s := h.2.1 (R_ZoneNodes, 194, R_Journal, "count", "I", R_ZoneNodes) nFm39
theorem nF40 {G : zh_G} {s : State} (h : zh_k G s) : va_Nw (.fieldLinkNest R_Journal 25 R_Entry "marked" "Z" R_ZoneNodes) s := h.2.1 (R_Journal, 25, R_Entry, "marked", "Z", R_ZoneNodes) nFm40
theorem nF41 {G : zh_G} {s : State} (h : zh_k G s) : va_Nw (.fieldLinkNest R_Journal 29 R_Entry "gone" "LZoneNodes$Records;" R_ZoneNodes) s := h.2.1 (R_Journal, 29, R_Entry, "gone", "LZoneNodes$Records;", R_ZoneNodes) nFm41
theorem nF42 {G : zh_G} {s : State} (h : zh_k G s) : va_Nw (.fieldLinkNest R_Journal 39 R_Entry "come" "LZoneNodes$Records;" R_ZoneNodes) s := h.2.1 (R_Journal, 39, R_Entry, "come", "LZoneNodes$Records;", R_ZoneNodes) nFm42
theorem nF43 {G : zh_G} {s : State} (h : zh_k G s) : va_Nw (.fieldLinkNest R_Primary 77 R_Entry "oldSerial" "I" R_ZoneNodes) s := h.2.1 (R_Primary, 77, R_Entry, "oldSerial", "I", R_ZoneNodes) nFm43
theorem nF44 {G : zh_G} {s : State} (h : zh_k G s) : va_Nw (.fieldLinkNest R_ZoneNodes 213 R_Primary "next" "LZoneNodes$Records;" R_ZoneNodes) s := h.2.1 (R_ZoneNodes, 213, R_Primary, "next", "LZoneNodes$Records;", R_ZoneNodes) nFm44
theorem nF45 {G : zh_G} {s : State} (h : zh_k G s) : va_Nw (.fieldLinkNest R_ZoneNodes 158 R_Message "number" "I" R_ZoneNodes) s := h.2.1 (R_ZoneNodes, 158, R_Message, "number", "I", R_ZoneNodes) nFm45
theorem nF46 {G : zh_G} {s : State} (h : zh_k G s) : va_Nw (.fieldLinkNest R_ZoneNodes 161 R_Message "itemCount" "I" R_ZoneNodes) s := h.2.1 (R_ZoneNodes, 161, R_Message, "itemCount", "I", R_ZoneNodes) nFm46
theorem nF47 {G : zh_G} {s : State} (h : zh_k G s) : va_Nw (.fieldLinkNest R_ZoneNodes 154 R_Wire "count" "I" R_ZoneNodes) s := h.2.1 (R_ZoneNodes, 154, R_Wire, "count", "I", R_ZoneNodes) nFm47
theorem nF48 {G : zh_G} {s : State} (h : zh_k G s) : va_Nw (.fieldLinkNest R_Primary 83 R_Entry "marked" "Z" R_ZoneNodes) s := h.2.1 (R_Primary, 83, R_Entry, "marked", "Z", R_ZoneNodes) nFm48
theorem nF49 {G : zh_G} {s : State} (h : zh_k G s) : va_Nw (.fieldLinkNest R_ZoneNodes 171 R_Secondary "serial" "I" R_ZoneNodes) s := h.2.1 (R_ZoneNodes, 171, R_Secondary, "serial", "I", R_ZoneNodes) nFm49
theorem nF50 {G : zh_G} {s : State} (h : zh_k G s) : va_Nw (.fieldLinkNest R_ZoneNodes 187 R_Secondary "phase" "I" R_ZoneNodes) s := h.2.1 (R_ZoneNodes, 187, R_Secondary, "phase", "I", R_ZoneNodes) nFm50
theorem nM0 {G : zh_G} {s : State} (h : zh_k G s) : va_Nw (.methodLinkNest R_Entry 9 y_Records_init R_ZoneNodes) s := h.2.2.1 (R_Entry, 9, y_Records_init, R_ZoneNodes) nMm0
theorem nM1 {G : zh_G} {s : State} (h : zh_k G s) : va_Nw (.methodLinkNest R_Journal 17 y_Entry_init R_ZoneNodes) s := h.2.2.1 (R_Journal, 17, y_Entry_init, R_ZoneNodes) nMm1
theorem nM2 {G : zh_G} {s : State} (h : zh_k G s) : va_Nw (.methodLinkNest R_Primary 11 y_Records_init R_ZoneNodes) s := h.2.2.1 (R_Primary, 11, y_Records_init, R_ZoneNodes) nMm2
theorem nM3 {G : zh_G} {s : State} (h : zh_k G s) : va_Nw (.methodLinkNest R_Secondary 11 y_Records_init R_ZoneNodes) s := h.2.2.1 (R_Secondary, 11, y_Records_init, R_ZoneNodes) nMm3
theorem nM4 {G : zh_G} {s : State} (h : zh_k G s) : va_Nw (.methodLinkNest R_Wire 17 y_Message_init R_ZoneNodes) s := h.2.2.1 (R_Wire, 17, y_Message_init, R_ZoneNodes) nMm4
theorem nM5 {G : zh_G} {s : State} (h : zh_k G s) : va_Nw (.methodLinkNest R_ZoneNodes 19 y_Draft_init R_ZoneNodes) s := h.2.2.1 (R_ZoneNodes, 19, y_Draft_init, R_ZoneNodes) nMm5
theorem nM6 {G : zh_G} {s : State} (h : zh_k G s) : va_Nw (.methodLinkNest R_Wire 22 y_ZoneNodes_within R_ZoneNodes) s := h.2.2.1 (R_Wire, 22, y_ZoneNodes_within, R_ZoneNodes) nMm6
theorem nM7 {G : zh_G} {s : State} (h : zh_k G s) : va_Nw (.methodLinkNest R_Records 65 y_ZoneNodes_coded R_ZoneNodes) s := h.2.2.1 (R_Records, 65, y_ZoneNodes_coded, R_ZoneNodes) nMm7
theorem nM8 {G : zh_G} {s : State} (h : zh_k G s) : va_Nw (.methodLinkNest R_Secondary 115 y_ZoneNodes_isLater R_ZoneNodes) s := h.2.2.1 (R_Secondary, 115, y_ZoneNodes_isLater, R_ZoneNodes) nMm8
theorem nM9 {G : zh_G} {s : State} (h : zh_k G s) : va_Nw (.methodLinkNest R_Records 46 y_ZoneNodes_formOf R_ZoneNodes) s := h.2.2.1 (R_Records, 46, y_ZoneNodes_formOf, R_ZoneNodes) nMm9
theorem nM10 {G : zh_G} {s : State} (h : zh_k G s) : va_Nw (.methodLinkNest R_Records 37 y_ZoneNodes_nameOf R_ZoneNodes) s := h.2.2.1 (R_Records, 37, y_ZoneNodes_nameOf, R_ZoneNodes) nMm10
theorem nM11 {G : zh_G} {s : State} (h : zh_k G s) : va_Nw (.methodLinkNest R_Records 40 y_ZoneNodes_typeOf R_ZoneNodes) s := h.2.2.1 (R_Records, 40, y_ZoneNodes_typeOf, R_ZoneNodes) nMm11
theorem nM12 {G : zh_G} {s : State} (h : zh_k G s) : va_Nw (.methodLinkNest R_Records 43 y_ZoneNodes_valueOf R_ZoneNodes) s := h.2.2.1 (R_Records, 43, y_ZoneNodes_valueOf, R_ZoneNodes) nMm12
theorem nM13 {G : zh_G} {s : State} (h : zh_k G s) : va_Nw (.methodLinkNest R_Draft 42 y_ZoneNodes_nameOf R_ZoneNodes) s := h.2.2.1 (R_Draft, 42, y_ZoneNodes_nameOf, R_ZoneNodes) nMm13
theorem nM14 {G : zh_G} {s : State} (h : zh_k G s) : va_Nw (.methodLinkNest R_Draft 45 y_ZoneNodes_typeOf R_ZoneNodes) s := h.2.2.1 (R_Draft, 45, y_ZoneNodes_typeOf, R_ZoneNodes) nMm14
theorem nM15 {G : zh_G} {s : State} (h : zh_k G s) : va_Nw (.methodLinkNest R_Draft 34 y_ZoneNodes_formOf R_ZoneNodes) s := h.2.2.1 (R_Draft, 34, y_ZoneNodes_formOf, R_ZoneNodes) nMm15
theorem nM16 {G : zh_G} {s : State} (h : zh_k G s) : va_Nw (.methodLinkNest R_Draft 57 y_ZoneNodes_valueOf R_ZoneNodes) s := h.2.2.1 (R_Draft, 57, y_ZoneNodes_valueOf, R_ZoneNodes) nMm16
end
section
/-! the monad's steps, for simp -/
theorem zb1_some {α β : Type} (a : α) (g : α → Option β) : zb1 (some a) g = g a := rfl
theorem zb2_some {α β : Type} (a : α) (Y : zh_T) (g : α → zh_T → Option β) : zb2 (some (a, Y)) g = g a Y := rfl
theorem zbs_inl {α β γ : Type} (a : α) (h : α → Option γ) (g : β → Option γ) : zbs (some (.inl a)) h g = h a := rfl
theorem zbs_inr {α β γ : Type} (b : β) (h : α → Option γ) (g : β → Option γ) : zbs (some (.inr b)) h g = g b := rfl
theorem zbt_inl {α β γ : Type} (a : α) (Y : zh_T) (h : α → zh_T → Option γ) (g : β → zh_T → Option γ) : zbt (some (.inl (a, Y))) h g = h a Y := rfl
theorem zbt_inr {α β γ : Type} (b : β) (Y : zh_T) (h : α → zh_T → Option γ) (g : β → zh_T → Option γ) : zbt (some (.inr (b, Y))) h g = g b Y := rfl
theorem zbo_none {β : Type} (n : Option β) (g : Nat → Option β) : zbo none n g = n := rfl
theorem zbo_some {β : Type} (a : Nat) (n : Option β) (g : Nat → Option β) : zbo (some a) n g = g a := rfl
/-! A block of cells at A, A + 1, .. by a table of shapes: its numbers (M: cell, place), and where its rows of references lead (P). -/
abbrev zl_S : Type := (Nat × List (Option Nat)) ⊕ ((Nat × Nat) ⊕ (Nat × Nat))
def zl_f (A : Nat) (m : Nat → Int32) : Nat → List (Option Nat) → List Value
  | _, [] => []
  | j, none :: r => .int (m j) :: zl_f A m (j + 1) r
  | j, some d :: r => .ref (A + d) :: zl_f A m (j + 1) r
def zl_c (A : Nat) (s : zl_S) (m : Nat → Int32) (q : Nat → Nat) : zh_E := match s with
  | .inl o => .inr (o.1, zl_f A m 0 o.2)
  | .inr (.inl a) => .inl (a.1, a.2, .inl m)
  | .inr (.inr a) => .inl (a.1, a.2, .inr (.inr (.inr (.inr (fun i => some (A + q i))))))
def zl (sh : Nat → zl_S) (n A : Nat) (X : zh_T) (M : Nat → Nat → Int32) (P : Nat → Nat → Nat) : zh_T :=
  (fun q => if A ≤ q ∧ q < A + n then some (zl_c A (sh (q - A)) (M (q - A)) (P (q - A))) else X.1 q, X.2)
def zu (M : Nat → Nat → Int32) (k : Nat) (g : Nat → Int32) : Nat → Nat → Int32 := fun i => if i = k then g else M i
def zuP (P : Nat → Nat → Nat) (k : Nat) (g : Nat → Nat) : Nat → Nat → Nat := fun i => if i = k then g else P i
/-- a number that isn't negative, as an int -/
def ni (n : Nat) : Int32 := Int32.ofNat n
theorem ni_to {n : Nat} (h : n < 2147483648) : (ni n).toNatClampNeg = n := Int32.toNatClampNeg_ofNat_of_lt h
theorem ni_lt {a b : Nat} (ha : a < 2147483648) (hb : b < 2147483648) : (ni a < ni b) ↔ a < b := Int32.ofNat_lt_iff_lt ha hb
theorem ni_le {a b : Nat} (ha : a < 2147483648) (hb : b < 2147483648) : (ni a ≤ ni b) ↔ a ≤ b := Int32.ofNat_le_iff_le ha hb
theorem ni_inj {a b : Nat} (ha : a < 2147483648) (hb : b < 2147483648) : (ni a = ni b) ↔ a = b := ⟨fun h => by rw [← ni_to ha, h, ni_to hb], fun h => by rw [h]⟩
theorem ni_add (a b : Nat) : ni a + ni b = ni (a + b) := (Int32.ofNat_add a b).symm
theorem ni_mul (a b : Nat) : ni a * ni b = ni (a * b) := (Int32.ofNat_mul a b).symm
theorem ni_sub {a b : Nat} (h : b ≤ a) : ni a - ni b = ni (a - b) := (Int32.ofNat_sub a b h).symm
theorem ni_succ (a : Nat) : ni a + 1 = ni (a + 1) := ni_add a 1
theorem ni_pred {a : Nat} (h : 1 ≤ a) : ni a - 1 = ni (a - 1) := ni_sub h
theorem ni_pred' (a : Nat) : ni (a + 1) + (-1) = ni a := by
  rw [← ni_add, Int32.add_assoc, show ni 1 + (-1) = 0 by decide, Int32.add_zero]
theorem ni_nonneg {a : Nat} (h : a < 2147483648) : ¬ ni a < 0 := by
  rw [show (0 : Int32) = ni 0 from rfl, ni_lt (b := 0) h (by decide)]
  exact Nat.not_lt_zero a
theorem ni_of {i : Int32} (h : 0 ≤ i) : i = ni i.toNatClampNeg := (Int32.ofNat_toNatClampNeg i h).symm
theorem ni_of' {i : Int32} (h : ¬ i < 0) : i = ni i.toNatClampNeg := ni_of (Int32.not_lt.mp h)
theorem ni_ok {i n : Nat} (h : i < n) (hn : n ≤ 65536) : ¬ (ni i < 0 ∨ n ≤ (ni i).toNatClampNeg) := by
  rw [ni_to (n := i) (by omega)]
  intro q
  rcases q with q | q
  · exact ni_nonneg (by omega) q
  · omega
section ZLAY
variable {sh : Nat → zl_S} {n A : Nat} {X : zh_T} {M : Nat → Nat → Int32} {P : Nat → Nat → Nat} {k : Nat}
theorem zl_at (h : k < n) : (zl sh n A X M P).1 (A + k) = some (zl_c A (sh k) (M k) (P k)) := by
  show (if A ≤ A + k ∧ A + k < A + n then some (zl_c A (sh (A + k - A)) (M (A + k - A)) (P (A + k - A))) else X.1 (A + k)) = some (zl_c A (sh k) (M k) (P k))
  rw [if_pos ⟨Nat.le_add_right A k, Nat.add_lt_add_left h A⟩, Nat.add_sub_cancel_left]
theorem zl_up {g : Nat → Int32} {e : zh_E} (h : k < n) (he : e = zl_c A (sh k) g (P k)) : zh_up (zl sh n A X M P) (A + k) e = zl sh n A X (zu M k g) P := by
  subst he
  refine Prod.ext ?_ rfl
  funext q
  show (if q = A + k then some (zl_c A (sh k) g (P k)) else if A ≤ q ∧ q < A + n then some (zl_c A (sh (q - A)) (M (q - A)) (P (q - A))) else X.1 q) = if A ≤ q ∧ q < A + n then some (zl_c A (sh (q - A)) ((zu M k g) (q - A)) (P (q - A))) else X.1 q
  by_cases hq : q = A + k
  · subst hq
    rw [if_pos rfl, if_pos ⟨Nat.le_add_right A k, Nat.add_lt_add_left h A⟩, Nat.add_sub_cancel_left]
    simp [zu]
  · rw [if_neg hq]
    by_cases hr : A ≤ q ∧ q < A + n
    · rw [if_pos hr, if_pos hr]
      have h1 : q - A ≠ k := by omega
      simp [zu, h1]
    · rw [if_neg hr, if_neg hr]
theorem zl_upP {g : Nat → Nat} {e : zh_E} (h : k < n) (he : e = zl_c A (sh k) (M k) g) : zh_up (zl sh n A X M P) (A + k) e = zl sh n A X M (zuP P k g) := by
  subst he
  refine Prod.ext ?_ rfl
  funext q
  show (if q = A + k then some (zl_c A (sh k) (M k) g) else if A ≤ q ∧ q < A + n then some (zl_c A (sh (q - A)) (M (q - A)) (P (q - A))) else X.1 q) = if A ≤ q ∧ q < A + n then some (zl_c A (sh (q - A)) (M (q - A)) ((zuP P k g) (q - A))) else X.1 q
  by_cases hq : q = A + k
  · subst hq
    rw [if_pos rfl, if_pos ⟨Nat.le_add_right A k, Nat.add_lt_add_left h A⟩, Nat.add_sub_cancel_left]
    simp [zuP]
  · rw [if_neg hq]
    by_cases hr : A ≤ q ∧ q < A + n
    · rw [if_pos hr, if_pos hr]
      have h1 : q - A ≠ k := by omega
      simp [zuP, h1]
    · rw [if_neg hr, if_neg hr]
def zl_v (A : Nat) (x : Int32) (o : Option Nat) : Value := match o with
  | none => .int x
  | some d => .ref (A + d)
theorem zl_f_get (m : Nat → Int32) : ∀ (fl : List (Option Nat)) (i j : Nat), (zl_f A m i fl)[j]? = (fl[j]?).map (zl_v A (m (i + j)))
  | [], i, j => by simp [zl_f]
  | none :: r, i, 0 => by simp [zl_f, zl_v]
  | some d :: r, i, 0 => by simp [zl_f, zl_v]
  | none :: r, i, j + 1 => by
    simp only [zl_f, List.getElem?_cons_succ]
    rw [zl_f_get m r (i + 1) j, show i + 1 + j = i + (j + 1) by omega]
  | some d :: r, i, j + 1 => by
    simp only [zl_f, List.getElem?_cons_succ]
    rw [zl_f_get m r (i + 1) j, show i + 1 + j = i + (j + 1) by omega]
theorem zl_f_len (m : Nat → Int32) : ∀ (fl : List (Option Nat)) (i : Nat), (zl_f A m i fl).length = fl.length
  | [], i => rfl
  | none :: r, i => by simp [zl_f, zl_f_len m r (i + 1)]
  | some d :: r, i => by simp [zl_f, zl_f_len m r (i + 1)]
theorem zl_f_set (m : Nat → Int32) (fl : List (Option Nat)) (j : Nat) (v : Int32) (h : fl[j]? = some none) : (zl_f A m 0 fl).set j (.int v) = zl_f A (upd m j v) 0 fl := by
  apply List.ext_getElem?
  intro p
  rw [List.getElem?_set, zl_f_get, zl_f_get, zl_f_len]
  by_cases hp : j = p
  · subst hp
    have hj : j < fl.length := (List.getElem?_eq_some_iff.mp h).1
    rw [if_pos rfl, if_pos hj, h]
    simp [upd, zl_v]
  · rw [if_neg hp]
    have h2 : ¬ 0 + p = j := by omega
    cases hf : fl[p]? with
    | none => rfl
    | some o => cases o with
      | none => simp [upd, zl_v, Ne.symm hp]
      | some d => rfl
theorem zl_g {ci j : Nat} {fl : List (Option Nat)} (h : k < n) (hs : sh k = .inl (ci, fl)) : zg (zl sh n A X M P) (A + k) ci j = (fl[j]?).map (zl_v A (M k j)) := by
  unfold zg
  rw [zl_at h, hs]
  show (if ci = ci then (zl_f A (M k) 0 fl)[j]? else none) = _
  rw [if_pos rfl, zl_f_get, Nat.zero_add]
theorem zl_gi {ci j : Nat} {fl : List (Option Nat)} (h : k < n) (hs : sh k = .inl (ci, fl)) (hj : fl[j]? = some none) : zgi (zl sh n A X M P) (A + k) ci j = some (M k j) := by
  unfold zgi
  rw [zl_g h hs, hj]
  rfl
theorem zl_gr {ci j d : Nat} {fl : List (Option Nat)} (h : k < n) (hs : sh k = .inl (ci, fl)) (hj : fl[j]? = some (some d)) : zgr (zl sh n A X M P) (A + k) ci j = some (A + d) := by
  unfold zgr
  rw [zl_g h hs, hj]
  rfl
theorem zl_ck {ci : Nat} {fl : List (Option Nat)} (h : k < n) (hs : sh k = .inl (ci, fl)) : zck (zl sh n A X M P) (A + k) ci = some () := by
  unfold zck
  rw [zl_at h, hs]
  show (if ci = ci then some () else none) = _
  rw [if_pos rfl]
theorem zl_p {ci j : Nat} {fl : List (Option Nat)} {v : Int32} (h : k < n) (hs : sh k = .inl (ci, fl)) (hj : fl[j]? = some none) : zp (zl sh n A X M P) (A + k) ci j (.int v) = some (zl sh n A X (zu M k (upd (M k) j v)) P) := by
  unfold zp
  rw [zl_at h, hs]
  show (if ci = ci ∧ j < (zl_f A (M k) 0 fl).length then some (zh_up (zl sh n A X M P) (A + k) (.inr (ci, (zl_f A (M k) 0 fl).set j (.int v)))) else none) = _
  rw [if_pos ⟨rfl, by rw [zl_f_len]; exact (List.getElem?_eq_some_iff.mp hj).1⟩, zl_up (g := upd (M k) j v) h]
  rw [hs, zl_f_set _ _ _ _ hj]
  rfl
theorem zl_pz {ci j : Nat} {fl : List (Option Nat)} {v : Int32} (h : k < n) (hs : sh k = .inl (ci, fl)) (hj : fl[j]? = some none) (hv : v = 0 ∨ v = 1) : zpz (zl sh n A X M P) (A + k) ci j v = some (zl sh n A X (zu M k (upd (M k) j v)) P) := by
  unfold zpz
  rw [if_pos hv, zl_p h hs hj]
theorem zl_ai {i len : Nat} (h : k < n) (hs : sh k = .inr (.inl (0, len))) (hi : i < len) (hl : len ≤ 65536) : zai (zl sh n A X M P) (A + k) (ni i) = some (M k i) := by
  unfold zai
  rw [zl_at h, hs]
  show (if ni i < 0 ∨ len ≤ (ni i).toNatClampNeg then none else some (M k (ni i).toNatClampNeg)) = _
  rw [if_neg (ni_ok hi hl), ni_to (n := i) (by omega)]
theorem zl_az {i len : Nat} (h : k < n) (hs : sh k = .inr (.inl (1, len))) (hi : i < len) (hl : len ≤ 65536) : zaz (zl sh n A X M P) (A + k) (ni i) = some (M k i) := by
  unfold zaz
  rw [zl_at h, hs]
  show (if ni i < 0 ∨ len ≤ (ni i).toNatClampNeg then none else some (M k (ni i).toNatClampNeg)) = _
  rw [if_neg (ni_ok hi hl), ni_to (n := i) (by omega)]
theorem zl_si {i len : Nat} {v : Int32} (h : k < n) (hs : sh k = .inr (.inl (0, len))) (hi : i < len) (hl : len ≤ 65536) : zsi (zl sh n A X M P) (A + k) (ni i) v = some (zl sh n A X (zu M k (upd (M k) i v)) P) := by
  unfold zsi
  rw [zl_at h, hs]
  show (if ni i < 0 ∨ len ≤ (ni i).toNatClampNeg then none else some (zh_up (zl sh n A X M P) (A + k) (.inl (0, len, .inl (upd (M k) (ni i).toNatClampNeg v))))) = _
  rw [if_neg (ni_ok hi hl), ni_to (n := i) (by omega), zl_up (g := upd (M k) i v) h]
  rw [hs]
  rfl
theorem zl_sz {i len : Nat} {v : Int32} (h : k < n) (hs : sh k = .inr (.inl (1, len))) (hi : i < len) (hl : len ≤ 65536) (hv : v = 0 ∨ v = 1) : zsz (zl sh n A X M P) (A + k) (ni i) v = some (zl sh n A X (zu M k (upd (M k) i v)) P) := by
  unfold zsz
  rw [zl_at h, hs]
  show (if ni i < 0 ∨ len ≤ (ni i).toNatClampNeg ∨ ¬ (v = 0 ∨ v = 1) then none else some (zh_up (zl sh n A X M P) (A + k) (.inl (1, len, .inl (upd (M k) (ni i).toNatClampNeg v))))) = _
  rw [if_neg (fun q => q.elim (fun z => ni_ok hi hl (Or.inl z)) fun z => z.elim (fun y => ni_ok hi hl (Or.inr y)) fun y => y hv), ni_to (n := i) (by omega), zl_up (g := upd (M k) i v) h]
  rw [hs]
  rfl
theorem zl_ln {t len : Nat} (h : k < n) (hs : sh k = .inr (.inl (t, len))) : zln (zl sh n A X M P) t (A + k) = some (ni len) := by
  unfold zln
  rw [zl_at h, hs]
  show (if t = t then some (Int32.ofNat len) else none) = _
  rw [if_pos rfl]
  rfl
theorem zl_lnr {t len : Nat} (h : k < n) (hs : sh k = .inr (.inr (t, len))) : zln (zl sh n A X M P) t (A + k) = some (ni len) := by
  unfold zln
  rw [zl_at h, hs]
  show (if t = t then some (Int32.ofNat len) else none) = _
  rw [if_pos rfl]
  rfl
theorem zl_ar {t i len : Nat} (h : k < n) (hs : sh k = .inr (.inr (t, len))) (hi : i < len) (hl : len ≤ 65536) : zar (zl sh n A X M P) t (A + k) (ni i) = some (A + P k i) := by
  have e : zaq (zl sh n A X M P) t (A + k) (ni i) = some (some (A + P k i)) := by
    unfold zaq
    rw [zl_at h, hs]
    show (if t ≠ t ∨ ni i < 0 ∨ len ≤ (ni i).toNatClampNeg then none else some (some (A + P k (ni i).toNatClampNeg))) = _
    rw [if_neg (fun q => q.elim (fun z => z rfl) fun z => ni_ok hi hl z), ni_to (n := i) (by omega)]
  unfold zar
  rw [e]
  rfl
theorem zl_sr {t ci i len d : Nat} {fl : List (Option Nat)} (h : k < n) (hs : sh k = .inr (.inr (t, len))) (hi : i < len) (hl : len ≤ 65536) (hd : d < n) (hsd : sh d = .inl (ci, fl)) : zsr (zl sh n A X M P) t ci (A + k) (ni i) (A + d) = some (zl sh n A X M (zuP P k (va_up (P k) i d))) := by
  unfold zsr
  rw [zl_ck hd hsd, zb1_some]
  rw [zl_at h, hs]
  show (if t ≠ t ∨ ni i < 0 ∨ len ≤ (ni i).toNatClampNeg then none else some (zh_up (zl sh n A X M P) (A + k) (.inl (t, len, .inr (.inr (.inr (.inr (va_up (fun j => some (A + P k j)) (ni i).toNatClampNeg (some (A + d))))))))) ) = _
  rw [if_neg (fun q => q.elim (fun z => z rfl) fun z => ni_ok hi hl z), ni_to (n := i) (by omega), zl_upP (g := va_up (P k) i d) h]
  rw [hs]
  have e : va_up (fun j => some (A + P k j)) i (some (A + d)) = fun j => some (A + va_up (P k) i d j) := by
    funext j
    by_cases hj : j = i
    · simp [va_up, hj]
    · simp [va_up, hj]
  rw [e]
  rfl
end ZLAY
/-- two blocks side by side -/
theorem zl_comm {sh1 sh2 : Nat → zl_S} {n1 n2 A1 A2 : Nat} {X : zh_T} {M1 M2 : Nat → Nat → Int32} {P1 P2 : Nat → Nat → Nat} (h : A1 + n1 ≤ A2) : zl sh1 n1 A1 (zl sh2 n2 A2 X M2 P2) M1 P1 = zl sh2 n2 A2 (zl sh1 n1 A1 X M1 P1) M2 P2 := by
  refine Prod.ext ?_ rfl
  funext q
  show (if A1 ≤ q ∧ q < A1 + n1 then some (zl_c A1 (sh1 (q - A1)) (M1 (q - A1)) (P1 (q - A1))) else if A2 ≤ q ∧ q < A2 + n2 then some (zl_c A2 (sh2 (q - A2)) (M2 (q - A2)) (P2 (q - A2))) else X.1 q)
    = if A2 ≤ q ∧ q < A2 + n2 then some (zl_c A2 (sh2 (q - A2)) (M2 (q - A2)) (P2 (q - A2))) else if A1 ≤ q ∧ q < A1 + n1 then some (zl_c A1 (sh1 (q - A1)) (M1 (q - A1)) (P1 (q - A1))) else X.1 q
  by_cases h1 : A1 ≤ q ∧ q < A1 + n1
  · rw [if_pos h1, if_neg (by omega), if_pos h1]
  · rw [if_neg h1, if_neg h1]
theorem zbz_01 {x : Int32} (h : x = 0 ∨ x = 1) : zbz x = some x := if_pos h
theorem zu_same (M : Nat → Nat → Int32) (k : Nat) (g : Nat → Int32) : zu M k g k = g := if_pos rfl
theorem zu_ne {M : Nat → Nat → Int32} {k i : Nat} (g : Nat → Int32) (h : i ≠ k) : zu M k g i = M i := if_neg h
theorem zu_zu (M : Nat → Nat → Int32) (k : Nat) (g g' : Nat → Int32) : zu (zu M k g) k g' = zu M k g' := by
  funext i
  by_cases h : i = k
  · simp [zu, h]
  · simp [zu, h]
theorem zu_id (M : Nat → Nat → Int32) (k : Nat) : zu M k (M k) = M := by
  funext i
  by_cases h : i = k
  · subst h
    simp [zu]
  · simp [zu, h]
/-! the script -/
def zsc (xs : Nat → Int32) (L : Nat) (i : Int32) : Option Int32 := if i < 0 ∨ L ≤ i.toNatClampNeg then none else some (xs i.toNatClampNeg)
theorem zsc_s {xs : Nat → Int32} {L : Nat} {i v : Int32} (h : zsc xs L i = some v) : vp_in i L ∧ xs i.toNatClampNeg = v := by
  unfold zsc at h
  split at h
  · cases h
  · rename_i hc
    cases h
    exact ⟨hc, rfl⟩
end
section
def f_ZoneNodes_within (N : Nat) (X : zh_T) (x0 : Int32) (x1 : Int32) (x2 : Int32) : Option Int32 :=
  if x0 < x1 then
    some 0
  else
    if x2 < x0 then
      some 0
    else
      some 1
def f_Draft_init (N : Nat) (X : zh_T) (x0 : Nat) : Option (Unit × zh_T) :=
  zb2 (zna X 0 4) fun a1 X2 =>
  zb1 (zp X2 x0 0 0 (.ref a1)) fun X4 =>
  zb2 (zna X4 0 4) fun a6 X7 =>
  zb1 (zp X7 x0 0 1 (.ref a6)) fun X9 =>
  some ((), X9)
def f_Records_init (N : Nat) (X : zh_T) (x0 : Nat) : Option (Unit × zh_T) :=
  zb2 (zna X 0 32) fun a1 X2 =>
  zb1 (zp X2 x0 5 0 (.ref a1)) fun X4 =>
  some ((), X4)
def f_Entry_init (N : Nat) (X : zh_T) (x0 : Nat) : Option (Unit × zh_T) :=
  zb2 (znw X 5 [.null]) fun a1 X2 =>
  zb2 (f_Records_init N X2 a1) fun _ X6 =>
  zb1 (zp X6 x0 1 0 (.ref a1)) fun X7 =>
  zb2 (znw X7 5 [.null]) fun a9 X10 =>
  zb2 (f_Records_init N X10 a9) fun _ X14 =>
  zb1 (zp X14 x0 1 1 (.ref a9)) fun X15 =>
  some ((), X15)
def L_Journal_init_14 (N : Nat) (w0 : Nat) : Nat → zh_T → Int32 → Option (Unit × zh_T)
  | 0, _, _ => none
  | n + 1, X, w1 =>
    zb1 (zgr X w0 2 0) fun a7 =>
    zb1 (zln X 2 a7) fun v8 =>
    if v8 ≤ w1 then
      some ((), X)
    else
      zb1 (zgr X w0 2 0) fun a12 =>
      zb2 (znw X 1 [.null, .null, .int 0, .int 0]) fun a13 X14 =>
      zb2 (f_Entry_init N X14 a13) fun _ X18 =>
      zb1 (zsr X18 2 1 a12 w1 a13) fun X19 =>
      L_Journal_init_14 N w0 n X19 (w1 + 1)
def f_Journal_init (N : Nat) (X : zh_T) (x0 : Nat) : Option (Unit × zh_T) :=
  zb2 (znq X 2 5) fun a1 X2 =>
  zb1 (zp X2 x0 2 0 (.ref a1)) fun X4 =>
  zb2 (L_Journal_init_14 N x0 6 X4 0) fun v21 X23 =>
  some ((), X23)
def f_Records_setValues (N : Nat) (X : zh_T) (x0 : Nat) (x1 : Int32) (x2 : Int32) (x3 : Int32) : Option (Unit × zh_T) :=
  zb1 (zgr X x0 5 0) fun a2 =>
  zb1 (zsi X a2 (((4 * x1) + x2) - 1) x3) fun X3 =>
  some ((), X3)
def f_Records_valuesOf (N : Nat) (X : zh_T) (x0 : Nat) (x1 : Int32) (x2 : Int32) : Option Int32 :=
  zb1 (zgr X x0 5 0) fun a2 =>
  zb1 (zai X a2 (((4 * x1) + x2) - 1)) fun v3 =>
  some v3
def f_Records_put (N : Nat) (X : zh_T) (x0 : Nat) (x1 : Int32) (x2 : Int32) (x3 : Int32) : Option (Unit × zh_T) :=
  zb1 (zck X x0 5) fun _ =>
  zb1 (f_Records_valuesOf N X x0 x1 x2) fun v3 =>
  zb1 (zck X x0 5) fun _ =>
  zb2 (f_Records_setValues N X x0 x1 x2 (v3 ||| (1 <<< (x3 &&& 31)))) fun _ X7 =>
  some ((), X7)
def f_Primary_init (N : Nat) (X : zh_T) (x0 : Nat) (x1 : Int32) : Option (Unit × zh_T) :=
  zb2 (znw X 5 [.null]) fun a1 X2 =>
  zb2 (f_Records_init N X2 a1) fun _ X6 =>
  zb1 (zp X6 x0 4 0 (.ref a1)) fun X7 =>
  zb2 (znw X7 5 [.null]) fun a9 X10 =>
  zb2 (f_Records_init N X10 a9) fun _ X14 =>
  zb1 (zp X14 x0 4 1 (.ref a9)) fun X15 =>
  zb2 (znw X15 2 [.null, .int 0]) fun a17 X18 =>
  zb2 (f_Journal_init N X18 a17) fun _ X22 =>
  zb1 (zp X22 x0 4 2 (.ref a17)) fun X23 =>
  zb2 (zna X23 0 112) fun a25 X26 =>
  zb1 (zp X26 x0 4 3 (.ref a25)) fun X28 =>
  zb1 (zpz X28 x0 4 8 1) fun X30 =>
  zb1 (zp X30 x0 4 6 (.int x1)) fun X32 =>
  zb1 (zgr X32 x0 4 0) fun a35 =>
  zb1 (zck X32 a35 5) fun _ =>
  zb2 (f_Records_put N X32 a35 0 3 1) fun _ X39 =>
  some ((), X39)
def f_Secondary_rest (N : Nat) (X : zh_T) (x0 : Nat) (x1 : Int32) : Option (Unit × zh_T) :=
  zb1 (zp X x0 6 9 (.int 0)) fun X1 =>
  zb1 (zp X1 x0 6 10 (.int x1)) fun X3 =>
  some ((), X3)
def f_Secondary_comeUp (N : Nat) (X : zh_T) (x0 : Nat) (x1 : Int32) : Option (Unit × zh_T) :=
  zb1 (zpz X x0 6 6 1) fun X1 =>
  zb1 (zck X1 x0 6) fun _ =>
  zb2 (f_Secondary_rest N X1 x0 (x1 + 1)) fun _ X6 =>
  zb1 (zgi X6 x0 6 3) fun v8 =>
  zb1 (zp X6 x0 6 12 (.int (x1 + v8))) fun X9 =>
  some ((), X9)
def f_Secondary_init (N : Nat) (X : zh_T) (x0 : Nat) (x1 : Int32) (x2 : Int32) (x3 : Int32) (x4 : Int32) : Option (Unit × zh_T) :=
  zb2 (znw X 5 [.null]) fun a1 X2 =>
  zb2 (f_Records_init N X2 a1) fun _ X6 =>
  zb1 (zp X6 x0 6 4 (.ref a1)) fun X7 =>
  zb2 (znw X7 5 [.null]) fun a9 X10 =>
  zb2 (f_Records_init N X10 a9) fun _ X14 =>
  zb1 (zp X14 x0 6 5 (.ref a9)) fun X15 =>
  zb1 (zp X15 x0 6 0 (.int x1)) fun X17 =>
  zb1 (zp X17 x0 6 1 (.int x2)) fun X19 =>
  zb1 (zp X19 x0 6 2 (.int x3)) fun X21 =>
  zb1 (zp X21 x0 6 3 (.int x4)) fun X23 =>
  zb1 (zck X23 x0 6) fun _ =>
  zb2 (f_Secondary_comeUp N X23 x0 0) fun _ X28 =>
  some ((), X28)
def f_Message_init (N : Nat) (X : zh_T) (x0 : Nat) : Option (Unit × zh_T) :=
  zb2 (zna X 0 4) fun a1 X2 =>
  zb1 (zp X2 x0 3 0 (.ref a1)) fun X4 =>
  some ((), X4)
def L_Wire_init_15 (N : Nat) (w0 : Nat) : Nat → zh_T → Int32 → Option (Unit × zh_T)
  | 0, _, _ => none
  | n + 1, X, w1 =>
    zb1 (zgr X w0 7 0) fun a7 =>
    zb1 (zln X 3 a7) fun v8 =>
    if v8 ≤ w1 then
      some ((), X)
    else
      zb1 (zgr X w0 7 0) fun a12 =>
      zb2 (znw X 3 [.null, .int 0, .int 0, .int 0, .int 0, .int 0, .int 0, .int 0, .int 0, .int 0]) fun a13 X14 =>
      zb2 (f_Message_init N X14 a13) fun _ X18 =>
      zb1 (zsr X18 3 3 a12 w1 a13) fun X19 =>
      L_Wire_init_15 N w0 n X19 (w1 + 1)
def f_Wire_init (N : Nat) (X : zh_T) (x0 : Nat) : Option (Unit × zh_T) :=
  zb2 (znq X 3 80) fun a1 X2 =>
  zb1 (zp X2 x0 7 0 (.ref a1)) fun X4 =>
  zb2 (L_Wire_init_15 N x0 81 X4 0) fun v21 X23 =>
  some ((), X23)
def L_ZoneNodes_init_120 (N : Nat) (w0 : Nat) (w5 : Int32) (w6 : Int32) (w7 : Int32) : Nat → zh_T → Int32 → Option (Unit × zh_T)
  | 0, _, _ => none
  | n + 1, X, w8 =>
    if 2 ≤ w8 then
      some ((), X)
    else
      zb1 (zgr X w0 8 5) fun a51 =>
      zb2 (znw X 6 [.int 0, .int 0, .int 0, .int 0, .null, .null, .int 0, .int 0, .int 0, .int 0, .int 0, .int 0, .int 0]) fun a52 X53 =>
      zb2 (f_Secondary_init N X53 a52 (w8 + 1) w5 w6 w7) fun _ X57 =>
      zb1 (zsr X57 4 6 a51 w8 a52) fun X58 =>
      L_ZoneNodes_init_120 N w0 w5 w6 w7 n X58 (w8 + 1)
def J_ZoneNodes_init_81 (N : Nat) (X : zh_T) (w0 : Nat) (w1 : Int32) (w4 : Int32) (w5 : Int32) (u0 : Int32) : Option (Unit × zh_T) :=
  zb1 (f_ZoneNodes_within N X w4 10 200) fun v39 =>
  if v39 = 0 then
    zb2 (znw X 4 [.null, .null, .null, .null, .int 0, .int 0, .int 0, .int 0, .int 0]) fun a41 X42 =>
    zb2 (f_Primary_init N X42 a41 w1) fun _ X46 =>
    zb1 (zp X46 w0 8 4 (.ref a41)) fun X47 =>
    zb2 (L_ZoneNodes_init_120 N w0 w5 u0 60 3 X47 0) fun v60 X62 =>
    some ((), X62)
  else
    zb2 (znw X 4 [.null, .null, .null, .null, .int 0, .int 0, .int 0, .int 0, .int 0]) fun a63 X64 =>
    zb2 (f_Primary_init N X64 a63 w1) fun _ X68 =>
    zb1 (zp X68 w0 8 4 (.ref a63)) fun X69 =>
    zb2 (L_ZoneNodes_init_120 N w0 w5 u0 w4 3 X69 0) fun v71 X73 =>
    some ((), X73)
def f_ZoneNodes_init (N : Nat) (X : zh_T) (x0 : Nat) (x1 : Int32) (x2 : Int32) (x3 : Int32) (x4 : Int32) : Option (Unit × zh_T) :=
  zb2 (zna X 0 3) fun a1 X2 =>
  zb1 (zp X2 x0 8 0 (.ref a1)) fun X4 =>
  zb2 (zna X4 1 3) fun a6 X7 =>
  zb1 (zp X7 x0 8 1 (.ref a6)) fun X9 =>
  zb2 (znw X9 0 [.null, .null, .int 0, .int 0]) fun a11 X12 =>
  zb2 (f_Draft_init N X12 a11) fun _ X16 =>
  zb1 (zp X16 x0 8 2 (.ref a11)) fun X17 =>
  zb2 (znw X17 7 [.null, .int 0]) fun a19 X20 =>
  zb2 (f_Wire_init N X20 a19) fun _ X24 =>
  zb1 (zp X24 x0 8 3 (.ref a19)) fun X25 =>
  zb2 (znq X25 4 2) fun a27 X28 =>
  zb1 (zp X28 x0 8 5 (.ref a27)) fun X30 =>
  zb1 (f_ZoneNodes_within N X30 x2 4 50) fun v33 =>
  if v33 = 0 then
    zb1 (f_ZoneNodes_within N X30 x3 2 20) fun v36 =>
    if v36 = 0 then
      J_ZoneNodes_init_81 N X30 x0 x1 x4 10 4
    else
      J_ZoneNodes_init_81 N X30 x0 x1 x4 10 x3
  else
    zb1 (f_ZoneNodes_within N X30 x3 2 20) fun v75 =>
    if v75 = 0 then
      J_ZoneNodes_init_81 N X30 x0 x1 x4 x2 4
    else
      J_ZoneNodes_init_81 N X30 x0 x1 x4 x2 x3
def f_Wire_at (N : Nat) (X : zh_T) (x0 : Nat) (x1 : Int32) : Option (Option Nat) :=
  zb1 (zgi X x0 7 1) fun v2 =>
  zb1 (f_ZoneNodes_within N X x1 0 (v2 - 1)) fun v4 =>
  if v4 = 0 then
    some none
  else
    zb1 (zgr X x0 7 0) fun a7 =>
    zb1 (zar X 3 a7 x1) fun a9 =>
    some (some a9)
def f_ZoneNodes_alter (N : Nat) (X : zh_T) (x0 : Nat) (x1 : Int32) : Option (Int32 × zh_T) :=
  zb1 (zgr X x0 8 3) fun a2 =>
  zb1 (zck X a2 7) fun _ =>
  zb1 (f_Wire_at N X a2 x1) fun q5 =>
  zbo q5 (
    some (0, X)) fun a6 =>
  zb1 (zgi X a6 3 1) fun v8 =>
  if v8 = 5 then
    zb1 (zgi X a6 3 9) fun v11 =>
    if v11 = 0 then
      zb1 (zpz X a6 3 9 1) fun X13 =>
      some (1, X13)
    else
      some (0, X)
  else
    some (0, X)
def f_ZoneNodes_arm (N : Nat) (X : zh_T) (x0 : Nat) (x1 : Int32) : Option (Int32 × zh_T) :=
  zb1 (f_ZoneNodes_within N X x1 0 3) fun v2 =>
  if v2 = 0 then
    some (0, X)
  else
    zb1 (zgr X x0 8 4) fun a5 =>
    zb1 (zgi X a5 4 8) fun v7 =>
    if v7 = 0 then
      some (0, X)
    else
      zb1 (zgr X x0 8 4) fun a10 =>
      zb1 (zp X a10 4 7 (.int x1)) fun X11 =>
      some (1, X11)
def L_Journal_leadsTo_13 (N : Nat) (X : zh_T) (w0 : Nat) (w2 : Int32) : Nat → Int32 → Int32 → Option (Int32 ⊕ Int32)
  | 0, _, _ => none
  | n + 1, w3, w4 =>
    zb1 (zgi X w0 2 1) fun v8 =>
    if v8 ≤ w4 then
      some (Sum.inr w3)
    else
      zb1 (zgr X w0 2 0) fun a11 =>
      zb1 (zar X 2 a11 w4) fun a13 =>
      zb1 (zgi X a13 1 2) fun v15 =>
      if v15 = w3 then
        L_Journal_leadsTo_13 N X w0 w2 n (w3 + 1) (w4 + 1)
      else
        some (Sum.inl 0)
def f_Journal_leadsTo (N : Nat) (X : zh_T) (x0 : Nat) (x1 : Int32) (x2 : Int32) : Option Int32 :=
  zb1 (zgr X x0 2 0) fun a2 =>
  zb1 (zar X 2 a2 x1) fun a4 =>
  zb1 (zgi X a4 1 2) fun v6 =>
  zbs (L_Journal_leadsTo_13 N X x0 x2 N v6 x1) (fun r0 => some r0) fun v17 =>
  if v17 = x2 then
    some 1
  else
    some 0
def L_Journal_startOfWay_2 (N : Nat) (X : zh_T) (w0 : Nat) (w1 : Int32) (w2 : Int32) : Nat → Int32 → Option (Int32 ⊕ Unit)
  | 0, _ => none
  | n + 1, w3 =>
    zb1 (zgi X w0 2 1) fun v2 =>
    if v2 ≤ w3 then
      some (Sum.inr ())
    else
      zb1 (zgr X w0 2 0) fun a5 =>
      zb1 (zar X 2 a5 w3) fun a7 =>
      zb1 (zgi X a7 1 2) fun v9 =>
      if v9 = w1 then
        zb1 (zck X w0 2) fun _ =>
        zb1 (f_Journal_leadsTo N X w0 w3 w2) fun v13 =>
        if v13 = 0 then
          zb1 (zgi X w0 2 1) fun v16 =>
          some (Sum.inl v16)
        else
          some (Sum.inl w3)
      else
        L_Journal_startOfWay_2 N X w0 w1 w2 n (w3 + 1)
def f_Journal_startOfWay (N : Nat) (X : zh_T) (x0 : Nat) (x1 : Int32) (x2 : Int32) : Option Int32 :=
  zbs (L_Journal_startOfWay_2 N X x0 x1 x2 N 0) (fun r0 => some r0) fun v17 =>
  zb1 (zgi X x0 2 1) fun v20 =>
  some v20
def f_ZoneNodes_coded (N : Nat) (X : zh_T) (x0 : Int32) (x1 : Int32) (x2 : Int32) (x3 : Int32) : Option Int32 :=
  some ((((1000 * x0) + (100 * x1)) + (10 * x2)) + x3)
def L_Records_listInto_19 (N : Nat) (w0 : Nat) (w1 : Nat) (w3 : Int32) (w5 : Int32) : Nat → zh_T → Int32 → Int32 → Option (Int32 × zh_T)
  | 0, _, _, _ => none
  | n + 1, X, w4, w6 =>
    if 8 ≤ w6 then
      some (w4, X)
    else
      zb1 (zgr X w0 5 0) fun a8 =>
      zb1 (zai X a8 w5) fun v9 =>
      if ((v9 >>> (w6 &&& 31)) &&& 1) = 1 then
        zb1 (zln X 0 w1) fun v12 =>
        if v12 ≤ w4 then
          L_Records_listInto_19 N w0 w1 w3 w5 n X w4 (w6 + 1)
        else
          zb1 (f_ZoneNodes_coded N X w3 (w5 / 4) ((zi_rem w5 4) + 1) w6) fun v16 =>
          zb1 (zsi X w1 w4 v16) fun X17 =>
          L_Records_listInto_19 N w0 w1 w3 w5 n X17 (w4 + 1) (w6 + 1)
      else
        L_Records_listInto_19 N w0 w1 w3 w5 n X w4 (w6 + 1)
def L_Records_listInto_6 (N : Nat) (w0 : Nat) (w1 : Nat) (w3 : Int32) : Nat → zh_T → Int32 → Int32 → Option (Int32 × zh_T)
  | 0, _, _, _ => none
  | n + 1, X, w4, w5 =>
    zb1 (zgr X w0 5 0) fun a2 =>
    zb1 (zln X 0 a2) fun v3 =>
    if v3 ≤ w5 then
      some (w4, X)
    else
      zb2 (L_Records_listInto_19 N w0 w1 w3 w5 N X w4 0) fun v19 X21 =>
      L_Records_listInto_6 N w0 w1 w3 n X21 v19 (w5 + 1)
def f_Records_listInto (N : Nat) (X : zh_T) (x0 : Nat) (x1 : Nat) (x2 : Int32) (x3 : Int32) : Option (Int32 × zh_T) :=
  zb2 (L_Records_listInto_6 N x0 x1 x3 N X x2 0) fun v22 X24 =>
  some (v22, X24)
def L_Primary_workOutItems_80 (N : Nat) (w0 : Nat) : Nat → zh_T → Int32 → Option (Unit × zh_T)
  | 0, _, _ => none
  | n + 1, X, w4 =>
    zb1 (zgr X w0 4 2) fun a19 =>
    zb1 (zgi X a19 2 1) fun v21 =>
    if v21 ≤ w4 then
      some ((), X)
    else
      zb1 (zgr X w0 4 2) fun a24 =>
      zb1 (zgr X a24 2 0) fun a26 =>
      zb1 (zar X 2 a26 w4) fun a28 =>
      zb1 (zgr X a28 1 0) fun a30 =>
      zb1 (zgr X w0 4 3) fun a32 =>
      zb1 (zgi X w0 4 4) fun v34 =>
      zb1 (zck X a30 5) fun _ =>
      zb2 (f_Records_listInto N X a30 a32 v34 1) fun v37 X38 =>
      zb1 (zp X38 w0 4 4 (.int v37)) fun X39 =>
      zb1 (zgr X39 w0 4 2) fun a42 =>
      zb1 (zgr X39 a42 2 0) fun a44 =>
      zb1 (zar X39 2 a44 w4) fun a46 =>
      zb1 (zgr X39 a46 1 1) fun a48 =>
      zb1 (zgr X39 w0 4 3) fun a50 =>
      zb1 (zgi X39 w0 4 4) fun v52 =>
      zb1 (zck X39 a48 5) fun _ =>
      zb2 (f_Records_listInto N X39 a48 a50 v52 0) fun v55 X56 =>
      zb1 (zp X56 w0 4 4 (.int v55)) fun X57 =>
      L_Primary_workOutItems_80 N w0 n X57 (w4 + 1)
def f_Primary_workOutItems (N : Nat) (X : zh_T) (x0 : Nat) (x1 : Int32) (x2 : Int32) : Option (Unit × zh_T) :=
  if x1 = 0 then
    zb1 (zgr X x0 4 2) fun a3 =>
    zb1 (zgi X a3 2 1) fun v5 =>
    zb1 (zgr X x0 4 2) fun a7 =>
    zb1 (zgi X a7 2 1) fun v9 =>
    if v5 < v9 then
      zb1 (zpz X x0 4 5 0) fun X11 =>
      zb1 (zp X11 x0 4 4 (.int 0)) fun X13 =>
      zb1 (zgi X13 x0 4 5) fun v16 =>
      if v16 = 0 then
        zb2 (L_Primary_workOutItems_80 N x0 N X13 v5) fun v59 X61 =>
        some ((), X61)
      else
        zb1 (zgr X13 x0 4 0) fun a63 =>
        zb1 (zgr X13 x0 4 3) fun a65 =>
        zb1 (zck X13 a63 5) fun _ =>
        zb2 (f_Records_listInto N X13 a63 a65 0 0) fun v68 X69 =>
        zb1 (zp X69 x0 4 4 (.int v68)) fun X70 =>
        some ((), X70)
    else
      zb1 (zpz X x0 4 5 1) fun X72 =>
      zb1 (zp X72 x0 4 4 (.int 0)) fun X74 =>
      zb1 (zgi X74 x0 4 5) fun v77 =>
      if v77 = 0 then
        zb2 (L_Primary_workOutItems_80 N x0 N X74 v5) fun v79 X81 =>
        some ((), X81)
      else
        zb1 (zgr X74 x0 4 0) fun a83 =>
        zb1 (zgr X74 x0 4 3) fun a85 =>
        zb1 (zck X74 a83 5) fun _ =>
        zb2 (f_Records_listInto N X74 a83 a85 0 0) fun v88 X89 =>
        zb1 (zp X89 x0 4 4 (.int v88)) fun X90 =>
        some ((), X90)
  else
    zb1 (zgr X x0 4 2) fun a93 =>
    zb1 (zgi X x0 4 6) fun v95 =>
    zb1 (zck X a93 2) fun _ =>
    zb1 (f_Journal_startOfWay N X a93 x2 v95) fun v98 =>
    zb1 (zgr X x0 4 2) fun a100 =>
    zb1 (zgi X a100 2 1) fun v102 =>
    if v98 < v102 then
      zb1 (zpz X x0 4 5 0) fun X104 =>
      zb1 (zp X104 x0 4 4 (.int 0)) fun X106 =>
      zb1 (zgi X106 x0 4 5) fun v109 =>
      if v109 = 0 then
        zb2 (L_Primary_workOutItems_80 N x0 N X106 v98) fun v111 X113 =>
        some ((), X113)
      else
        zb1 (zgr X106 x0 4 0) fun a115 =>
        zb1 (zgr X106 x0 4 3) fun a117 =>
        zb1 (zck X106 a115 5) fun _ =>
        zb2 (f_Records_listInto N X106 a115 a117 0 0) fun v120 X121 =>
        zb1 (zp X121 x0 4 4 (.int v120)) fun X122 =>
        some ((), X122)
    else
      zb1 (zpz X x0 4 5 1) fun X124 =>
      zb1 (zp X124 x0 4 4 (.int 0)) fun X126 =>
      zb1 (zgi X126 x0 4 5) fun v129 =>
      if v129 = 0 then
        zb2 (L_Primary_workOutItems_80 N x0 N X126 v98) fun v131 X133 =>
        some ((), X133)
      else
        zb1 (zgr X126 x0 4 0) fun a135 =>
        zb1 (zgr X126 x0 4 3) fun a137 =>
        zb1 (zck X126 a135 5) fun _ =>
        zb2 (f_Records_listInto N X126 a135 a137 0 0) fun v140 X141 =>
        zb1 (zp X141 x0 4 4 (.int v140)) fun X142 =>
        some ((), X142)
def f_Message_isOnStream (N : Nat) (X : zh_T) (x0 : Nat) : Option Int32 :=
  zb1 (zgi X x0 3 1) fun v2 =>
  if v2 = 4 then
    some 1
  else
    zb1 (zgi X x0 3 1) fun v5 =>
    if v5 = 5 then
      some 1
    else
      some 0
def L_Wire_countLossy_4 (N : Nat) (X : zh_T) (w0 : Nat) : Nat → Int32 → Int32 → Option Int32
  | 0, _, _ => none
  | n + 1, w1, w2 =>
    zb1 (zgi X w0 7 1) fun v2 =>
    if v2 ≤ w2 then
      some w1
    else
      zb1 (zgr X w0 7 0) fun a5 =>
      zb1 (zar X 3 a5 w2) fun a7 =>
      zb1 (zck X a7 3) fun _ =>
      zb1 (f_Message_isOnStream N X a7) fun v10 =>
      if v10 = 0 then
        L_Wire_countLossy_4 N X w0 n (w1 + 1) (w2 + 1)
      else
        L_Wire_countLossy_4 N X w0 n w1 (w2 + 1)
def f_Wire_countLossy (N : Nat) (X : zh_T) (x0 : Nat) : Option Int32 :=
  zb1 (L_Wire_countLossy_4 N X x0 N 0 0) fun v12 =>
  some v12
def f_Wire_put (N : Nat) (X : zh_T) (x0 : Nat) (x1 : Int32) (x2 : Int32) (x3 : Int32) : Option (Option Nat × zh_T) :=
  zb1 (zgi X x0 7 1) fun v2 =>
  zb1 (zgr X x0 7 0) fun a4 =>
  zb1 (zln X 3 a4) fun v5 =>
  if v2 < v5 then
    zb1 (zgr X x0 7 0) fun a9 =>
    zb1 (zgi X x0 7 1) fun v11 =>
    zb1 (zar X 3 a9 v11) fun a13 =>
    zb1 (zp X a13 3 1 (.int x1)) fun X14 =>
    zb1 (zp X14 a13 3 2 (.int x2)) fun X16 =>
    zb1 (zp X16 a13 3 4 (.int x3)) fun X18 =>
    zb1 (zpz X18 a13 3 9 0) fun X20 =>
    zb1 (zgi X20 x0 7 1) fun v23 =>
    zb1 (zp X20 x0 7 1 (.int (v23 + 1))) fun X24 =>
    some (some a13, X24)
  else
    some (none, X)
def f_Wire_sendLossy (N : Nat) (X : zh_T) (x0 : Nat) (x1 : Int32) (x2 : Int32) (x3 : Int32) : Option (Unit × zh_T) :=
  zb1 (zck X x0 7) fun _ =>
  zb1 (f_Wire_countLossy N X x0) fun v3 =>
  if 24 ≤ v3 then
    some ((), X)
  else
    zb1 (zck X x0 7) fun _ =>
    zb2 (f_Wire_put N X x0 x1 x2 x3) fun q7 X8 =>
    some ((), X8)
def L_Wire_sendParts_87 (N : Nat) (w0 : Nat) (w1 : Int32) (w2 : Nat) (w3 : Int32) (w4 : Int32) (w5 : Nat) : Nat → zh_T → Int32 → Option (Unit × zh_T)
  | 0, _, _ => none
  | n + 1, X, w6 =>
    zb1 (zgi X w5 3 6) fun v27 =>
    if v27 ≤ w6 then
      some ((), X)
    else
      zb1 (zgr X w5 3 0) fun a30 =>
      zb1 (zgr X w2 4 3) fun a32 =>
      zb1 (zai X a32 (w4 + w6)) fun v33 =>
      zb1 (zsi X a30 w6 v33) fun X35 =>
      L_Wire_sendParts_87 N w0 w1 w2 w3 w4 w5 n X35 (w6 + 1)
def L_Wire_sendParts_5 (N : Nat) (w0 : Nat) (w1 : Int32) (w2 : Nat) : Nat → zh_T → Int32 → Int32 → Option ((Unit × zh_T) ⊕ (Unit × zh_T))
  | 0, _, _, _ => none
  | n + 1, X, w3, w4 =>
    zb1 (zgi X w2 4 4) fun v2 =>
    if v2 ≤ w4 then
      some (Sum.inr ((), X))
    else
      zb1 (zgi X w2 4 6) fun v5 =>
      zb1 (zck X w0 7) fun _ =>
      zb2 (f_Wire_put N X w0 5 w1 v5) fun q8 X9 =>
      zbo q8 (
        some (Sum.inl ((), X9))) fun a10 =>
      zb1 (zp X9 a10 3 5 (.int w3)) fun X11 =>
      zb1 (zgi X11 w2 4 5) fun v14 =>
      zb1 (zpz X11 a10 3 7 v14) fun X15 =>
      zb1 (zgi X15 w2 4 4) fun v18 =>
      if (w4 + 4) < v18 then
        zb1 (zpz X15 a10 3 8 0) fun X20 =>
        zb1 (zgi X20 w2 4 4) fun v23 =>
        zb1 (zp X20 a10 3 6 (.int (if (v23 - w4) < 4 then (v23 - w4) else 4))) fun X24 =>
        zb2 (L_Wire_sendParts_87 N w0 w1 w2 w3 w4 a10 N X24 0) fun v37 X39 =>
        L_Wire_sendParts_5 N w0 w1 w2 n X39 (w3 + 1) (w4 + 4)
      else
        zb1 (zpz X15 a10 3 8 1) fun X40 =>
        zb1 (zgi X40 w2 4 4) fun v43 =>
        zb1 (zp X40 a10 3 6 (.int (if (v43 - w4) < 4 then (v43 - w4) else 4))) fun X44 =>
        zb2 (L_Wire_sendParts_87 N w0 w1 w2 w3 w4 a10 N X44 0) fun v46 X48 =>
        L_Wire_sendParts_5 N w0 w1 w2 n X48 (w3 + 1) (w4 + 4)
def f_Wire_sendParts (N : Nat) (X : zh_T) (x0 : Nat) (x1 : Int32) (x2 : Nat) : Option (Unit × zh_T) :=
  zbt (L_Wire_sendParts_5 N x0 x1 x2 N X 0 0) (fun r0 X0 => some (r0, X0)) fun v49 X51 =>
  some ((), X51)
def f_ZoneNodes_arriveAtPrimary (N : Nat) (X : zh_T) (x0 : Nat) (x1 : Nat) : Option (Unit × zh_T) :=
  zb1 (zgr X x0 8 4) fun a2 =>
  zb1 (zgi X a2 4 8) fun v4 =>
  if v4 = 0 then
    some ((), X)
  else
    zb1 (zgi X x1 3 1) fun v7 =>
    if v7 = 2 then
      zb1 (zgr X x0 8 3) fun a30 =>
      zb1 (zgi X x1 3 2) fun v32 =>
      zb1 (zgr X x0 8 4) fun a34 =>
      zb1 (zgi X a34 4 6) fun v36 =>
      zb1 (zck X a30 7) fun _ =>
      zb2 (f_Wire_sendLossy N X a30 3 v32 v36) fun _ X40 =>
      some ((), X40)
    else
      zb1 (zgr X x0 8 4) fun a10 =>
      zb1 (zgi X x1 3 3) fun v12 =>
      zb1 (zgi X x1 3 4) fun v14 =>
      zb1 (zck X a10 4) fun _ =>
      zb2 (f_Primary_workOutItems N X a10 v12 v14) fun _ X18 =>
      zb1 (zgr X18 x0 8 3) fun a20 =>
      zb1 (zgi X18 x1 3 2) fun v22 =>
      zb1 (zgr X18 x0 8 4) fun a24 =>
      zb1 (zck X18 a20 7) fun _ =>
      zb2 (f_Wire_sendParts N X18 a20 v22 a24) fun _ X28 =>
      some ((), X28)
def f_Secondary_ask (N : Nat) (X : zh_T) (x0 : Nat) (x1 : Int32) (x2 : Nat) : Option (Unit × zh_T) :=
  zb1 (zgi X x0 6 0) fun v2 =>
  zb1 (zck X x2 7) fun _ =>
  zb2 (f_Wire_sendLossy N X x2 2 v2 0) fun _ X6 =>
  zb1 (zp X6 x0 6 9 (.int 1)) fun X7 =>
  zb1 (zp X7 x0 6 11 (.int x1)) fun X9 =>
  some ((), X9)
def f_ZoneNodes_isLater (N : Nat) (X : zh_T) (x0 : Int32) (x1 : Int32) : Option Int32 :=
  if (x0 - x1) ≤ 0 then
    some 0
  else
    some 1
def f_Secondary_lacks (N : Nat) (X : zh_T) (x0 : Nat) (x1 : Int32) : Option Int32 :=
  zb1 (zgi X x0 6 7) fun v2 =>
  if v2 = 0 then
    some 1
  else
    zb1 (zgi X x0 6 8) fun v5 =>
    zb1 (f_ZoneNodes_isLater N X x1 v5) fun v7 =>
    if v7 = 0 then
      some 0
    else
      some 1
def f_Secondary_hearNotify (N : Nat) (X : zh_T) (x0 : Nat) (x1 : Int32) (x2 : Int32) (x3 : Nat) : Option (Unit × zh_T) :=
  zb1 (zgi X x0 6 9) fun v2 =>
  if v2 = 0 then
    zb1 (zck X x0 6) fun _ =>
    zb1 (f_Secondary_lacks N X x0 x1) fun v6 =>
    if v6 = 0 then
      some ((), X)
    else
      zb1 (zck X x0 6) fun _ =>
      zb2 (f_Secondary_ask N X x0 x2 x3) fun _ X11 =>
      some ((), X11)
  else
    some ((), X)
def f_Secondary_becomeRefreshed (N : Nat) (X : zh_T) (x0 : Nat) (x1 : Int32) : Option (Unit × zh_T) :=
  zb1 (zgi X x0 6 1) fun v2 =>
  zb1 (zck X x0 6) fun _ =>
  zb2 (f_Secondary_rest N X x0 (x1 + v2)) fun _ X6 =>
  zb1 (zgi X6 x0 6 3) fun v8 =>
  zb1 (zp X6 x0 6 12 (.int (x1 + v8))) fun X9 =>
  some ((), X9)
def f_Wire_sendFetch (N : Nat) (X : zh_T) (x0 : Nat) (x1 : Int32) (x2 : Int32) (x3 : Int32) : Option (Unit × zh_T) :=
  zb1 (zck X x0 7) fun _ =>
  zb2 (f_Wire_put N X x0 4 x1 x3) fun q3 X4 =>
  zbo q3 (
    some ((), X4)) fun a5 =>
  zb1 (zpz X4 a5 3 3 x2) fun X6 =>
  some ((), X6)
def f_Secondary_hearTell (N : Nat) (X : zh_T) (x0 : Nat) (x1 : Int32) (x2 : Int32) (x3 : Int32) (x4 : Nat) : Option (Unit × zh_T) :=
  zb1 (zgi X x0 6 9) fun v2 =>
  if v2 = 1 then
    zb1 (zck X x0 6) fun _ =>
    zb1 (f_Secondary_lacks N X x0 x1) fun v6 =>
    if v6 = 0 then
      zb1 (zck X x0 6) fun _ =>
      zb2 (f_Secondary_becomeRefreshed N X x0 x3) fun _ X30 =>
      some ((), X30)
    else
      if x2 = 0 then
        zb1 (zgi X x0 6 2) fun v10 =>
        zb1 (zck X x0 6) fun _ =>
        zb2 (f_Secondary_rest N X x0 (x3 + v10)) fun _ X14 =>
        some ((), X14)
      else
        zb1 (zgi X x0 6 0) fun v16 =>
        zb1 (zgi X x0 6 7) fun v18 =>
        zb1 (zgi X x0 6 8) fun v20 =>
        zb1 (zck X x4 7) fun _ =>
        zb2 (f_Wire_sendFetch N X x4 v16 v18 v20) fun _ X24 =>
        zb1 (zp X24 x0 6 9 (.int 2)) fun X25 =>
        some ((), X25)
  else
    some ((), X)
def f_Secondary_loseStream (N : Nat) (X : zh_T) (x0 : Nat) (x1 : Int32) : Option (Unit × zh_T) :=
  zb1 (zgi X x0 6 9) fun v2 =>
  if v2 = 2 then
    zb1 (zgi X x0 6 2) fun v5 =>
    zb1 (zck X x0 6) fun _ =>
    zb2 (f_Secondary_rest N X x0 (x1 + v5)) fun _ X9 =>
    some ((), X9)
  else
    some ((), X)
def L_Records_copyFrom_2 (N : Nat) (w0 : Nat) (w1 : Nat) : Nat → zh_T → Int32 → Option (Unit × zh_T)
  | 0, _, _ => none
  | n + 1, X, w2 =>
    zb1 (zgr X w0 5 0) fun a2 =>
    zb1 (zln X 0 a2) fun v3 =>
    if v3 ≤ w2 then
      some ((), X)
    else
      zb1 (zgr X w0 5 0) fun a7 =>
      zb1 (zgr X w1 5 0) fun a9 =>
      zb1 (zai X a9 w2) fun v10 =>
      zb1 (zsi X a7 w2 v10) fun X12 =>
      L_Records_copyFrom_2 N w0 w1 n X12 (w2 + 1)
def f_Records_copyFrom (N : Nat) (X : zh_T) (x0 : Nat) (x1 : Nat) : Option (Unit × zh_T) :=
  zb2 (L_Records_copyFrom_2 N x0 x1 N X 0) fun v14 X16 =>
  some ((), X16)
def f_ZoneNodes_formOf (N : Nat) (X : zh_T) (x0 : Int32) : Option Int32 :=
  some (x0 / 1000)
def f_ZoneNodes_nameOf (N : Nat) (X : zh_T) (x0 : Int32) : Option Int32 :=
  some (zi_rem (x0 / 100) 10)
def f_ZoneNodes_typeOf (N : Nat) (X : zh_T) (x0 : Int32) : Option Int32 :=
  some (zi_rem (x0 / 10) 10)
def f_ZoneNodes_valueOf (N : Nat) (X : zh_T) (x0 : Int32) : Option Int32 :=
  some (zi_rem x0 10)
def f_Records_takeAway (N : Nat) (X : zh_T) (x0 : Nat) (x1 : Int32) (x2 : Int32) (x3 : Int32) : Option (Unit × zh_T) :=
  zb1 (zck X x0 5) fun _ =>
  zb1 (f_Records_valuesOf N X x0 x1 x2) fun v3 =>
  zb1 (zck X x0 5) fun _ =>
  zb2 (f_Records_setValues N X x0 x1 x2 (v3 &&& ((1 <<< (x3 &&& 31)) ^^^ (-1)))) fun _ X7 =>
  some ((), X7)
def f_Records_takeItem (N : Nat) (X : zh_T) (x0 : Nat) (x1 : Int32) : Option (Unit × zh_T) :=
  zb1 (f_ZoneNodes_formOf N X x1) fun v2 =>
  if v2 = 1 then
    zb1 (f_ZoneNodes_nameOf N X x1) fun v15 =>
    zb1 (f_ZoneNodes_typeOf N X x1) fun v17 =>
    zb1 (f_ZoneNodes_valueOf N X x1) fun v19 =>
    zb1 (zck X x0 5) fun _ =>
    zb2 (f_Records_takeAway N X x0 v15 v17 v19) fun _ X23 =>
    some ((), X23)
  else
    zb1 (f_ZoneNodes_nameOf N X x1) fun v5 =>
    zb1 (f_ZoneNodes_typeOf N X x1) fun v7 =>
    zb1 (f_ZoneNodes_valueOf N X x1) fun v9 =>
    zb1 (zck X x0 5) fun _ =>
    zb2 (f_Records_put N X x0 v5 v7 v9) fun _ X13 =>
    some ((), X13)
def L_Records_empty_2 (N : Nat) (w0 : Nat) : Nat → zh_T → Int32 → Option (Unit × zh_T)
  | 0, _, _ => none
  | n + 1, X, w1 =>
    zb1 (zgr X w0 5 0) fun a2 =>
    zb1 (zln X 0 a2) fun v3 =>
    if v3 ≤ w1 then
      some ((), X)
    else
      zb1 (zgr X w0 5 0) fun a7 =>
      zb1 (zsi X a7 w1 0) fun X8 =>
      L_Records_empty_2 N w0 n X8 (w1 + 1)
def f_Records_empty (N : Nat) (X : zh_T) (x0 : Nat) : Option (Unit × zh_T) :=
  zb2 (L_Records_empty_2 N x0 N X 0) fun v10 X12 =>
  some ((), X12)
def f_Secondary_beginIncoming (N : Nat) (X : zh_T) (x0 : Nat) (x1 : Int32) : Option (Unit × zh_T) :=
  if x1 = 0 then
    zb1 (zgr X x0 6 5) fun a3 =>
    zb1 (zgr X x0 6 4) fun a5 =>
    zb1 (zck X a3 5) fun _ =>
    zb2 (f_Records_copyFrom N X a3 a5) fun _ X9 =>
    some ((), X9)
  else
    zb1 (zgr X x0 6 5) fun a11 =>
    zb1 (zck X a11 5) fun _ =>
    zb2 (f_Records_empty N X a11) fun _ X15 =>
    some ((), X15)
def L_Secondary_takePart_17 (N : Nat) (w0 : Nat) (w1 : Nat) (w2 : Int32) : Nat → zh_T → Int32 → Option (Unit × zh_T)
  | 0, _, _ => none
  | n + 1, X, w3 =>
    zb1 (zgi X w1 3 6) fun v5 =>
    if v5 ≤ w3 then
      some ((), X)
    else
      zb1 (zgr X w0 6 5) fun a8 =>
      zb1 (zgr X w1 3 0) fun a10 =>
      zb1 (zai X a10 w3) fun v11 =>
      zb1 (zck X a8 5) fun _ =>
      zb2 (f_Records_takeItem N X a8 v11) fun _ X16 =>
      L_Secondary_takePart_17 N w0 w1 w2 n X16 (w3 + 1)
def f_Secondary_takePart (N : Nat) (X : zh_T) (x0 : Nat) (x1 : Nat) (x2 : Int32) : Option (Unit × zh_T) :=
  zb1 (zgi X x1 3 5) fun v2 =>
  if v2 = 0 then
    zb1 (zgi X x1 3 7) fun v42 =>
    zb1 (zck X x0 6) fun _ =>
    zb2 (f_Secondary_beginIncoming N X x0 v42) fun _ X46 =>
    zb2 (L_Secondary_takePart_17 N x0 x1 x2 N X46 0) fun v47 X49 =>
    zb1 (zgi X49 x1 3 8) fun v51 =>
    if v51 = 0 then
      some ((), X49)
    else
      zb1 (zgr X49 x0 6 4) fun a54 =>
      zb1 (zgr X49 x0 6 5) fun a56 =>
      zb1 (zck X49 a54 5) fun _ =>
      zb2 (f_Records_copyFrom N X49 a54 a56) fun _ X60 =>
      zb1 (zgi X60 x1 3 4) fun v62 =>
      zb1 (zp X60 x0 6 8 (.int v62)) fun X63 =>
      zb1 (zpz X63 x0 6 7 1) fun X65 =>
      zb1 (zck X65 x0 6) fun _ =>
      zb2 (f_Secondary_becomeRefreshed N X65 x0 x2) fun _ X70 =>
      some ((), X70)
  else
    zb2 (L_Secondary_takePart_17 N x0 x1 x2 N X 0) fun v17 X19 =>
    zb1 (zgi X19 x1 3 8) fun v21 =>
    if v21 = 0 then
      some ((), X19)
    else
      zb1 (zgr X19 x0 6 4) fun a24 =>
      zb1 (zgr X19 x0 6 5) fun a26 =>
      zb1 (zck X19 a24 5) fun _ =>
      zb2 (f_Records_copyFrom N X19 a24 a26) fun _ X30 =>
      zb1 (zgi X30 x1 3 4) fun v32 =>
      zb1 (zp X30 x0 6 8 (.int v32)) fun X33 =>
      zb1 (zpz X33 x0 6 7 1) fun X35 =>
      zb1 (zck X35 x0 6) fun _ =>
      zb2 (f_Secondary_becomeRefreshed N X35 x0 x2) fun _ X40 =>
      some ((), X40)
def L_Wire_takeOut_11 (N : Nat) (w0 : Nat) (w2 : Nat) : Nat → zh_T → Int32 → Option (Unit × zh_T)
  | 0, _, _ => none
  | n + 1, X, w3 =>
    zb1 (zgi X w0 7 1) fun v6 =>
    if v6 ≤ w3 then
      some ((), X)
    else
      zb1 (zgr X w0 7 0) fun a9 =>
      zb1 (zgr X w0 7 0) fun a11 =>
      zb1 (zar X 3 a11 w3) fun a13 =>
      zb1 (zsr X 3 3 a9 (w3 - 1) a13) fun X14 =>
      L_Wire_takeOut_11 N w0 w2 n X14 (w3 + 1)
def f_Wire_takeOut (N : Nat) (X : zh_T) (x0 : Nat) (x1 : Int32) : Option (Unit × zh_T) :=
  zb1 (zgr X x0 7 0) fun a2 =>
  zb1 (zar X 3 a2 x1) fun a4 =>
  zb2 (L_Wire_takeOut_11 N x0 a4 N X (x1 + 1)) fun v16 X18 =>
  zb1 (zgi X18 x0 7 1) fun v20 =>
  zb1 (zp X18 x0 7 1 (.int (v20 - 1))) fun X21 =>
  zb1 (zgr X21 x0 7 0) fun a24 =>
  zb1 (zgi X21 x0 7 1) fun v26 =>
  zb1 (zsr X21 3 3 a24 v26 a4) fun X27 =>
  some ((), X27)
def L_Wire_endStreamOf_7 (N : Nat) (w0 : Nat) (w1 : Int32) : Nat → zh_T → Int32 → Option (Unit × zh_T)
  | 0, _, _ => none
  | n + 1, X, w2 =>
    if w2 < 0 then
      some ((), X)
    else
      zb1 (zgr X w0 7 0) fun a5 =>
      zb1 (zar X 3 a5 w2) fun a7 =>
      zb1 (zck X a7 3) fun _ =>
      zb1 (f_Message_isOnStream N X a7) fun v10 =>
      if v10 = 0 then
        L_Wire_endStreamOf_7 N w0 w1 n X (w2 + (-1))
      else
        zb1 (zgr X w0 7 0) fun a13 =>
        zb1 (zar X 3 a13 w2) fun a15 =>
        zb1 (zgi X a15 3 2) fun v17 =>
        if v17 = w1 then
          zb1 (zck X w0 7) fun _ =>
          zb2 (f_Wire_takeOut N X w0 w2) fun _ X22 =>
          L_Wire_endStreamOf_7 N w0 w1 n X22 (w2 + (-1))
        else
          L_Wire_endStreamOf_7 N w0 w1 n X (w2 + (-1))
def f_Wire_endStreamOf (N : Nat) (X : zh_T) (x0 : Nat) (x1 : Int32) : Option (Unit × zh_T) :=
  zb1 (zgi X x0 7 1) fun v2 =>
  zb2 (L_Wire_endStreamOf_7 N x0 x1 N X (v2 - 1)) fun v23 X25 =>
  some ((), X25)
def f_ZoneNodes_arriveAtSecondary (N : Nat) (X : zh_T) (x0 : Nat) (x1 : Nat) (x2 : Nat) : Option (Unit × zh_T) :=
  zb1 (zgi X x2 6 6) fun v2 =>
  if v2 = 0 then
    some ((), X)
  else
    zb1 (zgi X x1 3 1) fun v5 =>
    if v5 = 1 then
      zb1 (zgi X x1 3 4) fun v48 =>
      zb1 (zgi X x0 8 6) fun v50 =>
      zb1 (zgr X x0 8 3) fun a52 =>
      zb1 (zck X x2 6) fun _ =>
      zb2 (f_Secondary_hearNotify N X x2 v48 v50 a52) fun _ X56 =>
      some ((), X56)
    else
      zb1 (zgi X x1 3 1) fun v8 =>
      if v8 = 3 then
        zb1 (zgi X x1 3 4) fun v34 =>
        zb1 (zgr X x0 8 4) fun a36 =>
        zb1 (zgi X a36 4 8) fun v38 =>
        zb1 (zgi X x0 8 6) fun v40 =>
        zb1 (zgr X x0 8 3) fun a42 =>
        zb1 (zck X x2 6) fun _ =>
        zb2 (f_Secondary_hearTell N X x2 v34 v38 v40 a42) fun _ X46 =>
        some ((), X46)
      else
        zb1 (zgi X x1 3 9) fun v11 =>
        if v11 = 0 then
          zb1 (zgi X x0 8 6) fun v14 =>
          zb1 (zck X x2 6) fun _ =>
          zb2 (f_Secondary_takePart N X x2 x1 v14) fun _ X18 =>
          some ((), X18)
        else
          zb1 (zgr X x0 8 3) fun a20 =>
          zb1 (zgi X x2 6 0) fun v22 =>
          zb1 (zck X a20 7) fun _ =>
          zb2 (f_Wire_endStreamOf N X a20 v22) fun _ X26 =>
          zb1 (zgi X26 x0 8 6) fun v28 =>
          zb1 (zck X26 x2 6) fun _ =>
          zb2 (f_Secondary_loseStream N X26 x2 v28) fun _ X32 =>
          some ((), X32)
def f_ZoneNodes_isRecord (N : Nat) (X : zh_T) (x0 : Int32) (x1 : Int32) (x2 : Int32) : Option Int32 :=
  zb1 (f_ZoneNodes_within N X x0 0 7) fun v2 =>
  if v2 = 0 then
    some 0
  else
    zb1 (f_ZoneNodes_within N X x1 1 4) fun v5 =>
    if v5 = 0 then
      some 0
    else
      zb1 (f_ZoneNodes_within N X x2 0 7) fun v8 =>
      if v8 = 0 then
        some 0
      else
        some 1
def f_Draft_addChange (N : Nat) (X : zh_T) (x0 : Nat) (x1 : Int32) : Option (Int32 × zh_T) :=
  zb1 (zgi X x0 0 3) fun v2 =>
  if v2 < 4 then
    zb1 (zgr X x0 0 1) fun a5 =>
    zb1 (zgi X x0 0 3) fun v7 =>
    zb1 (zsi X a5 v7 x1) fun X8 =>
    zb1 (zgi X8 x0 0 3) fun v11 =>
    zb1 (zp X8 x0 0 3 (.int (v11 + 1))) fun X12 =>
    some (1, X12)
  else
    some (0, X)
def f_ZoneNodes_change (N : Nat) (X : zh_T) (x0 : Nat) (x1 : Int32) (x2 : Int32) (x3 : Int32) (x4 : Int32) : Option (Int32 × zh_T) :=
  zb1 (f_ZoneNodes_within N X x1 0 3) fun v2 =>
  if v2 = 0 then
    some (0, X)
  else
    zb1 (f_ZoneNodes_isRecord N X x2 x3 x4) fun v5 =>
    if v5 = 0 then
      some (0, X)
    else
      zb1 (zgr X x0 8 2) fun a8 =>
      zb1 (f_ZoneNodes_coded N X x1 x2 x3 x4) fun v10 =>
      zb1 (zck X a8 0) fun _ =>
      zb2 (f_Draft_addChange N X a8 v10) fun v13 X14 =>
      if v13 = 0 then
        some (0, X14)
      else
        some (1, X14)
def f_ZoneNodes_isNode (N : Nat) (X : zh_T) (x0 : Int32) : Option Int32 :=
  zb1 (f_ZoneNodes_within N X x0 0 2) fun v2 =>
  zb1 (zbz v2) fun v3 =>
  some v3
def f_ZoneNodes_isUp (N : Nat) (X : zh_T) (x0 : Nat) (x1 : Int32) : Option Int32 :=
  if x1 = 0 then
    zb1 (zgr X x0 8 4) fun a11 =>
    zb1 (zgi X a11 4 8) fun v13 =>
    zb1 (zbz v13) fun v14 =>
    some v14
  else
    zb1 (zgr X x0 8 5) fun a3 =>
    zb1 (zar X 4 a3 (x1 - 1)) fun a5 =>
    zb1 (zgi X a5 6 6) fun v7 =>
    zb1 (zbz v7) fun v8 =>
    some v8
def L_ZoneNodes_takePrimaryDown_18 (N : Nat) (w0 : Nat) : Nat → zh_T → Int32 → Option (Unit × zh_T)
  | 0, _, _ => none
  | n + 1, X, w1 =>
    if 2 ≤ w1 then
      some ((), X)
    else
      zb1 (zgr X w0 8 3) fun a11 =>
      zb1 (zck X a11 7) fun _ =>
      zb2 (f_Wire_endStreamOf N X a11 (w1 + 1)) fun _ X15 =>
      zb1 (zgr X15 w0 8 5) fun a17 =>
      zb1 (zar X15 4 a17 w1) fun a19 =>
      zb1 (zgi X15 w0 8 6) fun v21 =>
      zb1 (zck X15 a19 6) fun _ =>
      zb2 (f_Secondary_loseStream N X15 a19 v21) fun _ X25 =>
      L_ZoneNodes_takePrimaryDown_18 N w0 n X25 (w1 + 1)
def f_ZoneNodes_takePrimaryDown (N : Nat) (X : zh_T) (x0 : Nat) : Option (Unit × zh_T) :=
  zb1 (zgr X x0 8 4) fun a2 =>
  zb1 (zpz X a2 4 8 0) fun X3 =>
  zb1 (zgr X3 x0 8 4) fun a6 =>
  zb1 (zp X3 a6 4 7 (.int 0)) fun X7 =>
  zb2 (L_ZoneNodes_takePrimaryDown_18 N x0 N X7 0) fun v26 X28 =>
  some ((), X28)
def f_ZoneNodes_crash (N : Nat) (X : zh_T) (x0 : Nat) (x1 : Int32) : Option (Int32 × zh_T) :=
  zb1 (f_ZoneNodes_isNode N X x1) fun v2 =>
  if v2 = 0 then
    some (0, X)
  else
    zb1 (zck X x0 8) fun _ =>
    zb1 (f_ZoneNodes_isUp N X x0 x1) fun v6 =>
    if v6 = 0 then
      some (0, X)
    else
      if x1 = 0 then
        zb1 (zck X x0 8) fun _ =>
        zb2 (f_ZoneNodes_takePrimaryDown N X x0) fun _ X24 =>
        some (1, X24)
      else
        zb1 (zgr X x0 8 3) fun a10 =>
        zb1 (zck X a10 7) fun _ =>
        zb2 (f_Wire_endStreamOf N X a10 x1) fun _ X14 =>
        zb1 (zgr X14 x0 8 5) fun a16 =>
        zb1 (zar X14 4 a16 (x1 - 1)) fun a18 =>
        zb1 (zpz X14 a18 6 6 0) fun X19 =>
        some (1, X19)
def L_Wire_isBehindAnotherPart_17 (N : Nat) (X : zh_T) (w0 : Nat) (w1 : Int32) : Nat → Int32 → Option (Int32 ⊕ Unit)
  | 0, _ => none
  | n + 1, w2 =>
    if w1 ≤ w2 then
      some (Sum.inr ())
    else
      zb1 (zgr X w0 7 0) fun a10 =>
      zb1 (zar X 3 a10 w2) fun a12 =>
      zb1 (zgi X a12 3 1) fun v14 =>
      if v14 = 5 then
        zb1 (zgr X w0 7 0) fun a17 =>
        zb1 (zar X 3 a17 w2) fun a19 =>
        zb1 (zgi X a19 3 2) fun v21 =>
        zb1 (zgr X w0 7 0) fun a23 =>
        zb1 (zar X 3 a23 w1) fun a25 =>
        zb1 (zgi X a25 3 2) fun v27 =>
        if v21 = v27 then
          some (Sum.inl 1)
        else
          L_Wire_isBehindAnotherPart_17 N X w0 w1 n (w2 + 1)
      else
        L_Wire_isBehindAnotherPart_17 N X w0 w1 n (w2 + 1)
def f_Wire_isBehindAnotherPart (N : Nat) (X : zh_T) (x0 : Nat) (x1 : Int32) : Option Int32 :=
  zb1 (zgr X x0 7 0) fun a2 =>
  zb1 (zar X 3 a2 x1) fun a4 =>
  zb1 (zgi X a4 3 1) fun v6 =>
  if v6 = 5 then
    zbs (L_Wire_isBehindAnotherPart_17 N X x0 x1 N 0) (fun r0 => some r0) fun v29 =>
    some 0
  else
    some 0
def f_ZoneNodes_deliver (N : Nat) (X : zh_T) (x0 : Nat) (x1 : Int32) : Option (Int32 × zh_T) :=
  zb1 (zgr X x0 8 3) fun a2 =>
  zb1 (zck X a2 7) fun _ =>
  zb1 (f_Wire_at N X a2 x1) fun q5 =>
  zbo q5 (
    some (0, X)) fun a6 =>
  zb1 (zgr X x0 8 3) fun a8 =>
  zb1 (zck X a8 7) fun _ =>
  zb1 (f_Wire_isBehindAnotherPart N X a8 x1) fun v11 =>
  if v11 = 0 then
    zb1 (zgr X x0 8 3) fun a14 =>
    zb1 (zck X a14 7) fun _ =>
    zb2 (f_Wire_takeOut N X a14 x1) fun _ X18 =>
    zb1 (zgi X18 a6 3 1) fun v20 =>
    if v20 = 2 then
      zb1 (zck X18 x0 8) fun _ =>
      zb2 (f_ZoneNodes_arriveAtPrimary N X18 x0 a6) fun _ X25 =>
      some (1, X25)
    else
      zb1 (zgi X18 a6 3 1) fun v27 =>
      if v27 = 4 then
        zb1 (zck X18 x0 8) fun _ =>
        zb2 (f_ZoneNodes_arriveAtPrimary N X18 x0 a6) fun _ X42 =>
        some (1, X42)
      else
        zb1 (zgr X18 x0 8 5) fun a30 =>
        zb1 (zgi X18 a6 3 2) fun v32 =>
        zb1 (zar X18 4 a30 (v32 - 1)) fun a34 =>
        zb1 (zck X18 x0 8) fun _ =>
        zb2 (f_ZoneNodes_arriveAtSecondary N X18 x0 a6 a34) fun _ X38 =>
        some (1, X38)
  else
    some (0, X)
def f_ZoneNodes_drop (N : Nat) (X : zh_T) (x0 : Nat) (x1 : Int32) : Option (Int32 × zh_T) :=
  zb1 (zgr X x0 8 3) fun a2 =>
  zb1 (zck X a2 7) fun _ =>
  zb1 (f_Wire_at N X a2 x1) fun q5 =>
  zbo q5 (
    some (0, X)) fun a6 =>
  zb1 (zck X a6 3) fun _ =>
  zb1 (f_Message_isOnStream N X a6) fun v9 =>
  if v9 = 0 then
    zb1 (zgr X x0 8 3) fun a12 =>
    zb1 (zck X a12 7) fun _ =>
    zb2 (f_Wire_takeOut N X a12 x1) fun _ X16 =>
    some (1, X16)
  else
    some (0, X)
def f_ZoneNodes_recordsOf (N : Nat) (X : zh_T) (x0 : Nat) (x1 : Int32) : Option (Option Nat) :=
  if x1 = 0 then
    zb1 (zgr X x0 8 4) fun a19 =>
    zb1 (zgr X a19 4 0) fun a21 =>
    some (some a21)
  else
    zb1 (f_ZoneNodes_isNode N X x1) fun v3 =>
    if v3 = 0 then
      some none
    else
      zb1 (zgr X x0 8 5) fun a6 =>
      zb1 (zar X 4 a6 (x1 - 1)) fun a8 =>
      zb1 (zgi X a8 6 7) fun v10 =>
      if v10 = 0 then
        some none
      else
        zb1 (zgr X x0 8 5) fun a13 =>
        zb1 (zar X 4 a13 (x1 - 1)) fun a15 =>
        zb1 (zgr X a15 6 4) fun a17 =>
        some (some a17)
def f_Records_contains (N : Nat) (X : zh_T) (x0 : Nat) (x1 : Int32) (x2 : Int32) (x3 : Int32) : Option Int32 :=
  zb1 (zck X x0 5) fun _ =>
  zb1 (f_Records_valuesOf N X x0 x1 x2) fun v3 =>
  if ((v3 >>> (x3 &&& 31)) &&& 1) = 1 then
    some 1
  else
    some 0
def f_ZoneNodes_has (N : Nat) (X : zh_T) (x0 : Nat) (x1 : Int32) (x2 : Int32) (x3 : Int32) (x4 : Int32) : Option Int32 :=
  zb1 (zck X x0 8) fun _ =>
  zb1 (f_ZoneNodes_recordsOf N X x0 x1) fun q3 =>
  zbo q3 (
    some 0) fun a4 =>
  zb1 (f_ZoneNodes_isRecord N X x2 x3 x4) fun v6 =>
  if v6 = 0 then
    some 0
  else
    zb1 (zck X a4 5) fun _ =>
    zb1 (f_Records_contains N X a4 x2 x3 x4) fun v10 =>
    if v10 = 0 then
      some 0
    else
      some 1
def f_ZoneNodes_journal (N : Nat) (X : zh_T) (x0 : Nat) : Option Int32 :=
  zb1 (zgr X x0 8 4) fun a2 =>
  zb1 (zgr X a2 4 2) fun a4 =>
  zb1 (zgi X a4 2 1) fun v6 =>
  some v6
def f_ZoneNodes_key (N : Nat) (X : zh_T) (x0 : Nat) (x1 : Int32) (x2 : Int32) : Option (Int32 × zh_T) :=
  zb1 (f_ZoneNodes_within N X x1 0 2) fun v2 =>
  if v2 = 0 then
    some (0, X)
  else
    zb1 (zgr X x0 8 0) fun a5 =>
    zb1 (zsi X a5 x1 x2) fun X6 =>
    zb1 (zgr X6 x0 8 1) fun a9 =>
    zb1 (zsz X6 a9 x1 1) fun X10 =>
    some (1, X10)
def f_ZoneNodes_knowsKey (N : Nat) (X : zh_T) (x0 : Nat) (x1 : Int32) : Option Int32 :=
  zb1 (f_ZoneNodes_within N X x1 0 2) fun v2 =>
  if v2 = 0 then
    some 0
  else
    zb1 (zgr X x0 8 1) fun a5 =>
    zb1 (zaz X a5 x1) fun v6 =>
    if v6 = 0 then
      some 0
    else
      some 1
def L_Records_aliasOf_2 (N : Nat) (X : zh_T) (w0 : Nat) (w1 : Int32) : Nat → Int32 → Option (Int32 ⊕ Unit)
  | 0, _ => none
  | n + 1, w2 =>
    if 8 ≤ w2 then
      some (Sum.inr ())
    else
      zb1 (zck X w0 5) fun _ =>
      zb1 (f_Records_contains N X w0 w1 2 w2) fun v4 =>
      if v4 = 0 then
        L_Records_aliasOf_2 N X w0 w1 n (w2 + 1)
      else
        some (Sum.inl w2)
def f_Records_aliasOf (N : Nat) (X : zh_T) (x0 : Nat) (x1 : Int32) : Option Int32 :=
  zbs (L_Records_aliasOf_2 N X x0 x1 N 0) (fun r0 => some r0) fun v6 =>
  some (-1)
def L_Records_hasOtherThanAlias_2 (N : Nat) (X : zh_T) (w0 : Nat) (w1 : Int32) : Nat → Int32 → Option (Int32 ⊕ Unit)
  | 0, _ => none
  | n + 1, w2 =>
    if 4 < w2 then
      some (Sum.inr ())
    else
      if w2 = 2 then
        L_Records_hasOtherThanAlias_2 N X w0 w1 n (w2 + 1)
      else
        zb1 (zck X w0 5) fun _ =>
        zb1 (f_Records_valuesOf N X w0 w1 w2) fun v5 =>
        if v5 = 0 then
          L_Records_hasOtherThanAlias_2 N X w0 w1 n (w2 + 1)
        else
          some (Sum.inl 1)
def f_Records_hasOtherThanAlias (N : Nat) (X : zh_T) (x0 : Nat) (x1 : Int32) : Option Int32 :=
  zbs (L_Records_hasOtherThanAlias_2 N X x0 x1 N 1) (fun r0 => some r0) fun v7 =>
  some 0
def f_Records_isUsed (N : Nat) (X : zh_T) (x0 : Nat) (x1 : Int32) : Option Int32 :=
  zb1 (zck X x0 5) fun _ =>
  zb1 (f_Records_valuesOf N X x0 x1 2) fun v3 =>
  if v3 = 0 then
    zb1 (zck X x0 5) fun _ =>
    zb1 (f_Records_hasOtherThanAlias N X x0 x1) fun v7 =>
    if v7 = 0 then
      some 0
    else
      some 1
  else
    some 1
def f_Integer_bitCount (N : Nat) (X : zh_T) (x0 : Int32) : Option Int32 :=
  some ((((((((x0 - ((zi_ushr x0 1) &&& 1431655765)) &&& 858993459) + ((zi_ushr (x0 - ((zi_ushr x0 1) &&& 1431655765)) 2) &&& 858993459)) + (zi_ushr (((x0 - ((zi_ushr x0 1) &&& 1431655765)) &&& 858993459) + ((zi_ushr (x0 - ((zi_ushr x0 1) &&& 1431655765)) 2) &&& 858993459)) 4)) &&& 252645135) + (zi_ushr (((((x0 - ((zi_ushr x0 1) &&& 1431655765)) &&& 858993459) + ((zi_ushr (x0 - ((zi_ushr x0 1) &&& 1431655765)) 2) &&& 858993459)) + (zi_ushr (((x0 - ((zi_ushr x0 1) &&& 1431655765)) &&& 858993459) + ((zi_ushr (x0 - ((zi_ushr x0 1) &&& 1431655765)) 2) &&& 858993459)) 4)) &&& 252645135) 8)) + (zi_ushr ((((((x0 - ((zi_ushr x0 1) &&& 1431655765)) &&& 858993459) + ((zi_ushr (x0 - ((zi_ushr x0 1) &&& 1431655765)) 2) &&& 858993459)) + (zi_ushr (((x0 - ((zi_ushr x0 1) &&& 1431655765)) &&& 858993459) + ((zi_ushr (x0 - ((zi_ushr x0 1) &&& 1431655765)) 2) &&& 858993459)) 4)) &&& 252645135) + (zi_ushr (((((x0 - ((zi_ushr x0 1) &&& 1431655765)) &&& 858993459) + ((zi_ushr (x0 - ((zi_ushr x0 1) &&& 1431655765)) 2) &&& 858993459)) + (zi_ushr (((x0 - ((zi_ushr x0 1) &&& 1431655765)) &&& 858993459) + ((zi_ushr (x0 - ((zi_ushr x0 1) &&& 1431655765)) 2) &&& 858993459)) 4)) &&& 252645135) 8)) 16)) &&& 63)
def L_ZoneNodes_lookUp_5 (N : Nat) (X : zh_T) (w0 : Nat) (w2 : Int32) : Nat → Int32 → Int32 → Option (Int32 ⊕ Unit)
  | 0, _, _ => none
  | n + 1, w3, w4 =>
    if 8 < w4 then
      some (Sum.inr ())
    else
      if w2 = 2 then
        zb1 (zck X w0 5) fun _ =>
        zb1 (f_Records_isUsed N X w0 w3) fun v18 =>
        if v18 = 0 then
          some (Sum.inl 300)
        else
          zb1 (zck X w0 5) fun _ =>
          zb1 (f_Records_valuesOf N X w0 w3 w2) fun v22 =>
          zb1 (f_Integer_bitCount N X v22) fun v24 =>
          some (Sum.inl v24)
      else
        zb1 (zck X w0 5) fun _ =>
        zb1 (f_Records_aliasOf N X w0 w3) fun v5 =>
        if 0 ≤ v5 then
          L_ZoneNodes_lookUp_5 N X w0 w2 n v5 (w4 + 1)
        else
          zb1 (zck X w0 5) fun _ =>
          zb1 (f_Records_isUsed N X w0 w3) fun v9 =>
          if v9 = 0 then
            some (Sum.inl 300)
          else
            zb1 (zck X w0 5) fun _ =>
            zb1 (f_Records_valuesOf N X w0 w3 w2) fun v13 =>
            zb1 (f_Integer_bitCount N X v13) fun v15 =>
            some (Sum.inl v15)
def f_ZoneNodes_lookUp (N : Nat) (X : zh_T) (x0 : Nat) (x1 : Int32) (x2 : Int32) : Option Int32 :=
  zbs (L_ZoneNodes_lookUp_5 N X x0 x2 N x1 0) (fun r0 => some r0) fun v25 =>
  some 200
def L_ZoneNodes_notifySecondaries_2 (N : Nat) (w0 : Nat) : Nat → zh_T → Int32 → Option (Unit × zh_T)
  | 0, _, _ => none
  | n + 1, X, w1 =>
    if 2 < w1 then
      some ((), X)
    else
      zb1 (zgr X w0 8 3) fun a3 =>
      zb1 (zgr X w0 8 4) fun a5 =>
      zb1 (zgi X a5 4 6) fun v7 =>
      zb1 (zck X a3 7) fun _ =>
      zb2 (f_Wire_sendLossy N X a3 1 w1 v7) fun _ X11 =>
      L_ZoneNodes_notifySecondaries_2 N w0 n X11 (w1 + 1)
def f_ZoneNodes_notifySecondaries (N : Nat) (X : zh_T) (x0 : Nat) : Option (Unit × zh_T) :=
  zb2 (L_ZoneNodes_notifySecondaries_2 N x0 N X 1) fun v12 X14 =>
  some ((), X14)
def f_Records_addIfAllowed (N : Nat) (X : zh_T) (x0 : Nat) (x1 : Int32) (x2 : Int32) (x3 : Int32) : Option (Unit × zh_T) :=
  if x2 = 2 then
    if x1 = 0 then
      some ((), X)
    else
      zb1 (zck X x0 5) fun _ =>
      zb1 (f_Records_hasOtherThanAlias N X x0 x1) fun v5 =>
      if v5 = 0 then
        zb1 (zck X x0 5) fun _ =>
        zb2 (f_Records_setValues N X x0 x1 2 (1 <<< (x3 &&& 31))) fun _ X10 =>
        some ((), X10)
      else
        some ((), X)
  else
    zb1 (zck X x0 5) fun _ =>
    zb1 (f_Records_valuesOf N X x0 x1 2) fun v13 =>
    if v13 = 0 then
      zb1 (zck X x0 5) fun _ =>
      zb2 (f_Records_put N X x0 x1 x2 x3) fun _ X18 =>
      some ((), X18)
    else
      some ((), X)
def f_Records_clearIfAllowed (N : Nat) (X : zh_T) (x0 : Nat) (x1 : Int32) (x2 : Int32) : Option (Unit × zh_T) :=
  if x1 = 0 then
    if x2 = 3 then
      some ((), X)
    else
      zb1 (zck X x0 5) fun _ =>
      zb2 (f_Records_setValues N X x0 x1 x2 0) fun _ X10 =>
      some ((), X10)
  else
    zb1 (zck X x0 5) fun _ =>
    zb2 (f_Records_setValues N X x0 x1 x2 0) fun _ X5 =>
    some ((), X5)
def f_Records_removeIfAllowed (N : Nat) (X : zh_T) (x0 : Nat) (x1 : Int32) (x2 : Int32) (x3 : Int32) : Option (Unit × zh_T) :=
  zb1 (zck X x0 5) fun _ =>
  zb1 (f_Records_valuesOf N X x0 x1 x2) fun v3 =>
  if v3 = (1 <<< (x3 &&& 31)) then
    if x1 = 0 then
      if x2 = 3 then
        some ((), X)
      else
        zb1 (zck X x0 5) fun _ =>
        zb2 (f_Records_takeAway N X x0 x1 x2 x3) fun _ X28 =>
        some ((), X28)
    else
      zb1 (zck X x0 5) fun _ =>
      zb2 (f_Records_takeAway N X x0 x1 x2 x3) fun _ X23 =>
      some ((), X23)
  else
    if x1 = 0 then
      if x2 = 3 then
        zb1 (zck X x0 5) fun _ =>
        zb2 (f_Records_takeAway N X x0 x1 x2 x3) fun _ X18 =>
        some ((), X18)
      else
        zb1 (zck X x0 5) fun _ =>
        zb2 (f_Records_takeAway N X x0 x1 x2 x3) fun _ X14 =>
        some ((), X14)
    else
      zb1 (zck X x0 5) fun _ =>
      zb2 (f_Records_takeAway N X x0 x1 x2 x3) fun _ X9 =>
      some ((), X9)
def L_Records_makeChange_71 (N : Nat) (w0 : Nat) (w2 : Int32) : Nat → zh_T → Int32 → Option (Unit × zh_T)
  | 0, _, _ => none
  | n + 1, X, w5 =>
    if 4 < w5 then
      some ((), X)
    else
      zb1 (zck X w0 5) fun _ =>
      zb2 (f_Records_clearIfAllowed N X w0 w2 w5) fun _ X24 =>
      L_Records_makeChange_71 N w0 w2 n X24 (w5 + 1)
def f_Records_makeChange (N : Nat) (X : zh_T) (x0 : Nat) (x1 : Int32) : Option (Unit × zh_T) :=
  zb1 (f_ZoneNodes_nameOf N X x1) fun v2 =>
  zb1 (f_ZoneNodes_typeOf N X x1) fun v4 =>
  zb1 (f_ZoneNodes_valueOf N X x1) fun v6 =>
  zb1 (f_ZoneNodes_formOf N X x1) fun v8 =>
  if v8 = 0 then
    zb1 (zck X x0 5) fun _ =>
    zb2 (f_Records_addIfAllowed N X x0 v2 v4 v6) fun _ X13 =>
    some ((), X13)
  else
    if v8 = 1 then
      zb1 (zck X x0 5) fun _ =>
      zb2 (f_Records_clearIfAllowed N X x0 v2 v4) fun _ X18 =>
      some ((), X18)
    else
      if v8 = 2 then
        zb2 (L_Records_makeChange_71 N x0 v2 N X 1) fun v25 X27 =>
        some ((), X27)
      else
        zb1 (zck X x0 5) fun _ =>
        zb2 (f_Records_removeIfAllowed N X x0 v2 v4 v6) fun _ X31 =>
        some ((), X31)
def L_Draft_changeRecords_2 (N : Nat) (w0 : Nat) (w1 : Nat) : Nat → zh_T → Int32 → Option (Unit × zh_T)
  | 0, _, _ => none
  | n + 1, X, w2 =>
    zb1 (zgi X w0 0 3) fun v2 =>
    if v2 ≤ w2 then
      some ((), X)
    else
      zb1 (zgr X w0 0 1) fun a5 =>
      zb1 (zai X a5 w2) fun v6 =>
      zb1 (zck X w1 5) fun _ =>
      zb2 (f_Records_makeChange N X w1 v6) fun _ X11 =>
      L_Draft_changeRecords_2 N w0 w1 n X11 (w2 + 1)
def f_Draft_changeRecords (N : Nat) (X : zh_T) (x0 : Nat) (x1 : Nat) : Option (Unit × zh_T) :=
  zb2 (L_Draft_changeRecords_2 N x0 x1 N X 0) fun v12 X14 =>
  some ((), X14)
def L_Records_becomeDifference_2 (N : Nat) (w0 : Nat) (w1 : Nat) (w2 : Nat) : Nat → zh_T → Int32 → Option (Unit × zh_T)
  | 0, _, _ => none
  | n + 1, X, w3 =>
    zb1 (zgr X w0 5 0) fun a2 =>
    zb1 (zln X 0 a2) fun v3 =>
    if v3 ≤ w3 then
      some ((), X)
    else
      zb1 (zgr X w0 5 0) fun a7 =>
      zb1 (zgr X w1 5 0) fun a9 =>
      zb1 (zai X a9 w3) fun v10 =>
      zb1 (zgr X w2 5 0) fun a13 =>
      zb1 (zai X a13 w3) fun v14 =>
      zb1 (zsi X a7 w3 (v10 &&& (v14 ^^^ (-1)))) fun X16 =>
      L_Records_becomeDifference_2 N w0 w1 w2 n X16 (w3 + 1)
def f_Records_becomeDifference (N : Nat) (X : zh_T) (x0 : Nat) (x1 : Nat) (x2 : Nat) : Option (Unit × zh_T) :=
  zb2 (L_Records_becomeDifference_2 N x0 x1 x2 N X 0) fun v18 X20 =>
  some ((), X20)
def f_Journal_append (N : Nat) (X : zh_T) (x0 : Nat) (x1 : Int32) (x2 : Nat) (x3 : Nat) : Option (Unit × zh_T) :=
  zb1 (zgi X x0 2 1) fun v2 =>
  zb1 (zgr X x0 2 0) fun a4 =>
  zb1 (zln X 2 a4) fun v5 =>
  if v2 < v5 then
    zb1 (zgr X x0 2 0) fun a9 =>
    zb1 (zgi X x0 2 1) fun v11 =>
    zb1 (zar X 2 a9 v11) fun a13 =>
    zb1 (zp X a13 1 2 (.int x1)) fun X14 =>
    zb1 (zpz X14 a13 1 3 0) fun X16 =>
    zb1 (zgr X16 a13 1 0) fun a19 =>
    zb1 (zck X16 a19 5) fun _ =>
    zb2 (f_Records_becomeDifference N X16 a19 x2 x3) fun _ X23 =>
    zb1 (zgr X23 a13 1 1) fun a25 =>
    zb1 (zck X23 a25 5) fun _ =>
    zb2 (f_Records_becomeDifference N X23 a25 x3 x2) fun _ X29 =>
    zb1 (zgi X29 x0 2 1) fun v31 =>
    zb1 (zp X29 x0 2 1 (.int (v31 + 1))) fun X32 =>
    some ((), X32)
  else
    some ((), X)
def f_Journal_markLatest (N : Nat) (X : zh_T) (x0 : Nat) : Option (Unit × zh_T) :=
  zb1 (zgi X x0 2 1) fun v2 =>
  if v2 ≤ 0 then
    some ((), X)
  else
    zb1 (zgr X x0 2 0) fun a5 =>
    zb1 (zgi X x0 2 1) fun v7 =>
    zb1 (zar X 2 a5 (v7 - 1)) fun a9 =>
    zb1 (zpz X a9 1 3 1) fun X10 =>
    some ((), X10)
def L_Journal_keepLatest_18 (N : Nat) (w0 : Nat) (w1 : Nat) : Nat → zh_T → Int32 → Option (Unit × zh_T)
  | 0, _, _ => none
  | n + 1, X, w2 =>
    zb1 (zgr X w0 2 0) fun a9 =>
    zb1 (zln X 2 a9) fun v10 =>
    if v10 ≤ w2 then
      some ((), X)
    else
      zb1 (zgr X w0 2 0) fun a14 =>
      zb1 (zgr X w0 2 0) fun a16 =>
      zb1 (zar X 2 a16 w2) fun a18 =>
      zb1 (zsr X 2 1 a14 (w2 - 1) a18) fun X19 =>
      L_Journal_keepLatest_18 N w0 w1 n X19 (w2 + 1)
def f_Journal_keepLatest (N : Nat) (X : zh_T) (x0 : Nat) : Option (Unit × zh_T) :=
  zb1 (zgi X x0 2 1) fun v2 =>
  if 4 < v2 then
    zb1 (zgr X x0 2 0) fun a5 =>
    zb1 (zar X 2 a5 0) fun a7 =>
    zb2 (L_Journal_keepLatest_18 N x0 a7 N X 1) fun v21 X23 =>
    zb1 (zgr X23 x0 2 0) fun a25 =>
    zb1 (zgr X23 x0 2 0) fun a27 =>
    zb1 (zln X23 2 a27) fun v28 =>
    zb1 (zsr X23 2 1 a25 (v28 - 1) a7) fun X30 =>
    zb1 (zp X30 x0 2 1 (.int 4)) fun X32 =>
    some ((), X32)
  else
    some ((), X)
def f_Journal_latest (N : Nat) (X : zh_T) (x0 : Nat) : Option (Option Nat) :=
  zb1 (zgi X x0 2 1) fun v2 =>
  if v2 ≤ 0 then
    some none
  else
    zb1 (zgr X x0 2 0) fun a5 =>
    zb1 (zgi X x0 2 1) fun v7 =>
    zb1 (zar X 2 a5 (v7 - 1)) fun a9 =>
    some (some a9)
def L_Records_exchange_2 (N : Nat) (w0 : Nat) (w1 : Nat) (w2 : Nat) : Nat → zh_T → Int32 → Option (Unit × zh_T)
  | 0, _, _ => none
  | n + 1, X, w3 =>
    zb1 (zgr X w0 5 0) fun a2 =>
    zb1 (zln X 0 a2) fun v3 =>
    if v3 ≤ w3 then
      some ((), X)
    else
      zb1 (zgr X w0 5 0) fun a7 =>
      zb1 (zgr X w0 5 0) fun a9 =>
      zb1 (zai X a9 w3) fun v10 =>
      zb1 (zgr X w1 5 0) fun a13 =>
      zb1 (zai X a13 w3) fun v14 =>
      zb1 (zgr X w2 5 0) fun a17 =>
      zb1 (zai X a17 w3) fun v18 =>
      zb1 (zsi X a7 w3 ((v10 &&& (v14 ^^^ (-1))) ||| v18)) fun X20 =>
      L_Records_exchange_2 N w0 w1 w2 n X20 (w3 + 1)
def f_Records_exchange (N : Nat) (X : zh_T) (x0 : Nat) (x1 : Nat) (x2 : Nat) : Option (Unit × zh_T) :=
  zb2 (L_Records_exchange_2 N x0 x1 x2 N X 0) fun v22 X24 =>
  some ((), X24)
def f_Primary_becomeLatest (N : Nat) (X : zh_T) (x0 : Nat) : Option (Unit × zh_T) :=
  zb1 (zgr X x0 4 2) fun a2 =>
  zb1 (zck X a2 2) fun _ =>
  zb1 (f_Journal_latest N X a2) fun q5 =>
  zbo q5 (
    some ((), X)) fun a6 =>
  zb1 (zgr X x0 4 0) fun a8 =>
  zb1 (zgr X a6 1 0) fun a10 =>
  zb1 (zgr X a6 1 1) fun a12 =>
  zb1 (zck X a8 5) fun _ =>
  zb2 (f_Records_exchange N X a8 a10 a12) fun _ X16 =>
  zb1 (zgi X16 a6 1 2) fun v18 =>
  zb1 (zp X16 x0 4 6 (.int (v18 + 1))) fun X19 =>
  zb1 (zgr X19 x0 4 2) fun a22 =>
  zb1 (zck X19 a22 2) fun _ =>
  zb2 (f_Journal_keepLatest N X19 a22) fun _ X26 =>
  some ((), X26)
def f_Primary_takeStep (N : Nat) (X : zh_T) (x0 : Nat) (x1 : Int32) : Option (Unit × zh_T) :=
  if x1 = 1 then
    zb1 (zgr X x0 4 2) fun a3 =>
    zb1 (zgi X x0 4 6) fun v5 =>
    zb1 (zgr X x0 4 0) fun a7 =>
    zb1 (zgr X x0 4 1) fun a9 =>
    zb1 (zck X a3 2) fun _ =>
    zb2 (f_Journal_append N X a3 v5 a7 a9) fun _ X13 =>
    some ((), X13)
  else
    if x1 = 2 then
      zb1 (zgr X x0 4 2) fun a16 =>
      zb1 (zck X a16 2) fun _ =>
      zb2 (f_Journal_markLatest N X a16) fun _ X20 =>
      some ((), X20)
    else
      zb1 (zck X x0 4) fun _ =>
      zb2 (f_Primary_becomeLatest N X x0) fun _ X24 =>
      some ((), X24)
def L_Primary_writeNext_2 (N : Nat) (w0 : Nat) : Nat → zh_T → Int32 → Option ((Int32 × zh_T) ⊕ (Unit × zh_T))
  | 0, _, _ => none
  | n + 1, X, w1 =>
    if 3 < w1 then
      some (Sum.inr ((), X))
    else
      zb1 (zgi X w0 4 7) fun v3 =>
      if w1 = v3 then
        some (Sum.inl (0, X))
      else
        zb1 (zck X w0 4) fun _ =>
        zb2 (f_Primary_takeStep N X w0 w1) fun _ X8 =>
        L_Primary_writeNext_2 N w0 n X8 (w1 + 1)
def f_Primary_writeNext (N : Nat) (X : zh_T) (x0 : Nat) : Option (Int32 × zh_T) :=
  zbt (L_Primary_writeNext_2 N x0 N X 1) (fun r0 X0 => some (r0, X0)) fun v9 X11 =>
  some (1, X11)
def L_Records_sameAs_2 (N : Nat) (X : zh_T) (w0 : Nat) (w1 : Nat) : Nat → Int32 → Option (Int32 ⊕ Unit)
  | 0, _ => none
  | n + 1, w2 =>
    zb1 (zgr X w0 5 0) fun a2 =>
    zb1 (zln X 0 a2) fun v3 =>
    if v3 ≤ w2 then
      some (Sum.inr ())
    else
      zb1 (zgr X w0 5 0) fun a7 =>
      zb1 (zai X a7 w2) fun v8 =>
      zb1 (zgr X w1 5 0) fun a11 =>
      zb1 (zai X a11 w2) fun v12 =>
      if v8 = v12 then
        L_Records_sameAs_2 N X w0 w1 n (w2 + 1)
      else
        some (Sum.inl 0)
def f_Records_sameAs (N : Nat) (X : zh_T) (x0 : Nat) (x1 : Nat) : Option Int32 :=
  zbs (L_Records_sameAs_2 N X x0 x1 N 0) (fun r0 => some r0) fun v15 =>
  some 1
def L_Records_total_4 (N : Nat) (X : zh_T) (w0 : Nat) : Nat → Int32 → Int32 → Option Int32
  | 0, _, _ => none
  | n + 1, w1, w2 =>
    zb1 (zgr X w0 5 0) fun a2 =>
    zb1 (zln X 0 a2) fun v3 =>
    if v3 ≤ w2 then
      some w1
    else
      zb1 (zgr X w0 5 0) fun a7 =>
      zb1 (zai X a7 w2) fun v8 =>
      zb1 (f_Integer_bitCount N X v8) fun v11 =>
      L_Records_total_4 N X w0 n (w1 + v11) (w2 + 1)
def f_Records_total (N : Nat) (X : zh_T) (x0 : Nat) : Option Int32 :=
  zb1 (L_Records_total_4 N X x0 N 0 0) fun v12 =>
  some v12
def f_ZoneNodes_makeChanges (N : Nat) (X : zh_T) (x0 : Nat) : Option (Int32 × zh_T) :=
  zb1 (zgr X x0 8 4) fun a2 =>
  zb1 (zgr X a2 4 1) fun a4 =>
  zb1 (zgr X x0 8 4) fun a6 =>
  zb1 (zgr X a6 4 0) fun a8 =>
  zb1 (zck X a4 5) fun _ =>
  zb2 (f_Records_copyFrom N X a4 a8) fun _ X12 =>
  zb1 (zgr X12 x0 8 2) fun a14 =>
  zb1 (zck X12 a14 0) fun _ =>
  zb2 (f_Draft_changeRecords N X12 a14 a4) fun _ X18 =>
  zb1 (zck X18 a4 5) fun _ =>
  zb1 (f_Records_total N X18 a4) fun v21 =>
  if v21 ≤ 24 then
    zb1 (zgr X18 x0 8 4) fun a24 =>
    zb1 (zgr X18 a24 4 0) fun a26 =>
    zb1 (zck X18 a4 5) fun _ =>
    zb1 (f_Records_sameAs N X18 a4 a26) fun v29 =>
    if v29 = 0 then
      zb1 (zgr X18 x0 8 4) fun a32 =>
      zb1 (zck X18 a32 4) fun _ =>
      zb2 (f_Primary_writeNext N X18 a32) fun v35 X36 =>
      if v35 = 0 then
        zb1 (zck X36 x0 8) fun _ =>
        zb2 (f_ZoneNodes_takePrimaryDown N X36 x0) fun _ X45 =>
        some ((-1), X45)
      else
        zb1 (zck X36 x0 8) fun _ =>
        zb2 (f_ZoneNodes_notifySecondaries N X36 x0) fun _ X41 =>
        some (0, X41)
    else
      some (0, X18)
  else
    some (2, X18)
def f_ZoneNodes_message (N : Nat) (X : zh_T) (x0 : Nat) (x1 : Int32) : Option Int32 :=
  zb1 (zgr X x0 8 3) fun a2 =>
  zb1 (zck X a2 7) fun _ =>
  zb1 (f_Wire_at N X a2 x1) fun q5 =>
  zbo q5 (
    some (-1)) fun a6 =>
  zb1 (zgi X a6 3 1) fun v8 =>
  zb1 (zgi X a6 3 2) fun v10 =>
  zb1 (zgi X a6 3 1) fun v12 =>
  if v12 = 5 then
    zb1 (zgi X a6 3 5) fun v15 =>
    zb1 (zgi X a6 3 6) fun v17 =>
    some ((((100000 * v8) + (10000 * v10)) + (100 * v15)) + v17)
  else
    some ((100000 * v8) + (10000 * v10))
end
section
def f_ZoneNodes_messages (N : Nat) (X : zh_T) (x0 : Nat) : Option Int32 :=
  zb1 (zgr X x0 8 3) fun a2 =>
  zb1 (zgi X a2 7 1) fun v4 =>
  some v4
def f_Draft_addNeed (N : Nat) (X : zh_T) (x0 : Nat) (x1 : Int32) : Option (Int32 × zh_T) :=
  zb1 (zgi X x0 0 2) fun v2 =>
  if v2 < 4 then
    zb1 (zgr X x0 0 0) fun a5 =>
    zb1 (zgi X x0 0 2) fun v7 =>
    zb1 (zsi X a5 v7 x1) fun X8 =>
    zb1 (zgi X8 x0 0 2) fun v11 =>
    zb1 (zp X8 x0 0 2 (.int (v11 + 1))) fun X12 =>
    some (1, X12)
  else
    some (0, X)
def f_ZoneNodes_need (N : Nat) (X : zh_T) (x0 : Nat) (x1 : Int32) (x2 : Int32) (x3 : Int32) (x4 : Int32) : Option (Int32 × zh_T) :=
  zb1 (f_ZoneNodes_within N X x1 0 4) fun v2 =>
  if v2 = 0 then
    some (0, X)
  else
    zb1 (f_ZoneNodes_isRecord N X x2 x3 x4) fun v5 =>
    if v5 = 0 then
      some (0, X)
    else
      zb1 (zgr X x0 8 2) fun a8 =>
      zb1 (f_ZoneNodes_coded N X x1 x2 x3 x4) fun v10 =>
      zb1 (zck X a8 0) fun _ =>
      zb2 (f_Draft_addNeed N X a8 v10) fun v13 X14 =>
      if v13 = 0 then
        some (0, X14)
      else
        some (1, X14)
def f_Secondary_isExpired (N : Nat) (X : zh_T) (x0 : Nat) (x1 : Int32) : Option Int32 :=
  zb1 (zgi X x0 6 12) fun v2 =>
  if x1 < v2 then
    some 0
  else
    some 1
def f_ZoneNodes_query (N : Nat) (X : zh_T) (x0 : Nat) (x1 : Int32) (x2 : Int32) (x3 : Int32) : Option Int32 :=
  zb1 (zck X x0 8) fun _ =>
  zb1 (f_ZoneNodes_recordsOf N X x0 x1) fun q3 =>
  zbo q3 (
    some (-1)) fun a4 =>
  zb1 (f_ZoneNodes_isRecord N X x2 x3 0) fun v6 =>
  if v6 = 0 then
    some (-1)
  else
    zb1 (zck X x0 8) fun _ =>
    zb1 (f_ZoneNodes_isUp N X x0 x1) fun v10 =>
    if v10 = 0 then
      some (-1)
    else
      if x1 = 0 then
        zb1 (f_ZoneNodes_lookUp N X a4 x2 x3) fun v14 =>
        some v14
      else
        zb1 (zgr X x0 8 5) fun a16 =>
        zb1 (zar X 4 a16 (x1 - 1)) fun a18 =>
        zb1 (zgi X x0 8 6) fun v20 =>
        zb1 (zck X a18 6) fun _ =>
        zb1 (f_Secondary_isExpired N X a18 v20) fun v23 =>
        if v23 = 0 then
          zb1 (f_ZoneNodes_lookUp N X a4 x2 x3) fun v26 =>
          some v26
        else
          some (-1)
def f_Draft_mixed (N : Nat) (X : zh_T) (x0 : Int32) (x1 : Int32) : Option Int32 :=
  some (((x0 ^^^ x1) * 16777619) ^^^ (zi_ushr ((x0 ^^^ x1) * 16777619) 15))
def L_Draft_sealWith_12 (N : Nat) (X : zh_T) (w0 : Nat) (w2 : Int32) : Nat → Int32 → Int32 → Option Int32
  | 0, _, _ => none
  | n + 1, w3, w4 =>
    zb1 (zgi X w0 0 2) fun v6 =>
    if v6 ≤ w4 then
      some w3
    else
      zb1 (zgr X w0 0 0) fun a9 =>
      zb1 (zai X a9 w4) fun v10 =>
      zb1 (f_Draft_mixed N X w3 v10) fun v13 =>
      L_Draft_sealWith_12 N X w0 w2 n v13 (w4 + 1)
def L_Draft_sealWith_51 (N : Nat) (X : zh_T) (w0 : Nat) (w2 : Int32) : Nat → Int32 → Int32 → Option Int32
  | 0, _, _ => none
  | n + 1, w3, w4 =>
    zb1 (zgi X w0 0 3) fun v21 =>
    if v21 ≤ w4 then
      some w3
    else
      zb1 (zgr X w0 0 1) fun a24 =>
      zb1 (zai X a24 w4) fun v25 =>
      zb1 (f_Draft_mixed N X w3 v25) fun v28 =>
      L_Draft_sealWith_51 N X w0 w2 n v28 (w4 + 1)
def f_Draft_sealWith (N : Nat) (X : zh_T) (x0 : Nat) (x1 : Int32) (x2 : Int32) : Option Int32 :=
  zb1 (zgi X x0 0 2) fun v2 =>
  zb1 (f_Draft_mixed N X x1 v2) fun v4 =>
  zb1 (L_Draft_sealWith_12 N X x0 x2 N v4 0) fun v14 =>
  zb1 (zgi X x0 0 3) fun v17 =>
  zb1 (f_Draft_mixed N X v14 v17) fun v19 =>
  zb1 (L_Draft_sealWith_51 N X x0 x2 N v19 0) fun v29 =>
  zb1 (f_Draft_mixed N X v29 x2) fun v32 =>
  some v32
def f_Draft_answerTo (N : Nat) (X : zh_T) (x0 : Int32) (x1 : Nat) : Option Int32 :=
  zb1 (f_ZoneNodes_nameOf N X x0) fun v2 =>
  zb1 (f_ZoneNodes_typeOf N X x0) fun v4 =>
  zb1 (zck X x1 5) fun _ =>
  zb1 (f_Records_valuesOf N X x1 v2 v4) fun v7 =>
  zb1 (f_ZoneNodes_formOf N X x0) fun v9 =>
  if v9 = 0 then
    zb1 (zck X x1 5) fun _ =>
    zb1 (f_Records_isUsed N X x1 v2) fun v13 =>
    if v13 = 0 then
      some 3
    else
      some 0
  else
    if v9 = 1 then
      zb1 (zck X x1 5) fun _ =>
      zb1 (f_Records_isUsed N X x1 v2) fun v18 =>
      if v18 = 0 then
        some 0
      else
        some 6
    else
      if v9 = 2 then
        if v7 = 0 then
          some 8
        else
          some 0
      else
        if v9 = 3 then
          some 0
        else
          if v9 = 4 then
            if v7 = 0 then
              some 0
            else
              some 7
          else
            some 0
def L_Draft_isExact_5 (N : Nat) (X : zh_T) (w0 : Nat) (w1 : Int32) (w2 : Nat) : Nat → Int32 → Int32 → Option Int32
  | 0, _, _ => none
  | n + 1, w3, w4 =>
    zb1 (zgi X w0 0 2) fun v2 =>
    if v2 ≤ w4 then
      some w3
    else
      zb1 (zgr X w0 0 0) fun a5 =>
      zb1 (zai X a5 w4) fun v6 =>
      if (v6 / 10) = (w1 / 10) then
        zb1 (zgr X w0 0 0) fun a10 =>
        zb1 (zai X a10 w4) fun v11 =>
        zb1 (f_ZoneNodes_valueOf N X v11) fun v14 =>
        L_Draft_isExact_5 N X w0 w1 w2 n (w3 ||| (1 <<< (v14 &&& 31))) (w4 + 1)
      else
        L_Draft_isExact_5 N X w0 w1 w2 n w3 (w4 + 1)
def f_Draft_isExact (N : Nat) (X : zh_T) (x0 : Nat) (x1 : Int32) (x2 : Nat) : Option Int32 :=
  zb1 (L_Draft_isExact_5 N X x0 x1 x2 N 0 0) fun v15 =>
  zb1 (f_ZoneNodes_nameOf N X x1) fun v18 =>
  zb1 (f_ZoneNodes_typeOf N X x1) fun v20 =>
  zb1 (zck X x2 5) fun _ =>
  zb1 (f_Records_valuesOf N X x2 v18 v20) fun v23 =>
  if v15 = v23 then
    some 1
  else
    some 0
def L_Draft_unmetNeed_2 (N : Nat) (X : zh_T) (w0 : Nat) (w1 : Nat) : Nat → Int32 → Option (Int32 ⊕ Unit)
  | 0, _ => none
  | n + 1, w2 =>
    zb1 (zgi X w0 0 2) fun v2 =>
    if v2 ≤ w2 then
      some (Sum.inr ())
    else
      zb1 (zgr X w0 0 0) fun a5 =>
      zb1 (zai X a5 w2) fun v6 =>
      zb1 (f_Draft_answerTo N X v6 w1) fun v9 =>
      if v9 = 0 then
        L_Draft_unmetNeed_2 N X w0 w1 n (w2 + 1)
      else
        some (Sum.inl v9)
def L_Draft_unmetNeed_35 (N : Nat) (X : zh_T) (w0 : Nat) (w1 : Nat) : Nat → Int32 → Option (Int32 ⊕ Unit)
  | 0, _ => none
  | n + 1, w2 =>
    zb1 (zgi X w0 0 2) fun v14 =>
    if v14 ≤ w2 then
      some (Sum.inr ())
    else
      zb1 (zgr X w0 0 0) fun a17 =>
      zb1 (zai X a17 w2) fun v18 =>
      zb1 (f_ZoneNodes_formOf N X v18) fun v21 =>
      if v21 = 3 then
        zb1 (zgr X w0 0 0) fun a24 =>
        zb1 (zai X a24 w2) fun v25 =>
        zb1 (zck X w0 0) fun _ =>
        zb1 (f_Draft_isExact N X w0 v25 w1) fun v29 =>
        if v29 = 0 then
          some (Sum.inl 8)
        else
          L_Draft_unmetNeed_35 N X w0 w1 n (w2 + 1)
      else
        L_Draft_unmetNeed_35 N X w0 w1 n (w2 + 1)
def f_Draft_unmetNeed (N : Nat) (X : zh_T) (x0 : Nat) (x1 : Nat) : Option Int32 :=
  zbs (L_Draft_unmetNeed_2 N X x0 x1 N 0) (fun r0 => some r0) fun v11 =>
  zbs (L_Draft_unmetNeed_35 N X x0 x1 N 0) (fun r0 => some r0) fun v31 =>
  some 0
def f_ZoneNodes_refusal (N : Nat) (X : zh_T) (x0 : Nat) (x1 : Int32) (x2 : Int32) (x3 : Int32) : Option Int32 :=
  zb1 (zck X x0 8) fun _ =>
  zb1 (f_ZoneNodes_knowsKey N X x0 x1) fun v3 =>
  if v3 = 0 then
    some 17
  else
    zb1 (zgr X x0 8 2) fun a6 =>
    zb1 (zgr X x0 8 0) fun a8 =>
    zb1 (zai X a8 x1) fun v9 =>
    zb1 (zck X a6 0) fun _ =>
    zb1 (f_Draft_sealWith N X a6 v9 x2) fun v13 =>
    if v13 = x3 then
      zb1 (zgi X x0 8 6) fun v16 =>
      if 0 < (lg_cmp (x2.toInt64 - v16.toInt64) 5) then
        some 18
      else
        if 0 ≤ (lg_cmp (x2.toInt64 - v16.toInt64) (-5)) then
          zb1 (zgr X x0 8 2) fun a20 =>
          zb1 (zgr X x0 8 4) fun a22 =>
          zb1 (zgr X a22 4 0) fun a24 =>
          zb1 (zck X a20 0) fun _ =>
          zb1 (f_Draft_unmetNeed N X a20 a24) fun v27 =>
          some v27
        else
          some 18
    else
      some 16
def f_Journal_dropLatest (N : Nat) (X : zh_T) (x0 : Nat) : Option (Unit × zh_T) :=
  zb1 (zgi X x0 2 1) fun v2 =>
  if v2 ≤ 0 then
    some ((), X)
  else
    zb1 (zgi X x0 2 1) fun v5 =>
    zb1 (zp X x0 2 1 (.int (v5 - 1))) fun X6 =>
    some ((), X6)
def f_Primary_comeUp (N : Nat) (X : zh_T) (x0 : Nat) : Option (Unit × zh_T) :=
  zb1 (zpz X x0 4 8 1) fun X1 =>
  zb1 (zgr X1 x0 4 2) fun a4 =>
  zb1 (zck X1 a4 2) fun _ =>
  zb1 (f_Journal_latest N X1 a4) fun q7 =>
  zbo q7 (
    some ((), X1)) fun a8 =>
  zb1 (zgi X1 a8 1 2) fun v10 =>
  zb1 (zgi X1 x0 4 6) fun v12 =>
  if v10 = v12 then
    zb1 (zgi X1 a8 1 3) fun v15 =>
    if v15 = 0 then
      zb1 (zgr X1 x0 4 2) fun a18 =>
      zb1 (zck X1 a18 2) fun _ =>
      zb2 (f_Journal_dropLatest N X1 a18) fun _ X22 =>
      some ((), X22)
    else
      zb1 (zck X1 x0 4) fun _ =>
      zb2 (f_Primary_becomeLatest N X1 x0) fun _ X26 =>
      some ((), X26)
  else
    some ((), X1)
def f_ZoneNodes_restart (N : Nat) (X : zh_T) (x0 : Nat) (x1 : Int32) : Option (Int32 × zh_T) :=
  zb1 (f_ZoneNodes_isNode N X x1) fun v2 =>
  if v2 = 0 then
    some (0, X)
  else
    zb1 (zck X x0 8) fun _ =>
    zb1 (f_ZoneNodes_isUp N X x0 x1) fun v6 =>
    if v6 = 0 then
      if x1 = 0 then
        zb1 (zgr X x0 8 4) fun a20 =>
        zb1 (zck X a20 4) fun _ =>
        zb2 (f_Primary_comeUp N X a20) fun _ X24 =>
        zb1 (zck X24 x0 8) fun _ =>
        zb2 (f_ZoneNodes_notifySecondaries N X24 x0) fun _ X28 =>
        some (1, X28)
      else
        zb1 (zgr X x0 8 5) fun a10 =>
        zb1 (zar X 4 a10 (x1 - 1)) fun a12 =>
        zb1 (zgi X x0 8 6) fun v14 =>
        zb1 (zck X a12 6) fun _ =>
        zb2 (f_Secondary_comeUp N X a12 v14) fun _ X18 =>
        some (1, X18)
    else
      some (0, X)
def f_ZoneNodes_seal (N : Nat) (X : zh_T) (x0 : Nat) (x1 : Int32) (x2 : Int32) : Option Int32 :=
  zb1 (zck X x0 8) fun _ =>
  zb1 (f_ZoneNodes_knowsKey N X x0 x1) fun v3 =>
  if v3 = 0 then
    some 0
  else
    zb1 (zgr X x0 8 2) fun a6 =>
    zb1 (zgr X x0 8 0) fun a8 =>
    zb1 (zai X a8 x1) fun v9 =>
    zb1 (zck X a6 0) fun _ =>
    zb1 (f_Draft_sealWith N X a6 v9 x2) fun v13 =>
    some v13
def f_ZoneNodes_serial (N : Nat) (X : zh_T) (x0 : Nat) (x1 : Int32) : Option Int32 :=
  zb1 (zck X x0 8) fun _ =>
  zb1 (f_ZoneNodes_recordsOf N X x0 x1) fun q3 =>
  zbo q3 (
    some 0) fun a4 =>
  if x1 = 0 then
    zb1 (zgr X x0 8 4) fun a13 =>
    zb1 (zgi X a13 4 6) fun v15 =>
    some v15
  else
    zb1 (zgr X x0 8 5) fun a7 =>
    zb1 (zar X 4 a7 (x1 - 1)) fun a9 =>
    zb1 (zgi X a9 6 8) fun v11 =>
    some v11
def f_ZoneNodes_size (N : Nat) (X : zh_T) (x0 : Nat) (x1 : Int32) : Option Int32 :=
  zb1 (zck X x0 8) fun _ =>
  zb1 (f_ZoneNodes_recordsOf N X x0 x1) fun q3 =>
  zbo q3 (
    some (-1)) fun a4 =>
  zb1 (zck X a4 5) fun _ =>
  zb1 (f_Records_total N X a4) fun v7 =>
  some v7
def f_ZoneNodes_state (N : Nat) (X : zh_T) (x0 : Nat) (x1 : Int32) : Option Int32 :=
  zb1 (f_ZoneNodes_isNode N X x1) fun v2 =>
  if v2 = 0 then
    some (-1)
  else
    zb1 (zck X x0 8) fun _ =>
    zb1 (f_ZoneNodes_isUp N X x0 x1) fun v6 =>
    if v6 = 0 then
      some 3
    else
      if x1 = 0 then
        some 0
      else
        zb1 (zgr X x0 8 5) fun a10 =>
        zb1 (zar X 4 a10 (x1 - 1)) fun a12 =>
        zb1 (zgi X a12 6 9) fun v14 =>
        some v14
def J_Secondary_askIfTimeHasCome_47 (N : Nat) (X : zh_T) (w0 : Nat) (w1 : Int32) (w2 : Nat) (w3 : Int32) (u0 : Int32) : Option (Unit × zh_T) :=
  zb1 (zgi X w0 6 6) fun v8 =>
  if v8 = 0 then
    some ((), X)
  else
    if w3 = 0 then
      if u0 = 0 then
        some ((), X)
      else
        zb1 (zck X w0 6) fun _ =>
        zb2 (f_Secondary_ask N X w0 w1 w2) fun _ X19 =>
        some ((), X19)
    else
      zb1 (zck X w0 6) fun _ =>
      zb2 (f_Secondary_ask N X w0 w1 w2) fun _ X14 =>
      some ((), X14)
def f_Secondary_askIfTimeHasCome (N : Nat) (X : zh_T) (x0 : Nat) (x1 : Int32) (x2 : Nat) : Option (Unit × zh_T) :=
  zb1 (zgi X x0 6 9) fun v2 =>
  if v2 = 1 then
    zb1 (zgi X x0 6 11) fun v24 =>
    zb1 (zgi X x0 6 2) fun v26 =>
    if (x1 - v26) < v24 then
      zb1 (zgi X x0 6 9) fun v29 =>
      if v29 = 0 then
        zb1 (zgi X x0 6 10) fun v32 =>
        if x1 < v32 then
          J_Secondary_askIfTimeHasCome_47 N X x0 x1 x2 0 0
        else
          J_Secondary_askIfTimeHasCome_47 N X x0 x1 x2 0 1
      else
        J_Secondary_askIfTimeHasCome_47 N X x0 x1 x2 0 0
    else
      zb1 (zgi X x0 6 9) fun v35 =>
      if v35 = 0 then
        zb1 (zgi X x0 6 10) fun v38 =>
        if x1 < v38 then
          J_Secondary_askIfTimeHasCome_47 N X x0 x1 x2 1 0
        else
          J_Secondary_askIfTimeHasCome_47 N X x0 x1 x2 1 1
      else
        J_Secondary_askIfTimeHasCome_47 N X x0 x1 x2 1 0
  else
    zb1 (zgi X x0 6 9) fun v5 =>
    if v5 = 0 then
      zb1 (zgi X x0 6 10) fun v21 =>
      if x1 < v21 then
        J_Secondary_askIfTimeHasCome_47 N X x0 x1 x2 0 0
      else
        J_Secondary_askIfTimeHasCome_47 N X x0 x1 x2 0 1
    else
      J_Secondary_askIfTimeHasCome_47 N X x0 x1 x2 0 0
def L_ZoneNodes_tick_31 (N : Nat) (w0 : Nat) (w1 : Int32) (w2 : Int32) : Nat → zh_T → Int32 → Option (Unit × zh_T)
  | 0, _, _ => none
  | n + 1, X, w3 =>
    if 2 ≤ w3 then
      some ((), X)
    else
      zb1 (zgr X w0 8 5) fun a11 =>
      zb1 (zar X 4 a11 w3) fun a13 =>
      zb1 (zgi X w0 8 6) fun v15 =>
      zb1 (zgr X w0 8 3) fun a17 =>
      zb1 (zck X a13 6) fun _ =>
      zb2 (f_Secondary_askIfTimeHasCome N X a13 v15 a17) fun _ X21 =>
      L_ZoneNodes_tick_31 N w0 w1 w2 n X21 (w3 + 1)
def L_ZoneNodes_tick_14 (N : Nat) (w0 : Nat) (w1 : Int32) : Nat → zh_T → Int32 → Option (Unit × zh_T)
  | 0, _, _ => none
  | n + 1, X, w2 =>
    if w1 ≤ w2 then
      some ((), X)
    else
      zb1 (zgi X w0 8 6) fun v6 =>
      zb1 (zp X w0 8 6 (.int (v6 + 1))) fun X7 =>
      zb2 (L_ZoneNodes_tick_31 N w0 w1 w2 N X7 0) fun v22 X24 =>
      L_ZoneNodes_tick_14 N w0 w1 n X24 (w2 + 1)
def f_ZoneNodes_tick (N : Nat) (X : zh_T) (x0 : Nat) (x1 : Int32) : Option (Int32 × zh_T) :=
  zb1 (f_ZoneNodes_within N X x1 1 20) fun v2 =>
  if v2 = 0 then
    some (0, X)
  else
    zb2 (L_ZoneNodes_tick_14 N x0 x1 N X 0) fun v25 X27 =>
    some (1, X27)
def f_Draft_empty (N : Nat) (X : zh_T) (x0 : Nat) : Option (Unit × zh_T) :=
  zb1 (zp X x0 0 2 (.int 0)) fun X1 =>
  zb1 (zp X1 x0 0 3 (.int 0)) fun X3 =>
  some ((), X3)
def f_ZoneNodes_update (N : Nat) (X : zh_T) (x0 : Nat) (x1 : Int32) (x2 : Int32) (x3 : Int32) : Option (Int32 × zh_T) :=
  zb1 (zgr X x0 8 4) fun a2 =>
  zb1 (zgi X a2 4 8) fun v4 =>
  if v4 = 0 then
    some ((-1), X)
  else
    zb1 (zck X x0 8) fun _ =>
    zb1 (f_ZoneNodes_refusal N X x0 x1 x2 x3) fun v8 =>
    if v8 = 0 then
      zb1 (zck X x0 8) fun _ =>
      zb2 (f_ZoneNodes_makeChanges N X x0) fun v18 X19 =>
      zb1 (zgr X19 x0 8 2) fun a21 =>
      zb1 (zck X19 a21 0) fun _ =>
      zb2 (f_Draft_empty N X19 a21) fun _ X25 =>
      some (v18, X25)
    else
      zb1 (zgr X x0 8 2) fun a11 =>
      zb1 (zck X a11 0) fun _ =>
      zb2 (f_Draft_empty N X a11) fun _ X15 =>
      some (v8, X15)
def f_ZoneNodesModel_place (N : Nat) (X : zh_T) (x0 : Int32) (x1 : Int32) (x2 : Int32) : Option Int32 :=
  some (((32 * x0) + (8 * (x1 - 1))) + x2)
def f_ZoneNodesModel_rest (N : Nat) (X : zh_T) (x0 : Nat) (x1 : Int32) (x2 : Int32) : Option (Unit × zh_T) :=
  zb1 (zgr X x0 9 9) fun a2 =>
  zb1 (zsi X a2 x1 0) fun X3 =>
  zb1 (zgr X3 x0 9 10) fun a6 =>
  zb1 (zgi X3 x0 9 3) fun v8 =>
  zb1 (zsi X3 a6 x1 (v8 + x2)) fun X9 =>
  some ((), X9)
def L_ZoneNodesModel_init_280 (N : Nat) (w0 : Nat) : Nat → zh_T → Int32 → Option (Unit × zh_T)
  | 0, _, _ => none
  | n + 1, X, w5 =>
    if 3 ≤ w5 then
      some ((), X)
    else
      zb1 (zgr X w0 9 4) fun a141 =>
      zb1 (zsz X a141 w5 1) fun X142 =>
      L_ZoneNodesModel_init_280 N w0 n X142 (w5 + 1)
def J_ZoneNodesModel_init_222 (N : Nat) (X : zh_T) (w0 : Nat) (w1 : Int32) (w4 : Int32) (u0 : Nat) (u1 : Int32) : Option (Unit × zh_T) :=
  zb1 (zp X u0 9 1 (.int u1)) fun X120 =>
  if w4 < 10 then
    zb1 (zp X120 w0 9 2 (.int 60)) fun X123 =>
    zb1 (zgr X123 w0 9 6) fun a126 =>
    zb1 (zsi X123 a126 0 w1) fun X127 =>
    zb1 (zgr X127 w0 9 5) fun a130 =>
    zb1 (zsz X127 a130 0 1) fun X131 =>
    zb1 (zgr X131 w0 9 7) fun a134 =>
    zb1 (f_ZoneNodesModel_place N X131 0 3 1) fun v136 =>
    zb1 (zsz X131 a134 v136 1) fun X137 =>
    zb2 (L_ZoneNodesModel_init_280 N w0 N X137 0) fun v144 X146 =>
    zb1 (zck X146 w0 9) fun _ =>
    zb2 (f_ZoneNodesModel_rest N X146 w0 1 1) fun _ X150 =>
    zb1 (zck X150 w0 9) fun _ =>
    zb2 (f_ZoneNodesModel_rest N X150 w0 2 1) fun _ X154 =>
    zb1 (zgr X154 w0 9 11) fun a156 =>
    zb1 (zgi X154 w0 9 2) fun v158 =>
    zb1 (zsi X154 a156 1 v158) fun X159 =>
    zb1 (zgr X159 w0 9 11) fun a162 =>
    zb1 (zgi X159 w0 9 2) fun v164 =>
    zb1 (zsi X159 a162 2 v164) fun X165 =>
    some ((), X165)
  else
    if 200 < w4 then
      zb1 (zp X120 w0 9 2 (.int 60)) fun X168 =>
      zb1 (zgr X168 w0 9 6) fun a171 =>
      zb1 (zsi X168 a171 0 w1) fun X172 =>
      zb1 (zgr X172 w0 9 5) fun a175 =>
      zb1 (zsz X172 a175 0 1) fun X176 =>
      zb1 (zgr X176 w0 9 7) fun a179 =>
      zb1 (f_ZoneNodesModel_place N X176 0 3 1) fun v181 =>
      zb1 (zsz X176 a179 v181 1) fun X182 =>
      zb2 (L_ZoneNodesModel_init_280 N w0 N X182 0) fun v184 X186 =>
      zb1 (zck X186 w0 9) fun _ =>
      zb2 (f_ZoneNodesModel_rest N X186 w0 1 1) fun _ X190 =>
      zb1 (zck X190 w0 9) fun _ =>
      zb2 (f_ZoneNodesModel_rest N X190 w0 2 1) fun _ X194 =>
      zb1 (zgr X194 w0 9 11) fun a196 =>
      zb1 (zgi X194 w0 9 2) fun v198 =>
      zb1 (zsi X194 a196 1 v198) fun X199 =>
      zb1 (zgr X199 w0 9 11) fun a202 =>
      zb1 (zgi X199 w0 9 2) fun v204 =>
      zb1 (zsi X199 a202 2 v204) fun X205 =>
      some ((), X205)
    else
      zb1 (zp X120 w0 9 2 (.int w4)) fun X207 =>
      zb1 (zgr X207 w0 9 6) fun a210 =>
      zb1 (zsi X207 a210 0 w1) fun X211 =>
      zb1 (zgr X211 w0 9 5) fun a214 =>
      zb1 (zsz X211 a214 0 1) fun X215 =>
      zb1 (zgr X215 w0 9 7) fun a218 =>
      zb1 (f_ZoneNodesModel_place N X215 0 3 1) fun v220 =>
      zb1 (zsz X215 a218 v220 1) fun X221 =>
      zb2 (L_ZoneNodesModel_init_280 N w0 N X221 0) fun v223 X225 =>
      zb1 (zck X225 w0 9) fun _ =>
      zb2 (f_ZoneNodesModel_rest N X225 w0 1 1) fun _ X229 =>
      zb1 (zck X229 w0 9) fun _ =>
      zb2 (f_ZoneNodesModel_rest N X229 w0 2 1) fun _ X233 =>
      zb1 (zgr X233 w0 9 11) fun a235 =>
      zb1 (zgi X233 w0 9 2) fun v237 =>
      zb1 (zsi X233 a235 1 v237) fun X238 =>
      zb1 (zgr X238 w0 9 11) fun a241 =>
      zb1 (zgi X238 w0 9 2) fun v243 =>
      zb1 (zsi X238 a241 2 v243) fun X244 =>
      some ((), X244)
def f_ZoneNodesModel_init (N : Nat) (X : zh_T) (x0 : Nat) (x1 : Int32) (x2 : Int32) (x3 : Int32) (x4 : Int32) : Option (Unit × zh_T) :=
  zb2 (zna X 1 3) fun a1 X2 =>
  zb1 (zp X2 x0 9 4 (.ref a1)) fun X4 =>
  zb2 (zna X4 1 3) fun a6 X7 =>
  zb1 (zp X7 x0 9 5 (.ref a6)) fun X9 =>
  zb2 (zna X9 0 3) fun a11 X12 =>
  zb1 (zp X12 x0 9 6 (.ref a11)) fun X14 =>
  zb2 (zna X14 1 768) fun a16 X17 =>
  zb1 (zp X17 x0 9 7 (.ref a16)) fun X19 =>
  zb2 (zna X19 1 768) fun a21 X22 =>
  zb1 (zp X22 x0 9 8 (.ref a21)) fun X24 =>
  zb2 (zna X24 0 3) fun a26 X27 =>
  zb1 (zp X27 x0 9 9 (.ref a26)) fun X29 =>
  zb2 (zna X29 0 3) fun a31 X32 =>
  zb1 (zp X32 x0 9 10 (.ref a31)) fun X34 =>
  zb2 (zna X34 0 3) fun a36 X37 =>
  zb1 (zp X37 x0 9 11 (.ref a36)) fun X39 =>
  zb2 (zna X39 1 3) fun a41 X42 =>
  zb1 (zp X42 x0 9 12 (.ref a41)) fun X44 =>
  zb2 (zna X44 0 3) fun a46 X47 =>
  zb1 (zp X47 x0 9 13 (.ref a46)) fun X49 =>
  zb2 (zna X49 0 32) fun a51 X52 =>
  zb1 (zp X52 x0 9 16 (.ref a51)) fun X54 =>
  zb2 (zna X54 0 6) fun a56 X57 =>
  zb1 (zp X57 x0 9 19 (.ref a56)) fun X59 =>
  zb2 (zna X59 1 6) fun a61 X62 =>
  zb1 (zp X62 x0 9 20 (.ref a61)) fun X64 =>
  zb2 (zna X64 1 1536) fun a66 X67 =>
  zb1 (zp X67 x0 9 21 (.ref a66)) fun X69 =>
  zb2 (zna X69 0 6) fun a71 X72 =>
  zb1 (zp X72 x0 9 22 (.ref a71)) fun X74 =>
  zb2 (zna X74 1 256) fun a76 X77 =>
  zb1 (zp X77 x0 9 23 (.ref a76)) fun X79 =>
  zb2 (zna X79 0 96) fun a81 X82 =>
  zb1 (zp X82 x0 9 25 (.ref a81)) fun X84 =>
  zb2 (zna X84 0 96) fun a86 X87 =>
  zb1 (zp X87 x0 9 26 (.ref a86)) fun X89 =>
  zb2 (zna X89 0 96) fun a91 X92 =>
  zb1 (zp X92 x0 9 27 (.ref a91)) fun X94 =>
  zb2 (zna X94 0 96) fun a96 X97 =>
  zb1 (zp X97 x0 9 28 (.ref a96)) fun X99 =>
  zb2 (zna X99 0 96) fun a101 X102 =>
  zb1 (zp X102 x0 9 29 (.ref a101)) fun X104 =>
  zb2 (zna X104 1 96) fun a106 X107 =>
  zb1 (zp X107 x0 9 30 (.ref a106)) fun X109 =>
  zb2 (zna X109 1 96) fun a111 X112 =>
  zb1 (zp X112 x0 9 31 (.ref a111)) fun X114 =>
  if x2 < 4 then
    zb1 (zp X114 x0 9 0 (.int 10)) fun X117 =>
    if x3 < 2 then
      J_ZoneNodesModel_init_222 N X117 x0 x1 x4 x0 4
    else
      if 20 < x3 then
        J_ZoneNodesModel_init_222 N X117 x0 x1 x4 x0 4
      else
        J_ZoneNodesModel_init_222 N X117 x0 x1 x4 x0 x3
  else
    if 50 < x2 then
      zb1 (zp X114 x0 9 0 (.int 10)) fun X248 =>
      if x3 < 2 then
        J_ZoneNodesModel_init_222 N X248 x0 x1 x4 x0 4
      else
        if 20 < x3 then
          J_ZoneNodesModel_init_222 N X248 x0 x1 x4 x0 4
        else
          J_ZoneNodesModel_init_222 N X248 x0 x1 x4 x0 x3
    else
      zb1 (zp X114 x0 9 0 (.int x2)) fun X252 =>
      if x3 < 2 then
        J_ZoneNodesModel_init_222 N X252 x0 x1 x4 x0 4
      else
        if 20 < x3 then
          J_ZoneNodesModel_init_222 N X252 x0 x1 x4 x0 4
        else
          J_ZoneNodesModel_init_222 N X252 x0 x1 x4 x0 x3
def f_ZoneNodesModel_isMessage (N : Nat) (X : zh_T) (x0 : Nat) (x1 : Int32) : Option Int32 :=
  if x1 < 0 then
    some 0
  else
    zb1 (zgi X x0 9 24) fun v3 =>
    if v3 ≤ x1 then
      some 0
    else
      some 1
def f_ZoneNodesModel_alter (N : Nat) (X : zh_T) (x0 : Nat) (x1 : Int32) : Option (Int32 × zh_T) :=
  zb1 (zck X x0 9) fun _ =>
  zb1 (f_ZoneNodesModel_isMessage N X x0 x1) fun v3 =>
  if v3 = 0 then
    some (0, X)
  else
    zb1 (zgr X x0 9 25) fun a6 =>
    zb1 (zai X a6 x1) fun v7 =>
    if v7 = 5 then
      zb1 (zgr X x0 9 30) fun a11 =>
      zb1 (zaz X a11 x1) fun v12 =>
      if v12 = 0 then
        zb1 (zgr X x0 9 30) fun a16 =>
        zb1 (zsz X a16 x1 1) fun X17 =>
        some (1, X17)
      else
        some (0, X)
    else
      some (0, X)
def f_ZoneNodesModel_arm (N : Nat) (X : zh_T) (x0 : Nat) (x1 : Int32) : Option (Int32 × zh_T) :=
  if x1 < 0 then
    some (0, X)
  else
    if 3 < x1 then
      some (0, X)
    else
      zb1 (zgr X x0 9 4) fun a4 =>
      zb1 (zaz X a4 0) fun v5 =>
      if v5 = 0 then
        some (0, X)
      else
        zb1 (zp X x0 9 17 (.int x1)) fun X8 =>
        some (1, X8)
def f_ZoneNodesModel_isRecord (N : Nat) (X : zh_T) (x0 : Int32) (x1 : Int32) (x2 : Int32) : Option Int32 :=
  if x0 < 0 then
    some 0
  else
    if 7 < x0 then
      some 0
    else
      if x1 < 1 then
        some 0
      else
        if 4 < x1 then
          some 0
        else
          if x2 < 0 then
            some 0
          else
            if 7 < x2 then
              some 0
            else
              some 1
def f_ZoneNodesModel_say (N : Nat) (X : zh_T) (x0 : Nat) (x1 : Int32) (x2 : Int32) (x3 : Int32) (x4 : Int32) (x5 : Int32) : Option (Unit × zh_T) :=
  zb1 (zgr X x0 9 16) fun a2 =>
  zb1 (zsi X a2 (4 * x1) x2) fun X3 =>
  zb1 (zgr X3 x0 9 16) fun a6 =>
  zb1 (zsi X3 a6 ((4 * x1) + 1) x3) fun X7 =>
  zb1 (zgr X7 x0 9 16) fun a10 =>
  zb1 (zsi X7 a10 ((4 * x1) + 2) x4) fun X11 =>
  zb1 (zgr X11 x0 9 16) fun a14 =>
  zb1 (zsi X11 a14 ((4 * x1) + 3) x5) fun X15 =>
  some ((), X15)
def f_ZoneNodesModel_change (N : Nat) (X : zh_T) (x0 : Nat) (x1 : Int32) (x2 : Int32) (x3 : Int32) (x4 : Int32) : Option (Int32 × zh_T) :=
  if x1 < 0 then
    some (0, X)
  else
    if 3 < x1 then
      some (0, X)
    else
      zb1 (f_ZoneNodesModel_isRecord N X x2 x3 x4) fun v4 =>
      if v4 = 0 then
        some (0, X)
      else
        zb1 (zgi X x0 9 15) fun v7 =>
        if v7 < 4 then
          zb1 (zgi X x0 9 15) fun v10 =>
          zb1 (zck X x0 9) fun _ =>
          zb2 (f_ZoneNodesModel_say N X x0 (4 + v10) x1 x2 x3 x4) fun _ X14 =>
          zb1 (zgi X14 x0 9 15) fun v16 =>
          zb1 (zp X14 x0 9 15 (.int (v16 + 1))) fun X17 =>
          some (1, X17)
        else
          some (0, X)
def L_ZoneNodesModel_remove_12 (N : Nat) (w0 : Nat) : Nat → zh_T → Int32 → Option (Unit × zh_T)
  | 0, _, _ => none
  | n + 1, X, w2 =>
    zb1 (zgi X w0 9 24) fun v6 =>
    if v6 ≤ w2 then
      some ((), X)
    else
      zb1 (zgr X w0 9 25) fun a9 =>
      zb1 (zgr X w0 9 25) fun a11 =>
      zb1 (zai X a11 (w2 + 1)) fun v12 =>
      zb1 (zsi X a9 w2 v12) fun X14 =>
      zb1 (zgr X14 w0 9 26) fun a17 =>
      zb1 (zgr X14 w0 9 26) fun a19 =>
      zb1 (zai X14 a19 (w2 + 1)) fun v20 =>
      zb1 (zsi X14 a17 w2 v20) fun X22 =>
      zb1 (zgr X22 w0 9 27) fun a25 =>
      zb1 (zgr X22 w0 9 27) fun a27 =>
      zb1 (zai X22 a27 (w2 + 1)) fun v28 =>
      zb1 (zsi X22 a25 w2 v28) fun X30 =>
      zb1 (zgr X30 w0 9 28) fun a33 =>
      zb1 (zgr X30 w0 9 28) fun a35 =>
      zb1 (zai X30 a35 (w2 + 1)) fun v36 =>
      zb1 (zsi X30 a33 w2 v36) fun X38 =>
      zb1 (zgr X38 w0 9 29) fun a41 =>
      zb1 (zgr X38 w0 9 29) fun a43 =>
      zb1 (zai X38 a43 (w2 + 1)) fun v44 =>
      zb1 (zsi X38 a41 w2 v44) fun X46 =>
      zb1 (zgr X46 w0 9 30) fun a49 =>
      zb1 (zgr X46 w0 9 30) fun a51 =>
      zb1 (zaz X46 a51 (w2 + 1)) fun v52 =>
      zb1 (zsz X46 a49 w2 v52) fun X54 =>
      zb1 (zgr X54 w0 9 31) fun a57 =>
      zb1 (zgr X54 w0 9 31) fun a59 =>
      zb1 (zaz X54 a59 (w2 + 1)) fun v60 =>
      zb1 (zsz X54 a57 w2 v60) fun X62 =>
      L_ZoneNodesModel_remove_12 N w0 n X62 (w2 + 1)
def f_ZoneNodesModel_remove (N : Nat) (X : zh_T) (x0 : Nat) (x1 : Int32) : Option (Unit × zh_T) :=
  zb1 (zgi X x0 9 24) fun v2 =>
  zb1 (zp X x0 9 24 (.int (v2 - 1))) fun X3 =>
  zb2 (L_ZoneNodesModel_remove_12 N x0 N X3 x1) fun v64 X66 =>
  some ((), X66)
def L_ZoneNodesModel_cutOff_7 (N : Nat) (w0 : Nat) (w1 : Int32) : Nat → zh_T → Int32 → Option (Unit × zh_T)
  | 0, _, _ => none
  | n + 1, X, w2 =>
    if w2 < 0 then
      some ((), X)
    else
      zb1 (zgr X w0 9 25) fun a5 =>
      zb1 (zai X a5 w2) fun v6 =>
      if v6 < 4 then
        L_ZoneNodesModel_cutOff_7 N w0 w1 n X (w2 + (-1))
      else
        zb1 (zgr X w0 9 26) fun a10 =>
        zb1 (zai X a10 w2) fun v11 =>
        if v11 = w1 then
          zb1 (zck X w0 9) fun _ =>
          zb2 (f_ZoneNodesModel_remove N X w0 w2) fun _ X17 =>
          L_ZoneNodesModel_cutOff_7 N w0 w1 n X17 (w2 + (-1))
        else
          L_ZoneNodesModel_cutOff_7 N w0 w1 n X (w2 + (-1))
def f_ZoneNodesModel_cutOff (N : Nat) (X : zh_T) (x0 : Nat) (x1 : Int32) : Option (Unit × zh_T) :=
  zb1 (zgi X x0 9 24) fun v2 =>
  zb2 (L_ZoneNodesModel_cutOff_7 N x0 x1 N X (v2 - 1)) fun v18 X20 =>
  some ((), X20)
def f_ZoneNodesModel_isNode (N : Nat) (X : zh_T) (x0 : Int32) : Option Int32 :=
  if x0 < 0 then
    some 0
  else
    if 2 < x0 then
      some 0
    else
      some 1
def L_ZoneNodesModel_crash_43 (N : Nat) (w0 : Nat) (w1 : Int32) : Nat → zh_T → Int32 → Option (Unit × zh_T)
  | 0, _, _ => none
  | n + 1, X, w2 =>
    if 2 < w2 then
      some ((), X)
    else
      if w1 = 0 then
        zb1 (zck X w0 9) fun _ =>
        zb2 (f_ZoneNodesModel_cutOff N X w0 w2) fun _ X23 =>
        if w1 = 0 then
          zb1 (zgr X23 w0 9 4) fun a26 =>
          zb1 (zaz X23 a26 w2) fun v27 =>
          if v27 = 0 then
            L_ZoneNodesModel_crash_43 N w0 w1 n X23 (w2 + 1)
          else
            zb1 (zgr X23 w0 9 9) fun a31 =>
            zb1 (zai X23 a31 w2) fun v32 =>
            if v32 = 2 then
              zb1 (zgi X23 w0 9 1) fun v36 =>
              zb1 (zck X23 w0 9) fun _ =>
              zb2 (f_ZoneNodesModel_rest N X23 w0 w2 v36) fun _ X40 =>
              L_ZoneNodesModel_crash_43 N w0 w1 n X40 (w2 + 1)
            else
              L_ZoneNodesModel_crash_43 N w0 w1 n X23 (w2 + 1)
        else
          L_ZoneNodesModel_crash_43 N w0 w1 n X23 (w2 + 1)
      else
        if w1 = w2 then
          zb1 (zck X w0 9) fun _ =>
          zb2 (f_ZoneNodesModel_cutOff N X w0 w2) fun _ X62 =>
          if w1 = 0 then
            zb1 (zgr X62 w0 9 4) fun a65 =>
            zb1 (zaz X62 a65 w2) fun v66 =>
            if v66 = 0 then
              L_ZoneNodesModel_crash_43 N w0 w1 n X62 (w2 + 1)
            else
              zb1 (zgr X62 w0 9 9) fun a70 =>
              zb1 (zai X62 a70 w2) fun v71 =>
              if v71 = 2 then
                zb1 (zgi X62 w0 9 1) fun v75 =>
                zb1 (zck X62 w0 9) fun _ =>
                zb2 (f_ZoneNodesModel_rest N X62 w0 w2 v75) fun _ X79 =>
                L_ZoneNodesModel_crash_43 N w0 w1 n X79 (w2 + 1)
              else
                L_ZoneNodesModel_crash_43 N w0 w1 n X62 (w2 + 1)
          else
            L_ZoneNodesModel_crash_43 N w0 w1 n X62 (w2 + 1)
        else
          if w1 = 0 then
            zb1 (zgr X w0 9 4) fun a44 =>
            zb1 (zaz X a44 w2) fun v45 =>
            if v45 = 0 then
              L_ZoneNodesModel_crash_43 N w0 w1 n X (w2 + 1)
            else
              zb1 (zgr X w0 9 9) fun a49 =>
              zb1 (zai X a49 w2) fun v50 =>
              if v50 = 2 then
                zb1 (zgi X w0 9 1) fun v54 =>
                zb1 (zck X w0 9) fun _ =>
                zb2 (f_ZoneNodesModel_rest N X w0 w2 v54) fun _ X58 =>
                L_ZoneNodesModel_crash_43 N w0 w1 n X58 (w2 + 1)
              else
                L_ZoneNodesModel_crash_43 N w0 w1 n X (w2 + 1)
          else
            L_ZoneNodesModel_crash_43 N w0 w1 n X (w2 + 1)
def f_ZoneNodesModel_crash (N : Nat) (X : zh_T) (x0 : Nat) (x1 : Int32) : Option (Int32 × zh_T) :=
  zb1 (f_ZoneNodesModel_isNode N X x1) fun v2 =>
  if v2 = 0 then
    some (0, X)
  else
    zb1 (zgr X x0 9 4) fun a5 =>
    zb1 (zaz X a5 x1) fun v6 =>
    if v6 = 0 then
      some (0, X)
    else
      zb1 (zgr X x0 9 4) fun a10 =>
      zb1 (zsz X a10 x1 0) fun X11 =>
      if x1 = 0 then
        zb1 (zp X11 x0 9 17 (.int 0)) fun X83 =>
        zb2 (L_ZoneNodesModel_crash_43 N x0 x1 N X83 1) fun v85 X87 =>
        some (1, X87)
      else
        zb1 (zgi X11 x0 9 17) fun v15 =>
        zb1 (zp X11 x0 9 17 (.int v15)) fun X16 =>
        zb2 (L_ZoneNodesModel_crash_43 N x0 x1 N X16 1) fun v80 X82 =>
        some (1, X82)
def f_ZoneNodesModel_append (N : Nat) (X : zh_T) (x0 : Nat) (x1 : Int32) (x2 : Int32) (x3 : Int32) (x4 : Int32) (x5 : Int32) (x6 : Int32) (x7 : Int32) : Option (Unit × zh_T) :=
  zb1 (zgr X x0 9 25) fun a2 =>
  zb1 (zgi X x0 9 24) fun v4 =>
  zb1 (zsi X a2 v4 x1) fun X5 =>
  zb1 (zgr X5 x0 9 26) fun a8 =>
  zb1 (zgi X5 x0 9 24) fun v10 =>
  zb1 (zsi X5 a8 v10 x2) fun X11 =>
  zb1 (zgr X11 x0 9 27) fun a14 =>
  zb1 (zgi X11 x0 9 24) fun v16 =>
  zb1 (zsi X11 a14 v16 x3) fun X17 =>
  zb1 (zgr X17 x0 9 28) fun a20 =>
  zb1 (zgi X17 x0 9 24) fun v22 =>
  zb1 (zsi X17 a20 v22 x4) fun X23 =>
  zb1 (zgr X23 x0 9 29) fun a26 =>
  zb1 (zgi X23 x0 9 24) fun v28 =>
  zb1 (zsi X23 a26 v28 x5) fun X29 =>
  zb1 (zgr X29 x0 9 30) fun a32 =>
  zb1 (zgi X29 x0 9 24) fun v34 =>
  zb1 (zsz X29 a32 v34 x6) fun X35 =>
  zb1 (zgr X35 x0 9 31) fun a38 =>
  zb1 (zgi X35 x0 9 24) fun v40 =>
  zb1 (zsz X35 a38 v40 x7) fun X41 =>
  zb1 (zgi X41 x0 9 24) fun v44 =>
  zb1 (zp X41 x0 9 24 (.int (v44 + 1))) fun X45 =>
  some ((), X45)
def L_ZoneNodesModel_send_6 (N : Nat) (X : zh_T) (w0 : Nat) (w1 : Int32) (w2 : Int32) (w3 : Int32) : Nat → Int32 → Int32 → Option Int32
  | 0, _, _ => none
  | n + 1, w4, w5 =>
    zb1 (zgi X w0 9 24) fun v2 =>
    if v2 ≤ w5 then
      some w4
    else
      zb1 (zgr X w0 9 25) fun a5 =>
      zb1 (zai X a5 w5) fun v6 =>
      if 4 ≤ v6 then
        L_ZoneNodesModel_send_6 N X w0 w1 w2 w3 n (w4 + 0) (w5 + 1)
      else
        L_ZoneNodesModel_send_6 N X w0 w1 w2 w3 n (w4 + 1) (w5 + 1)
def f_ZoneNodesModel_send (N : Nat) (X : zh_T) (x0 : Nat) (x1 : Int32) (x2 : Int32) (x3 : Int32) : Option (Unit × zh_T) :=
  zb1 (L_ZoneNodesModel_send_6 N X x0 x1 x2 x3 N 0 0) fun v9 =>
  if 24 ≤ v9 then
    some ((), X)
  else
    zb1 (zck X x0 9) fun _ =>
    zb2 (f_ZoneNodesModel_append N X x0 x1 x2 x3 0 0 0 0) fun _ X15 =>
    some ((), X15)
def f_ZoneNodesModel_ask (N : Nat) (X : zh_T) (x0 : Nat) (x1 : Int32) : Option (Unit × zh_T) :=
  zb1 (zck X x0 9) fun _ =>
  zb2 (f_ZoneNodesModel_send N X x0 2 x1 0) fun _ X4 =>
  zb1 (zgr X4 x0 9 9) fun a6 =>
  zb1 (zsi X4 a6 x1 1) fun X7 =>
  zb1 (zgr X7 x0 9 10) fun a10 =>
  zb1 (zgi X7 x0 9 3) fun v12 =>
  zb1 (zsi X7 a10 x1 v12) fun X13 =>
  some ((), X13)
def f_ZoneNodesModel_isNews (N : Nat) (X : zh_T) (x0 : Nat) (x1 : Int32) (x2 : Int32) : Option Int32 :=
  zb1 (zgr X x0 9 5) fun a2 =>
  zb1 (zaz X a2 x1) fun v3 =>
  if v3 = 0 then
    some 1
  else
    zb1 (zgr X x0 9 6) fun a7 =>
    zb1 (zai X a7 x1) fun v8 =>
    if (x2 - v8) ≤ 0 then
      some 0
    else
      some 1
def L_ZoneNodesModel_itemsFor_5 (N : Nat) (X : zh_T) (w0 : Nat) (w1 : Int32) (w2 : Int32) : Nat → Int32 → Int32 → Option Int32
  | 0, _, _ => none
  | n + 1, w3, w4 =>
    zb1 (zgi X w0 9 18) fun v2 =>
    if v2 ≤ w4 then
      some w3
    else
      if w1 = 0 then
        L_ZoneNodesModel_itemsFor_5 N X w0 w1 w2 n w3 (w4 + 1)
      else
        zb1 (zgr X w0 9 19) fun a6 =>
        zb1 (zai X a6 w4) fun v7 =>
        if v7 = w2 then
          L_ZoneNodesModel_itemsFor_5 N X w0 w1 w2 n w4 (w4 + 1)
        else
          L_ZoneNodesModel_itemsFor_5 N X w0 w1 w2 n w3 (w4 + 1)
def L_ZoneNodesModel_itemsFor_48 (N : Nat) (X : zh_T) (w0 : Nat) (w3 : Int32) : Nat → Int32 → Int32 → Option Int32
  | 0, _, _ => none
  | n + 1, w4, w5 =>
    zb1 (zgi X w0 9 18) fun v13 =>
    if v13 ≤ w5 then
      some w4
    else
      if w3 < 0 then
        L_ZoneNodesModel_itemsFor_48 N X w0 w3 n (w4 + 0) (w5 + 1)
      else
        if w5 < w3 then
          L_ZoneNodesModel_itemsFor_48 N X w0 w3 n (w4 + 0) (w5 + 1)
        else
          zb1 (zgr X w0 9 22) fun a18 =>
          zb1 (zai X a18 w5) fun v19 =>
          L_ZoneNodesModel_itemsFor_48 N X w0 w3 n (w4 + v19) (w5 + 1)
def L_ZoneNodesModel_itemsFor_92 (N : Nat) (X : zh_T) (w0 : Nat) (w3 : Int32) : Nat → Int32 → Int32 → Option Int32
  | 0, _, _ => none
  | n + 1, w4, w5 =>
    if 256 ≤ w5 then
      some w4
    else
      if 0 ≤ w3 then
        L_ZoneNodesModel_itemsFor_92 N X w0 w3 n (w4 + 0) (w5 + 1)
      else
        zb1 (zgr X w0 9 7) fun a26 =>
        zb1 (zaz X a26 w5) fun v27 =>
        if v27 = 0 then
          L_ZoneNodesModel_itemsFor_92 N X w0 w3 n (w4 + 0) (w5 + 1)
        else
          L_ZoneNodesModel_itemsFor_92 N X w0 w3 n (w4 + 1) (w5 + 1)
def f_ZoneNodesModel_itemsFor (N : Nat) (X : zh_T) (x0 : Nat) (x1 : Int32) (x2 : Int32) : Option Int32 :=
  zb1 (L_ZoneNodesModel_itemsFor_5 N X x0 x1 x2 N (-1) 0) fun v10 =>
  zb1 (L_ZoneNodesModel_itemsFor_48 N X x0 v10 N 0 0) fun v21 =>
  zb1 (L_ZoneNodesModel_itemsFor_92 N X x0 v10 N v21 0) fun v30 =>
  some v30
def L_ZoneNodesModel_takeFetch_11 (N : Nat) (w0 : Nat) (w1 : Int32) (w4 : Int32) : Nat → zh_T → Int32 → Option (Unit × zh_T)
  | 0, _, _ => none
  | n + 1, X, w5 =>
    if 256 ≤ w5 then
      some ((), X)
    else
      zb1 (zgr X w0 9 8) fun a6 =>
      zb1 (zgr X w0 9 7) fun a8 =>
      zb1 (zaz X a8 w5) fun v9 =>
      zb1 (zsz X a6 ((256 * w1) + w5) v9) fun X11 =>
      L_ZoneNodesModel_takeFetch_11 N w0 w1 w4 n X11 (w5 + 1)
def L_ZoneNodesModel_takeFetch_48 (N : Nat) (w0 : Nat) (w1 : Int32) (w4 : Int32) : Nat → zh_T → Int32 → Option (Unit × zh_T)
  | 0, _, _ => none
  | n + 1, X, w5 =>
    if w4 ≤ (4 * w5) then
      some ((), X)
    else
      zb1 (zgr X w0 9 6) fun a18 =>
      zb1 (zai X a18 0) fun v19 =>
      if 4 ≤ (w4 - (4 * w5)) then
        if 4 < (w4 - (4 * w5)) then
          zb1 (zck X w0 9) fun _ =>
          zb2 (f_ZoneNodesModel_append N X w0 5 w1 v19 w5 4 0 0) fun _ X26 =>
          L_ZoneNodesModel_takeFetch_48 N w0 w1 w4 n X26 (w5 + 1)
        else
          zb1 (zck X w0 9) fun _ =>
          zb2 (f_ZoneNodesModel_append N X w0 5 w1 v19 w5 4 0 1) fun _ X30 =>
          L_ZoneNodesModel_takeFetch_48 N w0 w1 w4 n X30 (w5 + 1)
      else
        if 4 < (w4 - (4 * w5)) then
          zb1 (zck X w0 9) fun _ =>
          zb2 (f_ZoneNodesModel_append N X w0 5 w1 v19 w5 (w4 - (4 * w5)) 0 0) fun _ X35 =>
          L_ZoneNodesModel_takeFetch_48 N w0 w1 w4 n X35 (w5 + 1)
        else
          zb1 (zck X w0 9) fun _ =>
          zb2 (f_ZoneNodesModel_append N X w0 5 w1 v19 w5 (w4 - (4 * w5)) 0 1) fun _ X39 =>
          L_ZoneNodesModel_takeFetch_48 N w0 w1 w4 n X39 (w5 + 1)
def f_ZoneNodesModel_takeFetch (N : Nat) (X : zh_T) (x0 : Nat) (x1 : Int32) (x2 : Int32) (x3 : Int32) : Option (Unit × zh_T) :=
  zb1 (zck X x0 9) fun _ =>
  zb1 (f_ZoneNodesModel_itemsFor N X x0 x2 x3) fun v3 =>
  zb2 (L_ZoneNodesModel_takeFetch_11 N x0 x1 v3 N X 0) fun v13 X15 =>
  zb2 (L_ZoneNodesModel_takeFetch_48 N x0 x1 v3 N X15 0) fun v40 X42 =>
  some ((), X42)
def f_ZoneNodesModel_refreshed (N : Nat) (X : zh_T) (x0 : Nat) (x1 : Int32) : Option (Unit × zh_T) :=
  zb1 (zgi X x0 9 0) fun v2 =>
  zb1 (zck X x0 9) fun _ =>
  zb2 (f_ZoneNodesModel_rest N X x0 x1 v2) fun _ X6 =>
  zb1 (zgr X6 x0 9 11) fun a8 =>
  zb1 (zgi X6 x0 9 3) fun v10 =>
  zb1 (zgi X6 x0 9 2) fun v12 =>
  zb1 (zsi X6 a8 x1 (v10 + v12)) fun X13 =>
  some ((), X13)
def L_ZoneNodesModel_takePart_43 (N : Nat) (w0 : Nat) (w1 : Int32) : Nat → zh_T → Int32 → Option (Unit × zh_T)
  | 0, _, _ => none
  | n + 1, X, w5 =>
    if 256 ≤ w5 then
      some ((), X)
    else
      zb1 (zgr X w0 9 7) fun a13 =>
      zb1 (zgr X w0 9 8) fun a15 =>
      zb1 (zaz X a15 ((256 * w1) + w5)) fun v16 =>
      zb1 (zsz X a13 ((256 * w1) + w5) v16) fun X18 =>
      L_ZoneNodesModel_takePart_43 N w0 w1 n X18 (w5 + 1)
def f_ZoneNodesModel_takePart (N : Nat) (X : zh_T) (x0 : Nat) (x1 : Int32) (x2 : Int32) (x3 : Int32) (x4 : Int32) : Option (Unit × zh_T) :=
  if x3 = 0 then
    if x4 = 0 then
      some ((), X)
    else
      zb1 (zgr X x0 9 5) fun a4 =>
      zb1 (zsz X a4 x1 1) fun X5 =>
      zb1 (zgr X5 x0 9 6) fun a8 =>
      zb1 (zsi X5 a8 x1 x2) fun X9 =>
      zb2 (L_ZoneNodesModel_takePart_43 N x0 x1 N X9 0) fun v20 X22 =>
      zb1 (zck X22 x0 9) fun _ =>
      zb2 (f_ZoneNodesModel_refreshed N X22 x0 x1) fun _ X26 =>
      some ((), X26)
  else
    zb1 (zck X x0 9) fun _ =>
    zb2 (f_ZoneNodesModel_cutOff N X x0 x1) fun _ X30 =>
    zb1 (zgi X30 x0 9 1) fun v32 =>
    zb1 (zck X30 x0 9) fun _ =>
    zb2 (f_ZoneNodesModel_rest N X30 x0 x1 v32) fun _ X36 =>
    some ((), X36)
def f_ZoneNodesModel_takeTell (N : Nat) (X : zh_T) (x0 : Nat) (x1 : Int32) (x2 : Int32) : Option (Unit × zh_T) :=
  zb1 (zgr X x0 9 9) fun a2 =>
  zb1 (zai X a2 x1) fun v3 =>
  if v3 = 1 then
    zb1 (zck X x0 9) fun _ =>
    zb1 (f_ZoneNodesModel_isNews N X x0 x1 x2) fun v8 =>
    if v8 = 0 then
      zb1 (zck X x0 9) fun _ =>
      zb2 (f_ZoneNodesModel_refreshed N X x0 x1) fun _ X40 =>
      some ((), X40)
    else
      zb1 (zgr X x0 9 4) fun a11 =>
      zb1 (zaz X a11 0) fun v12 =>
      if v12 = 0 then
        zb1 (zgi X x0 9 1) fun v32 =>
        zb1 (zck X x0 9) fun _ =>
        zb2 (f_ZoneNodesModel_rest N X x0 x1 v32) fun _ X36 =>
        some ((), X36)
      else
        zb1 (zgr X x0 9 6) fun a16 =>
        zb1 (zai X a16 x1) fun v17 =>
        zb1 (zgr X x0 9 5) fun a20 =>
        zb1 (zaz X a20 x1) fun v21 =>
        zb1 (zck X x0 9) fun _ =>
        zb2 (f_ZoneNodesModel_append N X x0 4 x1 v17 0 0 v21 0) fun _ X26 =>
        zb1 (zgr X26 x0 9 9) fun a28 =>
        zb1 (zsi X26 a28 x1 2) fun X29 =>
        some ((), X29)
  else
    some ((), X)
def L_ZoneNodesModel_deliver_51 (N : Nat) (X : zh_T) (w0 : Nat) (w1 : Int32) (w2 : Int32) (w3 : Int32) (w4 : Int32) (w5 : Int32) (w6 : Int32) : Nat → Int32 → Option (Int32 ⊕ Unit)
  | 0, _ => none
  | n + 1, w7 =>
    if w1 ≤ w7 then
      some (Sum.inr ())
    else
      if w2 = 5 then
        zb1 (zgr X w0 9 25) fun a28 =>
        zb1 (zai X a28 w7) fun v29 =>
        if v29 = 5 then
          zb1 (zgr X w0 9 26) fun a33 =>
          zb1 (zai X a33 w7) fun v34 =>
          if v34 = w3 then
            some (Sum.inl 0)
          else
            L_ZoneNodesModel_deliver_51 N X w0 w1 w2 w3 w4 w5 w6 n (w7 + 1)
        else
          L_ZoneNodesModel_deliver_51 N X w0 w1 w2 w3 w4 w5 w6 n (w7 + 1)
      else
        L_ZoneNodesModel_deliver_51 N X w0 w1 w2 w3 w4 w5 w6 n (w7 + 1)
def J_ZoneNodesModel_deliver_184 (N : Nat) (X : zh_T) (w0 : Nat) (w2 : Int32) (w3 : Int32) (w4 : Int32) (w5 : Int32) (w6 : Int32) : Option (Int32 × zh_T) :=
  if w2 = 4 then
    zb1 (zck X w0 9) fun _ =>
    zb2 (f_ZoneNodesModel_takeFetch N X w0 w3 w5 w4) fun _ X61 =>
    if w2 = 5 then
      zb1 (zck X61 w0 9) fun _ =>
      zb2 (f_ZoneNodesModel_takePart N X61 w0 w3 w4 w5 w6) fun _ X66 =>
      some (1, X66)
    else
      some (1, X61)
  else
    if w2 = 5 then
      zb1 (zck X w0 9) fun _ =>
      zb2 (f_ZoneNodesModel_takePart N X w0 w3 w4 w5 w6) fun _ X57 =>
      some (1, X57)
    else
      some (1, X)
def J_ZoneNodesModel_deliver_155 (N : Nat) (X : zh_T) (w0 : Nat) (w2 : Int32) (w3 : Int32) (w4 : Int32) (w5 : Int32) (w6 : Int32) : Option (Int32 × zh_T) :=
  if w2 = 2 then
    zb1 (zgr X w0 9 6) fun a72 =>
    zb1 (zai X a72 0) fun v73 =>
    zb1 (zck X w0 9) fun _ =>
    zb2 (f_ZoneNodesModel_send N X w0 3 w3 v73) fun _ X78 =>
    if w2 = 3 then
      zb1 (zck X78 w0 9) fun _ =>
      zb2 (f_ZoneNodesModel_takeTell N X78 w0 w3 w4) fun _ X83 =>
      J_ZoneNodesModel_deliver_184 N X83 w0 w2 w3 w4 w5 w6
    else
      J_ZoneNodesModel_deliver_184 N X78 w0 w2 w3 w4 w5 w6
  else
    if w2 = 3 then
      zb1 (zck X w0 9) fun _ =>
      zb2 (f_ZoneNodesModel_takeTell N X w0 w3 w4) fun _ X70 =>
      J_ZoneNodesModel_deliver_184 N X70 w0 w2 w3 w4 w5 w6
    else
      J_ZoneNodesModel_deliver_184 N X w0 w2 w3 w4 w5 w6
def f_ZoneNodesModel_deliver (N : Nat) (X : zh_T) (x0 : Nat) (x1 : Int32) : Option (Int32 × zh_T) :=
  zb1 (zck X x0 9) fun _ =>
  zb1 (f_ZoneNodesModel_isMessage N X x0 x1) fun v3 =>
  if v3 = 0 then
    some (0, X)
  else
    zb1 (zgr X x0 9 25) fun a6 =>
    zb1 (zai X a6 x1) fun v7 =>
    zb1 (zgr X x0 9 26) fun a10 =>
    zb1 (zai X a10 x1) fun v11 =>
    zb1 (zgr X x0 9 27) fun a14 =>
    zb1 (zai X a14 x1) fun v15 =>
    zb1 (zgr X x0 9 30) fun a18 =>
    zb1 (zaz X a18 x1) fun v19 =>
    zb1 (zgr X x0 9 31) fun a22 =>
    zb1 (zaz X a22 x1) fun v23 =>
    zbs (L_ZoneNodesModel_deliver_51 N X x0 x1 v7 v11 v15 v19 v23 N 0) (fun r0 => some (r0, X)) fun v37 =>
    zb1 (zck X x0 9) fun _ =>
    zb2 (f_ZoneNodesModel_remove N X x0 x1) fun _ X42 =>
    if v7 = 2 then
      zb1 (zgr X42 x0 9 4) fun a45 =>
      zb1 (zaz X42 a45 0) fun v46 =>
      if v46 = 0 then
        some (1, X42)
      else
        if v7 = 1 then
          zb1 (zgr X42 x0 9 9) fun a85 =>
          zb1 (zai X42 a85 v11) fun v86 =>
          if v86 = 0 then
            zb1 (zck X42 x0 9) fun _ =>
            zb1 (f_ZoneNodesModel_isNews N X42 x0 v11 v15) fun v91 =>
            if v91 = 0 then
              J_ZoneNodesModel_deliver_155 N X42 x0 v7 v11 v15 v19 v23
            else
              zb1 (zck X42 x0 9) fun _ =>
              zb2 (f_ZoneNodesModel_ask N X42 x0 v11) fun _ X96 =>
              J_ZoneNodesModel_deliver_155 N X96 x0 v7 v11 v15 v19 v23
          else
            J_ZoneNodesModel_deliver_155 N X42 x0 v7 v11 v15 v19 v23
        else
          J_ZoneNodesModel_deliver_155 N X42 x0 v7 v11 v15 v19 v23
    else
      if v7 = 4 then
        zb1 (zgr X42 x0 9 4) fun a118 =>
        zb1 (zaz X42 a118 0) fun v119 =>
        if v119 = 0 then
          some (1, X42)
        else
          if v7 = 1 then
            zb1 (zgr X42 x0 9 9) fun a124 =>
            zb1 (zai X42 a124 v11) fun v125 =>
            if v125 = 0 then
              zb1 (zck X42 x0 9) fun _ =>
              zb1 (f_ZoneNodesModel_isNews N X42 x0 v11 v15) fun v130 =>
              if v130 = 0 then
                J_ZoneNodesModel_deliver_155 N X42 x0 v7 v11 v15 v19 v23
              else
                zb1 (zck X42 x0 9) fun _ =>
                zb2 (f_ZoneNodesModel_ask N X42 x0 v11) fun _ X135 =>
                J_ZoneNodesModel_deliver_155 N X135 x0 v7 v11 v15 v19 v23
            else
              J_ZoneNodesModel_deliver_155 N X42 x0 v7 v11 v15 v19 v23
          else
            J_ZoneNodesModel_deliver_155 N X42 x0 v7 v11 v15 v19 v23
      else
        zb1 (zgr X42 x0 9 4) fun a99 =>
        zb1 (zaz X42 a99 v11) fun v100 =>
        if v100 = 0 then
          some (1, X42)
        else
          if v7 = 1 then
            zb1 (zgr X42 x0 9 9) fun a105 =>
            zb1 (zai X42 a105 v11) fun v106 =>
            if v106 = 0 then
              zb1 (zck X42 x0 9) fun _ =>
              zb1 (f_ZoneNodesModel_isNews N X42 x0 v11 v15) fun v111 =>
              if v111 = 0 then
                J_ZoneNodesModel_deliver_155 N X42 x0 v7 v11 v15 v19 v23
              else
                zb1 (zck X42 x0 9) fun _ =>
                zb2 (f_ZoneNodesModel_ask N X42 x0 v11) fun _ X116 =>
                J_ZoneNodesModel_deliver_155 N X116 x0 v7 v11 v15 v19 v23
            else
              J_ZoneNodesModel_deliver_155 N X42 x0 v7 v11 v15 v19 v23
          else
            J_ZoneNodesModel_deliver_155 N X42 x0 v7 v11 v15 v19 v23
def f_ZoneNodesModel_drop (N : Nat) (X : zh_T) (x0 : Nat) (x1 : Int32) : Option (Int32 × zh_T) :=
  zb1 (zck X x0 9) fun _ =>
  zb1 (f_ZoneNodesModel_isMessage N X x0 x1) fun v3 =>
  if v3 = 0 then
    some (0, X)
  else
    zb1 (zgr X x0 9 25) fun a6 =>
    zb1 (zai X a6 x1) fun v7 =>
    if v7 < 4 then
      zb1 (zck X x0 9) fun _ =>
      zb2 (f_ZoneNodesModel_remove N X x0 x1) fun _ X13 =>
      some (1, X13)
    else
      some (0, X)
def f_ZoneNodesModel_has (N : Nat) (X : zh_T) (x0 : Nat) (x1 : Int32) (x2 : Int32) (x3 : Int32) (x4 : Int32) : Option Int32 :=
  zb1 (f_ZoneNodesModel_isNode N X x1) fun v2 =>
  if v2 = 0 then
    some 0
  else
    zb1 (zgr X x0 9 5) fun a5 =>
    zb1 (zaz X a5 x1) fun v6 =>
    if v6 = 0 then
      some 0
    else
      zb1 (f_ZoneNodesModel_isRecord N X x2 x3 x4) fun v10 =>
      if v10 = 0 then
        some 0
      else
        zb1 (zgr X x0 9 7) fun a13 =>
        zb1 (f_ZoneNodesModel_place N X x2 x3 x4) fun v15 =>
        zb1 (zaz X a13 ((256 * x1) + v15)) fun v16 =>
        if v16 = 0 then
          some 0
        else
          some 1
def f_ZoneNodesModel_journal (N : Nat) (X : zh_T) (x0 : Nat) : Option Int32 :=
  zb1 (zgi X x0 9 18) fun v2 =>
  some v2
def f_ZoneNodesModel_key (N : Nat) (X : zh_T) (x0 : Nat) (x1 : Int32) (x2 : Int32) : Option (Int32 × zh_T) :=
  if x1 < 0 then
    some (0, X)
  else
    if x1 ≤ 2 then
      zb1 (zgr X x0 9 12) fun a4 =>
      zb1 (zsz X a4 x1 1) fun X5 =>
      zb1 (zgr X5 x0 9 13) fun a8 =>
      zb1 (zsi X5 a8 x1 x2) fun X9 =>
      some (1, X9)
    else
      some (0, X)
def f_ZoneNodesModel_message (N : Nat) (X : zh_T) (x0 : Nat) (x1 : Int32) : Option Int32 :=
  zb1 (zck X x0 9) fun _ =>
  zb1 (f_ZoneNodesModel_isMessage N X x0 x1) fun v3 =>
  if v3 = 0 then
    some (-1)
  else
    zb1 (zgr X x0 9 25) fun a6 =>
    zb1 (zai X a6 x1) fun v7 =>
    zb1 (zgr X x0 9 26) fun a10 =>
    zb1 (zai X a10 x1) fun v11 =>
    zb1 (zgr X x0 9 28) fun a14 =>
    zb1 (zai X a14 x1) fun v15 =>
    zb1 (zgr X x0 9 29) fun a18 =>
    zb1 (zai X a18 x1) fun v19 =>
    some ((((100000 * v7) + (10000 * v11)) + (100 * v15)) + v19)
def f_ZoneNodesModel_messages (N : Nat) (X : zh_T) (x0 : Nat) : Option Int32 :=
  zb1 (zgi X x0 9 24) fun v2 =>
  some v2
def f_ZoneNodesModel_need (N : Nat) (X : zh_T) (x0 : Nat) (x1 : Int32) (x2 : Int32) (x3 : Int32) (x4 : Int32) : Option (Int32 × zh_T) :=
  if x1 < 0 then
    some (0, X)
  else
    if 4 < x1 then
      some (0, X)
    else
      zb1 (f_ZoneNodesModel_isRecord N X x2 x3 x4) fun v4 =>
      if v4 = 0 then
        some (0, X)
      else
        zb1 (zgi X x0 9 14) fun v7 =>
        if v7 < 4 then
          zb1 (zgi X x0 9 14) fun v10 =>
          zb1 (zck X x0 9) fun _ =>
          zb2 (f_ZoneNodesModel_say N X x0 v10 x1 x2 x3 x4) fun _ X14 =>
          zb1 (zgi X14 x0 9 14) fun v16 =>
          zb1 (zp X14 x0 9 14 (.int (v16 + 1))) fun X17 =>
          some (1, X17)
        else
          some (0, X)
def L_ZoneNodesModel_shown_6 (N : Nat) (X : zh_T) (w0 : Nat) (w1 : Int32) (w2 : Int32) (w3 : Int32) (w4 : Int32) : Nat → Int32 → Int32 → Option Int32
  | 0, _, _ => none
  | n + 1, w5, w6 =>
    if w4 ≤ w6 then
      some w5
    else
      zb1 (zgr X w0 9 7) fun a3 =>
      zb1 (zaz X a3 ((((256 * w1) + (32 * w2)) + w3) + w6)) fun v4 =>
      if v4 = 0 then
        L_ZoneNodesModel_shown_6 N X w0 w1 w2 w3 w4 n (w5 + 0) (w6 + 1)
      else
        L_ZoneNodesModel_shown_6 N X w0 w1 w2 w3 w4 n (w5 + 1) (w6 + 1)
def f_ZoneNodesModel_shown (N : Nat) (X : zh_T) (x0 : Nat) (x1 : Int32) (x2 : Int32) (x3 : Int32) (x4 : Int32) : Option Int32 :=
  zb1 (L_ZoneNodesModel_shown_6 N X x0 x1 x2 x3 x4 N 0 0) fun v7 =>
  some v7
def L_ZoneNodesModel_query_72 (N : Nat) (X : zh_T) (w0 : Nat) (w1 : Int32) (w3 : Int32) (w4 : Int32) (w5 : Int32) : Nat → Int32 → Int32 → Option Int32
  | 0, _, _ => none
  | n + 1, w6, w7 =>
    if 8 ≤ w7 then
      some w6
    else
      if w3 = 2 then
        L_ZoneNodesModel_query_72 N X w0 w1 w3 w4 w5 n w6 (w7 + 1)
      else
        zb1 (zgr X w0 9 7) fun a22 =>
        zb1 (f_ZoneNodesModel_place N X w4 2 w7) fun v24 =>
        zb1 (zaz X a22 ((256 * w1) + v24)) fun v25 =>
        if v25 = 0 then
          L_ZoneNodesModel_query_72 N X w0 w1 w3 w4 w5 n w6 (w7 + 1)
        else
          L_ZoneNodesModel_query_72 N X w0 w1 w3 w4 w5 n w7 (w7 + 1)
def L_ZoneNodesModel_query_59 (N : Nat) (X : zh_T) (w0 : Nat) (w1 : Int32) (w3 : Int32) : Nat → Int32 → Int32 → Option (Int32 ⊕ Unit)
  | 0, _, _ => none
  | n + 1, w4, w5 =>
    if 9 ≤ w5 then
      some (Sum.inr ())
    else
      zb1 (L_ZoneNodesModel_query_72 N X w0 w1 w3 w4 w5 N (-1) 0) fun v28 =>
      if 0 ≤ v28 then
        L_ZoneNodesModel_query_59 N X w0 w1 w3 n v28 (w5 + 1)
      else
        zb1 (zck X w0 9) fun _ =>
        zb1 (f_ZoneNodesModel_shown N X w0 w1 w4 0 32) fun v33 =>
        if v33 = 0 then
          some (Sum.inl 300)
        else
          zb1 (zck X w0 9) fun _ =>
          zb1 (f_ZoneNodesModel_shown N X w0 w1 w4 (8 * (w3 - 1)) 8) fun v37 =>
          some (Sum.inl v37)
def f_ZoneNodesModel_query (N : Nat) (X : zh_T) (x0 : Nat) (x1 : Int32) (x2 : Int32) (x3 : Int32) : Option Int32 :=
  zb1 (f_ZoneNodesModel_isNode N X x1) fun v2 =>
  if v2 = 0 then
    some (-1)
  else
    zb1 (f_ZoneNodesModel_isRecord N X x2 x3 0) fun v5 =>
    if v5 = 0 then
      some (-1)
    else
      zb1 (zgr X x0 9 4) fun a8 =>
      zb1 (zaz X a8 x1) fun v9 =>
      if v9 = 0 then
        some (-1)
      else
        zb1 (zgr X x0 9 5) fun a13 =>
        zb1 (zaz X a13 x1) fun v14 =>
        if v14 = 0 then
          some (-1)
        else
          if x1 ≤ 0 then
            zbs (L_ZoneNodesModel_query_59 N X x0 x1 x3 N x2 0) (fun r0 => some r0) fun v38 =>
            some 200
          else
            zb1 (zgi X x0 9 3) fun v42 =>
            zb1 (zgr X x0 9 11) fun a44 =>
            zb1 (zai X a44 x1) fun v45 =>
            if v42 < v45 then
              zbs (L_ZoneNodesModel_query_59 N X x0 x1 x3 N x2 0) (fun r0 => some r0) fun v48 =>
              some 200
            else
              some (-1)
def f_ZoneNodesModel_notifyBoth (N : Nat) (X : zh_T) (x0 : Nat) : Option (Unit × zh_T) :=
  zb1 (zgr X x0 9 6) fun a2 =>
  zb1 (zai X a2 0) fun v3 =>
  zb1 (zck X x0 9) fun _ =>
  zb2 (f_ZoneNodesModel_send N X x0 1 1 v3) fun _ X8 =>
  zb1 (zgr X8 x0 9 6) fun a10 =>
  zb1 (zai X8 a10 0) fun v11 =>
  zb1 (zck X8 x0 9) fun _ =>
  zb2 (f_ZoneNodesModel_send N X8 x0 1 2 v11) fun _ X16 =>
  some ((), X16)
def L_ZoneNodesModel_install_9 (N : Nat) (w0 : Nat) (w1 : Int32) : Nat → zh_T → Int32 → Option (Unit × zh_T)
  | 0, _, _ => none
  | n + 1, X, w2 =>
    if 256 ≤ w2 then
      some ((), X)
    else
      zb1 (zgr X w0 9 7) fun a5 =>
      zb1 (zgr X w0 9 21) fun a7 =>
      zb1 (zaz X a7 ((256 * w1) + w2)) fun v8 =>
      zb1 (zsz X a5 w2 v8) fun X10 =>
      L_ZoneNodesModel_install_9 N w0 w1 n X10 (w2 + 1)
def L_ZoneNodesModel_install_69 (N : Nat) (w0 : Nat) : Nat → zh_T → Int32 → Option (Unit × zh_T)
  | 0, _, _ => none
  | n + 1, X, w2 =>
    if 4 ≤ w2 then
      some ((), X)
    else
      zb1 (zgr X w0 9 19) fun a34 =>
      zb1 (zgr X w0 9 19) fun a36 =>
      zb1 (zai X a36 (w2 + 1)) fun v37 =>
      zb1 (zsi X a34 w2 v37) fun X39 =>
      zb1 (zgr X39 w0 9 20) fun a42 =>
      zb1 (zgr X39 w0 9 20) fun a44 =>
      zb1 (zaz X39 a44 (w2 + 1)) fun v45 =>
      zb1 (zsz X39 a42 w2 v45) fun X47 =>
      zb1 (zgr X47 w0 9 22) fun a50 =>
      zb1 (zgr X47 w0 9 22) fun a52 =>
      zb1 (zai X47 a52 (w2 + 1)) fun v53 =>
      zb1 (zsi X47 a50 w2 v53) fun X55 =>
      L_ZoneNodesModel_install_69 N w0 n X55 (w2 + 1)
def L_ZoneNodesModel_install_124 (N : Nat) (w0 : Nat) : Nat → zh_T → Int32 → Option (Unit × zh_T)
  | 0, _, _ => none
  | n + 1, X, w2 =>
    if 1024 ≤ w2 then
      some ((), X)
    else
      zb1 (zgr X w0 9 21) fun a62 =>
      zb1 (zgr X w0 9 21) fun a64 =>
      zb1 (zaz X a64 (w2 + 256)) fun v65 =>
      zb1 (zsz X a62 w2 v65) fun X67 =>
      L_ZoneNodesModel_install_124 N w0 n X67 (w2 + 1)
def f_ZoneNodesModel_install (N : Nat) (X : zh_T) (x0 : Nat) : Option (Unit × zh_T) :=
  zb1 (zgi X x0 9 18) fun v2 =>
  zb2 (L_ZoneNodesModel_install_9 N x0 (v2 - 1) N X 0) fun v12 X14 =>
  zb1 (zgr X14 x0 9 6) fun a16 =>
  zb1 (zgr X14 x0 9 19) fun a18 =>
  zb1 (zai X14 a18 (v2 - 1)) fun v19 =>
  zb1 (zsi X14 a16 0 (v19 + 1)) fun X21 =>
  zb1 (zgi X21 x0 9 18) fun v24 =>
  if v24 = 5 then
    zb1 (zp X21 x0 9 18 (.int 4)) fun X30 =>
    zb2 (L_ZoneNodesModel_install_69 N x0 N X30 0) fun v57 X59 =>
    zb2 (L_ZoneNodesModel_install_124 N x0 N X59 0) fun v69 X71 =>
    zb1 (zck X71 x0 9) fun _ =>
    zb2 (f_ZoneNodesModel_notifyBoth N X71 x0) fun _ X75 =>
    some ((), X75)
  else
    zb1 (zck X21 x0 9) fun _ =>
    zb2 (f_ZoneNodesModel_notifyBoth N X21 x0) fun _ X29 =>
    some ((), X29)
end
section
def J_ZoneNodesModel_restart_83 (N : Nat) (X : zh_T) (w0 : Nat) : Option (Int32 × zh_T) :=
  zb1 (zgi X w0 9 18) fun v18 =>
  if v18 ≤ 0 then
    zb1 (zck X w0 9) fun _ =>
    zb2 (f_ZoneNodesModel_notifyBoth N X w0) fun _ X23 =>
    some (1, X23)
  else
    zb1 (zgr X w0 9 19) fun a25 =>
    zb1 (zgi X w0 9 18) fun v27 =>
    zb1 (zai X a25 (v27 - 1)) fun v28 =>
    zb1 (zgr X w0 9 6) fun a31 =>
    zb1 (zai X a31 0) fun v32 =>
    if v28 = v32 then
      zb1 (zck X w0 9) fun _ =>
      zb2 (f_ZoneNodesModel_install N X w0) fun _ X42 =>
      some (1, X42)
    else
      zb1 (zck X w0 9) fun _ =>
      zb2 (f_ZoneNodesModel_notifyBoth N X w0) fun _ X38 =>
      some (1, X38)
def f_ZoneNodesModel_restart (N : Nat) (X : zh_T) (x0 : Nat) (x1 : Int32) : Option (Int32 × zh_T) :=
  zb1 (f_ZoneNodesModel_isNode N X x1) fun v2 =>
  if v2 = 0 then
    some (0, X)
  else
    zb1 (zgr X x0 9 4) fun a5 =>
    zb1 (zaz X a5 x1) fun v6 =>
    if v6 = 0 then
      zb1 (zgr X x0 9 4) fun a10 =>
      zb1 (zsz X a10 x1 1) fun X11 =>
      if x1 ≤ 0 then
        zb1 (zgi X11 x0 9 18) fun v15 =>
        if v15 ≤ 0 then
          J_ZoneNodesModel_restart_83 N X11 x0
        else
          zb1 (zgr X11 x0 9 20) fun a44 =>
          zb1 (zgi X11 x0 9 18) fun v46 =>
          zb1 (zaz X11 a44 (v46 - 1)) fun v47 =>
          if v47 = 0 then
            zb1 (zgi X11 x0 9 18) fun v51 =>
            zb1 (zp X11 x0 9 18 (.int (v51 - 1))) fun X52 =>
            J_ZoneNodesModel_restart_83 N X52 x0
          else
            J_ZoneNodesModel_restart_83 N X11 x0
      else
        zb1 (zck X11 x0 9) fun _ =>
        zb2 (f_ZoneNodesModel_rest N X11 x0 x1 1) fun _ X57 =>
        zb1 (zgr X57 x0 9 11) fun a59 =>
        zb1 (zgi X57 x0 9 3) fun v61 =>
        zb1 (zgi X57 x0 9 2) fun v63 =>
        zb1 (zsi X57 a59 x1 (v61 + v63)) fun X64 =>
        some (1, X64)
    else
      some (0, X)
def f_ZoneNodesModel_line (N : Nat) (X : zh_T) (x0 : Nat) (x1 : Int32) : Option Int32 :=
  zb1 (zgr X x0 9 16) fun a2 =>
  zb1 (zai X a2 (4 * x1)) fun v3 =>
  zb1 (zgr X x0 9 16) fun a6 =>
  zb1 (zai X a6 ((4 * x1) + 1)) fun v7 =>
  zb1 (zgr X x0 9 16) fun a10 =>
  zb1 (zai X a10 ((4 * x1) + 2)) fun v11 =>
  zb1 (zgr X x0 9 16) fun a14 =>
  zb1 (zai X a14 ((4 * x1) + 3)) fun v15 =>
  some ((((1000 * v3) + (100 * v7)) + (10 * v11)) + v15)
def f_ZoneNodesModel_mixed (N : Nat) (X : zh_T) (x0 : Int32) (x1 : Int32) : Option Int32 :=
  some (((x0 ^^^ x1) * 16777619) ^^^ (zi_ushr ((x0 ^^^ x1) * 16777619) 15))
def L_ZoneNodesModel_sealed_17 (N : Nat) (X : zh_T) (w0 : Nat) (w2 : Int32) : Nat → Int32 → Int32 → Option Int32
  | 0, _, _ => none
  | n + 1, w3, w4 =>
    zb1 (zgi X w0 9 14) fun v10 =>
    if v10 ≤ w4 then
      some w3
    else
      zb1 (zck X w0 9) fun _ =>
      zb1 (f_ZoneNodesModel_line N X w0 w4) fun v14 =>
      zb1 (f_ZoneNodesModel_mixed N X w3 v14) fun v16 =>
      L_ZoneNodesModel_sealed_17 N X w0 w2 n v16 (w4 + 1)
def L_ZoneNodesModel_sealed_55 (N : Nat) (X : zh_T) (w0 : Nat) (w2 : Int32) : Nat → Int32 → Int32 → Option Int32
  | 0, _, _ => none
  | n + 1, w3, w4 =>
    zb1 (zgi X w0 9 15) fun v24 =>
    if v24 ≤ w4 then
      some w3
    else
      zb1 (zck X w0 9) fun _ =>
      zb1 (f_ZoneNodesModel_line N X w0 (4 + w4)) fun v28 =>
      zb1 (f_ZoneNodesModel_mixed N X w3 v28) fun v30 =>
      L_ZoneNodesModel_sealed_55 N X w0 w2 n v30 (w4 + 1)
def f_ZoneNodesModel_sealed (N : Nat) (X : zh_T) (x0 : Nat) (x1 : Int32) (x2 : Int32) : Option Int32 :=
  zb1 (zgr X x0 9 13) fun a2 =>
  zb1 (zai X a2 x1) fun v3 =>
  zb1 (zgi X x0 9 14) fun v6 =>
  zb1 (f_ZoneNodesModel_mixed N X v3 v6) fun v8 =>
  zb1 (L_ZoneNodesModel_sealed_17 N X x0 x2 N v8 0) fun v17 =>
  zb1 (zgi X x0 9 15) fun v20 =>
  zb1 (f_ZoneNodesModel_mixed N X v17 v20) fun v22 =>
  zb1 (L_ZoneNodesModel_sealed_55 N X x0 x2 N v22 0) fun v31 =>
  zb1 (f_ZoneNodesModel_mixed N X v31 x2) fun v34 =>
  some v34
def f_ZoneNodesModel_seal (N : Nat) (X : zh_T) (x0 : Nat) (x1 : Int32) (x2 : Int32) : Option Int32 :=
  if x1 < 0 then
    some 0
  else
    if 2 < x1 then
      some 0
    else
      zb1 (zgr X x0 9 12) fun a4 =>
      zb1 (zaz X a4 x1) fun v5 =>
      if v5 = 0 then
        some 0
      else
        zb1 (zck X x0 9) fun _ =>
        zb1 (f_ZoneNodesModel_sealed N X x0 x1 x2) fun v10 =>
        some v10
def f_ZoneNodesModel_serial (N : Nat) (X : zh_T) (x0 : Nat) (x1 : Int32) : Option Int32 :=
  zb1 (f_ZoneNodesModel_isNode N X x1) fun v2 =>
  if v2 = 0 then
    some 0
  else
    zb1 (zgr X x0 9 5) fun a5 =>
    zb1 (zaz X a5 x1) fun v6 =>
    if v6 = 0 then
      some 0
    else
      zb1 (zgr X x0 9 6) fun a10 =>
      zb1 (zai X a10 x1) fun v11 =>
      some v11
def L_ZoneNodesModel_size_26 (N : Nat) (X : zh_T) (w0 : Nat) (w1 : Int32) : Nat → Int32 → Int32 → Option Int32
  | 0, _, _ => none
  | n + 1, w2, w3 =>
    if ((256 * w1) + 256) ≤ w3 then
      some w2
    else
      zb1 (zgr X w0 9 7) fun a11 =>
      zb1 (zaz X a11 w3) fun v12 =>
      if v12 = 0 then
        L_ZoneNodesModel_size_26 N X w0 w1 n (w2 + 0) (w3 + 1)
      else
        L_ZoneNodesModel_size_26 N X w0 w1 n (w2 + 1) (w3 + 1)
def f_ZoneNodesModel_size (N : Nat) (X : zh_T) (x0 : Nat) (x1 : Int32) : Option Int32 :=
  zb1 (f_ZoneNodesModel_isNode N X x1) fun v2 =>
  if v2 = 0 then
    some (-1)
  else
    zb1 (zgr X x0 9 5) fun a5 =>
    zb1 (zaz X a5 x1) fun v6 =>
    if v6 = 0 then
      some (-1)
    else
      zb1 (L_ZoneNodesModel_size_26 N X x0 x1 N 0 (256 * x1)) fun v15 =>
      some v15
def f_ZoneNodesModel_state (N : Nat) (X : zh_T) (x0 : Nat) (x1 : Int32) : Option Int32 :=
  zb1 (f_ZoneNodesModel_isNode N X x1) fun v2 =>
  if v2 = 0 then
    some (-1)
  else
    zb1 (zgr X x0 9 4) fun a5 =>
    zb1 (zaz X a5 x1) fun v6 =>
    if v6 = 0 then
      some 3
    else
      if x1 = 0 then
        some 0
      else
        zb1 (zgr X x0 9 9) fun a11 =>
        zb1 (zai X a11 x1) fun v12 =>
        some v12
def L_ZoneNodesModel_tick_32 (N : Nat) (w0 : Nat) (w1 : Int32) (w2 : Int32) : Nat → zh_T → Int32 → Option (Unit × zh_T)
  | 0, _, _ => none
  | n + 1, X, w3 =>
    if 2 < w3 then
      some ((), X)
    else
      zb1 (zgr X w0 9 9) fun a10 =>
      zb1 (zai X a10 w3) fun v11 =>
      if v11 = 1 then
        zb1 (zgr X w0 9 10) fun a46 =>
        zb1 (zai X a46 w3) fun v47 =>
        zb1 (zgi X w0 9 3) fun v50 =>
        zb1 (zgi X w0 9 1) fun v52 =>
        if (v50 - v52) < v47 then
          zb1 (zgr X w0 9 9) fun a55 =>
          zb1 (zai X a55 w3) fun v56 =>
          if v56 = 0 then
            zb1 (zgr X w0 9 10) fun a65 =>
            zb1 (zai X a65 w3) fun v66 =>
            zb1 (zgi X w0 9 3) fun v69 =>
            if v69 < v66 then
              zb1 (zgr X w0 9 4) fun a72 =>
              zb1 (zaz X a72 w3) fun v73 =>
              if v73 = 0 then
                L_ZoneNodesModel_tick_32 N w0 w1 w2 n X (w3 + 1)
              else
                L_ZoneNodesModel_tick_32 N w0 w1 w2 n X (w3 + 1)
            else
              zb1 (zgr X w0 9 4) fun a77 =>
              zb1 (zaz X a77 w3) fun v78 =>
              if v78 = 0 then
                L_ZoneNodesModel_tick_32 N w0 w1 w2 n X (w3 + 1)
              else
                zb1 (zck X w0 9) fun _ =>
                zb2 (f_ZoneNodesModel_ask N X w0 w3) fun _ X84 =>
                L_ZoneNodesModel_tick_32 N w0 w1 w2 n X84 (w3 + 1)
          else
            zb1 (zgr X w0 9 4) fun a60 =>
            zb1 (zaz X a60 w3) fun v61 =>
            if v61 = 0 then
              L_ZoneNodesModel_tick_32 N w0 w1 w2 n X (w3 + 1)
            else
              L_ZoneNodesModel_tick_32 N w0 w1 w2 n X (w3 + 1)
        else
          zb1 (zgr X w0 9 9) fun a86 =>
          zb1 (zai X a86 w3) fun v87 =>
          if v87 = 0 then
            zb1 (zgr X w0 9 10) fun a100 =>
            zb1 (zai X a100 w3) fun v101 =>
            zb1 (zgi X w0 9 3) fun v104 =>
            if v104 < v101 then
              zb1 (zgr X w0 9 4) fun a107 =>
              zb1 (zaz X a107 w3) fun v108 =>
              if v108 = 0 then
                L_ZoneNodesModel_tick_32 N w0 w1 w2 n X (w3 + 1)
              else
                zb1 (zck X w0 9) fun _ =>
                zb2 (f_ZoneNodesModel_ask N X w0 w3) fun _ X114 =>
                L_ZoneNodesModel_tick_32 N w0 w1 w2 n X114 (w3 + 1)
            else
              zb1 (zgr X w0 9 4) fun a116 =>
              zb1 (zaz X a116 w3) fun v117 =>
              if v117 = 0 then
                L_ZoneNodesModel_tick_32 N w0 w1 w2 n X (w3 + 1)
              else
                zb1 (zck X w0 9) fun _ =>
                zb2 (f_ZoneNodesModel_ask N X w0 w3) fun _ X123 =>
                L_ZoneNodesModel_tick_32 N w0 w1 w2 n X123 (w3 + 1)
          else
            zb1 (zgr X w0 9 4) fun a91 =>
            zb1 (zaz X a91 w3) fun v92 =>
            if v92 = 0 then
              L_ZoneNodesModel_tick_32 N w0 w1 w2 n X (w3 + 1)
            else
              zb1 (zck X w0 9) fun _ =>
              zb2 (f_ZoneNodesModel_ask N X w0 w3) fun _ X98 =>
              L_ZoneNodesModel_tick_32 N w0 w1 w2 n X98 (w3 + 1)
      else
        zb1 (zgr X w0 9 9) fun a15 =>
        zb1 (zai X a15 w3) fun v16 =>
        if v16 = 0 then
          zb1 (zgr X w0 9 10) fun a25 =>
          zb1 (zai X a25 w3) fun v26 =>
          zb1 (zgi X w0 9 3) fun v29 =>
          if v29 < v26 then
            zb1 (zgr X w0 9 4) fun a32 =>
            zb1 (zaz X a32 w3) fun v33 =>
            if v33 = 0 then
              L_ZoneNodesModel_tick_32 N w0 w1 w2 n X (w3 + 1)
            else
              L_ZoneNodesModel_tick_32 N w0 w1 w2 n X (w3 + 1)
          else
            zb1 (zgr X w0 9 4) fun a37 =>
            zb1 (zaz X a37 w3) fun v38 =>
            if v38 = 0 then
              L_ZoneNodesModel_tick_32 N w0 w1 w2 n X (w3 + 1)
            else
              zb1 (zck X w0 9) fun _ =>
              zb2 (f_ZoneNodesModel_ask N X w0 w3) fun _ X44 =>
              L_ZoneNodesModel_tick_32 N w0 w1 w2 n X44 (w3 + 1)
        else
          zb1 (zgr X w0 9 4) fun a20 =>
          zb1 (zaz X a20 w3) fun v21 =>
          if v21 = 0 then
            L_ZoneNodesModel_tick_32 N w0 w1 w2 n X (w3 + 1)
          else
            L_ZoneNodesModel_tick_32 N w0 w1 w2 n X (w3 + 1)
def L_ZoneNodesModel_tick_15 (N : Nat) (w0 : Nat) (w1 : Int32) : Nat → zh_T → Int32 → Option (Unit × zh_T)
  | 0, _, _ => none
  | n + 1, X, w2 =>
    if w1 ≤ w2 then
      some ((), X)
    else
      zb1 (zgi X w0 9 3) fun v5 =>
      zb1 (zp X w0 9 3 (.int (v5 + 1))) fun X6 =>
      zb2 (L_ZoneNodesModel_tick_32 N w0 w1 w2 N X6 1) fun v124 X126 =>
      L_ZoneNodesModel_tick_15 N w0 w1 n X126 (w2 + 1)
def f_ZoneNodesModel_tick (N : Nat) (X : zh_T) (x0 : Nat) (x1 : Int32) : Option (Int32 × zh_T) :=
  if x1 < 1 then
    some (0, X)
  else
    if x1 ≤ 20 then
      zb2 (L_ZoneNodesModel_tick_15 N x0 x1 N X 0) fun v127 X129 =>
      some (1, X129)
    else
      some (0, X)
def L_ZoneNodesModel_works_5 (N : Nat) (X : zh_T) (w0 : Nat) (w2 : Int32) : Nat → Int32 → Int32 → Option Int32
  | 0, _, _ => none
  | n + 1, w3, w4 =>
    if w2 ≤ w4 then
      some w3
    else
      zb1 (zgr X w0 9 23) fun a3 =>
      zb1 (zaz X a3 w4) fun v4 =>
      if v4 = 0 then
        L_ZoneNodesModel_works_5 N X w0 w2 n (w3 + 0) (w4 + 1)
      else
        L_ZoneNodesModel_works_5 N X w0 w2 n (w3 + 1) (w4 + 1)
def f_ZoneNodesModel_works (N : Nat) (X : zh_T) (x0 : Nat) (x1 : Int32) (x2 : Int32) : Option Int32 :=
  zb1 (L_ZoneNodesModel_works_5 N X x0 x2 N 0 x1) fun v7 =>
  some v7
def L_ZoneNodesModel_add_77 (N : Nat) (w0 : Nat) (w1 : Int32) (w2 : Int32) (w3 : Int32) (w6 : Int32) : Nat → zh_T → Int32 → Option (Unit × zh_T)
  | 0, _, _ => none
  | n + 1, X, w7 =>
    if 8 ≤ w7 then
      some ((), X)
    else
      if w6 = 0 then
        some ((), X)
      else
        if w2 = 2 then
          zb1 (zgr X w0 9 23) fun a17 =>
          zb1 (f_ZoneNodesModel_place N X w1 2 w7) fun v19 =>
          zb1 (zsz X a17 v19 0) fun X20 =>
          L_ZoneNodesModel_add_77 N w0 w1 w2 w3 w6 n X20 (w7 + 1)
        else
          some ((), X)
def f_ZoneNodesModel_add (N : Nat) (X : zh_T) (x0 : Nat) (x1 : Int32) (x2 : Int32) (x3 : Int32) : Option (Unit × zh_T) :=
  zb1 (zck X x0 9) fun _ =>
  zb1 (f_ZoneNodesModel_works N X x0 (32 * x1) ((32 * x1) + 32)) fun v3 =>
  zb1 (f_ZoneNodesModel_place N X x1 2 0) fun v5 =>
  zb1 (f_ZoneNodesModel_place N X x1 2 0) fun v7 =>
  zb1 (zck X x0 9) fun _ =>
  zb1 (f_ZoneNodesModel_works N X x0 v5 (v7 + 8)) fun v10 =>
  if x2 = 2 then
    if x1 = 0 then
      zb2 (L_ZoneNodesModel_add_77 N x0 x1 x2 x3 0 N X 0) fun v22 X24 =>
      some ((), X24)
    else
      if v3 = v10 then
        zb2 (L_ZoneNodesModel_add_77 N x0 x1 x2 x3 1 N X 0) fun v29 X31 =>
        zb1 (zgr X31 x0 9 23) fun a33 =>
        zb1 (f_ZoneNodesModel_place N X31 x1 x2 x3) fun v35 =>
        zb1 (zsz X31 a33 v35 1) fun X36 =>
        some ((), X36)
      else
        zb2 (L_ZoneNodesModel_add_77 N x0 x1 x2 x3 0 N X 0) fun v26 X28 =>
        some ((), X28)
  else
    if v10 = 0 then
      zb2 (L_ZoneNodesModel_add_77 N x0 x1 x2 x3 1 N X 0) fun v42 X44 =>
      zb1 (zgr X44 x0 9 23) fun a46 =>
      zb1 (f_ZoneNodesModel_place N X44 x1 x2 x3) fun v48 =>
      zb1 (zsz X44 a46 v48 1) fun X49 =>
      some ((), X49)
    else
      zb2 (L_ZoneNodesModel_add_77 N x0 x1 x2 x3 0 N X 0) fun v39 X41 =>
      some ((), X41)
def L_ZoneNodesModel_perform_85 (N : Nat) (w0 : Nat) (w2 : Int32) (w3 : Int32) (w4 : Int32) (w5 : Int32) (w6 : Int32) : Nat → zh_T → Int32 → Option (Unit × zh_T)
  | 0, _, _ => none
  | n + 1, X, w7 =>
    if ((32 * w3) + 32) ≤ w7 then
      some ((), X)
    else
      if w2 = 1 then
        if w7 < w6 then
          if w2 = 2 then
            zb1 (zgr X w0 9 23) fun a27 =>
            zb1 (zgr X w0 9 23) fun a29 =>
            zb1 (zaz X a29 w7) fun v30 =>
            if v30 = 0 then
              zb1 (zsz X a27 w7 0) fun X33 =>
              L_ZoneNodesModel_perform_85 N w0 w2 w3 w4 w5 w6 n X33 (w7 + 1)
            else
              zb1 (zsz X a27 w7 0) fun X35 =>
              L_ZoneNodesModel_perform_85 N w0 w2 w3 w4 w5 w6 n X35 (w7 + 1)
          else
            if ((w7 - (32 * w3)) / 8) = (w4 - 1) then
              zb1 (zgr X w0 9 23) fun a50 =>
              zb1 (zgr X w0 9 23) fun a52 =>
              zb1 (zaz X a52 w7) fun v53 =>
              if v53 = 0 then
                zb1 (zsz X a50 w7 0) fun X56 =>
                L_ZoneNodesModel_perform_85 N w0 w2 w3 w4 w5 w6 n X56 (w7 + 1)
              else
                zb1 (zsz X a50 w7 0) fun X58 =>
                L_ZoneNodesModel_perform_85 N w0 w2 w3 w4 w5 w6 n X58 (w7 + 1)
            else
              zb1 (zgr X w0 9 23) fun a39 =>
              zb1 (zgr X w0 9 23) fun a41 =>
              zb1 (zaz X a41 w7) fun v42 =>
              if v42 = 0 then
                zb1 (zsz X a39 w7 0) fun X45 =>
                L_ZoneNodesModel_perform_85 N w0 w2 w3 w4 w5 w6 n X45 (w7 + 1)
              else
                zb1 (zsz X a39 w7 1) fun X47 =>
                L_ZoneNodesModel_perform_85 N w0 w2 w3 w4 w5 w6 n X47 (w7 + 1)
        else
          if (w6 + 8) ≤ w7 then
            if w2 = 2 then
              zb1 (zgr X w0 9 23) fun a63 =>
              zb1 (zgr X w0 9 23) fun a65 =>
              zb1 (zaz X a65 w7) fun v66 =>
              if v66 = 0 then
                zb1 (zsz X a63 w7 0) fun X69 =>
                L_ZoneNodesModel_perform_85 N w0 w2 w3 w4 w5 w6 n X69 (w7 + 1)
              else
                zb1 (zsz X a63 w7 0) fun X71 =>
                L_ZoneNodesModel_perform_85 N w0 w2 w3 w4 w5 w6 n X71 (w7 + 1)
            else
              if ((w7 - (32 * w3)) / 8) = (w4 - 1) then
                zb1 (zgr X w0 9 23) fun a86 =>
                zb1 (zgr X w0 9 23) fun a88 =>
                zb1 (zaz X a88 w7) fun v89 =>
                if v89 = 0 then
                  zb1 (zsz X a86 w7 0) fun X92 =>
                  L_ZoneNodesModel_perform_85 N w0 w2 w3 w4 w5 w6 n X92 (w7 + 1)
                else
                  zb1 (zsz X a86 w7 0) fun X94 =>
                  L_ZoneNodesModel_perform_85 N w0 w2 w3 w4 w5 w6 n X94 (w7 + 1)
              else
                zb1 (zgr X w0 9 23) fun a75 =>
                zb1 (zgr X w0 9 23) fun a77 =>
                zb1 (zaz X a77 w7) fun v78 =>
                if v78 = 0 then
                  zb1 (zsz X a75 w7 0) fun X81 =>
                  L_ZoneNodesModel_perform_85 N w0 w2 w3 w4 w5 w6 n X81 (w7 + 1)
                else
                  zb1 (zsz X a75 w7 1) fun X83 =>
                  L_ZoneNodesModel_perform_85 N w0 w2 w3 w4 w5 w6 n X83 (w7 + 1)
          else
            zb1 (zgr X w0 9 23) fun a97 =>
            zb1 (zgr X w0 9 23) fun a99 =>
            zb1 (zaz X a99 w7) fun v100 =>
            if v100 = 0 then
              zb1 (zsz X a97 w7 0) fun X103 =>
              L_ZoneNodesModel_perform_85 N w0 w2 w3 w4 w5 w6 n X103 (w7 + 1)
            else
              zb1 (zsz X a97 w7 1) fun X105 =>
              L_ZoneNodesModel_perform_85 N w0 w2 w3 w4 w5 w6 n X105 (w7 + 1)
      else
        if w2 = 2 then
          if w7 < w6 then
            if w2 = 2 then
              zb1 (zgr X w0 9 23) fun a111 =>
              zb1 (zgr X w0 9 23) fun a113 =>
              zb1 (zaz X a113 w7) fun v114 =>
              if v114 = 0 then
                zb1 (zsz X a111 w7 0) fun X117 =>
                L_ZoneNodesModel_perform_85 N w0 w2 w3 w4 w5 w6 n X117 (w7 + 1)
              else
                zb1 (zsz X a111 w7 0) fun X119 =>
                L_ZoneNodesModel_perform_85 N w0 w2 w3 w4 w5 w6 n X119 (w7 + 1)
            else
              if ((w7 - (32 * w3)) / 8) = (w4 - 1) then
                zb1 (zgr X w0 9 23) fun a134 =>
                zb1 (zgr X w0 9 23) fun a136 =>
                zb1 (zaz X a136 w7) fun v137 =>
                if v137 = 0 then
                  zb1 (zsz X a134 w7 0) fun X140 =>
                  L_ZoneNodesModel_perform_85 N w0 w2 w3 w4 w5 w6 n X140 (w7 + 1)
                else
                  zb1 (zsz X a134 w7 0) fun X142 =>
                  L_ZoneNodesModel_perform_85 N w0 w2 w3 w4 w5 w6 n X142 (w7 + 1)
              else
                zb1 (zgr X w0 9 23) fun a123 =>
                zb1 (zgr X w0 9 23) fun a125 =>
                zb1 (zaz X a125 w7) fun v126 =>
                if v126 = 0 then
                  zb1 (zsz X a123 w7 0) fun X129 =>
                  L_ZoneNodesModel_perform_85 N w0 w2 w3 w4 w5 w6 n X129 (w7 + 1)
                else
                  zb1 (zsz X a123 w7 1) fun X131 =>
                  L_ZoneNodesModel_perform_85 N w0 w2 w3 w4 w5 w6 n X131 (w7 + 1)
          else
            if (w6 + 8) ≤ w7 then
              if w2 = 2 then
                zb1 (zgr X w0 9 23) fun a147 =>
                zb1 (zgr X w0 9 23) fun a149 =>
                zb1 (zaz X a149 w7) fun v150 =>
                if v150 = 0 then
                  zb1 (zsz X a147 w7 0) fun X153 =>
                  L_ZoneNodesModel_perform_85 N w0 w2 w3 w4 w5 w6 n X153 (w7 + 1)
                else
                  zb1 (zsz X a147 w7 0) fun X155 =>
                  L_ZoneNodesModel_perform_85 N w0 w2 w3 w4 w5 w6 n X155 (w7 + 1)
              else
                if ((w7 - (32 * w3)) / 8) = (w4 - 1) then
                  zb1 (zgr X w0 9 23) fun a170 =>
                  zb1 (zgr X w0 9 23) fun a172 =>
                  zb1 (zaz X a172 w7) fun v173 =>
                  if v173 = 0 then
                    zb1 (zsz X a170 w7 0) fun X176 =>
                    L_ZoneNodesModel_perform_85 N w0 w2 w3 w4 w5 w6 n X176 (w7 + 1)
                  else
                    zb1 (zsz X a170 w7 0) fun X178 =>
                    L_ZoneNodesModel_perform_85 N w0 w2 w3 w4 w5 w6 n X178 (w7 + 1)
                else
                  zb1 (zgr X w0 9 23) fun a159 =>
                  zb1 (zgr X w0 9 23) fun a161 =>
                  zb1 (zaz X a161 w7) fun v162 =>
                  if v162 = 0 then
                    zb1 (zsz X a159 w7 0) fun X165 =>
                    L_ZoneNodesModel_perform_85 N w0 w2 w3 w4 w5 w6 n X165 (w7 + 1)
                  else
                    zb1 (zsz X a159 w7 1) fun X167 =>
                    L_ZoneNodesModel_perform_85 N w0 w2 w3 w4 w5 w6 n X167 (w7 + 1)
            else
              zb1 (zgr X w0 9 23) fun a181 =>
              zb1 (zgr X w0 9 23) fun a183 =>
              zb1 (zaz X a183 w7) fun v184 =>
              if v184 = 0 then
                zb1 (zsz X a181 w7 0) fun X187 =>
                L_ZoneNodesModel_perform_85 N w0 w2 w3 w4 w5 w6 n X187 (w7 + 1)
              else
                zb1 (zsz X a181 w7 1) fun X189 =>
                L_ZoneNodesModel_perform_85 N w0 w2 w3 w4 w5 w6 n X189 (w7 + 1)
        else
          some ((), X)
def f_ZoneNodesModel_perform (N : Nat) (X : zh_T) (x0 : Nat) (x1 : Int32) : Option (Unit × zh_T) :=
  zb1 (zgr X x0 9 16) fun a2 =>
  zb1 (zai X a2 (4 * x1)) fun v3 =>
  zb1 (zgr X x0 9 16) fun a6 =>
  zb1 (zai X a6 ((4 * x1) + 1)) fun v7 =>
  zb1 (zgr X x0 9 16) fun a10 =>
  zb1 (zai X a10 ((4 * x1) + 2)) fun v11 =>
  zb1 (zgr X x0 9 16) fun a14 =>
  zb1 (zai X a14 ((4 * x1) + 3)) fun v15 =>
  zb1 (f_ZoneNodesModel_place N X v7 v11 v15) fun v18 =>
  zb1 (f_ZoneNodesModel_place N X 0 3 0) fun v20 =>
  if v3 = 0 then
    zb1 (zgr X x0 9 16) fun a217 =>
    zb1 (zai X a217 ((4 * x1) + 3)) fun v218 =>
    zb1 (zck X x0 9) fun _ =>
    zb2 (f_ZoneNodesModel_add N X x0 v7 v11 v218) fun _ X223 =>
    zb2 (L_ZoneNodesModel_perform_85 N x0 v3 v7 v11 v18 v20 N X223 (32 * v7)) fun v224 X226 =>
    if v18 < v20 then
      if v3 = 3 then
        zb1 (zgr X226 x0 9 23) fun a230 =>
        zb1 (zsz X226 a230 v18 0) fun X231 =>
        some ((), X231)
      else
        some ((), X226)
    else
      if (v20 + 8) ≤ v18 then
        if v3 = 3 then
          zb1 (zgr X226 x0 9 23) fun a236 =>
          zb1 (zsz X226 a236 v18 0) fun X237 =>
          some ((), X237)
        else
          some ((), X226)
      else
        zb1 (zck X226 x0 9) fun _ =>
        zb1 (f_ZoneNodesModel_works N X226 x0 v20 (v20 + 8)) fun v241 =>
        if v241 = 1 then
          if v3 = 3 then
            some ((), X226)
          else
            some ((), X226)
        else
          if v3 = 3 then
            zb1 (zgr X226 x0 9 23) fun a245 =>
            zb1 (zsz X226 a245 v18 0) fun X246 =>
            some ((), X246)
          else
            some ((), X226)
  else
    zb2 (L_ZoneNodesModel_perform_85 N x0 v3 v7 v11 v18 v20 N X (32 * v7)) fun v191 X193 =>
    if v18 < v20 then
      if v3 = 3 then
        zb1 (zgr X193 x0 9 23) fun a197 =>
        zb1 (zsz X193 a197 v18 0) fun X198 =>
        some ((), X198)
      else
        some ((), X193)
    else
      if (v20 + 8) ≤ v18 then
        if v3 = 3 then
          zb1 (zgr X193 x0 9 23) fun a203 =>
          zb1 (zsz X193 a203 v18 0) fun X204 =>
          some ((), X204)
        else
          some ((), X193)
      else
        zb1 (zck X193 x0 9) fun _ =>
        zb1 (f_ZoneNodesModel_works N X193 x0 v20 (v20 + 8)) fun v208 =>
        if v208 = 1 then
          if v3 = 3 then
            some ((), X193)
          else
            some ((), X193)
        else
          if v3 = 3 then
            zb1 (zgr X193 x0 9 23) fun a212 =>
            zb1 (zsz X193 a212 v18 0) fun X213 =>
            some ((), X213)
          else
            some ((), X193)
def L_ZoneNodesModel_exact_41 (N : Nat) (X : zh_T) (w0 : Nat) (w2 : Int32) (w3 : Int32) (w4 : Int32) (w5 : Int32) : Nat → Int32 → Int32 → Option Int32
  | 0, _, _ => none
  | n + 1, w6, w7 =>
    zb1 (zgi X w0 9 14) fun v11 =>
    if v11 ≤ w7 then
      some w6
    else
      if w6 = 0 then
        zb1 (zgr X w0 9 16) fun a15 =>
        zb1 (zai X a15 (4 * w7)) fun v16 =>
        if v16 = 3 then
          zb1 (zgr X w0 9 16) fun a20 =>
          zb1 (zai X a20 ((4 * w7) + 1)) fun v21 =>
          if v21 = w2 then
            zb1 (zgr X w0 9 16) fun a25 =>
            zb1 (zai X a25 ((4 * w7) + 2)) fun v26 =>
            if v26 = w3 then
              zb1 (zgr X w0 9 16) fun a30 =>
              zb1 (zai X a30 ((4 * w7) + 3)) fun v31 =>
              if v31 = w5 then
                L_ZoneNodesModel_exact_41 N X w0 w2 w3 w4 w5 n 1 (w7 + 1)
              else
                L_ZoneNodesModel_exact_41 N X w0 w2 w3 w4 w5 n 0 (w7 + 1)
            else
              L_ZoneNodesModel_exact_41 N X w0 w2 w3 w4 w5 n 0 (w7 + 1)
          else
            L_ZoneNodesModel_exact_41 N X w0 w2 w3 w4 w5 n 0 (w7 + 1)
        else
          L_ZoneNodesModel_exact_41 N X w0 w2 w3 w4 w5 n 0 (w7 + 1)
      else
        L_ZoneNodesModel_exact_41 N X w0 w2 w3 w4 w5 n 1 (w7 + 1)
def L_ZoneNodesModel_exact_28 (N : Nat) (X : zh_T) (w0 : Nat) (w2 : Int32) (w3 : Int32) : Nat → Int32 → Int32 → Option Int32
  | 0, _, _ => none
  | n + 1, w4, w5 =>
    if 8 ≤ w5 then
      some w4
    else
      zb1 (L_ZoneNodesModel_exact_41 N X w0 w2 w3 w4 w5 N 0 0) fun v34 =>
      if w4 = 0 then
        L_ZoneNodesModel_exact_28 N X w0 w2 w3 n 0 (w5 + 1)
      else
        zb1 (zgr X w0 9 7) fun a38 =>
        zb1 (f_ZoneNodesModel_place N X w2 w3 w5) fun v40 =>
        zb1 (zaz X a38 v40) fun v41 =>
        if v34 = v41 then
          L_ZoneNodesModel_exact_28 N X w0 w2 w3 n 1 (w5 + 1)
        else
          L_ZoneNodesModel_exact_28 N X w0 w2 w3 n 0 (w5 + 1)
def f_ZoneNodesModel_exact (N : Nat) (X : zh_T) (x0 : Nat) (x1 : Int32) : Option Int32 :=
  zb1 (zgr X x0 9 16) fun a2 =>
  zb1 (zai X a2 ((4 * x1) + 1)) fun v3 =>
  zb1 (zgr X x0 9 16) fun a6 =>
  zb1 (zai X a6 ((4 * x1) + 2)) fun v7 =>
  zb1 (L_ZoneNodesModel_exact_28 N X x0 v3 v7 N 1 0) fun v44 =>
  zb1 (zbz v44) fun v46 =>
  some v46
def L_ZoneNodesModel_count_8 (N : Nat) (X : zh_T) (w0 : Nat) (w1 : Int32) (w2 : Int32) : Nat → Int32 → Int32 → Option Int32
  | 0, _, _ => none
  | n + 1, w3, w4 =>
    if ((32 * w1) + 32) ≤ w4 then
      some w3
    else
      zb1 (zgr X w0 9 7) fun a3 =>
      zb1 (zaz X a3 w4) fun v4 =>
      if v4 = 0 then
        L_ZoneNodesModel_count_8 N X w0 w1 w2 n (w3 + 0) (w4 + 1)
      else
        if w2 = 0 then
          L_ZoneNodesModel_count_8 N X w0 w1 w2 n (w3 + 1) (w4 + 1)
        else
          if ((w4 - (32 * w1)) / 8) = (w2 - 1) then
            L_ZoneNodesModel_count_8 N X w0 w1 w2 n (w3 + 1) (w4 + 1)
          else
            L_ZoneNodesModel_count_8 N X w0 w1 w2 n (w3 + 0) (w4 + 1)
def f_ZoneNodesModel_count (N : Nat) (X : zh_T) (x0 : Nat) (x1 : Int32) (x2 : Int32) : Option Int32 :=
  zb1 (L_ZoneNodesModel_count_8 N X x0 x1 x2 N 0 (32 * x1)) fun v9 =>
  some v9
def f_ZoneNodesModel_meets (N : Nat) (X : zh_T) (x0 : Nat) (x1 : Int32) : Option Int32 :=
  zb1 (zgr X x0 9 16) fun a2 =>
  zb1 (zai X a2 (4 * x1)) fun v3 =>
  zb1 (zgr X x0 9 16) fun a6 =>
  zb1 (zai X a6 ((4 * x1) + 1)) fun v7 =>
  zb1 (zck X x0 9) fun _ =>
  zb1 (f_ZoneNodesModel_count N X x0 v7 0) fun v11 =>
  zb1 (zgr X x0 9 16) fun a13 =>
  zb1 (zai X a13 ((4 * x1) + 1)) fun v14 =>
  zb1 (zgr X x0 9 16) fun a17 =>
  zb1 (zai X a17 ((4 * x1) + 2)) fun v18 =>
  zb1 (zck X x0 9) fun _ =>
  zb1 (f_ZoneNodesModel_count N X x0 v14 v18) fun v22 =>
  if v3 = 0 then
    if v11 ≤ 0 then
      some 0
    else
      some 1
  else
    if v3 = 1 then
      if v11 = 0 then
        some 1
      else
        some 0
    else
      if v3 = 2 then
        if v22 ≤ 0 then
          some 0
        else
          some 1
      else
        if v3 = 4 then
          if v22 = 0 then
            some 1
          else
            some 0
        else
          some 1
def L_ZoneNodesModel_refusal_68 (N : Nat) (X : zh_T) (w0 : Nat) : Nat → Int32 → Option (Int32 ⊕ Unit)
  | 0, _ => none
  | n + 1, w6 =>
    zb1 (zgi X w0 9 14) fun v17 =>
    if v17 ≤ w6 then
      some (Sum.inr ())
    else
      zb1 (zgr X w0 9 16) fun a20 =>
      zb1 (zai X a20 (4 * w6)) fun v21 =>
      zb1 (zck X w0 9) fun _ =>
      zb1 (f_ZoneNodesModel_meets N X w0 w6) fun v25 =>
      if v25 = 0 then
        if v21 = 0 then
          some (Sum.inl 3)
        else
          if v21 = 1 then
            some (Sum.inl 6)
          else
            if v21 = 2 then
              some (Sum.inl 8)
            else
              some (Sum.inl 7)
      else
        L_ZoneNodesModel_refusal_68 N X w0 n (w6 + 1)
def L_ZoneNodesModel_refusal_140 (N : Nat) (X : zh_T) (w0 : Nat) : Nat → Int32 → Option (Int32 ⊕ Unit)
  | 0, _ => none
  | n + 1, w6 =>
    zb1 (zgi X w0 9 14) fun v33 =>
    if v33 ≤ w6 then
      some (Sum.inr ())
    else
      zb1 (zgr X w0 9 16) fun a36 =>
      zb1 (zai X a36 (4 * w6)) fun v37 =>
      if v37 = 3 then
        zb1 (zck X w0 9) fun _ =>
        zb1 (f_ZoneNodesModel_exact N X w0 w6) fun v42 =>
        if v42 = 0 then
          some (Sum.inl 8)
        else
          L_ZoneNodesModel_refusal_140 N X w0 n (w6 + 1)
      else
        L_ZoneNodesModel_refusal_140 N X w0 n (w6 + 1)
def f_ZoneNodesModel_refusal (N : Nat) (X : zh_T) (x0 : Nat) (x1 : Int32) (x2 : Int32) (x3 : Int32) : Option Int32 :=
  if x1 < 0 then
    some 17
  else
    if 2 < x1 then
      some 17
    else
      zb1 (zgr X x0 9 12) fun a4 =>
      zb1 (zaz X a4 x1) fun v5 =>
      if v5 = 0 then
        some 17
      else
        zb1 (zck X x0 9) fun _ =>
        zb1 (f_ZoneNodesModel_sealed N X x0 x1 x2) fun v10 =>
        if x3 = v10 then
          zb1 (zgi X x0 9 3) fun v13 =>
          if 0 < (lg_cmp (x2.toInt64 - v13.toInt64) 5) then
            some 18
          else
            if 0 ≤ (lg_cmp (x2.toInt64 - v13.toInt64) (-5)) then
              zbs (L_ZoneNodesModel_refusal_68 N X x0 N 0) (fun r0 => some r0) fun v30 =>
              zbs (L_ZoneNodesModel_refusal_140 N X x0 N 0) (fun r0 => some r0) fun v44 =>
              some 0
            else
              some 18
        else
          some 16
def L_ZoneNodesModel_write_45 (N : Nat) (w0 : Nat) : Nat → zh_T → Int32 → Option (Unit × zh_T)
  | 0, _, _ => none
  | n + 1, X, w1 =>
    if 256 ≤ w1 then
      some ((), X)
    else
      zb1 (zgr X w0 9 21) fun a59 =>
      zb1 (zgi X w0 9 18) fun v61 =>
      zb1 (zgr X w0 9 23) fun a63 =>
      zb1 (zaz X a63 w1) fun v64 =>
      zb1 (zsz X a59 ((256 * v61) + w1) v64) fun X66 =>
      zb1 (zgr X66 w0 9 22) fun a69 =>
      zb1 (zgi X66 w0 9 18) fun v71 =>
      zb1 (zai X66 a69 v71) fun v72 =>
      zb1 (zgr X66 w0 9 23) fun a75 =>
      zb1 (zaz X66 a75 w1) fun v76 =>
      zb1 (zgr X66 w0 9 7) fun a79 =>
      zb1 (zaz X66 a79 w1) fun v80 =>
      if v76 = v80 then
        zb1 (zsi X66 a69 v71 (v72 + 0)) fun X85 =>
        L_ZoneNodesModel_write_45 N w0 n X85 (w1 + 1)
      else
        zb1 (zsi X66 a69 v71 (v72 + 1)) fun X83 =>
        L_ZoneNodesModel_write_45 N w0 n X83 (w1 + 1)
def f_ZoneNodesModel_write (N : Nat) (X : zh_T) (x0 : Nat) : Option (Int32 × zh_T) :=
  zb1 (zgi X x0 9 17) fun v2 =>
  if v2 = 1 then
    zb1 (zgi X x0 9 17) fun v5 =>
    if v5 = 1 then
      zb1 (zck X x0 9) fun _ =>
      zb2 (f_ZoneNodesModel_crash N X x0 0) fun v9 X10 =>
      some ((-1), X10)
    else
      zb1 (zgi X x0 9 17) fun v12 =>
      if v12 = 2 then
        zb1 (zck X x0 9) fun _ =>
        zb2 (f_ZoneNodesModel_crash N X x0 0) fun v33 X34 =>
        some ((-1), X34)
      else
        zb1 (zgr X x0 9 20) fun a15 =>
        zb1 (zgi X x0 9 18) fun v17 =>
        zb1 (zsz X a15 (v17 - 1) 1) fun X18 =>
        zb1 (zgi X18 x0 9 17) fun v21 =>
        if v21 = 3 then
          zb1 (zck X18 x0 9) fun _ =>
          zb2 (f_ZoneNodesModel_crash N X18 x0 0) fun v29 X30 =>
          some ((-1), X30)
        else
          zb1 (zck X18 x0 9) fun _ =>
          zb2 (f_ZoneNodesModel_install N X18 x0) fun _ X26 =>
          some (0, X26)
  else
    zb1 (zgr X x0 9 19) fun a36 =>
    zb1 (zgi X x0 9 18) fun v38 =>
    zb1 (zgr X x0 9 6) fun a40 =>
    zb1 (zai X a40 0) fun v41 =>
    zb1 (zsi X a36 v38 v41) fun X43 =>
    zb1 (zgr X43 x0 9 20) fun a46 =>
    zb1 (zgi X43 x0 9 18) fun v48 =>
    zb1 (zsz X43 a46 v48 0) fun X49 =>
    zb1 (zgr X49 x0 9 22) fun a52 =>
    zb1 (zgi X49 x0 9 18) fun v54 =>
    zb1 (zsi X49 a52 v54 0) fun X55 =>
    zb2 (L_ZoneNodesModel_write_45 N x0 N X55 0) fun v87 X89 =>
    zb1 (zgi X89 x0 9 18) fun v91 =>
    zb1 (zp X89 x0 9 18 (.int (v91 + 1))) fun X92 =>
    zb1 (zgi X92 x0 9 17) fun v95 =>
    if v95 = 1 then
      zb1 (zck X92 x0 9) fun _ =>
      zb2 (f_ZoneNodesModel_crash N X92 x0 0) fun v99 X100 =>
      some ((-1), X100)
    else
      zb1 (zgi X92 x0 9 17) fun v102 =>
      if v102 = 2 then
        zb1 (zck X92 x0 9) fun _ =>
        zb2 (f_ZoneNodesModel_crash N X92 x0 0) fun v123 X124 =>
        some ((-1), X124)
      else
        zb1 (zgr X92 x0 9 20) fun a105 =>
        zb1 (zgi X92 x0 9 18) fun v107 =>
        zb1 (zsz X92 a105 (v107 - 1) 1) fun X108 =>
        zb1 (zgi X108 x0 9 17) fun v111 =>
        if v111 = 3 then
          zb1 (zck X108 x0 9) fun _ =>
          zb2 (f_ZoneNodesModel_crash N X108 x0 0) fun v119 X120 =>
          some ((-1), X120)
        else
          zb1 (zck X108 x0 9) fun _ =>
          zb2 (f_ZoneNodesModel_install N X108 x0) fun _ X116 =>
          some (0, X116)
def L_ZoneNodesModel_update_32 (N : Nat) (w0 : Nat) (w4 : Int32) (w5 : Int32) (w6 : Int32) : Nat → zh_T → Int32 → Option (Unit × zh_T)
  | 0, _, _ => none
  | n + 1, X, w7 =>
    if 256 ≤ w7 then
      some ((), X)
    else
      zb1 (zgr X w0 9 23) fun a13 =>
      zb1 (zgr X w0 9 7) fun a15 =>
      zb1 (zaz X a15 w7) fun v16 =>
      zb1 (zsz X a13 w7 v16) fun X18 =>
      L_ZoneNodesModel_update_32 N w0 w4 w5 w6 n X18 (w7 + 1)
def L_ZoneNodesModel_update_63 (N : Nat) (w0 : Nat) (w4 : Int32) (w5 : Int32) (w6 : Int32) : Nat → zh_T → Int32 → Option (Unit × zh_T)
  | 0, _, _ => none
  | n + 1, X, w7 =>
    if w5 ≤ w7 then
      some ((), X)
    else
      if w4 = 0 then
        zb1 (zck X w0 9) fun _ =>
        zb2 (f_ZoneNodesModel_perform N X w0 (4 + w7)) fun _ X28 =>
        L_ZoneNodesModel_update_63 N w0 w4 w5 w6 n X28 (w7 + 1)
      else
        some ((), X)
def L_ZoneNodesModel_update_102 (N : Nat) (X : zh_T) (w0 : Nat) (w4 : Int32) : Nat → Int32 → Int32 → Option Int32
  | 0, _, _ => none
  | n + 1, w6, w7 =>
    if 256 ≤ w7 then
      some w6
    else
      if w6 = 0 then
        L_ZoneNodesModel_update_102 N X w0 w4 n 0 (w7 + 1)
      else
        zb1 (zgr X w0 9 23) fun a39 =>
        zb1 (zaz X a39 w7) fun v40 =>
        zb1 (zgr X w0 9 7) fun a43 =>
        zb1 (zaz X a43 w7) fun v44 =>
        if v40 = v44 then
          L_ZoneNodesModel_update_102 N X w0 w4 n 1 (w7 + 1)
        else
          L_ZoneNodesModel_update_102 N X w0 w4 n 0 (w7 + 1)
def f_ZoneNodesModel_update (N : Nat) (X : zh_T) (x0 : Nat) (x1 : Int32) (x2 : Int32) (x3 : Int32) : Option (Int32 × zh_T) :=
  zb1 (zgr X x0 9 4) fun a2 =>
  zb1 (zaz X a2 0) fun v3 =>
  if v3 = 0 then
    some ((-1), X)
  else
    zb1 (zck X x0 9) fun _ =>
    zb1 (f_ZoneNodesModel_refusal N X x0 x1 x2 x3) fun v8 =>
    zb1 (zgi X x0 9 15) fun v10 =>
    zb2 (L_ZoneNodesModel_update_32 N x0 v8 v10 1 N X 0) fun v20 X22 =>
    zb2 (L_ZoneNodesModel_update_63 N x0 v8 v10 1 N X22 0) fun v29 X31 =>
    zb1 (zp X31 x0 9 14 (.int 0)) fun X32 =>
    zb1 (zp X32 x0 9 15 (.int 0)) fun X34 =>
    zb1 (L_ZoneNodesModel_update_102 N X34 x0 v8 N 1 0) fun v47 =>
    if v8 ≤ 0 then
      zb1 (zck X34 x0 9) fun _ =>
      zb1 (f_ZoneNodesModel_works N X34 x0 0 256) fun v52 =>
      if v52 ≤ 24 then
        if v47 = 0 then
          zb1 (zck X34 x0 9) fun _ =>
          zb2 (f_ZoneNodesModel_write N X34 x0) fun v57 X58 =>
          some (v57, X58)
        else
          some (0, X34)
      else
        some (2, X34)
    else
      some (v8, X34)
def f_cell (xs : Nat → Int32) (L : Nat) (x1 : Int32) : Option Int32 :=
  if (Int32.ofNat L) ≤ x1 then
    some 0
  else
    zb1 (zsc xs L x1) fun v2 =>
    some v2
def L_ZoneNodesLaw_law_58 (N : Nat) (xs : Nat → Int32) (L : Nat) (w1 : Nat) (w2 : Nat) : Nat → zh_T → Int32 → Option ((Int32 × zh_T) ⊕ (Unit × zh_T))
  | 0, _, _ => none
  | n + 1, X, w3 =>
    if ((Int32.ofNat L) - 5) < w3 then
      some (Sum.inr ((), X))
    else
      zb1 (zsc xs L w3) fun v30 =>
      if (v30 &&& 31) = 0 then
        zb1 (zsc xs L (w3 + 1)) fun v33 =>
        zb1 (zsc xs L (w3 + 2)) fun v35 =>
        zb1 (zck X w1 8) fun _ =>
        zb2 (f_ZoneNodes_key N X w1 v33 v35) fun v39 X40 =>
        zb1 (zsc xs L (w3 + 1)) fun v41 =>
        zb1 (zsc xs L (w3 + 2)) fun v43 =>
        zb1 (zck X40 w2 9) fun _ =>
        zb2 (f_ZoneNodesModel_key N X40 w2 v41 v43) fun v47 X48 =>
        if v39 = v47 then
          L_ZoneNodesLaw_law_58 N xs L w1 w2 n X48 (w3 + 5)
        else
          some (Sum.inl (0, X48))
      else
        if (v30 &&& 31) = 1 then
          zb1 (zsc xs L (w3 + 1)) fun v51 =>
          zb1 (zsc xs L (w3 + 2)) fun v53 =>
          zb1 (zsc xs L (w3 + 3)) fun v55 =>
          zb1 (zsc xs L (w3 + 4)) fun v57 =>
          zb1 (zck X w1 8) fun _ =>
          zb2 (f_ZoneNodes_need N X w1 v51 v53 v55 v57) fun v61 X62 =>
          zb1 (zsc xs L (w3 + 1)) fun v63 =>
          zb1 (zsc xs L (w3 + 2)) fun v65 =>
          zb1 (zsc xs L (w3 + 3)) fun v67 =>
          zb1 (zsc xs L (w3 + 4)) fun v69 =>
          zb1 (zck X62 w2 9) fun _ =>
          zb2 (f_ZoneNodesModel_need N X62 w2 v63 v65 v67 v69) fun v73 X74 =>
          if v61 = v73 then
            L_ZoneNodesLaw_law_58 N xs L w1 w2 n X74 (w3 + 5)
          else
            some (Sum.inl (0, X74))
        else
          if (v30 &&& 31) = 2 then
            zb1 (zsc xs L (w3 + 1)) fun v77 =>
            zb1 (zsc xs L (w3 + 2)) fun v79 =>
            zb1 (zsc xs L (w3 + 3)) fun v81 =>
            zb1 (zsc xs L (w3 + 4)) fun v83 =>
            zb1 (zck X w1 8) fun _ =>
            zb2 (f_ZoneNodes_change N X w1 v77 v79 v81 v83) fun v87 X88 =>
            zb1 (zsc xs L (w3 + 1)) fun v89 =>
            zb1 (zsc xs L (w3 + 2)) fun v91 =>
            zb1 (zsc xs L (w3 + 3)) fun v93 =>
            zb1 (zsc xs L (w3 + 4)) fun v95 =>
            zb1 (zck X88 w2 9) fun _ =>
            zb2 (f_ZoneNodesModel_change N X88 w2 v89 v91 v93 v95) fun v99 X100 =>
            if v87 = v99 then
              L_ZoneNodesLaw_law_58 N xs L w1 w2 n X100 (w3 + 5)
            else
              some (Sum.inl (0, X100))
          else
            if (v30 &&& 31) = 3 then
              zb1 (zsc xs L (w3 + 1)) fun v103 =>
              zb1 (zsc xs L (w3 + 2)) fun v105 =>
              zb1 (zck X w1 8) fun _ =>
              zb1 (f_ZoneNodes_seal N X w1 v103 v105) fun v109 =>
              zb1 (zsc xs L (w3 + 1)) fun v110 =>
              zb1 (zsc xs L (w3 + 2)) fun v112 =>
              zb1 (zck X w2 9) fun _ =>
              zb1 (f_ZoneNodesModel_seal N X w2 v110 v112) fun v116 =>
              if v109 = v116 then
                L_ZoneNodesLaw_law_58 N xs L w1 w2 n X (w3 + 5)
              else
                some (Sum.inl (0, X))
            else
              if (v30 &&& 31) = 4 then
                zb1 (zsc xs L (w3 + 1)) fun v119 =>
                zb1 (zsc xs L (w3 + 2)) fun v121 =>
                zb1 (zsc xs L (w3 + 3)) fun v123 =>
                zb1 (zck X w1 8) fun _ =>
                zb2 (f_ZoneNodes_update N X w1 v119 v121 v123) fun v127 X128 =>
                zb1 (zsc xs L (w3 + 1)) fun v129 =>
                zb1 (zsc xs L (w3 + 2)) fun v131 =>
                zb1 (zsc xs L (w3 + 3)) fun v133 =>
                zb1 (zck X128 w2 9) fun _ =>
                zb2 (f_ZoneNodesModel_update N X128 w2 v129 v131 v133) fun v137 X138 =>
                if v127 = v137 then
                  L_ZoneNodesLaw_law_58 N xs L w1 w2 n X138 (w3 + 5)
                else
                  some (Sum.inl (0, X138))
              else
                if (v30 &&& 31) = 5 then
                  zb1 (zsc xs L (w3 + 1)) fun v141 =>
                  zb1 (zck X w1 8) fun _ =>
                  zb2 (f_ZoneNodes_arm N X w1 v141) fun v145 X146 =>
                  zb1 (zsc xs L (w3 + 1)) fun v147 =>
                  zb1 (zck X146 w2 9) fun _ =>
                  zb2 (f_ZoneNodesModel_arm N X146 w2 v147) fun v151 X152 =>
                  if v145 = v151 then
                    L_ZoneNodesLaw_law_58 N xs L w1 w2 n X152 (w3 + 5)
                  else
                    some (Sum.inl (0, X152))
                else
                  if (v30 &&& 31) = 6 then
                    zb1 (zsc xs L (w3 + 1)) fun v155 =>
                    zb1 (zck X w1 8) fun _ =>
                    zb2 (f_ZoneNodes_tick N X w1 v155) fun v159 X160 =>
                    zb1 (zsc xs L (w3 + 1)) fun v161 =>
                    zb1 (zck X160 w2 9) fun _ =>
                    zb2 (f_ZoneNodesModel_tick N X160 w2 v161) fun v165 X166 =>
                    if v159 = v165 then
                      L_ZoneNodesLaw_law_58 N xs L w1 w2 n X166 (w3 + 5)
                    else
                      some (Sum.inl (0, X166))
                  else
                    if (v30 &&& 31) = 7 then
                      zb1 (zsc xs L (w3 + 1)) fun v169 =>
                      zb1 (zck X w1 8) fun _ =>
                      zb2 (f_ZoneNodes_deliver N X w1 v169) fun v173 X174 =>
                      zb1 (zsc xs L (w3 + 1)) fun v175 =>
                      zb1 (zck X174 w2 9) fun _ =>
                      zb2 (f_ZoneNodesModel_deliver N X174 w2 v175) fun v179 X180 =>
                      if v173 = v179 then
                        L_ZoneNodesLaw_law_58 N xs L w1 w2 n X180 (w3 + 5)
                      else
                        some (Sum.inl (0, X180))
                    else
                      if (v30 &&& 31) = 8 then
                        zb1 (zsc xs L (w3 + 1)) fun v183 =>
                        zb1 (zck X w1 8) fun _ =>
                        zb2 (f_ZoneNodes_drop N X w1 v183) fun v187 X188 =>
                        zb1 (zsc xs L (w3 + 1)) fun v189 =>
                        zb1 (zck X188 w2 9) fun _ =>
                        zb2 (f_ZoneNodesModel_drop N X188 w2 v189) fun v193 X194 =>
                        if v187 = v193 then
                          L_ZoneNodesLaw_law_58 N xs L w1 w2 n X194 (w3 + 5)
                        else
                          some (Sum.inl (0, X194))
                      else
                        if (v30 &&& 31) = 9 then
                          zb1 (zsc xs L (w3 + 1)) fun v197 =>
                          zb1 (zck X w1 8) fun _ =>
                          zb2 (f_ZoneNodes_alter N X w1 v197) fun v201 X202 =>
                          zb1 (zsc xs L (w3 + 1)) fun v203 =>
                          zb1 (zck X202 w2 9) fun _ =>
                          zb2 (f_ZoneNodesModel_alter N X202 w2 v203) fun v207 X208 =>
                          if v201 = v207 then
                            L_ZoneNodesLaw_law_58 N xs L w1 w2 n X208 (w3 + 5)
                          else
                            some (Sum.inl (0, X208))
                        else
                          if (v30 &&& 31) = 10 then
                            zb1 (zsc xs L (w3 + 1)) fun v211 =>
                            zb1 (zck X w1 8) fun _ =>
                            zb2 (f_ZoneNodes_crash N X w1 v211) fun v215 X216 =>
                            zb1 (zsc xs L (w3 + 1)) fun v217 =>
                            zb1 (zck X216 w2 9) fun _ =>
                            zb2 (f_ZoneNodesModel_crash N X216 w2 v217) fun v221 X222 =>
                            if v215 = v221 then
                              L_ZoneNodesLaw_law_58 N xs L w1 w2 n X222 (w3 + 5)
                            else
                              some (Sum.inl (0, X222))
                          else
                            if (v30 &&& 31) = 11 then
                              zb1 (zsc xs L (w3 + 1)) fun v225 =>
                              zb1 (zck X w1 8) fun _ =>
                              zb2 (f_ZoneNodes_restart N X w1 v225) fun v229 X230 =>
                              zb1 (zsc xs L (w3 + 1)) fun v231 =>
                              zb1 (zck X230 w2 9) fun _ =>
                              zb2 (f_ZoneNodesModel_restart N X230 w2 v231) fun v235 X236 =>
                              if v229 = v235 then
                                L_ZoneNodesLaw_law_58 N xs L w1 w2 n X236 (w3 + 5)
                              else
                                some (Sum.inl (0, X236))
                            else
                              if (v30 &&& 31) = 12 then
                                zb1 (zck X w1 8) fun _ =>
                                zb1 (f_ZoneNodes_messages N X w1) fun v241 =>
                                zb1 (zck X w2 9) fun _ =>
                                zb1 (f_ZoneNodesModel_messages N X w2) fun v244 =>
                                if v241 = v244 then
                                  L_ZoneNodesLaw_law_58 N xs L w1 w2 n X (w3 + 5)
                                else
                                  some (Sum.inl (0, X))
                              else
                                if (v30 &&& 31) = 13 then
                                  zb1 (zsc xs L (w3 + 1)) fun v247 =>
                                  zb1 (zck X w1 8) fun _ =>
                                  zb1 (f_ZoneNodes_message N X w1 v247) fun v251 =>
                                  zb1 (zsc xs L (w3 + 1)) fun v252 =>
                                  zb1 (zck X w2 9) fun _ =>
                                  zb1 (f_ZoneNodesModel_message N X w2 v252) fun v256 =>
                                  if v251 = v256 then
                                    L_ZoneNodesLaw_law_58 N xs L w1 w2 n X (w3 + 5)
                                  else
                                    some (Sum.inl (0, X))
                                else
                                  if (v30 &&& 31) = 14 then
                                    zb1 (zsc xs L (w3 + 1)) fun v259 =>
                                    zb1 (zck X w1 8) fun _ =>
                                    zb1 (f_ZoneNodes_serial N X w1 v259) fun v263 =>
                                    zb1 (zsc xs L (w3 + 1)) fun v264 =>
                                    zb1 (zck X w2 9) fun _ =>
                                    zb1 (f_ZoneNodesModel_serial N X w2 v264) fun v268 =>
                                    if v263 = v268 then
                                      L_ZoneNodesLaw_law_58 N xs L w1 w2 n X (w3 + 5)
                                    else
                                      some (Sum.inl (0, X))
                                  else
                                    if (v30 &&& 31) = 15 then
                                      zb1 (zsc xs L (w3 + 1)) fun v271 =>
                                      zb1 (zck X w1 8) fun _ =>
                                      zb1 (f_ZoneNodes_size N X w1 v271) fun v275 =>
                                      zb1 (zsc xs L (w3 + 1)) fun v276 =>
                                      zb1 (zck X w2 9) fun _ =>
                                      zb1 (f_ZoneNodesModel_size N X w2 v276) fun v280 =>
                                      if v275 = v280 then
                                        L_ZoneNodesLaw_law_58 N xs L w1 w2 n X (w3 + 5)
                                      else
                                        some (Sum.inl (0, X))
                                    else
                                      if (v30 &&& 31) = 16 then
                                        zb1 (zsc xs L (w3 + 1)) fun v283 =>
                                        zb1 (zsc xs L (w3 + 2)) fun v285 =>
                                        zb1 (zsc xs L (w3 + 3)) fun v287 =>
                                        zb1 (zsc xs L (w3 + 4)) fun v289 =>
                                        zb1 (zck X w1 8) fun _ =>
                                        zb1 (f_ZoneNodes_has N X w1 v283 v285 v287 v289) fun v293 =>
                                        zb1 (zsc xs L (w3 + 1)) fun v294 =>
                                        zb1 (zsc xs L (w3 + 2)) fun v296 =>
                                        zb1 (zsc xs L (w3 + 3)) fun v298 =>
                                        zb1 (zsc xs L (w3 + 4)) fun v300 =>
                                        zb1 (zck X w2 9) fun _ =>
                                        zb1 (f_ZoneNodesModel_has N X w2 v294 v296 v298 v300) fun v304 =>
                                        if v293 = v304 then
                                          L_ZoneNodesLaw_law_58 N xs L w1 w2 n X (w3 + 5)
                                        else
                                          some (Sum.inl (0, X))
                                      else
                                        if (v30 &&& 31) = 17 then
                                          zb1 (zsc xs L (w3 + 1)) fun v307 =>
                                          zb1 (zsc xs L (w3 + 2)) fun v309 =>
                                          zb1 (zsc xs L (w3 + 3)) fun v311 =>
                                          zb1 (zck X w1 8) fun _ =>
                                          zb1 (f_ZoneNodes_query N X w1 v307 v309 v311) fun v315 =>
                                          zb1 (zsc xs L (w3 + 1)) fun v316 =>
                                          zb1 (zsc xs L (w3 + 2)) fun v318 =>
                                          zb1 (zsc xs L (w3 + 3)) fun v320 =>
                                          zb1 (zck X w2 9) fun _ =>
                                          zb1 (f_ZoneNodesModel_query N X w2 v316 v318 v320) fun v324 =>
                                          if v315 = v324 then
                                            L_ZoneNodesLaw_law_58 N xs L w1 w2 n X (w3 + 5)
                                          else
                                            some (Sum.inl (0, X))
                                        else
                                          if (v30 &&& 31) = 18 then
                                            zb1 (zsc xs L (w3 + 1)) fun v327 =>
                                            zb1 (zck X w1 8) fun _ =>
                                            zb1 (f_ZoneNodes_state N X w1 v327) fun v331 =>
                                            zb1 (zsc xs L (w3 + 1)) fun v332 =>
                                            zb1 (zck X w2 9) fun _ =>
                                            zb1 (f_ZoneNodesModel_state N X w2 v332) fun v336 =>
                                            if v331 = v336 then
                                              L_ZoneNodesLaw_law_58 N xs L w1 w2 n X (w3 + 5)
                                            else
                                              some (Sum.inl (0, X))
                                          else
                                            if (v30 &&& 31) = 19 then
                                              zb1 (zck X w1 8) fun _ =>
                                              zb1 (f_ZoneNodes_journal N X w1) fun v341 =>
                                              zb1 (zck X w2 9) fun _ =>
                                              zb1 (f_ZoneNodesModel_journal N X w2) fun v344 =>
                                              if v341 = v344 then
                                                L_ZoneNodesLaw_law_58 N xs L w1 w2 n X (w3 + 5)
                                              else
                                                some (Sum.inl (0, X))
                                            else
                                              L_ZoneNodesLaw_law_58 N xs L w1 w2 n X (w3 + 5)
def f_law (N : Nat) (xs : Nat → Int32) (L : Nat) (X : zh_T) : Option (Int32 × zh_T) :=
  zb2 (znw X 8 [.null, .null, .null, .null, .null, .null, .int 0]) fun a1 X2 =>
  zb1 (f_cell xs L 0) fun v4 =>
  zb1 (f_cell xs L 1) fun v6 =>
  zb1 (f_cell xs L 2) fun v8 =>
  zb1 (f_cell xs L 3) fun v10 =>
  zb2 (f_ZoneNodes_init N X2 a1 v4 v6 v8 v10) fun _ X14 =>
  zb2 (znw X14 9 [.int 0, .int 0, .int 0, .int 0, .null, .null, .null, .null, .null, .null, .null, .null, .null, .null, .int 0, .int 0, .null, .int 0, .int 0, .null, .null, .null, .null, .null, .int 0, .null, .null, .null, .null, .null, .null, .null]) fun a15 X16 =>
  zb1 (f_cell xs L 0) fun v18 =>
  zb1 (f_cell xs L 1) fun v20 =>
  zb1 (f_cell xs L 2) fun v22 =>
  zb1 (f_cell xs L 3) fun v24 =>
  zb2 (f_ZoneNodesModel_init N X16 a15 v18 v20 v22 v24) fun _ X28 =>
  zbt (L_ZoneNodesLaw_law_58 N xs L a1 a15 N X28 4) (fun r0 X0 => some (r0, X0)) fun v346 X348 =>
  some (1, X348)
end
section
theorem d_ZoneNodes_within_0 : decode b_ZoneNodes_within 0 = .ok (.iload_n 0, 1) := by decide +kernel
theorem d_ZoneNodes_within_1 : decode b_ZoneNodes_within 1 = .ok (.iload_n 1, 1) := by decide +kernel
theorem d_ZoneNodes_within_2 : decode b_ZoneNodes_within 2 = .ok (.if_icmp .lt 12, 3) := by decide +kernel
theorem d_ZoneNodes_within_5 : decode b_ZoneNodes_within 5 = .ok (.iload_n 0, 1) := by decide +kernel
theorem d_ZoneNodes_within_6 : decode b_ZoneNodes_within 6 = .ok (.iload_n 2, 1) := by decide +kernel
theorem d_ZoneNodes_within_7 : decode b_ZoneNodes_within 7 = .ok (.if_icmp .gt 7, 3) := by decide +kernel
theorem d_ZoneNodes_within_10 : decode b_ZoneNodes_within 10 = .ok (.iconst 1, 1) := by decide +kernel
theorem d_ZoneNodes_within_11 : decode b_ZoneNodes_within 11 = .ok (.goto 4, 3) := by decide +kernel
theorem d_ZoneNodes_within_14 : decode b_ZoneNodes_within 14 = .ok (.iconst 0, 1) := by decide +kernel
theorem d_ZoneNodes_within_15 : decode b_ZoneNodes_within 15 = .ok (.ireturn, 1) := by decide +kernel
theorem d_Draft_init_0 : decode b_Draft_init 0 = .ok (.aload_n 0, 1) := by decide +kernel
theorem d_Draft_init_1 : decode b_Draft_init 1 = .ok (.invokespecial 3, 3) := by decide +kernel
theorem d_Draft_init_4 : decode b_Draft_init 4 = .ok (.aload_n 0, 1) := by decide +kernel
theorem d_Draft_init_5 : decode b_Draft_init 5 = .ok (.iconst 4, 1) := by decide +kernel
theorem d_Draft_init_6 : decode b_Draft_init 6 = .ok (.newarray .int, 2) := by decide +kernel
theorem d_Draft_init_8 : decode b_Draft_init 8 = .ok (.putfield 9, 3) := by decide +kernel
theorem d_Draft_init_11 : decode b_Draft_init 11 = .ok (.aload_n 0, 1) := by decide +kernel
theorem d_Draft_init_12 : decode b_Draft_init 12 = .ok (.iconst 4, 1) := by decide +kernel
theorem d_Draft_init_13 : decode b_Draft_init 13 = .ok (.newarray .int, 2) := by decide +kernel
theorem d_Draft_init_15 : decode b_Draft_init 15 = .ok (.putfield 15, 3) := by decide +kernel
theorem d_Draft_init_18 : decode b_Draft_init 18 = .ok (.return_, 1) := by decide +kernel
theorem d_Records_init_0 : decode b_Records_init 0 = .ok (.aload_n 0, 1) := by decide +kernel
theorem d_Records_init_1 : decode b_Records_init 1 = .ok (.invokespecial 3, 3) := by decide +kernel
theorem d_Records_init_4 : decode b_Records_init 4 = .ok (.aload_n 0, 1) := by decide +kernel
theorem d_Records_init_5 : decode b_Records_init 5 = .ok (.bipush 32, 2) := by decide +kernel
theorem d_Records_init_7 : decode b_Records_init 7 = .ok (.newarray .int, 2) := by decide +kernel
theorem d_Records_init_9 : decode b_Records_init 9 = .ok (.putfield 9, 3) := by decide +kernel
theorem d_Records_init_12 : decode b_Records_init 12 = .ok (.return_, 1) := by decide +kernel
theorem d_Entry_init_0 : decode b_Entry_init 0 = .ok (.aload_n 0, 1) := by decide +kernel
theorem d_Entry_init_1 : decode b_Entry_init 1 = .ok (.invokespecial 1, 3) := by decide +kernel
theorem d_Entry_init_4 : decode b_Entry_init 4 = .ok (.aload_n 0, 1) := by decide +kernel
theorem d_Entry_init_5 : decode b_Entry_init 5 = .ok (.new 7, 3) := by decide +kernel
theorem d_Entry_init_8 : decode b_Entry_init 8 = .ok (.dup, 1) := by decide +kernel
theorem d_Entry_init_9 : decode b_Entry_init 9 = .ok (.invokespecial 9, 3) := by decide +kernel
theorem d_Entry_init_12 : decode b_Entry_init 12 = .ok (.putfield 10, 3) := by decide +kernel
theorem d_Entry_init_15 : decode b_Entry_init 15 = .ok (.aload_n 0, 1) := by decide +kernel
theorem d_Entry_init_16 : decode b_Entry_init 16 = .ok (.new 7, 3) := by decide +kernel
theorem d_Entry_init_19 : decode b_Entry_init 19 = .ok (.dup, 1) := by decide +kernel
theorem d_Entry_init_20 : decode b_Entry_init 20 = .ok (.invokespecial 9, 3) := by decide +kernel
theorem d_Entry_init_23 : decode b_Entry_init 23 = .ok (.putfield 16, 3) := by decide +kernel
theorem d_Entry_init_26 : decode b_Entry_init 26 = .ok (.return_, 1) := by decide +kernel
theorem d_Journal_init_0 : decode b_Journal_init 0 = .ok (.aload_n 0, 1) := by decide +kernel
theorem d_Journal_init_1 : decode b_Journal_init 1 = .ok (.invokespecial 3, 3) := by decide +kernel
theorem d_Journal_init_4 : decode b_Journal_init 4 = .ok (.aload_n 0, 1) := by decide +kernel
theorem d_Journal_init_5 : decode b_Journal_init 5 = .ok (.iconst 5, 1) := by decide +kernel
theorem d_Journal_init_6 : decode b_Journal_init 6 = .ok (.anewarray 9, 3) := by decide +kernel
theorem d_Journal_init_9 : decode b_Journal_init 9 = .ok (.putfield 11, 3) := by decide +kernel
theorem d_Journal_init_12 : decode b_Journal_init 12 = .ok (.iconst 0, 1) := by decide +kernel
theorem d_Journal_init_13 : decode b_Journal_init 13 = .ok (.istore_n 1, 1) := by decide +kernel
theorem d_Journal_init_14 : decode b_Journal_init 14 = .ok (.iload_n 1, 1) := by decide +kernel
theorem d_Journal_init_15 : decode b_Journal_init 15 = .ok (.aload_n 0, 1) := by decide +kernel
theorem d_Journal_init_16 : decode b_Journal_init 16 = .ok (.getfield 11, 3) := by decide +kernel
theorem d_Journal_init_19 : decode b_Journal_init 19 = .ok (.arraylength, 1) := by decide +kernel
theorem d_Journal_init_20 : decode b_Journal_init 20 = .ok (.if_icmp .ge 22, 3) := by decide +kernel
theorem d_Journal_init_23 : decode b_Journal_init 23 = .ok (.aload_n 0, 1) := by decide +kernel
theorem d_Journal_init_24 : decode b_Journal_init 24 = .ok (.getfield 11, 3) := by decide +kernel
theorem d_Journal_init_27 : decode b_Journal_init 27 = .ok (.iload_n 1, 1) := by decide +kernel
theorem d_Journal_init_28 : decode b_Journal_init 28 = .ok (.new 9, 3) := by decide +kernel
theorem d_Journal_init_31 : decode b_Journal_init 31 = .ok (.dup, 1) := by decide +kernel
theorem d_Journal_init_32 : decode b_Journal_init 32 = .ok (.invokespecial 17, 3) := by decide +kernel
theorem d_Journal_init_35 : decode b_Journal_init 35 = .ok (.aastore, 1) := by decide +kernel
theorem d_Journal_init_36 : decode b_Journal_init 36 = .ok (.iinc 1 1, 3) := by decide +kernel
theorem d_Journal_init_39 : decode b_Journal_init 39 = .ok (.goto (-25), 3) := by decide +kernel
theorem d_Journal_init_42 : decode b_Journal_init 42 = .ok (.return_, 1) := by decide +kernel
theorem d_Records_setValues_0 : decode b_Records_setValues 0 = .ok (.aload_n 0, 1) := by decide +kernel
theorem d_Records_setValues_1 : decode b_Records_setValues 1 = .ok (.getfield 9, 3) := by decide +kernel
theorem d_Records_setValues_4 : decode b_Records_setValues 4 = .ok (.iconst 4, 1) := by decide +kernel
theorem d_Records_setValues_5 : decode b_Records_setValues 5 = .ok (.iload_n 1, 1) := by decide +kernel
theorem d_Records_setValues_6 : decode b_Records_setValues 6 = .ok (.imul, 1) := by decide +kernel
theorem d_Records_setValues_7 : decode b_Records_setValues 7 = .ok (.iload_n 2, 1) := by decide +kernel
theorem d_Records_setValues_8 : decode b_Records_setValues 8 = .ok (.iadd, 1) := by decide +kernel
theorem d_Records_setValues_9 : decode b_Records_setValues 9 = .ok (.iconst 1, 1) := by decide +kernel
theorem d_Records_setValues_10 : decode b_Records_setValues 10 = .ok (.isub, 1) := by decide +kernel
theorem d_Records_setValues_11 : decode b_Records_setValues 11 = .ok (.iload_n 3, 1) := by decide +kernel
theorem d_Records_setValues_12 : decode b_Records_setValues 12 = .ok (.iastore, 1) := by decide +kernel
theorem d_Records_setValues_13 : decode b_Records_setValues 13 = .ok (.return_, 1) := by decide +kernel
theorem d_Records_valuesOf_0 : decode b_Records_valuesOf 0 = .ok (.aload_n 0, 1) := by decide +kernel
theorem d_Records_valuesOf_1 : decode b_Records_valuesOf 1 = .ok (.getfield 9, 3) := by decide +kernel
theorem d_Records_valuesOf_4 : decode b_Records_valuesOf 4 = .ok (.iconst 4, 1) := by decide +kernel
theorem d_Records_valuesOf_5 : decode b_Records_valuesOf 5 = .ok (.iload_n 1, 1) := by decide +kernel
theorem d_Records_valuesOf_6 : decode b_Records_valuesOf 6 = .ok (.imul, 1) := by decide +kernel
theorem d_Records_valuesOf_7 : decode b_Records_valuesOf 7 = .ok (.iload_n 2, 1) := by decide +kernel
theorem d_Records_valuesOf_8 : decode b_Records_valuesOf 8 = .ok (.iadd, 1) := by decide +kernel
theorem d_Records_valuesOf_9 : decode b_Records_valuesOf 9 = .ok (.iconst 1, 1) := by decide +kernel
theorem d_Records_valuesOf_10 : decode b_Records_valuesOf 10 = .ok (.isub, 1) := by decide +kernel
theorem d_Records_valuesOf_11 : decode b_Records_valuesOf 11 = .ok (.iaload, 1) := by decide +kernel
theorem d_Records_valuesOf_12 : decode b_Records_valuesOf 12 = .ok (.ireturn, 1) := by decide +kernel
theorem d_Records_put_0 : decode b_Records_put 0 = .ok (.aload_n 0, 1) := by decide +kernel
theorem d_Records_put_1 : decode b_Records_put 1 = .ok (.iload_n 1, 1) := by decide +kernel
theorem d_Records_put_2 : decode b_Records_put 2 = .ok (.iload_n 2, 1) := by decide +kernel
theorem d_Records_put_3 : decode b_Records_put 3 = .ok (.aload_n 0, 1) := by decide +kernel
theorem d_Records_put_4 : decode b_Records_put 4 = .ok (.iload_n 1, 1) := by decide +kernel
theorem d_Records_put_5 : decode b_Records_put 5 = .ok (.iload_n 2, 1) := by decide +kernel
theorem d_Records_put_6 : decode b_Records_put 6 = .ok (.invokevirtual 15, 3) := by decide +kernel
theorem d_Records_put_9 : decode b_Records_put 9 = .ok (.iconst 1, 1) := by decide +kernel
theorem d_Records_put_10 : decode b_Records_put 10 = .ok (.iload_n 3, 1) := by decide +kernel
theorem d_Records_put_11 : decode b_Records_put 11 = .ok (.ishl, 1) := by decide +kernel
theorem d_Records_put_12 : decode b_Records_put 12 = .ok (.ior, 1) := by decide +kernel
theorem d_Records_put_13 : decode b_Records_put 13 = .ok (.invokevirtual 33, 3) := by decide +kernel
theorem d_Records_put_16 : decode b_Records_put 16 = .ok (.return_, 1) := by decide +kernel
theorem d_Primary_init_0 : decode b_Primary_init 0 = .ok (.aload_n 0, 1) := by decide +kernel
theorem d_Primary_init_1 : decode b_Primary_init 1 = .ok (.invokespecial 3, 3) := by decide +kernel
theorem d_Primary_init_4 : decode b_Primary_init 4 = .ok (.aload_n 0, 1) := by decide +kernel
theorem d_Primary_init_5 : decode b_Primary_init 5 = .ok (.new 9, 3) := by decide +kernel
theorem d_Primary_init_8 : decode b_Primary_init 8 = .ok (.dup, 1) := by decide +kernel
theorem d_Primary_init_9 : decode b_Primary_init 9 = .ok (.invokespecial 11, 3) := by decide +kernel
theorem d_Primary_init_12 : decode b_Primary_init 12 = .ok (.putfield 12, 3) := by decide +kernel
theorem d_Primary_init_15 : decode b_Primary_init 15 = .ok (.aload_n 0, 1) := by decide +kernel
theorem d_Primary_init_16 : decode b_Primary_init 16 = .ok (.new 9, 3) := by decide +kernel
theorem d_Primary_init_19 : decode b_Primary_init 19 = .ok (.dup, 1) := by decide +kernel
theorem d_Primary_init_20 : decode b_Primary_init 20 = .ok (.invokespecial 11, 3) := by decide +kernel
theorem d_Primary_init_23 : decode b_Primary_init 23 = .ok (.putfield 18, 3) := by decide +kernel
theorem d_Primary_init_26 : decode b_Primary_init 26 = .ok (.aload_n 0, 1) := by decide +kernel
theorem d_Primary_init_27 : decode b_Primary_init 27 = .ok (.new 21, 3) := by decide +kernel
theorem d_Primary_init_30 : decode b_Primary_init 30 = .ok (.dup, 1) := by decide +kernel
theorem d_Primary_init_31 : decode b_Primary_init 31 = .ok (.invokespecial 23, 3) := by decide +kernel
theorem d_Primary_init_34 : decode b_Primary_init 34 = .ok (.putfield 24, 3) := by decide +kernel
theorem d_Primary_init_37 : decode b_Primary_init 37 = .ok (.aload_n 0, 1) := by decide +kernel
theorem d_Primary_init_38 : decode b_Primary_init 38 = .ok (.bipush 112, 2) := by decide +kernel
theorem d_Primary_init_40 : decode b_Primary_init 40 = .ok (.newarray .int, 2) := by decide +kernel
theorem d_Primary_init_42 : decode b_Primary_init 42 = .ok (.putfield 28, 3) := by decide +kernel
theorem d_Primary_init_45 : decode b_Primary_init 45 = .ok (.aload_n 0, 1) := by decide +kernel
theorem d_Primary_init_46 : decode b_Primary_init 46 = .ok (.iconst 1, 1) := by decide +kernel
theorem d_Primary_init_47 : decode b_Primary_init 47 = .ok (.putfield 32, 3) := by decide +kernel
theorem d_Primary_init_50 : decode b_Primary_init 50 = .ok (.aload_n 0, 1) := by decide +kernel
theorem d_Primary_init_51 : decode b_Primary_init 51 = .ok (.iload_n 1, 1) := by decide +kernel
theorem d_Primary_init_52 : decode b_Primary_init 52 = .ok (.putfield 36, 3) := by decide +kernel
theorem d_Primary_init_55 : decode b_Primary_init 55 = .ok (.aload_n 0, 1) := by decide +kernel
theorem d_Primary_init_56 : decode b_Primary_init 56 = .ok (.getfield 12, 3) := by decide +kernel
theorem d_Primary_init_59 : decode b_Primary_init 59 = .ok (.iconst 0, 1) := by decide +kernel
theorem d_Primary_init_60 : decode b_Primary_init 60 = .ok (.iconst 3, 1) := by decide +kernel
theorem d_Primary_init_61 : decode b_Primary_init 61 = .ok (.iconst 1, 1) := by decide +kernel
theorem d_Primary_init_62 : decode b_Primary_init 62 = .ok (.invokevirtual 40, 3) := by decide +kernel
theorem d_Primary_init_65 : decode b_Primary_init 65 = .ok (.return_, 1) := by decide +kernel
theorem d_Secondary_rest_0 : decode b_Secondary_rest 0 = .ok (.aload_n 0, 1) := by decide +kernel
theorem d_Secondary_rest_1 : decode b_Secondary_rest 1 = .ok (.iconst 0, 1) := by decide +kernel
theorem d_Secondary_rest_2 : decode b_Secondary_rest 2 = .ok (.putfield 48, 3) := by decide +kernel
theorem d_Secondary_rest_5 : decode b_Secondary_rest 5 = .ok (.aload_n 0, 1) := by decide +kernel
theorem d_Secondary_rest_6 : decode b_Secondary_rest 6 = .ok (.iload_n 1, 1) := by decide +kernel
theorem d_Secondary_rest_7 : decode b_Secondary_rest 7 = .ok (.putfield 54, 3) := by decide +kernel
theorem d_Secondary_rest_10 : decode b_Secondary_rest 10 = .ok (.return_, 1) := by decide +kernel
theorem d_Secondary_comeUp_0 : decode b_Secondary_comeUp 0 = .ok (.aload_n 0, 1) := by decide +kernel
theorem d_Secondary_comeUp_1 : decode b_Secondary_comeUp 1 = .ok (.iconst 1, 1) := by decide +kernel
theorem d_Secondary_comeUp_2 : decode b_Secondary_comeUp 2 = .ok (.putfield 38, 3) := by decide +kernel
theorem d_Secondary_comeUp_5 : decode b_Secondary_comeUp 5 = .ok (.aload_n 0, 1) := by decide +kernel
theorem d_Secondary_comeUp_6 : decode b_Secondary_comeUp 6 = .ok (.iload_n 1, 1) := by decide +kernel
theorem d_Secondary_comeUp_7 : decode b_Secondary_comeUp 7 = .ok (.iconst 1, 1) := by decide +kernel
theorem d_Secondary_comeUp_8 : decode b_Secondary_comeUp 8 = .ok (.iadd, 1) := by decide +kernel
theorem d_Secondary_comeUp_9 : decode b_Secondary_comeUp 9 = .ok (.invokevirtual 42, 3) := by decide +kernel
theorem d_Secondary_comeUp_12 : decode b_Secondary_comeUp 12 = .ok (.aload_n 0, 1) := by decide +kernel
theorem d_Secondary_comeUp_13 : decode b_Secondary_comeUp 13 = .ok (.iload_n 1, 1) := by decide +kernel
theorem d_Secondary_comeUp_14 : decode b_Secondary_comeUp 14 = .ok (.aload_n 0, 1) := by decide +kernel
theorem d_Secondary_comeUp_15 : decode b_Secondary_comeUp 15 = .ok (.getfield 31, 3) := by decide +kernel
theorem d_Secondary_comeUp_18 : decode b_Secondary_comeUp 18 = .ok (.iadd, 1) := by decide +kernel
theorem d_Secondary_comeUp_19 : decode b_Secondary_comeUp 19 = .ok (.putfield 45, 3) := by decide +kernel
theorem d_Secondary_comeUp_22 : decode b_Secondary_comeUp 22 = .ok (.return_, 1) := by decide +kernel
theorem d_Secondary_init_0 : decode b_Secondary_init 0 = .ok (.aload_n 0, 1) := by decide +kernel
theorem d_Secondary_init_1 : decode b_Secondary_init 1 = .ok (.invokespecial 3, 3) := by decide +kernel
theorem d_Secondary_init_4 : decode b_Secondary_init 4 = .ok (.aload_n 0, 1) := by decide +kernel
theorem d_Secondary_init_5 : decode b_Secondary_init 5 = .ok (.new 9, 3) := by decide +kernel
theorem d_Secondary_init_8 : decode b_Secondary_init 8 = .ok (.dup, 1) := by decide +kernel
theorem d_Secondary_init_9 : decode b_Secondary_init 9 = .ok (.invokespecial 11, 3) := by decide +kernel
theorem d_Secondary_init_12 : decode b_Secondary_init 12 = .ok (.putfield 12, 3) := by decide +kernel
theorem d_Secondary_init_15 : decode b_Secondary_init 15 = .ok (.aload_n 0, 1) := by decide +kernel
theorem d_Secondary_init_16 : decode b_Secondary_init 16 = .ok (.new 9, 3) := by decide +kernel
theorem d_Secondary_init_19 : decode b_Secondary_init 19 = .ok (.dup, 1) := by decide +kernel
theorem d_Secondary_init_20 : decode b_Secondary_init 20 = .ok (.invokespecial 11, 3) := by decide +kernel
theorem d_Secondary_init_23 : decode b_Secondary_init 23 = .ok (.putfield 18, 3) := by decide +kernel
theorem d_Secondary_init_26 : decode b_Secondary_init 26 = .ok (.aload_n 0, 1) := by decide +kernel
theorem d_Secondary_init_27 : decode b_Secondary_init 27 = .ok (.iload_n 1, 1) := by decide +kernel
theorem d_Secondary_init_28 : decode b_Secondary_init 28 = .ok (.putfield 21, 3) := by decide +kernel
theorem d_Secondary_init_31 : decode b_Secondary_init 31 = .ok (.aload_n 0, 1) := by decide +kernel
theorem d_Secondary_init_32 : decode b_Secondary_init 32 = .ok (.iload_n 2, 1) := by decide +kernel
theorem d_Secondary_init_33 : decode b_Secondary_init 33 = .ok (.putfield 25, 3) := by decide +kernel
theorem d_Secondary_init_36 : decode b_Secondary_init 36 = .ok (.aload_n 0, 1) := by decide +kernel
theorem d_Secondary_init_37 : decode b_Secondary_init 37 = .ok (.iload_n 3, 1) := by decide +kernel
theorem d_Secondary_init_38 : decode b_Secondary_init 38 = .ok (.putfield 28, 3) := by decide +kernel
theorem d_Secondary_init_41 : decode b_Secondary_init 41 = .ok (.aload_n 0, 1) := by decide +kernel
theorem d_Secondary_init_42 : decode b_Secondary_init 42 = .ok (.iload 4, 2) := by decide +kernel
theorem d_Secondary_init_44 : decode b_Secondary_init 44 = .ok (.putfield 31, 3) := by decide +kernel
theorem d_Secondary_init_47 : decode b_Secondary_init 47 = .ok (.aload_n 0, 1) := by decide +kernel
theorem d_Secondary_init_48 : decode b_Secondary_init 48 = .ok (.iconst 0, 1) := by decide +kernel
theorem d_Secondary_init_49 : decode b_Secondary_init 49 = .ok (.invokevirtual 34, 3) := by decide +kernel
theorem d_Secondary_init_52 : decode b_Secondary_init 52 = .ok (.return_, 1) := by decide +kernel
theorem d_Message_init_0 : decode b_Message_init 0 = .ok (.aload_n 0, 1) := by decide +kernel
theorem d_Message_init_1 : decode b_Message_init 1 = .ok (.invokespecial 3, 3) := by decide +kernel
theorem d_Message_init_4 : decode b_Message_init 4 = .ok (.aload_n 0, 1) := by decide +kernel
theorem d_Message_init_5 : decode b_Message_init 5 = .ok (.iconst 4, 1) := by decide +kernel
theorem d_Message_init_6 : decode b_Message_init 6 = .ok (.newarray .int, 2) := by decide +kernel
theorem d_Message_init_8 : decode b_Message_init 8 = .ok (.putfield 9, 3) := by decide +kernel
theorem d_Message_init_11 : decode b_Message_init 11 = .ok (.return_, 1) := by decide +kernel
theorem d_Wire_init_0 : decode b_Wire_init 0 = .ok (.aload_n 0, 1) := by decide +kernel
theorem d_Wire_init_1 : decode b_Wire_init 1 = .ok (.invokespecial 3, 3) := by decide +kernel
theorem d_Wire_init_4 : decode b_Wire_init 4 = .ok (.aload_n 0, 1) := by decide +kernel
theorem d_Wire_init_5 : decode b_Wire_init 5 = .ok (.bipush 80, 2) := by decide +kernel
theorem d_Wire_init_7 : decode b_Wire_init 7 = .ok (.anewarray 9, 3) := by decide +kernel
theorem d_Wire_init_10 : decode b_Wire_init 10 = .ok (.putfield 11, 3) := by decide +kernel
theorem d_Wire_init_13 : decode b_Wire_init 13 = .ok (.iconst 0, 1) := by decide +kernel
theorem d_Wire_init_14 : decode b_Wire_init 14 = .ok (.istore_n 1, 1) := by decide +kernel
theorem d_Wire_init_15 : decode b_Wire_init 15 = .ok (.iload_n 1, 1) := by decide +kernel
theorem d_Wire_init_16 : decode b_Wire_init 16 = .ok (.aload_n 0, 1) := by decide +kernel
theorem d_Wire_init_17 : decode b_Wire_init 17 = .ok (.getfield 11, 3) := by decide +kernel
theorem d_Wire_init_20 : decode b_Wire_init 20 = .ok (.arraylength, 1) := by decide +kernel
theorem d_Wire_init_21 : decode b_Wire_init 21 = .ok (.if_icmp .ge 22, 3) := by decide +kernel
theorem d_Wire_init_24 : decode b_Wire_init 24 = .ok (.aload_n 0, 1) := by decide +kernel
theorem d_Wire_init_25 : decode b_Wire_init 25 = .ok (.getfield 11, 3) := by decide +kernel
theorem d_Wire_init_28 : decode b_Wire_init 28 = .ok (.iload_n 1, 1) := by decide +kernel
theorem d_Wire_init_29 : decode b_Wire_init 29 = .ok (.new 9, 3) := by decide +kernel
theorem d_Wire_init_32 : decode b_Wire_init 32 = .ok (.dup, 1) := by decide +kernel
theorem d_Wire_init_33 : decode b_Wire_init 33 = .ok (.invokespecial 17, 3) := by decide +kernel
theorem d_Wire_init_36 : decode b_Wire_init 36 = .ok (.aastore, 1) := by decide +kernel
theorem d_Wire_init_37 : decode b_Wire_init 37 = .ok (.iinc 1 1, 3) := by decide +kernel
theorem d_Wire_init_40 : decode b_Wire_init 40 = .ok (.goto (-25), 3) := by decide +kernel
theorem d_Wire_init_43 : decode b_Wire_init 43 = .ok (.return_, 1) := by decide +kernel
theorem d_ZoneNodes_init_0 : decode b_ZoneNodes_init 0 = .ok (.aload_n 0, 1) := by decide +kernel
theorem d_ZoneNodes_init_1 : decode b_ZoneNodes_init 1 = .ok (.invokespecial 3, 3) := by decide +kernel
theorem d_ZoneNodes_init_4 : decode b_ZoneNodes_init 4 = .ok (.aload_n 0, 1) := by decide +kernel
theorem d_ZoneNodes_init_5 : decode b_ZoneNodes_init 5 = .ok (.iconst 3, 1) := by decide +kernel
theorem d_ZoneNodes_init_6 : decode b_ZoneNodes_init 6 = .ok (.newarray .int, 2) := by decide +kernel
theorem d_ZoneNodes_init_8 : decode b_ZoneNodes_init 8 = .ok (.putfield 9, 3) := by decide +kernel
theorem d_ZoneNodes_init_11 : decode b_ZoneNodes_init 11 = .ok (.aload_n 0, 1) := by decide +kernel
theorem d_ZoneNodes_init_12 : decode b_ZoneNodes_init 12 = .ok (.iconst 3, 1) := by decide +kernel
theorem d_ZoneNodes_init_13 : decode b_ZoneNodes_init 13 = .ok (.newarray .boolean, 2) := by decide +kernel
theorem d_ZoneNodes_init_15 : decode b_ZoneNodes_init 15 = .ok (.putfield 13, 3) := by decide +kernel
theorem d_ZoneNodes_init_18 : decode b_ZoneNodes_init 18 = .ok (.aload_n 0, 1) := by decide +kernel
theorem d_ZoneNodes_init_19 : decode b_ZoneNodes_init 19 = .ok (.new 17, 3) := by decide +kernel
theorem d_ZoneNodes_init_22 : decode b_ZoneNodes_init 22 = .ok (.dup, 1) := by decide +kernel
theorem d_ZoneNodes_init_23 : decode b_ZoneNodes_init 23 = .ok (.invokespecial 19, 3) := by decide +kernel
theorem d_ZoneNodes_init_26 : decode b_ZoneNodes_init 26 = .ok (.putfield 20, 3) := by decide +kernel
theorem d_ZoneNodes_init_29 : decode b_ZoneNodes_init 29 = .ok (.aload_n 0, 1) := by decide +kernel
theorem d_ZoneNodes_init_30 : decode b_ZoneNodes_init 30 = .ok (.new 24, 3) := by decide +kernel
theorem d_ZoneNodes_init_33 : decode b_ZoneNodes_init 33 = .ok (.dup, 1) := by decide +kernel
theorem d_ZoneNodes_init_34 : decode b_ZoneNodes_init 34 = .ok (.invokespecial 26, 3) := by decide +kernel
theorem d_ZoneNodes_init_37 : decode b_ZoneNodes_init 37 = .ok (.putfield 27, 3) := by decide +kernel
theorem d_ZoneNodes_init_40 : decode b_ZoneNodes_init 40 = .ok (.aload_n 0, 1) := by decide +kernel
theorem d_ZoneNodes_init_41 : decode b_ZoneNodes_init 41 = .ok (.iconst 2, 1) := by decide +kernel
theorem d_ZoneNodes_init_42 : decode b_ZoneNodes_init 42 = .ok (.anewarray 31, 3) := by decide +kernel
theorem d_ZoneNodes_init_45 : decode b_ZoneNodes_init 45 = .ok (.putfield 33, 3) := by decide +kernel
theorem d_ZoneNodes_init_48 : decode b_ZoneNodes_init 48 = .ok (.iload_n 2, 1) := by decide +kernel
theorem d_ZoneNodes_init_49 : decode b_ZoneNodes_init 49 = .ok (.iconst 4, 1) := by decide +kernel
theorem d_ZoneNodes_init_50 : decode b_ZoneNodes_init 50 = .ok (.bipush 50, 2) := by decide +kernel
theorem d_ZoneNodes_init_52 : decode b_ZoneNodes_init 52 = .ok (.invokestatic 37, 3) := by decide +kernel
theorem d_ZoneNodes_init_55 : decode b_ZoneNodes_init 55 = .ok (.ifCond .eq 7, 3) := by decide +kernel
theorem d_ZoneNodes_init_58 : decode b_ZoneNodes_init 58 = .ok (.iload_n 2, 1) := by decide +kernel
theorem d_ZoneNodes_init_59 : decode b_ZoneNodes_init 59 = .ok (.goto 5, 3) := by decide +kernel
theorem d_ZoneNodes_init_62 : decode b_ZoneNodes_init 62 = .ok (.bipush 10, 2) := by decide +kernel
theorem d_ZoneNodes_init_64 : decode b_ZoneNodes_init 64 = .ok (.istore 5, 2) := by decide +kernel
theorem d_ZoneNodes_init_66 : decode b_ZoneNodes_init 66 = .ok (.iload_n 3, 1) := by decide +kernel
theorem d_ZoneNodes_init_67 : decode b_ZoneNodes_init 67 = .ok (.iconst 2, 1) := by decide +kernel
theorem d_ZoneNodes_init_68 : decode b_ZoneNodes_init 68 = .ok (.bipush 20, 2) := by decide +kernel
theorem d_ZoneNodes_init_70 : decode b_ZoneNodes_init 70 = .ok (.invokestatic 37, 3) := by decide +kernel
theorem d_ZoneNodes_init_73 : decode b_ZoneNodes_init 73 = .ok (.ifCond .eq 7, 3) := by decide +kernel
theorem d_ZoneNodes_init_76 : decode b_ZoneNodes_init 76 = .ok (.iload_n 3, 1) := by decide +kernel
theorem d_ZoneNodes_init_77 : decode b_ZoneNodes_init 77 = .ok (.goto 4, 3) := by decide +kernel
theorem d_ZoneNodes_init_80 : decode b_ZoneNodes_init 80 = .ok (.iconst 4, 1) := by decide +kernel
theorem d_ZoneNodes_init_81 : decode b_ZoneNodes_init 81 = .ok (.istore 6, 2) := by decide +kernel
theorem d_ZoneNodes_init_83 : decode b_ZoneNodes_init 83 = .ok (.iload 4, 2) := by decide +kernel
theorem d_ZoneNodes_init_85 : decode b_ZoneNodes_init 85 = .ok (.bipush 10, 2) := by decide +kernel
theorem d_ZoneNodes_init_87 : decode b_ZoneNodes_init 87 = .ok (.sipush 200, 3) := by decide +kernel
theorem d_ZoneNodes_init_90 : decode b_ZoneNodes_init 90 = .ok (.invokestatic 37, 3) := by decide +kernel
theorem d_ZoneNodes_init_93 : decode b_ZoneNodes_init 93 = .ok (.ifCond .eq 8, 3) := by decide +kernel
theorem d_ZoneNodes_init_96 : decode b_ZoneNodes_init 96 = .ok (.iload 4, 2) := by decide +kernel
theorem d_ZoneNodes_init_98 : decode b_ZoneNodes_init 98 = .ok (.goto 5, 3) := by decide +kernel
theorem d_ZoneNodes_init_101 : decode b_ZoneNodes_init 101 = .ok (.bipush 60, 2) := by decide +kernel
theorem d_ZoneNodes_init_103 : decode b_ZoneNodes_init 103 = .ok (.istore 7, 2) := by decide +kernel
theorem d_ZoneNodes_init_105 : decode b_ZoneNodes_init 105 = .ok (.aload_n 0, 1) := by decide +kernel
theorem d_ZoneNodes_init_106 : decode b_ZoneNodes_init 106 = .ok (.new 41, 3) := by decide +kernel
theorem d_ZoneNodes_init_109 : decode b_ZoneNodes_init 109 = .ok (.dup, 1) := by decide +kernel
theorem d_ZoneNodes_init_110 : decode b_ZoneNodes_init 110 = .ok (.iload_n 1, 1) := by decide +kernel
theorem d_ZoneNodes_init_111 : decode b_ZoneNodes_init 111 = .ok (.invokespecial 43, 3) := by decide +kernel
theorem d_ZoneNodes_init_114 : decode b_ZoneNodes_init 114 = .ok (.putfield 46, 3) := by decide +kernel
theorem d_ZoneNodes_init_117 : decode b_ZoneNodes_init 117 = .ok (.iconst 0, 1) := by decide +kernel
theorem d_ZoneNodes_init_118 : decode b_ZoneNodes_init 118 = .ok (.istore 8, 2) := by decide +kernel
theorem d_ZoneNodes_init_120 : decode b_ZoneNodes_init 120 = .ok (.iload 8, 2) := by decide +kernel
theorem d_ZoneNodes_init_122 : decode b_ZoneNodes_init 122 = .ok (.iconst 2, 1) := by decide +kernel
theorem d_ZoneNodes_init_123 : decode b_ZoneNodes_init 123 = .ok (.if_icmp .ge 33, 3) := by decide +kernel
theorem d_ZoneNodes_init_126 : decode b_ZoneNodes_init 126 = .ok (.aload_n 0, 1) := by decide +kernel
theorem d_ZoneNodes_init_127 : decode b_ZoneNodes_init 127 = .ok (.getfield 33, 3) := by decide +kernel
theorem d_ZoneNodes_init_130 : decode b_ZoneNodes_init 130 = .ok (.iload 8, 2) := by decide +kernel
theorem d_ZoneNodes_init_132 : decode b_ZoneNodes_init 132 = .ok (.new 31, 3) := by decide +kernel
theorem d_ZoneNodes_init_135 : decode b_ZoneNodes_init 135 = .ok (.dup, 1) := by decide +kernel
theorem d_ZoneNodes_init_136 : decode b_ZoneNodes_init 136 = .ok (.iload 8, 2) := by decide +kernel
theorem d_ZoneNodes_init_138 : decode b_ZoneNodes_init 138 = .ok (.iconst 1, 1) := by decide +kernel
theorem d_ZoneNodes_init_139 : decode b_ZoneNodes_init 139 = .ok (.iadd, 1) := by decide +kernel
theorem d_ZoneNodes_init_140 : decode b_ZoneNodes_init 140 = .ok (.iload 5, 2) := by decide +kernel
theorem d_ZoneNodes_init_142 : decode b_ZoneNodes_init 142 = .ok (.iload 6, 2) := by decide +kernel
theorem d_ZoneNodes_init_144 : decode b_ZoneNodes_init 144 = .ok (.iload 7, 2) := by decide +kernel
theorem d_ZoneNodes_init_146 : decode b_ZoneNodes_init 146 = .ok (.invokespecial 50, 3) := by decide +kernel
theorem d_ZoneNodes_init_149 : decode b_ZoneNodes_init 149 = .ok (.aastore, 1) := by decide +kernel
theorem d_ZoneNodes_init_150 : decode b_ZoneNodes_init 150 = .ok (.iinc 8 1, 3) := by decide +kernel
theorem d_ZoneNodes_init_153 : decode b_ZoneNodes_init 153 = .ok (.goto (-33), 3) := by decide +kernel
theorem d_ZoneNodes_init_156 : decode b_ZoneNodes_init 156 = .ok (.return_, 1) := by decide +kernel
theorem d_Wire_at_0 : decode b_Wire_at 0 = .ok (.iload_n 1, 1) := by decide +kernel
theorem d_Wire_at_1 : decode b_Wire_at 1 = .ok (.iconst 0, 1) := by decide +kernel
theorem d_Wire_at_2 : decode b_Wire_at 2 = .ok (.aload_n 0, 1) := by decide +kernel
theorem d_Wire_at_3 : decode b_Wire_at 3 = .ok (.getfield 18, 3) := by decide +kernel
theorem d_Wire_at_6 : decode b_Wire_at 6 = .ok (.iconst 1, 1) := by decide +kernel
theorem d_Wire_at_7 : decode b_Wire_at 7 = .ok (.isub, 1) := by decide +kernel
theorem d_Wire_at_8 : decode b_Wire_at 8 = .ok (.invokestatic 22, 3) := by decide +kernel
theorem d_Wire_at_11 : decode b_Wire_at 11 = .ok (.ifCond .eq 12, 3) := by decide +kernel
theorem d_Wire_at_14 : decode b_Wire_at 14 = .ok (.aload_n 0, 1) := by decide +kernel
theorem d_Wire_at_15 : decode b_Wire_at 15 = .ok (.getfield 11, 3) := by decide +kernel
theorem d_Wire_at_18 : decode b_Wire_at 18 = .ok (.iload_n 1, 1) := by decide +kernel
theorem d_Wire_at_19 : decode b_Wire_at 19 = .ok (.aaload, 1) := by decide +kernel
theorem d_Wire_at_20 : decode b_Wire_at 20 = .ok (.goto 4, 3) := by decide +kernel
theorem d_Wire_at_23 : decode b_Wire_at 23 = .ok (.aconst_null, 1) := by decide +kernel
theorem d_Wire_at_24 : decode b_Wire_at 24 = .ok (.areturn, 1) := by decide +kernel
theorem d_ZoneNodes_alter_0 : decode b_ZoneNodes_alter 0 = .ok (.aload_n 0, 1) := by decide +kernel
theorem d_ZoneNodes_alter_1 : decode b_ZoneNodes_alter 1 = .ok (.getfield 27, 3) := by decide +kernel
theorem d_ZoneNodes_alter_4 : decode b_ZoneNodes_alter 4 = .ok (.iload_n 1, 1) := by decide +kernel
theorem d_ZoneNodes_alter_5 : decode b_ZoneNodes_alter 5 = .ok (.invokevirtual 100, 3) := by decide +kernel
theorem d_ZoneNodes_alter_8 : decode b_ZoneNodes_alter 8 = .ok (.astore_n 2, 1) := by decide +kernel
theorem d_ZoneNodes_alter_9 : decode b_ZoneNodes_alter 9 = .ok (.aload_n 2, 1) := by decide +kernel
theorem d_ZoneNodes_alter_10 : decode b_ZoneNodes_alter 10 = .ok (.ifnull 18, 3) := by decide +kernel
theorem d_ZoneNodes_alter_13 : decode b_ZoneNodes_alter 13 = .ok (.aload_n 2, 1) := by decide +kernel
theorem d_ZoneNodes_alter_14 : decode b_ZoneNodes_alter 14 = .ok (.getfield 110, 3) := by decide +kernel
theorem d_ZoneNodes_alter_17 : decode b_ZoneNodes_alter 17 = .ok (.iconst 5, 1) := by decide +kernel
theorem d_ZoneNodes_alter_18 : decode b_ZoneNodes_alter 18 = .ok (.if_icmp .ne 10, 3) := by decide +kernel
theorem d_ZoneNodes_alter_21 : decode b_ZoneNodes_alter 21 = .ok (.aload_n 2, 1) := by decide +kernel
theorem d_ZoneNodes_alter_22 : decode b_ZoneNodes_alter 22 = .ok (.getfield 130, 3) := by decide +kernel
theorem d_ZoneNodes_alter_25 : decode b_ZoneNodes_alter 25 = .ok (.ifCond .eq 5, 3) := by decide +kernel
theorem d_ZoneNodes_alter_28 : decode b_ZoneNodes_alter 28 = .ok (.iconst 0, 1) := by decide +kernel
theorem d_ZoneNodes_alter_29 : decode b_ZoneNodes_alter 29 = .ok (.ireturn, 1) := by decide +kernel
theorem d_ZoneNodes_alter_30 : decode b_ZoneNodes_alter 30 = .ok (.aload_n 2, 1) := by decide +kernel
theorem d_ZoneNodes_alter_31 : decode b_ZoneNodes_alter 31 = .ok (.iconst 1, 1) := by decide +kernel
theorem d_ZoneNodes_alter_32 : decode b_ZoneNodes_alter 32 = .ok (.putfield 130, 3) := by decide +kernel
theorem d_ZoneNodes_alter_35 : decode b_ZoneNodes_alter 35 = .ok (.iconst 1, 1) := by decide +kernel
theorem d_ZoneNodes_alter_36 : decode b_ZoneNodes_alter 36 = .ok (.ireturn, 1) := by decide +kernel
theorem d_ZoneNodes_arm_0 : decode b_ZoneNodes_arm 0 = .ok (.iload_n 1, 1) := by decide +kernel
theorem d_ZoneNodes_arm_1 : decode b_ZoneNodes_arm 1 = .ok (.iconst 0, 1) := by decide +kernel
theorem d_ZoneNodes_arm_2 : decode b_ZoneNodes_arm 2 = .ok (.iconst 3, 1) := by decide +kernel
theorem d_ZoneNodes_arm_3 : decode b_ZoneNodes_arm 3 = .ok (.invokestatic 37, 3) := by decide +kernel
theorem d_ZoneNodes_arm_6 : decode b_ZoneNodes_arm 6 = .ok (.ifCond .eq 13, 3) := by decide +kernel
theorem d_ZoneNodes_arm_9 : decode b_ZoneNodes_arm 9 = .ok (.aload_n 0, 1) := by decide +kernel
theorem d_ZoneNodes_arm_10 : decode b_ZoneNodes_arm 10 = .ok (.getfield 46, 3) := by decide +kernel
theorem d_ZoneNodes_arm_13 : decode b_ZoneNodes_arm 13 = .ok (.getfield 74, 3) := by decide +kernel
theorem d_ZoneNodes_arm_16 : decode b_ZoneNodes_arm 16 = .ok (.ifCond .ne 5, 3) := by decide +kernel
theorem d_ZoneNodes_arm_19 : decode b_ZoneNodes_arm 19 = .ok (.iconst 0, 1) := by decide +kernel
theorem d_ZoneNodes_arm_20 : decode b_ZoneNodes_arm 20 = .ok (.ireturn, 1) := by decide +kernel
theorem d_ZoneNodes_arm_21 : decode b_ZoneNodes_arm 21 = .ok (.aload_n 0, 1) := by decide +kernel
theorem d_ZoneNodes_arm_22 : decode b_ZoneNodes_arm 22 = .ok (.getfield 46, 3) := by decide +kernel
theorem d_ZoneNodes_arm_25 : decode b_ZoneNodes_arm 25 = .ok (.iload_n 1, 1) := by decide +kernel
theorem d_ZoneNodes_arm_26 : decode b_ZoneNodes_arm 26 = .ok (.putfield 89, 3) := by decide +kernel
theorem d_ZoneNodes_arm_29 : decode b_ZoneNodes_arm 29 = .ok (.iconst 1, 1) := by decide +kernel
theorem d_ZoneNodes_arm_30 : decode b_ZoneNodes_arm 30 = .ok (.ireturn, 1) := by decide +kernel
theorem d_Journal_leadsTo_0 : decode b_Journal_leadsTo 0 = .ok (.aload_n 0, 1) := by decide +kernel
theorem d_Journal_leadsTo_1 : decode b_Journal_leadsTo 1 = .ok (.getfield 11, 3) := by decide +kernel
theorem d_Journal_leadsTo_4 : decode b_Journal_leadsTo 4 = .ok (.iload_n 1, 1) := by decide +kernel
theorem d_Journal_leadsTo_5 : decode b_Journal_leadsTo 5 = .ok (.aaload, 1) := by decide +kernel
theorem d_Journal_leadsTo_6 : decode b_Journal_leadsTo 6 = .ok (.getfield 22, 3) := by decide +kernel
theorem d_Journal_leadsTo_9 : decode b_Journal_leadsTo 9 = .ok (.istore_n 3, 1) := by decide +kernel
theorem d_Journal_leadsTo_10 : decode b_Journal_leadsTo 10 = .ok (.iload_n 1, 1) := by decide +kernel
theorem d_Journal_leadsTo_11 : decode b_Journal_leadsTo 11 = .ok (.istore 4, 2) := by decide +kernel
theorem d_Journal_leadsTo_13 : decode b_Journal_leadsTo 13 = .ok (.iload 4, 2) := by decide +kernel
theorem d_Journal_leadsTo_15 : decode b_Journal_leadsTo 15 = .ok (.aload_n 0, 1) := by decide +kernel
theorem d_Journal_leadsTo_16 : decode b_Journal_leadsTo 16 = .ok (.getfield 18, 3) := by decide +kernel
theorem d_Journal_leadsTo_19 : decode b_Journal_leadsTo 19 = .ok (.if_icmp .ge 28, 3) := by decide +kernel
theorem d_Journal_leadsTo_22 : decode b_Journal_leadsTo 22 = .ok (.aload_n 0, 1) := by decide +kernel
theorem d_Journal_leadsTo_23 : decode b_Journal_leadsTo 23 = .ok (.getfield 11, 3) := by decide +kernel
theorem d_Journal_leadsTo_26 : decode b_Journal_leadsTo 26 = .ok (.iload 4, 2) := by decide +kernel
theorem d_Journal_leadsTo_28 : decode b_Journal_leadsTo 28 = .ok (.aaload, 1) := by decide +kernel
theorem d_Journal_leadsTo_29 : decode b_Journal_leadsTo 29 = .ok (.getfield 22, 3) := by decide +kernel
theorem d_Journal_leadsTo_32 : decode b_Journal_leadsTo 32 = .ok (.iload_n 3, 1) := by decide +kernel
theorem d_Journal_leadsTo_33 : decode b_Journal_leadsTo 33 = .ok (.if_icmp .eq 5, 3) := by decide +kernel
theorem d_Journal_leadsTo_36 : decode b_Journal_leadsTo 36 = .ok (.iconst 0, 1) := by decide +kernel
theorem d_Journal_leadsTo_37 : decode b_Journal_leadsTo 37 = .ok (.ireturn, 1) := by decide +kernel
theorem d_Journal_leadsTo_38 : decode b_Journal_leadsTo 38 = .ok (.iinc 3 1, 3) := by decide +kernel
theorem d_Journal_leadsTo_41 : decode b_Journal_leadsTo 41 = .ok (.iinc 4 1, 3) := by decide +kernel
theorem d_Journal_leadsTo_44 : decode b_Journal_leadsTo 44 = .ok (.goto (-31), 3) := by decide +kernel
theorem d_Journal_leadsTo_47 : decode b_Journal_leadsTo 47 = .ok (.iload_n 3, 1) := by decide +kernel
theorem d_Journal_leadsTo_48 : decode b_Journal_leadsTo 48 = .ok (.iload_n 2, 1) := by decide +kernel
theorem d_Journal_leadsTo_49 : decode b_Journal_leadsTo 49 = .ok (.if_icmp .ne 7, 3) := by decide +kernel
theorem d_Journal_leadsTo_52 : decode b_Journal_leadsTo 52 = .ok (.iconst 1, 1) := by decide +kernel
theorem d_Journal_leadsTo_53 : decode b_Journal_leadsTo 53 = .ok (.goto 4, 3) := by decide +kernel
theorem d_Journal_leadsTo_56 : decode b_Journal_leadsTo 56 = .ok (.iconst 0, 1) := by decide +kernel
theorem d_Journal_leadsTo_57 : decode b_Journal_leadsTo 57 = .ok (.ireturn, 1) := by decide +kernel
theorem d_Journal_startOfWay_0 : decode b_Journal_startOfWay 0 = .ok (.iconst 0, 1) := by decide +kernel
theorem d_Journal_startOfWay_1 : decode b_Journal_startOfWay 1 = .ok (.istore_n 3, 1) := by decide +kernel
theorem d_Journal_startOfWay_2 : decode b_Journal_startOfWay 2 = .ok (.iload_n 3, 1) := by decide +kernel
theorem d_Journal_startOfWay_3 : decode b_Journal_startOfWay 3 = .ok (.aload_n 0, 1) := by decide +kernel
theorem d_Journal_startOfWay_4 : decode b_Journal_startOfWay 4 = .ok (.getfield 18, 3) := by decide +kernel
theorem d_Journal_startOfWay_7 : decode b_Journal_startOfWay 7 = .ok (.if_icmp .ge 40, 3) := by decide +kernel
theorem d_Journal_startOfWay_10 : decode b_Journal_startOfWay 10 = .ok (.aload_n 0, 1) := by decide +kernel
theorem d_Journal_startOfWay_11 : decode b_Journal_startOfWay 11 = .ok (.getfield 11, 3) := by decide +kernel
theorem d_Journal_startOfWay_14 : decode b_Journal_startOfWay 14 = .ok (.iload_n 3, 1) := by decide +kernel
theorem d_Journal_startOfWay_15 : decode b_Journal_startOfWay 15 = .ok (.aaload, 1) := by decide +kernel
theorem d_Journal_startOfWay_16 : decode b_Journal_startOfWay 16 = .ok (.getfield 22, 3) := by decide +kernel
theorem d_Journal_startOfWay_19 : decode b_Journal_startOfWay 19 = .ok (.iload_n 1, 1) := by decide +kernel
theorem d_Journal_startOfWay_20 : decode b_Journal_startOfWay 20 = .ok (.if_icmp .ne 21, 3) := by decide +kernel
theorem d_Journal_startOfWay_23 : decode b_Journal_startOfWay 23 = .ok (.aload_n 0, 1) := by decide +kernel
theorem d_Journal_startOfWay_24 : decode b_Journal_startOfWay 24 = .ok (.iload_n 3, 1) := by decide +kernel
theorem d_Journal_startOfWay_25 : decode b_Journal_startOfWay 25 = .ok (.iload_n 2, 1) := by decide +kernel
theorem d_Journal_startOfWay_26 : decode b_Journal_startOfWay 26 = .ok (.invokevirtual 42, 3) := by decide +kernel
theorem d_Journal_startOfWay_29 : decode b_Journal_startOfWay 29 = .ok (.ifCond .eq 7, 3) := by decide +kernel
theorem d_Journal_startOfWay_32 : decode b_Journal_startOfWay 32 = .ok (.iload_n 3, 1) := by decide +kernel
theorem d_Journal_startOfWay_33 : decode b_Journal_startOfWay 33 = .ok (.goto 7, 3) := by decide +kernel
theorem d_Journal_startOfWay_36 : decode b_Journal_startOfWay 36 = .ok (.aload_n 0, 1) := by decide +kernel
theorem d_Journal_startOfWay_37 : decode b_Journal_startOfWay 37 = .ok (.getfield 18, 3) := by decide +kernel
theorem d_Journal_startOfWay_40 : decode b_Journal_startOfWay 40 = .ok (.ireturn, 1) := by decide +kernel
theorem d_Journal_startOfWay_41 : decode b_Journal_startOfWay 41 = .ok (.iinc 3 1, 3) := by decide +kernel
theorem d_Journal_startOfWay_44 : decode b_Journal_startOfWay 44 = .ok (.goto (-42), 3) := by decide +kernel
theorem d_Journal_startOfWay_47 : decode b_Journal_startOfWay 47 = .ok (.aload_n 0, 1) := by decide +kernel
theorem d_Journal_startOfWay_48 : decode b_Journal_startOfWay 48 = .ok (.getfield 18, 3) := by decide +kernel
theorem d_Journal_startOfWay_51 : decode b_Journal_startOfWay 51 = .ok (.ireturn, 1) := by decide +kernel
theorem d_ZoneNodes_coded_0 : decode b_ZoneNodes_coded 0 = .ok (.sipush 1000, 3) := by decide +kernel
theorem d_ZoneNodes_coded_3 : decode b_ZoneNodes_coded 3 = .ok (.iload_n 0, 1) := by decide +kernel
theorem d_ZoneNodes_coded_4 : decode b_ZoneNodes_coded 4 = .ok (.imul, 1) := by decide +kernel
theorem d_ZoneNodes_coded_5 : decode b_ZoneNodes_coded 5 = .ok (.bipush 100, 2) := by decide +kernel
theorem d_ZoneNodes_coded_7 : decode b_ZoneNodes_coded 7 = .ok (.iload_n 1, 1) := by decide +kernel
theorem d_ZoneNodes_coded_8 : decode b_ZoneNodes_coded 8 = .ok (.imul, 1) := by decide +kernel
theorem d_ZoneNodes_coded_9 : decode b_ZoneNodes_coded 9 = .ok (.iadd, 1) := by decide +kernel
theorem d_ZoneNodes_coded_10 : decode b_ZoneNodes_coded 10 = .ok (.bipush 10, 2) := by decide +kernel
theorem d_ZoneNodes_coded_12 : decode b_ZoneNodes_coded 12 = .ok (.iload_n 2, 1) := by decide +kernel
theorem d_ZoneNodes_coded_13 : decode b_ZoneNodes_coded 13 = .ok (.imul, 1) := by decide +kernel
theorem d_ZoneNodes_coded_14 : decode b_ZoneNodes_coded 14 = .ok (.iadd, 1) := by decide +kernel
theorem d_ZoneNodes_coded_15 : decode b_ZoneNodes_coded 15 = .ok (.iload_n 3, 1) := by decide +kernel
theorem d_ZoneNodes_coded_16 : decode b_ZoneNodes_coded 16 = .ok (.iadd, 1) := by decide +kernel
theorem d_ZoneNodes_coded_17 : decode b_ZoneNodes_coded 17 = .ok (.ireturn, 1) := by decide +kernel
theorem d_Records_listInto_0 : decode b_Records_listInto 0 = .ok (.iload_n 2, 1) := by decide +kernel
theorem d_Records_listInto_1 : decode b_Records_listInto 1 = .ok (.istore 4, 2) := by decide +kernel
theorem d_Records_listInto_3 : decode b_Records_listInto 3 = .ok (.iconst 0, 1) := by decide +kernel
theorem d_Records_listInto_4 : decode b_Records_listInto 4 = .ok (.istore 5, 2) := by decide +kernel
theorem d_Records_listInto_6 : decode b_Records_listInto 6 = .ok (.iload 5, 2) := by decide +kernel
theorem d_Records_listInto_8 : decode b_Records_listInto 8 = .ok (.aload_n 0, 1) := by decide +kernel
theorem d_Records_listInto_9 : decode b_Records_listInto 9 = .ok (.getfield 9, 3) := by decide +kernel
theorem d_Records_listInto_12 : decode b_Records_listInto 12 = .ok (.arraylength, 1) := by decide +kernel
theorem d_Records_listInto_13 : decode b_Records_listInto 13 = .ok (.if_icmp .ge 71, 3) := by decide +kernel
theorem d_Records_listInto_16 : decode b_Records_listInto 16 = .ok (.iconst 0, 1) := by decide +kernel
theorem d_Records_listInto_17 : decode b_Records_listInto 17 = .ok (.istore 6, 2) := by decide +kernel
theorem d_Records_listInto_19 : decode b_Records_listInto 19 = .ok (.iload 6, 2) := by decide +kernel
theorem d_Records_listInto_21 : decode b_Records_listInto 21 = .ok (.bipush 8, 2) := by decide +kernel
theorem d_Records_listInto_23 : decode b_Records_listInto 23 = .ok (.if_icmp .ge 55, 3) := by decide +kernel
theorem d_Records_listInto_26 : decode b_Records_listInto 26 = .ok (.aload_n 0, 1) := by decide +kernel
theorem d_Records_listInto_27 : decode b_Records_listInto 27 = .ok (.getfield 9, 3) := by decide +kernel
theorem d_Records_listInto_30 : decode b_Records_listInto 30 = .ok (.iload 5, 2) := by decide +kernel
theorem d_Records_listInto_32 : decode b_Records_listInto 32 = .ok (.iaload, 1) := by decide +kernel
theorem d_Records_listInto_33 : decode b_Records_listInto 33 = .ok (.iload 6, 2) := by decide +kernel
theorem d_Records_listInto_35 : decode b_Records_listInto 35 = .ok (.ishr, 1) := by decide +kernel
theorem d_Records_listInto_36 : decode b_Records_listInto 36 = .ok (.iconst 1, 1) := by decide +kernel
theorem d_Records_listInto_37 : decode b_Records_listInto 37 = .ok (.iand, 1) := by decide +kernel
theorem d_Records_listInto_38 : decode b_Records_listInto 38 = .ok (.iconst 1, 1) := by decide +kernel
theorem d_Records_listInto_39 : decode b_Records_listInto 39 = .ok (.if_icmp .ne 33, 3) := by decide +kernel
theorem d_Records_listInto_42 : decode b_Records_listInto 42 = .ok (.iload 4, 2) := by decide +kernel
theorem d_Records_listInto_44 : decode b_Records_listInto 44 = .ok (.aload_n 1, 1) := by decide +kernel
theorem d_Records_listInto_45 : decode b_Records_listInto 45 = .ok (.arraylength, 1) := by decide +kernel
theorem d_Records_listInto_46 : decode b_Records_listInto 46 = .ok (.if_icmp .ge 26, 3) := by decide +kernel
theorem d_Records_listInto_49 : decode b_Records_listInto 49 = .ok (.aload_n 1, 1) := by decide +kernel
theorem d_Records_listInto_50 : decode b_Records_listInto 50 = .ok (.iload 4, 2) := by decide +kernel
theorem d_Records_listInto_52 : decode b_Records_listInto 52 = .ok (.iload_n 3, 1) := by decide +kernel
theorem d_Records_listInto_53 : decode b_Records_listInto 53 = .ok (.iload 5, 2) := by decide +kernel
theorem d_Records_listInto_55 : decode b_Records_listInto 55 = .ok (.iconst 4, 1) := by decide +kernel
theorem d_Records_listInto_56 : decode b_Records_listInto 56 = .ok (.idiv, 1) := by decide +kernel
theorem d_Records_listInto_57 : decode b_Records_listInto 57 = .ok (.iload 5, 2) := by decide +kernel
theorem d_Records_listInto_59 : decode b_Records_listInto 59 = .ok (.iconst 4, 1) := by decide +kernel
theorem d_Records_listInto_60 : decode b_Records_listInto 60 = .ok (.irem, 1) := by decide +kernel
theorem d_Records_listInto_61 : decode b_Records_listInto 61 = .ok (.iconst 1, 1) := by decide +kernel
theorem d_Records_listInto_62 : decode b_Records_listInto 62 = .ok (.iadd, 1) := by decide +kernel
theorem d_Records_listInto_63 : decode b_Records_listInto 63 = .ok (.iload 6, 2) := by decide +kernel
theorem d_Records_listInto_65 : decode b_Records_listInto 65 = .ok (.invokestatic 65, 3) := by decide +kernel
theorem d_Records_listInto_68 : decode b_Records_listInto 68 = .ok (.iastore, 1) := by decide +kernel
theorem d_Records_listInto_69 : decode b_Records_listInto 69 = .ok (.iinc 4 1, 3) := by decide +kernel
theorem d_Records_listInto_72 : decode b_Records_listInto 72 = .ok (.iinc 6 1, 3) := by decide +kernel
theorem d_Records_listInto_75 : decode b_Records_listInto 75 = .ok (.goto (-56), 3) := by decide +kernel
theorem d_Records_listInto_78 : decode b_Records_listInto 78 = .ok (.iinc 5 1, 3) := by decide +kernel
theorem d_Records_listInto_81 : decode b_Records_listInto 81 = .ok (.goto (-75), 3) := by decide +kernel
theorem d_Records_listInto_84 : decode b_Records_listInto 84 = .ok (.iload 4, 2) := by decide +kernel
theorem d_Records_listInto_86 : decode b_Records_listInto 86 = .ok (.ireturn, 1) := by decide +kernel
theorem d_Primary_workOutItems_0 : decode b_Primary_workOutItems 0 = .ok (.iload_n 1, 1) := by decide +kernel
theorem d_Primary_workOutItems_1 : decode b_Primary_workOutItems 1 = .ok (.ifCond .eq 18, 3) := by decide +kernel
theorem d_Primary_workOutItems_4 : decode b_Primary_workOutItems 4 = .ok (.aload_n 0, 1) := by decide +kernel
theorem d_Primary_workOutItems_5 : decode b_Primary_workOutItems 5 = .ok (.getfield 24, 3) := by decide +kernel
theorem d_Primary_workOutItems_8 : decode b_Primary_workOutItems 8 = .ok (.iload_n 2, 1) := by decide +kernel
theorem d_Primary_workOutItems_9 : decode b_Primary_workOutItems 9 = .ok (.aload_n 0, 1) := by decide +kernel
theorem d_Primary_workOutItems_10 : decode b_Primary_workOutItems 10 = .ok (.getfield 36, 3) := by decide +kernel
theorem d_Primary_workOutItems_13 : decode b_Primary_workOutItems 13 = .ok (.invokevirtual 89, 3) := by decide +kernel
theorem d_Primary_workOutItems_16 : decode b_Primary_workOutItems 16 = .ok (.goto 10, 3) := by decide +kernel
theorem d_Primary_workOutItems_19 : decode b_Primary_workOutItems 19 = .ok (.aload_n 0, 1) := by decide +kernel
theorem d_Primary_workOutItems_20 : decode b_Primary_workOutItems 20 = .ok (.getfield 24, 3) := by decide +kernel
theorem d_Primary_workOutItems_23 : decode b_Primary_workOutItems 23 = .ok (.getfield 93, 3) := by decide +kernel
theorem d_Primary_workOutItems_26 : decode b_Primary_workOutItems 26 = .ok (.istore_n 3, 1) := by decide +kernel
theorem d_Primary_workOutItems_27 : decode b_Primary_workOutItems 27 = .ok (.aload_n 0, 1) := by decide +kernel
theorem d_Primary_workOutItems_28 : decode b_Primary_workOutItems 28 = .ok (.iload_n 3, 1) := by decide +kernel
theorem d_Primary_workOutItems_29 : decode b_Primary_workOutItems 29 = .ok (.aload_n 0, 1) := by decide +kernel
theorem d_Primary_workOutItems_30 : decode b_Primary_workOutItems 30 = .ok (.getfield 24, 3) := by decide +kernel
theorem d_Primary_workOutItems_33 : decode b_Primary_workOutItems 33 = .ok (.getfield 93, 3) := by decide +kernel
theorem d_Primary_workOutItems_36 : decode b_Primary_workOutItems 36 = .ok (.if_icmp .lt 7, 3) := by decide +kernel
theorem d_Primary_workOutItems_39 : decode b_Primary_workOutItems 39 = .ok (.iconst 1, 1) := by decide +kernel
theorem d_Primary_workOutItems_40 : decode b_Primary_workOutItems 40 = .ok (.goto 4, 3) := by decide +kernel
theorem d_Primary_workOutItems_43 : decode b_Primary_workOutItems 43 = .ok (.iconst 0, 1) := by decide +kernel
theorem d_Primary_workOutItems_44 : decode b_Primary_workOutItems 44 = .ok (.putfield 96, 3) := by decide +kernel
theorem d_Primary_workOutItems_47 : decode b_Primary_workOutItems 47 = .ok (.aload_n 0, 1) := by decide +kernel
theorem d_Primary_workOutItems_48 : decode b_Primary_workOutItems 48 = .ok (.iconst 0, 1) := by decide +kernel
theorem d_Primary_workOutItems_49 : decode b_Primary_workOutItems 49 = .ok (.putfield 99, 3) := by decide +kernel
theorem d_Primary_workOutItems_52 : decode b_Primary_workOutItems 52 = .ok (.aload_n 0, 1) := by decide +kernel
theorem d_Primary_workOutItems_53 : decode b_Primary_workOutItems 53 = .ok (.getfield 96, 3) := by decide +kernel
theorem d_Primary_workOutItems_56 : decode b_Primary_workOutItems 56 = .ok (.ifCond .eq 21, 3) := by decide +kernel
theorem d_Primary_workOutItems_59 : decode b_Primary_workOutItems 59 = .ok (.aload_n 0, 1) := by decide +kernel
theorem d_Primary_workOutItems_60 : decode b_Primary_workOutItems 60 = .ok (.aload_n 0, 1) := by decide +kernel
theorem d_Primary_workOutItems_61 : decode b_Primary_workOutItems 61 = .ok (.getfield 12, 3) := by decide +kernel
theorem d_Primary_workOutItems_64 : decode b_Primary_workOutItems 64 = .ok (.aload_n 0, 1) := by decide +kernel
theorem d_Primary_workOutItems_65 : decode b_Primary_workOutItems 65 = .ok (.getfield 28, 3) := by decide +kernel
theorem d_Primary_workOutItems_68 : decode b_Primary_workOutItems 68 = .ok (.iconst 0, 1) := by decide +kernel
theorem d_Primary_workOutItems_69 : decode b_Primary_workOutItems 69 = .ok (.iconst 0, 1) := by decide +kernel
theorem d_Primary_workOutItems_70 : decode b_Primary_workOutItems 70 = .ok (.invokevirtual 102, 3) := by decide +kernel
theorem d_Primary_workOutItems_73 : decode b_Primary_workOutItems 73 = .ok (.putfield 99, 3) := by decide +kernel
theorem d_Primary_workOutItems_76 : decode b_Primary_workOutItems 76 = .ok (.return_, 1) := by decide +kernel
theorem d_Primary_workOutItems_77 : decode b_Primary_workOutItems 77 = .ok (.iload_n 3, 1) := by decide +kernel
theorem d_Primary_workOutItems_78 : decode b_Primary_workOutItems 78 = .ok (.istore 4, 2) := by decide +kernel
theorem d_Primary_workOutItems_80 : decode b_Primary_workOutItems 80 = .ok (.iload 4, 2) := by decide +kernel
theorem d_Primary_workOutItems_82 : decode b_Primary_workOutItems 82 = .ok (.aload_n 0, 1) := by decide +kernel
theorem d_Primary_workOutItems_83 : decode b_Primary_workOutItems 83 = .ok (.getfield 24, 3) := by decide +kernel
theorem d_Primary_workOutItems_86 : decode b_Primary_workOutItems 86 = .ok (.getfield 93, 3) := by decide +kernel
theorem d_Primary_workOutItems_89 : decode b_Primary_workOutItems 89 = .ok (.if_icmp .ge 67, 3) := by decide +kernel
theorem d_Primary_workOutItems_92 : decode b_Primary_workOutItems 92 = .ok (.aload_n 0, 1) := by decide +kernel
theorem d_Primary_workOutItems_93 : decode b_Primary_workOutItems 93 = .ok (.aload_n 0, 1) := by decide +kernel
theorem d_Primary_workOutItems_94 : decode b_Primary_workOutItems 94 = .ok (.getfield 24, 3) := by decide +kernel
theorem d_Primary_workOutItems_97 : decode b_Primary_workOutItems 97 = .ok (.getfield 106, 3) := by decide +kernel
theorem d_Primary_workOutItems_100 : decode b_Primary_workOutItems 100 = .ok (.iload 4, 2) := by decide +kernel
theorem d_Primary_workOutItems_102 : decode b_Primary_workOutItems 102 = .ok (.aaload, 1) := by decide +kernel
theorem d_Primary_workOutItems_103 : decode b_Primary_workOutItems 103 = .ok (.getfield 65, 3) := by decide +kernel
theorem d_Primary_workOutItems_106 : decode b_Primary_workOutItems 106 = .ok (.aload_n 0, 1) := by decide +kernel
theorem d_Primary_workOutItems_107 : decode b_Primary_workOutItems 107 = .ok (.getfield 28, 3) := by decide +kernel
theorem d_Primary_workOutItems_110 : decode b_Primary_workOutItems 110 = .ok (.aload_n 0, 1) := by decide +kernel
theorem d_Primary_workOutItems_111 : decode b_Primary_workOutItems 111 = .ok (.getfield 99, 3) := by decide +kernel
theorem d_Primary_workOutItems_114 : decode b_Primary_workOutItems 114 = .ok (.iconst 1, 1) := by decide +kernel
theorem d_Primary_workOutItems_115 : decode b_Primary_workOutItems 115 = .ok (.invokevirtual 102, 3) := by decide +kernel
theorem d_Primary_workOutItems_118 : decode b_Primary_workOutItems 118 = .ok (.putfield 99, 3) := by decide +kernel
theorem d_Primary_workOutItems_121 : decode b_Primary_workOutItems 121 = .ok (.aload_n 0, 1) := by decide +kernel
theorem d_Primary_workOutItems_122 : decode b_Primary_workOutItems 122 = .ok (.aload_n 0, 1) := by decide +kernel
theorem d_Primary_workOutItems_123 : decode b_Primary_workOutItems 123 = .ok (.getfield 24, 3) := by decide +kernel
theorem d_Primary_workOutItems_126 : decode b_Primary_workOutItems 126 = .ok (.getfield 106, 3) := by decide +kernel
theorem d_Primary_workOutItems_129 : decode b_Primary_workOutItems 129 = .ok (.iload 4, 2) := by decide +kernel
theorem d_Primary_workOutItems_131 : decode b_Primary_workOutItems 131 = .ok (.aaload, 1) := by decide +kernel
theorem d_Primary_workOutItems_132 : decode b_Primary_workOutItems 132 = .ok (.getfield 70, 3) := by decide +kernel
theorem d_Primary_workOutItems_135 : decode b_Primary_workOutItems 135 = .ok (.aload_n 0, 1) := by decide +kernel
theorem d_Primary_workOutItems_136 : decode b_Primary_workOutItems 136 = .ok (.getfield 28, 3) := by decide +kernel
theorem d_Primary_workOutItems_139 : decode b_Primary_workOutItems 139 = .ok (.aload_n 0, 1) := by decide +kernel
theorem d_Primary_workOutItems_140 : decode b_Primary_workOutItems 140 = .ok (.getfield 99, 3) := by decide +kernel
theorem d_Primary_workOutItems_143 : decode b_Primary_workOutItems 143 = .ok (.iconst 0, 1) := by decide +kernel
theorem d_Primary_workOutItems_144 : decode b_Primary_workOutItems 144 = .ok (.invokevirtual 102, 3) := by decide +kernel
theorem d_Primary_workOutItems_147 : decode b_Primary_workOutItems 147 = .ok (.putfield 99, 3) := by decide +kernel
theorem d_Primary_workOutItems_150 : decode b_Primary_workOutItems 150 = .ok (.iinc 4 1, 3) := by decide +kernel
theorem d_Primary_workOutItems_153 : decode b_Primary_workOutItems 153 = .ok (.goto (-73), 3) := by decide +kernel
theorem d_Primary_workOutItems_156 : decode b_Primary_workOutItems 156 = .ok (.return_, 1) := by decide +kernel
theorem d_Message_isOnStream_0 : decode b_Message_isOnStream 0 = .ok (.aload_n 0, 1) := by decide +kernel
theorem d_Message_isOnStream_1 : decode b_Message_isOnStream 1 = .ok (.getfield 15, 3) := by decide +kernel
theorem d_Message_isOnStream_4 : decode b_Message_isOnStream 4 = .ok (.iconst 4, 1) := by decide +kernel
theorem d_Message_isOnStream_5 : decode b_Message_isOnStream 5 = .ok (.if_icmp .eq 11, 3) := by decide +kernel
theorem d_Message_isOnStream_8 : decode b_Message_isOnStream 8 = .ok (.aload_n 0, 1) := by decide +kernel
theorem d_Message_isOnStream_9 : decode b_Message_isOnStream 9 = .ok (.getfield 15, 3) := by decide +kernel
theorem d_Message_isOnStream_12 : decode b_Message_isOnStream 12 = .ok (.iconst 5, 1) := by decide +kernel
theorem d_Message_isOnStream_13 : decode b_Message_isOnStream 13 = .ok (.if_icmp .ne 7, 3) := by decide +kernel
theorem d_Message_isOnStream_16 : decode b_Message_isOnStream 16 = .ok (.iconst 1, 1) := by decide +kernel
theorem d_Message_isOnStream_17 : decode b_Message_isOnStream 17 = .ok (.goto 4, 3) := by decide +kernel
theorem d_Message_isOnStream_20 : decode b_Message_isOnStream 20 = .ok (.iconst 0, 1) := by decide +kernel
theorem d_Message_isOnStream_21 : decode b_Message_isOnStream 21 = .ok (.ireturn, 1) := by decide +kernel
theorem d_Wire_countLossy_0 : decode b_Wire_countLossy 0 = .ok (.iconst 0, 1) := by decide +kernel
theorem d_Wire_countLossy_1 : decode b_Wire_countLossy 1 = .ok (.istore_n 1, 1) := by decide +kernel
theorem d_Wire_countLossy_2 : decode b_Wire_countLossy 2 = .ok (.iconst 0, 1) := by decide +kernel
theorem d_Wire_countLossy_3 : decode b_Wire_countLossy 3 = .ok (.istore_n 2, 1) := by decide +kernel
theorem d_Wire_countLossy_4 : decode b_Wire_countLossy 4 = .ok (.iload_n 2, 1) := by decide +kernel
theorem d_Wire_countLossy_5 : decode b_Wire_countLossy 5 = .ok (.aload_n 0, 1) := by decide +kernel
theorem d_Wire_countLossy_6 : decode b_Wire_countLossy 6 = .ok (.getfield 18, 3) := by decide +kernel
theorem d_Wire_countLossy_9 : decode b_Wire_countLossy 9 = .ok (.if_icmp .ge 24, 3) := by decide +kernel
theorem d_Wire_countLossy_12 : decode b_Wire_countLossy 12 = .ok (.aload_n 0, 1) := by decide +kernel
theorem d_Wire_countLossy_13 : decode b_Wire_countLossy 13 = .ok (.getfield 11, 3) := by decide +kernel
theorem d_Wire_countLossy_16 : decode b_Wire_countLossy 16 = .ok (.iload_n 2, 1) := by decide +kernel
theorem d_Wire_countLossy_17 : decode b_Wire_countLossy 17 = .ok (.aaload, 1) := by decide +kernel
theorem d_Wire_countLossy_18 : decode b_Wire_countLossy 18 = .ok (.invokevirtual 32, 3) := by decide +kernel
theorem d_Wire_countLossy_21 : decode b_Wire_countLossy 21 = .ok (.ifCond .ne 6, 3) := by decide +kernel
theorem d_Wire_countLossy_24 : decode b_Wire_countLossy 24 = .ok (.iinc 1 1, 3) := by decide +kernel
theorem d_Wire_countLossy_27 : decode b_Wire_countLossy 27 = .ok (.iinc 2 1, 3) := by decide +kernel
theorem d_Wire_countLossy_30 : decode b_Wire_countLossy 30 = .ok (.goto (-26), 3) := by decide +kernel
theorem d_Wire_countLossy_33 : decode b_Wire_countLossy 33 = .ok (.iload_n 1, 1) := by decide +kernel
theorem d_Wire_countLossy_34 : decode b_Wire_countLossy 34 = .ok (.ireturn, 1) := by decide +kernel
theorem d_Wire_put_0 : decode b_Wire_put 0 = .ok (.aload_n 0, 1) := by decide +kernel
theorem d_Wire_put_1 : decode b_Wire_put 1 = .ok (.getfield 18, 3) := by decide +kernel
theorem d_Wire_put_4 : decode b_Wire_put 4 = .ok (.aload_n 0, 1) := by decide +kernel
theorem d_Wire_put_5 : decode b_Wire_put 5 = .ok (.getfield 11, 3) := by decide +kernel
theorem d_Wire_put_8 : decode b_Wire_put 8 = .ok (.arraylength, 1) := by decide +kernel
theorem d_Wire_put_9 : decode b_Wire_put 9 = .ok (.if_icmp .lt 5, 3) := by decide +kernel
theorem d_Wire_put_12 : decode b_Wire_put 12 = .ok (.aconst_null, 1) := by decide +kernel
theorem d_Wire_put_13 : decode b_Wire_put 13 = .ok (.areturn, 1) := by decide +kernel
theorem d_Wire_put_14 : decode b_Wire_put 14 = .ok (.aload_n 0, 1) := by decide +kernel
theorem d_Wire_put_15 : decode b_Wire_put 15 = .ok (.getfield 11, 3) := by decide +kernel
theorem d_Wire_put_18 : decode b_Wire_put 18 = .ok (.aload_n 0, 1) := by decide +kernel
theorem d_Wire_put_19 : decode b_Wire_put 19 = .ok (.getfield 18, 3) := by decide +kernel
theorem d_Wire_put_22 : decode b_Wire_put 22 = .ok (.aaload, 1) := by decide +kernel
theorem d_Wire_put_23 : decode b_Wire_put 23 = .ok (.astore 4, 2) := by decide +kernel
theorem d_Wire_put_25 : decode b_Wire_put 25 = .ok (.aload 4, 2) := by decide +kernel
theorem d_Wire_put_27 : decode b_Wire_put 27 = .ok (.iload_n 1, 1) := by decide +kernel
theorem d_Wire_put_28 : decode b_Wire_put 28 = .ok (.putfield 26, 3) := by decide +kernel
theorem d_Wire_put_31 : decode b_Wire_put 31 = .ok (.aload 4, 2) := by decide +kernel
theorem d_Wire_put_33 : decode b_Wire_put 33 = .ok (.iload_n 2, 1) := by decide +kernel
theorem d_Wire_put_34 : decode b_Wire_put 34 = .ok (.putfield 29, 3) := by decide +kernel
theorem d_Wire_put_37 : decode b_Wire_put 37 = .ok (.aload 4, 2) := by decide +kernel
theorem d_Wire_put_39 : decode b_Wire_put 39 = .ok (.iload_n 3, 1) := by decide +kernel
theorem d_Wire_put_40 : decode b_Wire_put 40 = .ok (.putfield 84, 3) := by decide +kernel
theorem d_Wire_put_43 : decode b_Wire_put 43 = .ok (.aload 4, 2) := by decide +kernel
theorem d_Wire_put_45 : decode b_Wire_put 45 = .ok (.iconst 0, 1) := by decide +kernel
end
section
set_option maxHeartbeats 4000000 in
set_option maxRecDepth 100000 in
theorem c_ZoneNodes_within (l : Launch) (G : zh_G) (N : Nat) (X : zh_T) (x0 : Int32) (x1 : Int32) (x2 : Int32) (r : Int32) (hm : f_ZoneNodes_within N X x0 x1 x2 = some r) : zM l G y_ZoneNodes_within w_ZoneNodes_within 0 0 X [.int x0, .int x1, .int x2] (some (.int r)) X 0 0 := by
  refine zr_ofW (by decide) (by exact Nat.le_of_ble_eq_true rfl) ?_
  intro p e s m args below meth c ls hx hb hml hr hts hown hin hlocks hk hX hl
  have hS : va_S (zh_A G) s.heap s.heap [] := va_S.rf
  have hl : lv_has ls 3 [(0, .int x0), (1, .int x1), (2, .int x2)] := hl
  have hown : s.vm.findClass R_ZoneNodes = some m.cls := hown
  unfold f_ZoneNodes_within at hm
  refine lv_iload_n hx hb d_ZoneNodes_within_0 rfl (lv_at hl 0 rfl) ?_
  refine lv_iload_n hx hb d_ZoneNodes_within_1 rfl (lv_at hl 1 rfl) ?_
  refine lv_icmp_lt (tgt := 14) hx hb d_ZoneNodes_within_2 rfl (fun h1 => ?_) (fun h1 => ?_)
  · replace hm := zi_t h1 hm
    refine lv_iconst (v := 0) hx hb d_ZoneNodes_within_14 (by decide) ?_
    cases hm
    exact W.zret hx hb hr (by decide) (fun t ht hW => zh_end hk hX hS ht hW) hS.2.2 d_ZoneNodes_within_15
  · replace hm := zi_f h1 hm
    refine lv_iload_n hx hb d_ZoneNodes_within_5 rfl (lv_at hl 0 rfl) ?_
    refine lv_iload_n hx hb d_ZoneNodes_within_6 rfl (lv_at hl 2 rfl) ?_
    refine lv_icmp_gt (tgt := 14) hx hb d_ZoneNodes_within_7 rfl (fun h2 => ?_) (fun h2 => ?_)
    · replace hm := zi_t h2 hm
      refine lv_iconst (v := 0) hx hb d_ZoneNodes_within_14 (by decide) ?_
      cases hm
      exact W.zret hx hb hr (by decide) (fun t ht hW => zh_end hk hX hS ht hW) hS.2.2 d_ZoneNodes_within_15
    · replace hm := zi_f h2 hm
      refine lv_iconst (v := 1) hx hb d_ZoneNodes_within_10 (by decide) ?_
      refine lv_goto (tgt := 15) hx hb d_ZoneNodes_within_11 rfl ?_
      cases hm
      exact W.zret hx hb hr (by decide) (fun t ht hW => zh_end hk hX hS ht hW) hS.2.2 d_ZoneNodes_within_15
set_option maxHeartbeats 4000000 in
set_option maxRecDepth 100000 in
theorem c_Draft_init (l : Launch) (G : zh_G) (N : Nat) (X : zh_T) (x0 : Nat) (r : Unit) (X' : zh_T) (hm : f_Draft_init N X x0 = some (r, X')) : zM l G y_Draft_init w_Draft_init 1 21 X [.ref x0] none X' 2 8 := by
  refine zr_ofW (by decide) (by exact Nat.le_of_ble_eq_true rfl) ?_
  intro p e s m args below meth c ls hx hb hml hr hts hown hin hlocks hk hX hl
  have hS : va_S (zh_A G) s.heap s.heap [] := va_S.rf
  have hl : lv_has ls 1 [(0, .ref x0)] := hl
  have hown : s.vm.findClass R_Draft = some m.cls := hown
  unfold f_Draft_init at hm
  refine lv_aload_n hx hb d_Draft_init_0 rfl (lv_at hl 0 rfl) ?_
  refine W.objInit hx hb hown (hts _ tW0) (hts _ tW1) (hts _ tW2) rfl (by rw [hml]; exact hl.1) rfl d_Draft_init_1 (Nat.le_of_ble_eq_true rfl) (Nat.le_of_ble_eq_true rfl) ?_
  refine W.eq (g2 := F0 m 4 ls []) rfl ?_
  refine lv_aload_n hx hb d_Draft_init_4 rfl (lv_at hl 0 rfl) ?_
  refine lv_iconst (v := 4) hx hb d_Draft_init_5 (by decide) ?_
  replace hm := zb2_s hm
  obtain ⟨a1, X2, h3, hm⟩ := hm
  refine zr_newai (n := 4) (N' := 4) hx hb (hts _ tW3) hk hX hS h3 (by decide) rfl (by decide) (Nat.le_of_ble_eq_true rfl) (Nat.le_of_ble_eq_true rfl) d_Draft_init_6 (fun H hX hS => ?_)
  replace hm := zb1_s hm
  obtain ⟨X4, h5, hm⟩ := hm
  refine zr_putF (ci := 0) (C := R_Draft) (T := F_Draft) (N := 4) (ty := (.array .int)) (v := .ref a1) hx hb hts in_Draft t_Draft t_Draft_ok n_Draft hown hk hX hS rfl 0 (by decide) (hts _ tW4) rfl rfl hin rfl (by decide +kernel) rfl rfl h5 d_Draft_init_8 (fun H locs hX hS => ?_)
  refine lv_aload_n hx hb d_Draft_init_11 rfl (lv_at hl 0 rfl) ?_
  refine lv_iconst (v := 4) hx hb d_Draft_init_12 (by decide) ?_
  replace hm := zb2_s hm
  obtain ⟨a6, X7, h8, hm⟩ := hm
  refine zr_newai (n := 4) (N' := 4) hx hb (hts _ tW3) hk hX hS h8 (by decide) rfl (by decide) (Nat.le_of_ble_eq_true rfl) (Nat.le_of_ble_eq_true rfl) d_Draft_init_13 (fun H hX hS => ?_)
  replace hm := zb1_s hm
  obtain ⟨X9, h10, hm⟩ := hm
  refine zr_putF (ci := 0) (C := R_Draft) (T := F_Draft) (N := 4) (ty := (.array .int)) (v := .ref a6) hx hb hts in_Draft t_Draft t_Draft_ok n_Draft hown hk hX hS rfl 1 (by decide) (hts _ tW5) rfl rfl hin rfl (by decide +kernel) rfl rfl h10 d_Draft_init_15 (fun H locs hX hS => ?_)
  cases hm
  refine W.widen (k := 2) (n := 8) (Nat.le_of_ble_eq_true rfl) (Nat.le_of_ble_eq_true rfl) ?_
  exact W.vret hx hb hr (fun t ht hW => zh_end hk hX hS ht hW) hS.2.2 d_Draft_init_18
set_option maxHeartbeats 4000000 in
set_option maxRecDepth 100000 in
theorem c_Records_init (l : Launch) (G : zh_G) (N : Nat) (X : zh_T) (x0 : Nat) (r : Unit) (X' : zh_T) (hm : f_Records_init N X x0 = some (r, X')) : zM l G y_Records_init w_Records_init 1 21 X [.ref x0] none X' 1 32 := by
  refine zr_ofW (by decide) (by exact Nat.le_of_ble_eq_true rfl) ?_
  intro p e s m args below meth c ls hx hb hml hr hts hown hin hlocks hk hX hl
  have hS : va_S (zh_A G) s.heap s.heap [] := va_S.rf
  have hl : lv_has ls 1 [(0, .ref x0)] := hl
  have hown : s.vm.findClass R_Records = some m.cls := hown
  unfold f_Records_init at hm
  refine lv_aload_n hx hb d_Records_init_0 rfl (lv_at hl 0 rfl) ?_
  refine W.objInit hx hb hown (hts _ tW6) (hts _ tW1) (hts _ tW2) rfl (by rw [hml]; exact hl.1) rfl d_Records_init_1 (Nat.le_of_ble_eq_true rfl) (Nat.le_of_ble_eq_true rfl) ?_
  refine W.eq (g2 := F0 m 4 ls []) rfl ?_
  refine lv_aload_n hx hb d_Records_init_4 rfl (lv_at hl 0 rfl) ?_
  refine lv_bipush (v := 32) hx hb d_Records_init_5 (by decide) ?_
  replace hm := zb2_s hm
  obtain ⟨a1, X2, h3, hm⟩ := hm
  refine zr_newai (n := 32) (N' := 32) hx hb (hts _ tW3) hk hX hS h3 (by decide) rfl (by decide) (Nat.le_of_ble_eq_true rfl) (Nat.le_of_ble_eq_true rfl) d_Records_init_7 (fun H hX hS => ?_)
  replace hm := zb1_s hm
  obtain ⟨X4, h5, hm⟩ := hm
  refine zr_putF (ci := 5) (C := R_Records) (T := F_Records) (N := 1) (ty := (.array .int)) (v := .ref a1) hx hb hts in_Records t_Records t_Records_ok n_Records hown hk hX hS rfl 0 (by decide) (hts _ tW7) rfl rfl hin rfl (by decide +kernel) rfl rfl h5 d_Records_init_9 (fun H locs hX hS => ?_)
  cases hm
  refine W.widen (k := 1) (n := 32) (Nat.le_of_ble_eq_true rfl) (Nat.le_of_ble_eq_true rfl) ?_
  exact W.vret hx hb hr (fun t ht hW => zh_end hk hX hS ht hW) hS.2.2 d_Records_init_12
set_option maxHeartbeats 4000000 in
set_option maxRecDepth 100000 in
theorem c_Entry_init (l : Launch) (G : zh_G) (N : Nat) (X : zh_T) (x0 : Nat) (r : Unit) (X' : zh_T) (hm : f_Entry_init N X x0 = some (r, X')) : zM l G y_Entry_init w_Entry_init 2 41 X [.ref x0] none X' 4 66 := by
  refine zr_ofW (by decide) (by exact Nat.le_of_ble_eq_true rfl) ?_
  intro p e s m args below meth c ls hx hb hml hr hts hown hin hlocks hk hX hl
  have hS : va_S (zh_A G) s.heap s.heap [] := va_S.rf
  have hl : lv_has ls 1 [(0, .ref x0)] := hl
  have hown : s.vm.findClass R_Entry = some m.cls := hown
  unfold f_Entry_init at hm
  refine lv_aload_n hx hb d_Entry_init_0 rfl (lv_at hl 0 rfl) ?_
  refine W.objInit hx hb hown (hts _ tW8) (hts _ tW1) (hts _ tW2) rfl (by rw [hml]; exact hl.1) rfl d_Entry_init_1 (Nat.le_of_ble_eq_true rfl) (Nat.le_of_ble_eq_true rfl) ?_
  refine W.eq (g2 := F0 m 4 ls []) rfl ?_
  refine lv_aload_n hx hb d_Entry_init_4 rfl (lv_at hl 0 rfl) ?_
  replace hm := zb2_s hm
  obtain ⟨a1, X2, h3, hm⟩ := hm
  refine zr_new (ci := 5) (C := R_Records) (T := F_Records) (N := 1) hx hb hts in_Records t_Records t_Records_ok hown (hts _ tW9) (hts _ tW10) (hts _ tW11) hk hX hS rfl h3 zf_Records (Nat.le_of_ble_eq_true rfl) (Nat.le_of_ble_eq_true rfl) d_Entry_init_5 (fun H hX hS => ?_)
  refine lv_dup hx hb d_Entry_init_8 rfl ?_
  replace hm := zb2_s hm
  obtain ⟨v5, X6, h4, hm⟩ := hm
  refine zr_callv (zr_runIN (As := []) (rest := [.ref a1, .ref x0]) (n := 0) hx hb hml hown hts hk hX (c_Records_init l G N X2 a1 v5 X6 h4) (nM0 hk) tW12 (hts _ tW11) (hts _ tW13) (by decide +kernel) ⟨Nat.le_of_ble_eq_true rfl, Nat.le_of_ble_eq_true rfl⟩ rfl rfl hl.1 rfl (lv_room (Nat.le_of_ble_eq_true rfl)) d_Entry_init_9 ⟨(Nat.le_of_ble_eq_true rfl), (Nat.le_of_ble_eq_true rfl)⟩) hS (fun H locs hX hS => ?_)
  replace hm := zb1_s hm
  obtain ⟨X7, h8, hm⟩ := hm
  refine zr_putF (ci := 1) (C := R_Entry) (T := F_Entry) (N := 4) (ty := (.object "ZoneNodes$Records")) (v := .ref a1) hx hb hts in_Entry t_Entry t_Entry_ok n_Entry hown hk hX hS rfl 0 (by decide) (hts _ tW14) rfl rfl hin rfl (by decide +kernel) rfl rfl h8 d_Entry_init_12 (fun H locs hX hS => ?_)
  refine lv_aload_n hx hb d_Entry_init_15 rfl (lv_at hl 0 rfl) ?_
  replace hm := zb2_s hm
  obtain ⟨a9, X10, h11, hm⟩ := hm
  refine zr_new (ci := 5) (C := R_Records) (T := F_Records) (N := 1) hx hb hts in_Records t_Records t_Records_ok hown (hts _ tW9) (hts _ tW10) (hts _ tW11) hk hX hS rfl h11 zf_Records (Nat.le_of_ble_eq_true rfl) (Nat.le_of_ble_eq_true rfl) d_Entry_init_16 (fun H hX hS => ?_)
  refine lv_dup hx hb d_Entry_init_19 rfl ?_
  replace hm := zb2_s hm
  obtain ⟨v13, X14, h12, hm⟩ := hm
  refine zr_callv (zr_runIN (As := []) (rest := [.ref a9, .ref x0]) (n := 0) hx hb hml hown hts hk hX (c_Records_init l G N X10 a9 v13 X14 h12) (nM0 hk) tW12 (hts _ tW11) (hts _ tW13) (by decide +kernel) ⟨Nat.le_of_ble_eq_true rfl, Nat.le_of_ble_eq_true rfl⟩ rfl rfl hl.1 rfl (lv_room (Nat.le_of_ble_eq_true rfl)) d_Entry_init_20 ⟨(Nat.le_of_ble_eq_true rfl), (Nat.le_of_ble_eq_true rfl)⟩) hS (fun H locs hX hS => ?_)
  replace hm := zb1_s hm
  obtain ⟨X15, h16, hm⟩ := hm
  refine zr_putF (ci := 1) (C := R_Entry) (T := F_Entry) (N := 4) (ty := (.object "ZoneNodes$Records")) (v := .ref a9) hx hb hts in_Entry t_Entry t_Entry_ok n_Entry hown hk hX hS rfl 1 (by decide) (hts _ tW15) rfl rfl hin rfl (by decide +kernel) rfl rfl h16 d_Entry_init_23 (fun H locs hX hS => ?_)
  cases hm
  refine W.widen (k := 4) (n := 66) (Nat.le_of_ble_eq_true rfl) (Nat.le_of_ble_eq_true rfl) ?_
  exact W.vret hx hb hr (fun t ht hW => zh_end hk hX hS ht hW) hS.2.2 d_Entry_init_26
set_option maxHeartbeats 4000000 in
set_option maxRecDepth 100000 in
theorem c_Journal_init (l : Launch) (G : zh_G) (N : Nat) (X : zh_T) (x0 : Nat) (r : Unit) (X' : zh_T) (hm : f_Journal_init N X x0 = some (r, X')) : zM l G y_Journal_init w_Journal_init 3 61 X [.ref x0] none X' 31 425 := by
  refine zr_ofW (by decide) (by exact Nat.le_of_ble_eq_true rfl) ?_
  intro p e s m args below meth c ls hx hb hml hr hts hown hin hlocks hk hX hl
  have hS : va_S (zh_A G) s.heap s.heap [] := va_S.rf
  have hl : lv_has ls 2 [(0, .ref x0)] := hl
  have hown : s.vm.findClass R_Journal = some m.cls := hown
  unfold f_Journal_init at hm
  have hL14 : ∀ (n : Nat) (X : zh_T) (w0 : Nat) (w1 : Int32) (v : Unit) (X1 : zh_T) (H : Heap) (locs : List Loc) (ls : Array Slot), L_Journal_init_14 N w0 n X w1 = some (v, X1) → zh_w G X H → va_S (zh_A G) s.heap H locs → lv_has ls 2 [(0, .ref w0), (1, .int w1)] → ∀ (cells slots ce se : Nat), cells + 5 * n ≤ ce → slots + 70 * n ≤ se → ce ≤ 31 → se ≤ 425 → (∀ (H : Heap) (locs : List Loc) (ls : Array Slot), zh_w G X1 H → va_S (zh_A G) s.heap H locs → lv_has ls 2 [] → W p l e { frames := 3, cells := 31, slots := 425, locals := 61 } s m args below meth c H locs ce se (MQ below (zh_Q G none X') args s 31 425 (zh_A G)) (F0 m 42 ls [])) → W p l e { frames := 3, cells := 31, slots := 425, locals := 61 } s m args below meth c H locs cells slots (MQ below (zh_Q G none X') args s 31 425 (zh_A G)) (F0 m 14 ls []) := by
    intro n
    induction n with
    | zero =>
      intro X w0 w1 v X1 H locs ls hm hX hS hl cells slots ce se hc1 hc2 hc3 hc4 hexit
      rw [L_Journal_init_14] at hm
      cases hm
    | succ n ih =>
      intro X w0 w1 v X1 H locs ls hm hX hS hl cells slots ce se hc1 hc2 hc3 hc4 hexit
      rw [L_Journal_init_14] at hm
      refine lv_iload_n hx hb d_Journal_init_14 rfl (lv_at hl 1 rfl) ?_
      refine lv_aload_n hx hb d_Journal_init_15 rfl (lv_at hl 0 rfl) ?_
      replace hm := zb1_s hm
      obtain ⟨a7, h6, hm⟩ := hm
      refine zr_get (ci := 2) (C := R_Journal) (T := F_Journal) (N := 2) hx hb hts in_Journal hown hk hX rfl 0 (by decide) (hts _ tW18) rfl (zgr_v h6) d_Journal_init_16 ?_
      replace hm := zb1_s hm
      obtain ⟨v8, h9, hm⟩ := hm
      refine zr_alen (t := 2) hx hb hk hX rfl h9 d_Journal_init_19 ?_
      refine lv_icmp_ge (tgt := 42) hx hb d_Journal_init_20 rfl (fun h10 => ?_) (fun h10 => ?_)
      · replace hm := zi_t h10 hm
        refine W.widen (k := ce) (n := se) (by omega) (by omega) ?_
        cases hm
        exact hexit _ _ _ hX hS (lv_sub hl [] rfl)
      · replace hm := zi_f h10 hm
        refine lv_aload_n hx hb d_Journal_init_23 rfl (lv_at hl 0 rfl) ?_
        replace hm := zb1_s hm
        obtain ⟨a12, h11, hm⟩ := hm
        refine zr_get (ci := 2) (C := R_Journal) (T := F_Journal) (N := 2) hx hb hts in_Journal hown hk hX rfl 0 (by decide) (hts _ tW18) rfl (zgr_v h11) d_Journal_init_24 ?_
        refine lv_iload_n hx hb d_Journal_init_27 rfl (lv_at hl 1 rfl) ?_
        replace hm := zb2_s hm
        obtain ⟨a13, X14, h15, hm⟩ := hm
        refine zr_new (ci := 1) (C := R_Entry) (T := F_Entry) (N := 4) hx hb hts in_Entry t_Entry t_Entry_ok hown (hts _ tW17) (hts _ tW19) (hts _ tW20) hk hX hS rfl h15 zf_Entry (by show _ ≤ 31; omega) (by show _ ≤ 425; omega) d_Journal_init_28 (fun H hX hS => ?_)
        refine lv_dup hx hb d_Journal_init_31 rfl ?_
        replace hm := zb2_s hm
        obtain ⟨v17, X18, h16, hm⟩ := hm
        refine zr_callv (zr_runIN (As := []) (rest := [.ref a13, .int w1, .ref a12]) (n := 0) hx hb hml hown hts hk hX (c_Entry_init l G N X14 a13 v17 X18 h16) (nM1 hk) tW21 (hts _ tW20) (hts _ tW22) (by decide +kernel) ⟨Nat.le_of_ble_eq_true rfl, Nat.le_of_ble_eq_true rfl⟩ rfl rfl hl.1 rfl (lv_room (Nat.le_of_ble_eq_true rfl)) d_Journal_init_32 ⟨(by show _ ≤ 31; omega), (by show _ ≤ 425; omega)⟩) hS (fun H locs hX hS => ?_)
        replace hm := zb1_s hm
        obtain ⟨X19, h20, hm⟩ := hm
        refine zr_aastore (t := 2) (ci := 1) hx hb hk hX hS rfl rfl h20 d_Journal_init_35 (fun H locs hX hS => ?_)
        refine lv_iinc (v := w1 + 1) (lv' := [(1, .int (w1 + 1)), (0, .ref w0)]) hx hb d_Journal_init_36 hl (k := 1) rfl (by rw [show Int32.ofInt 1 = 1 by decide]) (by decide) rfl (fun ls hl => ?_)
        refine lv_goto (tgt := 14) hx hb d_Journal_init_39 rfl ?_
        exact ih X19 w0 (w1 + 1) v X1 _ _ _ hm hX hS (lv_sub hl [1, 0] rfl) _ _ ce se (by omega) (by omega) hc3 hc4 hexit
  refine lv_aload_n hx hb d_Journal_init_0 rfl (lv_at hl 0 rfl) ?_
  refine W.objInit hx hb hown (hts _ tW16) (hts _ tW1) (hts _ tW2) rfl (by rw [hml]; exact hl.1) rfl d_Journal_init_1 (Nat.le_of_ble_eq_true rfl) (Nat.le_of_ble_eq_true rfl) ?_
  refine W.eq (g2 := F0 m 4 ls []) rfl ?_
  refine lv_aload_n hx hb d_Journal_init_4 rfl (lv_at hl 0 rfl) ?_
  refine lv_iconst (v := 5) hx hb d_Journal_init_5 (by decide) ?_
  replace hm := zb2_s hm
  obtain ⟨a1, X2, h3, hm⟩ := hm
  refine zr_newq (t := 2) (C := R_Entry) (n := 5) (N' := 5) hx hb hown (hts _ tW17) (hk.2.2.2 _ ao_2) hk hX hS rfl h3 (by decide) rfl (by decide) (Nat.le_of_ble_eq_true rfl) (Nat.le_of_ble_eq_true rfl) d_Journal_init_6 (fun H hX hS => ?_)
  replace hm := zb1_s hm
  obtain ⟨X4, h5, hm⟩ := hm
  refine zr_putF (ci := 2) (C := R_Journal) (T := F_Journal) (N := 2) (ty := (.array (.object "ZoneNodes$Entry"))) (v := .ref a1) hx hb hts in_Journal t_Journal t_Journal_ok n_Journal hown hk hX hS rfl 0 (by decide) (hts _ tW18) rfl rfl hin rfl (by decide +kernel) rfl rfl h5 d_Journal_init_9 (fun H locs hX hS => ?_)
  refine lv_iconst (v := 0) hx hb d_Journal_init_12 (by decide) ?_
  refine lv_istore_n (lv' := [(1, .int 0), (0, .ref x0)]) hx hb d_Journal_init_13 rfl hl (by decide) rfl (fun ls hl => ?_)
  replace hm := zb2_s hm
  obtain ⟨v21, X23, h22, hm⟩ := hm
  refine hL14 6 X4 x0 0 v21 X23 _ _ _ h22 hX hS (lv_sub hl [1, 0] rfl) _ _ (31) (425) (by omega) (by omega) (by omega) (by omega) (fun H locs ls hX hS hl => ?_)
  cases hm
  refine W.widen (k := 31) (n := 425) (Nat.le_of_ble_eq_true rfl) (Nat.le_of_ble_eq_true rfl) ?_
  exact W.vret hx hb hr (fun t ht hW => zh_end hk hX hS ht hW) hS.2.2 d_Journal_init_42
set_option maxHeartbeats 4000000 in
set_option maxRecDepth 100000 in
theorem c_Records_setValues (l : Launch) (G : zh_G) (N : Nat) (X : zh_T) (x0 : Nat) (x1 : Int32) (x2 : Int32) (x3 : Int32) (r : Unit) (X' : zh_T) (hm : f_Records_setValues N X x0 x1 x2 x3 = some (r, X')) : zM l G y_Records_setValues w_Records_setValues 0 0 X [.ref x0, .int x1, .int x2, .int x3] none X' 0 0 := by
  refine zr_ofW (by decide) (by exact Nat.le_of_ble_eq_true rfl) ?_
  intro p e s m args below meth c ls hx hb hml hr hts hown hin hlocks hk hX hl
  have hS : va_S (zh_A G) s.heap s.heap [] := va_S.rf
  have hl : lv_has ls 4 [(0, .ref x0), (1, .int x1), (2, .int x2), (3, .int x3)] := hl
  have hown : s.vm.findClass R_Records = some m.cls := hown
  unfold f_Records_setValues at hm
  refine lv_aload_n hx hb d_Records_setValues_0 rfl (lv_at hl 0 rfl) ?_
  replace hm := zb1_s hm
  obtain ⟨a2, h1, hm⟩ := hm
  refine zr_get (ci := 5) (C := R_Records) (T := F_Records) (N := 1) hx hb hts in_Records hown hk hX rfl 0 (by decide) (hts _ tW7) rfl (zgr_v h1) d_Records_setValues_1 ?_
  refine lv_iconst (v := 4) hx hb d_Records_setValues_4 (by decide) ?_
  refine lv_iload_n hx hb d_Records_setValues_5 rfl (lv_at hl 1 rfl) ?_
  refine lv_imul hx hb d_Records_setValues_6 ?_
  refine lv_iload_n hx hb d_Records_setValues_7 rfl (lv_at hl 2 rfl) ?_
  refine lv_iadd hx hb d_Records_setValues_8 ?_
  refine lv_iconst (v := 1) hx hb d_Records_setValues_9 (by decide) ?_
  refine lv_isub hx hb d_Records_setValues_10 ?_
  refine lv_iload_n hx hb d_Records_setValues_11 rfl (lv_at hl 3 rfl) ?_
  replace hm := zb1_s hm
  obtain ⟨X3, h4, hm⟩ := hm
  refine zr_iastore hx hb hk hX hS h4 d_Records_setValues_12 (fun H locs hX hS => ?_)
  cases hm
  exact W.vret hx hb hr (fun t ht hW => zh_end hk hX hS ht hW) hS.2.2 d_Records_setValues_13
set_option maxHeartbeats 4000000 in
set_option maxRecDepth 100000 in
theorem c_Records_valuesOf (l : Launch) (G : zh_G) (N : Nat) (X : zh_T) (x0 : Nat) (x1 : Int32) (x2 : Int32) (r : Int32) (hm : f_Records_valuesOf N X x0 x1 x2 = some r) : zM l G y_Records_valuesOf w_Records_valuesOf 0 0 X [.ref x0, .int x1, .int x2] (some (.int r)) X 0 0 := by
  refine zr_ofW (by decide) (by exact Nat.le_of_ble_eq_true rfl) ?_
  intro p e s m args below meth c ls hx hb hml hr hts hown hin hlocks hk hX hl
  have hS : va_S (zh_A G) s.heap s.heap [] := va_S.rf
  have hl : lv_has ls 3 [(0, .ref x0), (1, .int x1), (2, .int x2)] := hl
  have hown : s.vm.findClass R_Records = some m.cls := hown
  unfold f_Records_valuesOf at hm
  refine lv_aload_n hx hb d_Records_valuesOf_0 rfl (lv_at hl 0 rfl) ?_
  replace hm := zb1_s hm
  obtain ⟨a2, h1, hm⟩ := hm
  refine zr_get (ci := 5) (C := R_Records) (T := F_Records) (N := 1) hx hb hts in_Records hown hk hX rfl 0 (by decide) (hts _ tW7) rfl (zgr_v h1) d_Records_valuesOf_1 ?_
  refine lv_iconst (v := 4) hx hb d_Records_valuesOf_4 (by decide) ?_
  refine lv_iload_n hx hb d_Records_valuesOf_5 rfl (lv_at hl 1 rfl) ?_
  refine lv_imul hx hb d_Records_valuesOf_6 ?_
  refine lv_iload_n hx hb d_Records_valuesOf_7 rfl (lv_at hl 2 rfl) ?_
  refine lv_iadd hx hb d_Records_valuesOf_8 ?_
  refine lv_iconst (v := 1) hx hb d_Records_valuesOf_9 (by decide) ?_
  refine lv_isub hx hb d_Records_valuesOf_10 ?_
  replace hm := zb1_s hm
  obtain ⟨v3, h4, hm⟩ := hm
  refine zr_iaload hx hb hk hX h4 d_Records_valuesOf_11 ?_
  cases hm
  exact W.iret hx hb hr (fun t ht hW => zh_end hk hX hS ht hW) hS.2.2 d_Records_valuesOf_12
set_option maxHeartbeats 4000000 in
set_option maxRecDepth 100000 in
theorem c_Records_put (l : Launch) (G : zh_G) (N : Nat) (X : zh_T) (x0 : Nat) (x1 : Int32) (x2 : Int32) (x3 : Int32) (r : Unit) (X' : zh_T) (hm : f_Records_put N X x0 x1 x2 x3 = some (r, X')) : zM l G y_Records_put w_Records_put 1 23 X [.ref x0, .int x1, .int x2, .int x3] none X' 0 0 := by
  refine zr_ofW (by decide) (by exact Nat.le_of_ble_eq_true rfl) ?_
  intro p e s m args below meth c ls hx hb hml hr hts hown hin hlocks hk hX hl
  have hS : va_S (zh_A G) s.heap s.heap [] := va_S.rf
  have hl : lv_has ls 4 [(0, .ref x0), (1, .int x1), (2, .int x2), (3, .int x3)] := hl
  have hown : s.vm.findClass R_Records = some m.cls := hown
  unfold f_Records_put at hm
  refine lv_aload_n hx hb d_Records_put_0 rfl (lv_at hl 0 rfl) ?_
  refine lv_iload_n hx hb d_Records_put_1 rfl (lv_at hl 1 rfl) ?_
  refine lv_iload_n hx hb d_Records_put_2 rfl (lv_at hl 2 rfl) ?_
  refine lv_aload_n hx hb d_Records_put_3 rfl (lv_at hl 0 rfl) ?_
  refine lv_iload_n hx hb d_Records_put_4 rfl (lv_at hl 1 rfl) ?_
  refine lv_iload_n hx hb d_Records_put_5 rfl (lv_at hl 2 rfl) ?_
  replace hm := zb1_s hm
  obtain ⟨_, h2, hm⟩ := hm
  replace hm := zb1_s hm
  obtain ⟨v3, h1, hm⟩ := hm
  refine zr_calli (zr_runV (As := [.int x1, .int x2]) (rest := [.int x2, .int x1, .ref x0]) (n := 2) hx hb hml hown hts hk hX (c_Records_valuesOf l G N X x0 x1 x2 v3 h1) (hts _ tW23) tW24 (hts _ tW11) (hts _ tW25) (hts _ tW26) rfl h2 (by decide +kernel) ⟨Nat.le_of_ble_eq_true rfl, Nat.le_of_ble_eq_true rfl⟩ rfl rfl hl.1 rfl (lv_room (Nat.le_of_ble_eq_true rfl)) d_Records_put_6 ⟨(Nat.le_of_ble_eq_true rfl), (Nat.le_of_ble_eq_true rfl)⟩) hS (fun H locs hX hS => ?_)
  refine lv_iconst (v := 1) hx hb d_Records_put_9 (by decide) ?_
  refine lv_iload_n hx hb d_Records_put_10 rfl (lv_at hl 3 rfl) ?_
  refine lv_ishl hx hb d_Records_put_11 ?_
  refine lv_ior hx hb d_Records_put_12 ?_
  replace hm := zb1_s hm
  obtain ⟨_, h5, hm⟩ := hm
  replace hm := zb2_s hm
  obtain ⟨v6, X7, h4, hm⟩ := hm
  refine zr_callv (zr_runV (As := [.int x1, .int x2, .int (v3 ||| (1 <<< (x3 &&& 31)))]) (rest := []) (n := 3) hx hb hml hown hts hk hX (c_Records_setValues l G N X x0 x1 x2 (v3 ||| (1 <<< (x3 &&& 31))) v6 X7 h4) (hts _ tW27) tW28 (hts _ tW11) (hts _ tW29) (hts _ tW30) rfl h5 (by decide +kernel) ⟨Nat.le_of_ble_eq_true rfl, Nat.le_of_ble_eq_true rfl⟩ rfl rfl hl.1 rfl (lv_room (Nat.le_of_ble_eq_true rfl)) d_Records_put_13 ⟨(Nat.le_of_ble_eq_true rfl), (Nat.le_of_ble_eq_true rfl)⟩) hS (fun H locs hX hS => ?_)
  cases hm
  exact W.vret hx hb hr (fun t ht hW => zh_end hk hX hS ht hW) hS.2.2 d_Records_put_16
set_option maxHeartbeats 4000000 in
set_option maxRecDepth 100000 in
theorem c_Primary_init (l : Launch) (G : zh_G) (N : Nat) (X : zh_T) (x0 : Nat) (x1 : Int32) (r : Unit) (X' : zh_T) (hm : f_Primary_init N X x0 x1 = some (r, X')) : zM l G y_Primary_init w_Primary_init 4 82 X [.ref x0, .int x1] none X' 37 605 := by
  refine zr_ofW (by decide) (by exact Nat.le_of_ble_eq_true rfl) ?_
  intro p e s m args below meth c ls hx hb hml hr hts hown hin hlocks hk hX hl
  have hS : va_S (zh_A G) s.heap s.heap [] := va_S.rf
  have hl : lv_has ls 2 [(0, .ref x0), (1, .int x1)] := hl
  have hown : s.vm.findClass R_Primary = some m.cls := hown
  unfold f_Primary_init at hm
  refine lv_aload_n hx hb d_Primary_init_0 rfl (lv_at hl 0 rfl) ?_
  refine W.objInit hx hb hown (hts _ tW31) (hts _ tW1) (hts _ tW2) rfl (by rw [hml]; exact hl.1) rfl d_Primary_init_1 (Nat.le_of_ble_eq_true rfl) (Nat.le_of_ble_eq_true rfl) ?_
  refine W.eq (g2 := F0 m 4 ls []) rfl ?_
  refine lv_aload_n hx hb d_Primary_init_4 rfl (lv_at hl 0 rfl) ?_
  replace hm := zb2_s hm
  obtain ⟨a1, X2, h3, hm⟩ := hm
  refine zr_new (ci := 5) (C := R_Records) (T := F_Records) (N := 1) hx hb hts in_Records t_Records t_Records_ok hown (hts _ tW32) (hts _ tW10) (hts _ tW11) hk hX hS rfl h3 zf_Records (Nat.le_of_ble_eq_true rfl) (Nat.le_of_ble_eq_true rfl) d_Primary_init_5 (fun H hX hS => ?_)
  refine lv_dup hx hb d_Primary_init_8 rfl ?_
  replace hm := zb2_s hm
  obtain ⟨v5, X6, h4, hm⟩ := hm
  refine zr_callv (zr_runIN (As := []) (rest := [.ref a1, .ref x0]) (n := 0) hx hb hml hown hts hk hX (c_Records_init l G N X2 a1 v5 X6 h4) (nM2 hk) tW12 (hts _ tW11) (hts _ tW13) (by decide +kernel) ⟨Nat.le_of_ble_eq_true rfl, Nat.le_of_ble_eq_true rfl⟩ rfl rfl hl.1 rfl (lv_room (Nat.le_of_ble_eq_true rfl)) d_Primary_init_9 ⟨(Nat.le_of_ble_eq_true rfl), (Nat.le_of_ble_eq_true rfl)⟩) hS (fun H locs hX hS => ?_)
  replace hm := zb1_s hm
  obtain ⟨X7, h8, hm⟩ := hm
  refine zr_putF (ci := 4) (C := R_Primary) (T := F_Primary) (N := 9) (ty := (.object "ZoneNodes$Records")) (v := .ref a1) hx hb hts in_Primary t_Primary t_Primary_ok n_Primary hown hk hX hS rfl 0 (by decide) (hts _ tW33) rfl rfl hin rfl (by decide +kernel) rfl rfl h8 d_Primary_init_12 (fun H locs hX hS => ?_)
  refine lv_aload_n hx hb d_Primary_init_15 rfl (lv_at hl 0 rfl) ?_
  replace hm := zb2_s hm
  obtain ⟨a9, X10, h11, hm⟩ := hm
  refine zr_new (ci := 5) (C := R_Records) (T := F_Records) (N := 1) hx hb hts in_Records t_Records t_Records_ok hown (hts _ tW32) (hts _ tW10) (hts _ tW11) hk hX hS rfl h11 zf_Records (Nat.le_of_ble_eq_true rfl) (Nat.le_of_ble_eq_true rfl) d_Primary_init_16 (fun H hX hS => ?_)
  refine lv_dup hx hb d_Primary_init_19 rfl ?_
  replace hm := zb2_s hm
  obtain ⟨v13, X14, h12, hm⟩ := hm
  refine zr_callv (zr_runIN (As := []) (rest := [.ref a9, .ref x0]) (n := 0) hx hb hml hown hts hk hX (c_Records_init l G N X10 a9 v13 X14 h12) (nM2 hk) tW12 (hts _ tW11) (hts _ tW13) (by decide +kernel) ⟨Nat.le_of_ble_eq_true rfl, Nat.le_of_ble_eq_true rfl⟩ rfl rfl hl.1 rfl (lv_room (Nat.le_of_ble_eq_true rfl)) d_Primary_init_20 ⟨(Nat.le_of_ble_eq_true rfl), (Nat.le_of_ble_eq_true rfl)⟩) hS (fun H locs hX hS => ?_)
  replace hm := zb1_s hm
  obtain ⟨X15, h16, hm⟩ := hm
  refine zr_putF (ci := 4) (C := R_Primary) (T := F_Primary) (N := 9) (ty := (.object "ZoneNodes$Records")) (v := .ref a9) hx hb hts in_Primary t_Primary t_Primary_ok n_Primary hown hk hX hS rfl 1 (by decide) (hts _ tW34) rfl rfl hin rfl (by decide +kernel) rfl rfl h16 d_Primary_init_23 (fun H locs hX hS => ?_)
  refine lv_aload_n hx hb d_Primary_init_26 rfl (lv_at hl 0 rfl) ?_
  replace hm := zb2_s hm
  obtain ⟨a17, X18, h19, hm⟩ := hm
  refine zr_new (ci := 2) (C := R_Journal) (T := F_Journal) (N := 2) hx hb hts in_Journal t_Journal t_Journal_ok hown (hts _ tW35) (hts _ tW36) (hts _ tW37) hk hX hS rfl h19 zf_Journal (Nat.le_of_ble_eq_true rfl) (Nat.le_of_ble_eq_true rfl) d_Primary_init_27 (fun H hX hS => ?_)
  refine lv_dup hx hb d_Primary_init_30 rfl ?_
  replace hm := zb2_s hm
  obtain ⟨v21, X22, h20, hm⟩ := hm
  refine zr_callv (zr_runI (As := []) (rest := [.ref a17, .ref x0]) (n := 0) hx hb hml hown hts hk hX (c_Journal_init l G N X18 a17 v21 X22 h20) (hts _ tW38) tW39 (hts _ tW37) (hts _ tW40) (by decide +kernel) ⟨Nat.le_of_ble_eq_true rfl, Nat.le_of_ble_eq_true rfl⟩ rfl rfl hl.1 rfl (lv_room (Nat.le_of_ble_eq_true rfl)) d_Primary_init_31 ⟨(Nat.le_of_ble_eq_true rfl), (Nat.le_of_ble_eq_true rfl)⟩) hS (fun H locs hX hS => ?_)
  replace hm := zb1_s hm
  obtain ⟨X23, h24, hm⟩ := hm
  refine zr_putF (ci := 4) (C := R_Primary) (T := F_Primary) (N := 9) (ty := (.object "ZoneNodes$Journal")) (v := .ref a17) hx hb hts in_Primary t_Primary t_Primary_ok n_Primary hown hk hX hS rfl 2 (by decide) (hts _ tW41) rfl rfl hin rfl (by decide +kernel) rfl rfl h24 d_Primary_init_34 (fun H locs hX hS => ?_)
  refine lv_aload_n hx hb d_Primary_init_37 rfl (lv_at hl 0 rfl) ?_
  refine lv_bipush (v := 112) hx hb d_Primary_init_38 (by decide) ?_
  replace hm := zb2_s hm
  obtain ⟨a25, X26, h27, hm⟩ := hm
  refine zr_newai (n := 112) (N' := 112) hx hb (hts _ tW3) hk hX hS h27 (by decide) rfl (by decide) (Nat.le_of_ble_eq_true rfl) (Nat.le_of_ble_eq_true rfl) d_Primary_init_40 (fun H hX hS => ?_)
  replace hm := zb1_s hm
  obtain ⟨X28, h29, hm⟩ := hm
  refine zr_putF (ci := 4) (C := R_Primary) (T := F_Primary) (N := 9) (ty := (.array .int)) (v := .ref a25) hx hb hts in_Primary t_Primary t_Primary_ok n_Primary hown hk hX hS rfl 3 (by decide) (hts _ tW42) rfl rfl hin rfl (by decide +kernel) rfl rfl h29 d_Primary_init_42 (fun H locs hX hS => ?_)
  refine lv_aload_n hx hb d_Primary_init_45 rfl (lv_at hl 0 rfl) ?_
  refine lv_iconst (v := 1) hx hb d_Primary_init_46 (by decide) ?_
  replace hm := zb1_s hm
  obtain ⟨X30, h31, hm⟩ := hm
  refine zr_put (ci := 4) (C := R_Primary) (T := F_Primary) (N := 9) (ty := .boolean) (v := .int 1) hx hb hts in_Primary t_Primary t_Primary_ok n_Primary hown hk hX hS rfl 8 (by decide) (hts _ tW43) rfl rfl (by decide +kernel) (zpz_n h31) (zpz_f h31) (zpz_v h31) d_Primary_init_47 (fun H locs hX hS => ?_)
  refine lv_aload_n hx hb d_Primary_init_50 rfl (lv_at hl 0 rfl) ?_
  refine lv_iload_n hx hb d_Primary_init_51 rfl (lv_at hl 1 rfl) ?_
  replace hm := zb1_s hm
  obtain ⟨X32, h33, hm⟩ := hm
  refine zr_put (ci := 4) (C := R_Primary) (T := F_Primary) (N := 9) (ty := .int) (v := .int x1) hx hb hts in_Primary t_Primary t_Primary_ok n_Primary hown hk hX hS rfl 6 (by decide) (hts _ tW44) rfl rfl (by decide +kernel) rfl rfl h33 d_Primary_init_52 (fun H locs hX hS => ?_)
  refine lv_aload_n hx hb d_Primary_init_55 rfl (lv_at hl 0 rfl) ?_
  replace hm := zb1_s hm
  obtain ⟨a35, h34, hm⟩ := hm
  refine zr_get (ci := 4) (C := R_Primary) (T := F_Primary) (N := 9) hx hb hts in_Primary hown hk hX rfl 0 (by decide) (hts _ tW33) rfl (zgr_v h34) d_Primary_init_56 ?_
  refine lv_iconst (v := 0) hx hb d_Primary_init_59 (by decide) ?_
  refine lv_iconst (v := 3) hx hb d_Primary_init_60 (by decide) ?_
  refine lv_iconst (v := 1) hx hb d_Primary_init_61 (by decide) ?_
  replace hm := zb1_s hm
  obtain ⟨_, h37, hm⟩ := hm
  replace hm := zb2_s hm
  obtain ⟨v38, X39, h36, hm⟩ := hm
  refine zr_callv (zr_runV (As := [.int 0, .int 3, .int 1]) (rest := []) (n := 3) hx hb hml hown hts hk hX (c_Records_put l G N X32 a35 0 3 1 v38 X39 h36) (hts _ tW45) tW46 (hts _ tW11) (hts _ tW47) (hts _ tW48) rfl h37 (by decide +kernel) ⟨Nat.le_of_ble_eq_true rfl, Nat.le_of_ble_eq_true rfl⟩ rfl rfl hl.1 rfl (lv_room (Nat.le_of_ble_eq_true rfl)) d_Primary_init_62 ⟨(Nat.le_of_ble_eq_true rfl), (Nat.le_of_ble_eq_true rfl)⟩) hS (fun H locs hX hS => ?_)
  cases hm
  refine W.widen (k := 37) (n := 605) (Nat.le_of_ble_eq_true rfl) (Nat.le_of_ble_eq_true rfl) ?_
  exact W.vret hx hb hr (fun t ht hW => zh_end hk hX hS ht hW) hS.2.2 d_Primary_init_65
set_option maxHeartbeats 4000000 in
set_option maxRecDepth 100000 in
theorem c_Secondary_rest (l : Launch) (G : zh_G) (N : Nat) (X : zh_T) (x0 : Nat) (x1 : Int32) (r : Unit) (X' : zh_T) (hm : f_Secondary_rest N X x0 x1 = some (r, X')) : zM l G y_Secondary_rest w_Secondary_rest 0 0 X [.ref x0, .int x1] none X' 0 0 := by
  refine zr_ofW (by decide) (by exact Nat.le_of_ble_eq_true rfl) ?_
  intro p e s m args below meth c ls hx hb hml hr hts hown hin hlocks hk hX hl
  have hS : va_S (zh_A G) s.heap s.heap [] := va_S.rf
  have hl : lv_has ls 2 [(0, .ref x0), (1, .int x1)] := hl
  have hown : s.vm.findClass R_Secondary = some m.cls := hown
  unfold f_Secondary_rest at hm
  refine lv_aload_n hx hb d_Secondary_rest_0 rfl (lv_at hl 0 rfl) ?_
  refine lv_iconst (v := 0) hx hb d_Secondary_rest_1 (by decide) ?_
  replace hm := zb1_s hm
  obtain ⟨X1, h2, hm⟩ := hm
  refine zr_put (ci := 6) (C := R_Secondary) (T := F_Secondary) (N := 13) (ty := .int) (v := .int 0) hx hb hts in_Secondary t_Secondary t_Secondary_ok n_Secondary hown hk hX hS rfl 9 (by decide) (hts _ tW49) rfl rfl (by decide +kernel) rfl rfl h2 d_Secondary_rest_2 (fun H locs hX hS => ?_)
  refine lv_aload_n hx hb d_Secondary_rest_5 rfl (lv_at hl 0 rfl) ?_
  refine lv_iload_n hx hb d_Secondary_rest_6 rfl (lv_at hl 1 rfl) ?_
  replace hm := zb1_s hm
  obtain ⟨X3, h4, hm⟩ := hm
  refine zr_put (ci := 6) (C := R_Secondary) (T := F_Secondary) (N := 13) (ty := .int) (v := .int x1) hx hb hts in_Secondary t_Secondary t_Secondary_ok n_Secondary hown hk hX hS rfl 10 (by decide) (hts _ tW50) rfl rfl (by decide +kernel) rfl rfl h4 d_Secondary_rest_7 (fun H locs hX hS => ?_)
  cases hm
  exact W.vret hx hb hr (fun t ht hW => zh_end hk hX hS ht hW) hS.2.2 d_Secondary_rest_10
set_option maxHeartbeats 4000000 in
set_option maxRecDepth 100000 in
theorem c_Secondary_comeUp (l : Launch) (G : zh_G) (N : Nat) (X : zh_T) (x0 : Nat) (x1 : Int32) (r : Unit) (X' : zh_T) (hm : f_Secondary_comeUp N X x0 x1 = some (r, X')) : zM l G y_Secondary_comeUp w_Secondary_comeUp 1 21 X [.ref x0, .int x1] none X' 0 0 := by
  refine zr_ofW (by decide) (by exact Nat.le_of_ble_eq_true rfl) ?_
  intro p e s m args below meth c ls hx hb hml hr hts hown hin hlocks hk hX hl
  have hS : va_S (zh_A G) s.heap s.heap [] := va_S.rf
  have hl : lv_has ls 2 [(0, .ref x0), (1, .int x1)] := hl
  have hown : s.vm.findClass R_Secondary = some m.cls := hown
  unfold f_Secondary_comeUp at hm
  refine lv_aload_n hx hb d_Secondary_comeUp_0 rfl (lv_at hl 0 rfl) ?_
  refine lv_iconst (v := 1) hx hb d_Secondary_comeUp_1 (by decide) ?_
  replace hm := zb1_s hm
  obtain ⟨X1, h2, hm⟩ := hm
  refine zr_put (ci := 6) (C := R_Secondary) (T := F_Secondary) (N := 13) (ty := .boolean) (v := .int 1) hx hb hts in_Secondary t_Secondary t_Secondary_ok n_Secondary hown hk hX hS rfl 6 (by decide) (hts _ tW51) rfl rfl (by decide +kernel) (zpz_n h2) (zpz_f h2) (zpz_v h2) d_Secondary_comeUp_2 (fun H locs hX hS => ?_)
  refine lv_aload_n hx hb d_Secondary_comeUp_5 rfl (lv_at hl 0 rfl) ?_
  refine lv_iload_n hx hb d_Secondary_comeUp_6 rfl (lv_at hl 1 rfl) ?_
  refine lv_iconst (v := 1) hx hb d_Secondary_comeUp_7 (by decide) ?_
  refine lv_iadd hx hb d_Secondary_comeUp_8 ?_
  replace hm := zb1_s hm
  obtain ⟨_, h4, hm⟩ := hm
  replace hm := zb2_s hm
  obtain ⟨v5, X6, h3, hm⟩ := hm
  refine zr_callv (zr_runV (As := [.int (x1 + 1)]) (rest := []) (n := 1) hx hb hml hown hts hk hX (c_Secondary_rest l G N X1 x0 (x1 + 1) v5 X6 h3) (hts _ tW52) tW53 (hts _ tW54) (hts _ tW55) (hts _ tW56) rfl h4 (by decide +kernel) ⟨Nat.le_of_ble_eq_true rfl, Nat.le_of_ble_eq_true rfl⟩ rfl rfl hl.1 rfl (lv_room (Nat.le_of_ble_eq_true rfl)) d_Secondary_comeUp_9 ⟨(Nat.le_of_ble_eq_true rfl), (Nat.le_of_ble_eq_true rfl)⟩) hS (fun H locs hX hS => ?_)
  refine lv_aload_n hx hb d_Secondary_comeUp_12 rfl (lv_at hl 0 rfl) ?_
  refine lv_iload_n hx hb d_Secondary_comeUp_13 rfl (lv_at hl 1 rfl) ?_
  refine lv_aload_n hx hb d_Secondary_comeUp_14 rfl (lv_at hl 0 rfl) ?_
  replace hm := zb1_s hm
  obtain ⟨v8, h7, hm⟩ := hm
  refine zr_get (ci := 6) (C := R_Secondary) (T := F_Secondary) (N := 13) hx hb hts in_Secondary hown hk hX rfl 3 (by decide) (hts _ tW57) rfl (zgi_v h7) d_Secondary_comeUp_15 ?_
  refine lv_iadd hx hb d_Secondary_comeUp_18 ?_
  replace hm := zb1_s hm
  obtain ⟨X9, h10, hm⟩ := hm
  refine zr_put (ci := 6) (C := R_Secondary) (T := F_Secondary) (N := 13) (ty := .int) (v := .int (x1 + v8)) hx hb hts in_Secondary t_Secondary t_Secondary_ok n_Secondary hown hk hX hS rfl 12 (by decide) (hts _ tW58) rfl rfl (by decide +kernel) rfl rfl h10 d_Secondary_comeUp_19 (fun H locs hX hS => ?_)
  cases hm
  exact W.vret hx hb hr (fun t ht hW => zh_end hk hX hS ht hW) hS.2.2 d_Secondary_comeUp_22
set_option maxHeartbeats 4000000 in
set_option maxRecDepth 100000 in
theorem c_Secondary_init (l : Launch) (G : zh_G) (N : Nat) (X : zh_T) (x0 : Nat) (x1 : Int32) (x2 : Int32) (x3 : Int32) (x4 : Int32) (r : Unit) (X' : zh_T) (hm : f_Secondary_init N X x0 x1 x2 x3 x4 = some (r, X')) : zM l G y_Secondary_init w_Secondary_init 2 42 X [.ref x0, .int x1, .int x2, .int x3, .int x4] none X' 4 66 := by
  refine zr_ofW (by decide) (by exact Nat.le_of_ble_eq_true rfl) ?_
  intro p e s m args below meth c ls hx hb hml hr hts hown hin hlocks hk hX hl
  have hS : va_S (zh_A G) s.heap s.heap [] := va_S.rf
  have hl : lv_has ls 5 [(0, .ref x0), (1, .int x1), (2, .int x2), (3, .int x3), (4, .int x4)] := hl
  have hown : s.vm.findClass R_Secondary = some m.cls := hown
  unfold f_Secondary_init at hm
  refine lv_aload_n hx hb d_Secondary_init_0 rfl (lv_at hl 0 rfl) ?_
  refine W.objInit hx hb hown (hts _ tW59) (hts _ tW1) (hts _ tW2) rfl (by rw [hml]; exact hl.1) rfl d_Secondary_init_1 (Nat.le_of_ble_eq_true rfl) (Nat.le_of_ble_eq_true rfl) ?_
  refine W.eq (g2 := F0 m 4 ls []) rfl ?_
  refine lv_aload_n hx hb d_Secondary_init_4 rfl (lv_at hl 0 rfl) ?_
  replace hm := zb2_s hm
  obtain ⟨a1, X2, h3, hm⟩ := hm
  refine zr_new (ci := 5) (C := R_Records) (T := F_Records) (N := 1) hx hb hts in_Records t_Records t_Records_ok hown (hts _ tW60) (hts _ tW10) (hts _ tW11) hk hX hS rfl h3 zf_Records (Nat.le_of_ble_eq_true rfl) (Nat.le_of_ble_eq_true rfl) d_Secondary_init_5 (fun H hX hS => ?_)
  refine lv_dup hx hb d_Secondary_init_8 rfl ?_
  replace hm := zb2_s hm
  obtain ⟨v5, X6, h4, hm⟩ := hm
  refine zr_callv (zr_runIN (As := []) (rest := [.ref a1, .ref x0]) (n := 0) hx hb hml hown hts hk hX (c_Records_init l G N X2 a1 v5 X6 h4) (nM3 hk) tW12 (hts _ tW11) (hts _ tW13) (by decide +kernel) ⟨Nat.le_of_ble_eq_true rfl, Nat.le_of_ble_eq_true rfl⟩ rfl rfl hl.1 rfl (lv_room (Nat.le_of_ble_eq_true rfl)) d_Secondary_init_9 ⟨(Nat.le_of_ble_eq_true rfl), (Nat.le_of_ble_eq_true rfl)⟩) hS (fun H locs hX hS => ?_)
  replace hm := zb1_s hm
  obtain ⟨X7, h8, hm⟩ := hm
  refine zr_putF (ci := 6) (C := R_Secondary) (T := F_Secondary) (N := 13) (ty := (.object "ZoneNodes$Records")) (v := .ref a1) hx hb hts in_Secondary t_Secondary t_Secondary_ok n_Secondary hown hk hX hS rfl 4 (by decide) (hts _ tW61) rfl rfl hin rfl (by decide +kernel) rfl rfl h8 d_Secondary_init_12 (fun H locs hX hS => ?_)
  refine lv_aload_n hx hb d_Secondary_init_15 rfl (lv_at hl 0 rfl) ?_
  replace hm := zb2_s hm
  obtain ⟨a9, X10, h11, hm⟩ := hm
  refine zr_new (ci := 5) (C := R_Records) (T := F_Records) (N := 1) hx hb hts in_Records t_Records t_Records_ok hown (hts _ tW60) (hts _ tW10) (hts _ tW11) hk hX hS rfl h11 zf_Records (Nat.le_of_ble_eq_true rfl) (Nat.le_of_ble_eq_true rfl) d_Secondary_init_16 (fun H hX hS => ?_)
  refine lv_dup hx hb d_Secondary_init_19 rfl ?_
  replace hm := zb2_s hm
  obtain ⟨v13, X14, h12, hm⟩ := hm
  refine zr_callv (zr_runIN (As := []) (rest := [.ref a9, .ref x0]) (n := 0) hx hb hml hown hts hk hX (c_Records_init l G N X10 a9 v13 X14 h12) (nM3 hk) tW12 (hts _ tW11) (hts _ tW13) (by decide +kernel) ⟨Nat.le_of_ble_eq_true rfl, Nat.le_of_ble_eq_true rfl⟩ rfl rfl hl.1 rfl (lv_room (Nat.le_of_ble_eq_true rfl)) d_Secondary_init_20 ⟨(Nat.le_of_ble_eq_true rfl), (Nat.le_of_ble_eq_true rfl)⟩) hS (fun H locs hX hS => ?_)
  replace hm := zb1_s hm
  obtain ⟨X15, h16, hm⟩ := hm
  refine zr_putF (ci := 6) (C := R_Secondary) (T := F_Secondary) (N := 13) (ty := (.object "ZoneNodes$Records")) (v := .ref a9) hx hb hts in_Secondary t_Secondary t_Secondary_ok n_Secondary hown hk hX hS rfl 5 (by decide) (hts _ tW62) rfl rfl hin rfl (by decide +kernel) rfl rfl h16 d_Secondary_init_23 (fun H locs hX hS => ?_)
  refine lv_aload_n hx hb d_Secondary_init_26 rfl (lv_at hl 0 rfl) ?_
  refine lv_iload_n hx hb d_Secondary_init_27 rfl (lv_at hl 1 rfl) ?_
  replace hm := zb1_s hm
  obtain ⟨X17, h18, hm⟩ := hm
  refine zr_putF (ci := 6) (C := R_Secondary) (T := F_Secondary) (N := 13) (ty := .int) (v := .int x1) hx hb hts in_Secondary t_Secondary t_Secondary_ok n_Secondary hown hk hX hS rfl 0 (by decide) (hts _ tW63) rfl rfl hin rfl (by decide +kernel) rfl rfl h18 d_Secondary_init_28 (fun H locs hX hS => ?_)
  refine lv_aload_n hx hb d_Secondary_init_31 rfl (lv_at hl 0 rfl) ?_
  refine lv_iload_n hx hb d_Secondary_init_32 rfl (lv_at hl 2 rfl) ?_
  replace hm := zb1_s hm
  obtain ⟨X19, h20, hm⟩ := hm
  refine zr_putF (ci := 6) (C := R_Secondary) (T := F_Secondary) (N := 13) (ty := .int) (v := .int x2) hx hb hts in_Secondary t_Secondary t_Secondary_ok n_Secondary hown hk hX hS rfl 1 (by decide) (hts _ tW64) rfl rfl hin rfl (by decide +kernel) rfl rfl h20 d_Secondary_init_33 (fun H locs hX hS => ?_)
  refine lv_aload_n hx hb d_Secondary_init_36 rfl (lv_at hl 0 rfl) ?_
  refine lv_iload_n hx hb d_Secondary_init_37 rfl (lv_at hl 3 rfl) ?_
  replace hm := zb1_s hm
  obtain ⟨X21, h22, hm⟩ := hm
  refine zr_putF (ci := 6) (C := R_Secondary) (T := F_Secondary) (N := 13) (ty := .int) (v := .int x3) hx hb hts in_Secondary t_Secondary t_Secondary_ok n_Secondary hown hk hX hS rfl 2 (by decide) (hts _ tW65) rfl rfl hin rfl (by decide +kernel) rfl rfl h22 d_Secondary_init_38 (fun H locs hX hS => ?_)
  refine lv_aload_n hx hb d_Secondary_init_41 rfl (lv_at hl 0 rfl) ?_
  refine lv_iload hx hb d_Secondary_init_42 (lv_at hl 4 rfl) ?_
  replace hm := zb1_s hm
  obtain ⟨X23, h24, hm⟩ := hm
  refine zr_putF (ci := 6) (C := R_Secondary) (T := F_Secondary) (N := 13) (ty := .int) (v := .int x4) hx hb hts in_Secondary t_Secondary t_Secondary_ok n_Secondary hown hk hX hS rfl 3 (by decide) (hts _ tW57) rfl rfl hin rfl (by decide +kernel) rfl rfl h24 d_Secondary_init_44 (fun H locs hX hS => ?_)
  refine lv_aload_n hx hb d_Secondary_init_47 rfl (lv_at hl 0 rfl) ?_
  refine lv_iconst (v := 0) hx hb d_Secondary_init_48 (by decide) ?_
  replace hm := zb1_s hm
  obtain ⟨_, h26, hm⟩ := hm
  replace hm := zb2_s hm
  obtain ⟨v27, X28, h25, hm⟩ := hm
  refine zr_callv (zr_runV (As := [.int 0]) (rest := []) (n := 1) hx hb hml hown hts hk hX (c_Secondary_comeUp l G N X23 x0 0 v27 X28 h25) (hts _ tW66) tW67 (hts _ tW54) (hts _ tW68) (hts _ tW69) rfl h26 (by decide +kernel) ⟨Nat.le_of_ble_eq_true rfl, Nat.le_of_ble_eq_true rfl⟩ rfl rfl hl.1 rfl (lv_room (Nat.le_of_ble_eq_true rfl)) d_Secondary_init_49 ⟨(Nat.le_of_ble_eq_true rfl), (Nat.le_of_ble_eq_true rfl)⟩) hS (fun H locs hX hS => ?_)
  cases hm
  refine W.widen (k := 4) (n := 66) (Nat.le_of_ble_eq_true rfl) (Nat.le_of_ble_eq_true rfl) ?_
  exact W.vret hx hb hr (fun t ht hW => zh_end hk hX hS ht hW) hS.2.2 d_Secondary_init_52
set_option maxHeartbeats 4000000 in
set_option maxRecDepth 100000 in
theorem c_Message_init (l : Launch) (G : zh_G) (N : Nat) (X : zh_T) (x0 : Nat) (r : Unit) (X' : zh_T) (hm : f_Message_init N X x0 = some (r, X')) : zM l G y_Message_init w_Message_init 1 21 X [.ref x0] none X' 1 4 := by
  refine zr_ofW (by decide) (by exact Nat.le_of_ble_eq_true rfl) ?_
  intro p e s m args below meth c ls hx hb hml hr hts hown hin hlocks hk hX hl
  have hS : va_S (zh_A G) s.heap s.heap [] := va_S.rf
  have hl : lv_has ls 1 [(0, .ref x0)] := hl
  have hown : s.vm.findClass R_Message = some m.cls := hown
  unfold f_Message_init at hm
  refine lv_aload_n hx hb d_Message_init_0 rfl (lv_at hl 0 rfl) ?_
  refine W.objInit hx hb hown (hts _ tW70) (hts _ tW1) (hts _ tW2) rfl (by rw [hml]; exact hl.1) rfl d_Message_init_1 (Nat.le_of_ble_eq_true rfl) (Nat.le_of_ble_eq_true rfl) ?_
  refine W.eq (g2 := F0 m 4 ls []) rfl ?_
  refine lv_aload_n hx hb d_Message_init_4 rfl (lv_at hl 0 rfl) ?_
  refine lv_iconst (v := 4) hx hb d_Message_init_5 (by decide) ?_
  replace hm := zb2_s hm
  obtain ⟨a1, X2, h3, hm⟩ := hm
  refine zr_newai (n := 4) (N' := 4) hx hb (hts _ tW3) hk hX hS h3 (by decide) rfl (by decide) (Nat.le_of_ble_eq_true rfl) (Nat.le_of_ble_eq_true rfl) d_Message_init_6 (fun H hX hS => ?_)
  replace hm := zb1_s hm
  obtain ⟨X4, h5, hm⟩ := hm
  refine zr_putF (ci := 3) (C := R_Message) (T := F_Message) (N := 10) (ty := (.array .int)) (v := .ref a1) hx hb hts in_Message t_Message t_Message_ok n_Message hown hk hX hS rfl 0 (by decide) (hts _ tW71) rfl rfl hin rfl (by decide +kernel) rfl rfl h5 d_Message_init_8 (fun H locs hX hS => ?_)
  cases hm
  refine W.widen (k := 1) (n := 4) (Nat.le_of_ble_eq_true rfl) (Nat.le_of_ble_eq_true rfl) ?_
  exact W.vret hx hb hr (fun t ht hW => zh_end hk hX hS ht hW) hS.2.2 d_Message_init_11
set_option maxHeartbeats 4000000 in
set_option maxRecDepth 100000 in
theorem c_Wire_init (l : Launch) (G : zh_G) (N : Nat) (X : zh_T) (x0 : Nat) (r : Unit) (X' : zh_T) (hm : f_Wire_init N X x0 = some (r, X')) : zM l G y_Wire_init w_Wire_init 2 41 X [.ref x0] none X' 163 1214 := by
  refine zr_ofW (by decide) (by exact Nat.le_of_ble_eq_true rfl) ?_
  intro p e s m args below meth c ls hx hb hml hr hts hown hin hlocks hk hX hl
  have hS : va_S (zh_A G) s.heap s.heap [] := va_S.rf
  have hl : lv_has ls 2 [(0, .ref x0)] := hl
  have hown : s.vm.findClass R_Wire = some m.cls := hown
  unfold f_Wire_init at hm
  have hL15 : ∀ (n : Nat) (X : zh_T) (w0 : Nat) (w1 : Int32) (v : Unit) (X1 : zh_T) (H : Heap) (locs : List Loc) (ls : Array Slot), L_Wire_init_15 N w0 n X w1 = some (v, X1) → zh_w G X H → va_S (zh_A G) s.heap H locs → lv_has ls 2 [(0, .ref w0), (1, .int w1)] → ∀ (cells slots ce se : Nat), cells + 2 * n ≤ ce → slots + 14 * n ≤ se → ce ≤ 163 → se ≤ 1214 → (∀ (H : Heap) (locs : List Loc) (ls : Array Slot), zh_w G X1 H → va_S (zh_A G) s.heap H locs → lv_has ls 2 [] → W p l e { frames := 2, cells := 163, slots := 1214, locals := 41 } s m args below meth c H locs ce se (MQ below (zh_Q G none X') args s 163 1214 (zh_A G)) (F0 m 43 ls [])) → W p l e { frames := 2, cells := 163, slots := 1214, locals := 41 } s m args below meth c H locs cells slots (MQ below (zh_Q G none X') args s 163 1214 (zh_A G)) (F0 m 15 ls []) := by
    intro n
    induction n with
    | zero =>
      intro X w0 w1 v X1 H locs ls hm hX hS hl cells slots ce se hc1 hc2 hc3 hc4 hexit
      rw [L_Wire_init_15] at hm
      cases hm
    | succ n ih =>
      intro X w0 w1 v X1 H locs ls hm hX hS hl cells slots ce se hc1 hc2 hc3 hc4 hexit
      rw [L_Wire_init_15] at hm
      refine lv_iload_n hx hb d_Wire_init_15 rfl (lv_at hl 1 rfl) ?_
      refine lv_aload_n hx hb d_Wire_init_16 rfl (lv_at hl 0 rfl) ?_
      replace hm := zb1_s hm
      obtain ⟨a7, h6, hm⟩ := hm
      refine zr_get (ci := 7) (C := R_Wire) (T := F_Wire) (N := 2) hx hb hts in_Wire hown hk hX rfl 0 (by decide) (hts _ tW74) rfl (zgr_v h6) d_Wire_init_17 ?_
      replace hm := zb1_s hm
      obtain ⟨v8, h9, hm⟩ := hm
      refine zr_alen (t := 3) hx hb hk hX rfl h9 d_Wire_init_20 ?_
      refine lv_icmp_ge (tgt := 43) hx hb d_Wire_init_21 rfl (fun h10 => ?_) (fun h10 => ?_)
      · replace hm := zi_t h10 hm
        refine W.widen (k := ce) (n := se) (by omega) (by omega) ?_
        cases hm
        exact hexit _ _ _ hX hS (lv_sub hl [] rfl)
      · replace hm := zi_f h10 hm
        refine lv_aload_n hx hb d_Wire_init_24 rfl (lv_at hl 0 rfl) ?_
        replace hm := zb1_s hm
        obtain ⟨a12, h11, hm⟩ := hm
        refine zr_get (ci := 7) (C := R_Wire) (T := F_Wire) (N := 2) hx hb hts in_Wire hown hk hX rfl 0 (by decide) (hts _ tW74) rfl (zgr_v h11) d_Wire_init_25 ?_
        refine lv_iload_n hx hb d_Wire_init_28 rfl (lv_at hl 1 rfl) ?_
        replace hm := zb2_s hm
        obtain ⟨a13, X14, h15, hm⟩ := hm
        refine zr_new (ci := 3) (C := R_Message) (T := F_Message) (N := 10) hx hb hts in_Message t_Message t_Message_ok hown (hts _ tW73) (hts _ tW75) (hts _ tW76) hk hX hS rfl h15 zf_Message (by show _ ≤ 163; omega) (by show _ ≤ 1214; omega) d_Wire_init_29 (fun H hX hS => ?_)
        refine lv_dup hx hb d_Wire_init_32 rfl ?_
        replace hm := zb2_s hm
        obtain ⟨v17, X18, h16, hm⟩ := hm
        refine zr_callv (zr_runIN (As := []) (rest := [.ref a13, .int w1, .ref a12]) (n := 0) hx hb hml hown hts hk hX (c_Message_init l G N X14 a13 v17 X18 h16) (nM4 hk) tW77 (hts _ tW76) (hts _ tW78) (by decide +kernel) ⟨Nat.le_of_ble_eq_true rfl, Nat.le_of_ble_eq_true rfl⟩ rfl rfl hl.1 rfl (lv_room (Nat.le_of_ble_eq_true rfl)) d_Wire_init_33 ⟨(by show _ ≤ 163; omega), (by show _ ≤ 1214; omega)⟩) hS (fun H locs hX hS => ?_)
        replace hm := zb1_s hm
        obtain ⟨X19, h20, hm⟩ := hm
        refine zr_aastore (t := 3) (ci := 3) hx hb hk hX hS rfl rfl h20 d_Wire_init_36 (fun H locs hX hS => ?_)
        refine lv_iinc (v := w1 + 1) (lv' := [(1, .int (w1 + 1)), (0, .ref w0)]) hx hb d_Wire_init_37 hl (k := 1) rfl (by rw [show Int32.ofInt 1 = 1 by decide]) (by decide) rfl (fun ls hl => ?_)
        refine lv_goto (tgt := 15) hx hb d_Wire_init_40 rfl ?_
        exact ih X19 w0 (w1 + 1) v X1 _ _ _ hm hX hS (lv_sub hl [1, 0] rfl) _ _ ce se (by omega) (by omega) hc3 hc4 hexit
  refine lv_aload_n hx hb d_Wire_init_0 rfl (lv_at hl 0 rfl) ?_
  refine W.objInit hx hb hown (hts _ tW72) (hts _ tW1) (hts _ tW2) rfl (by rw [hml]; exact hl.1) rfl d_Wire_init_1 (Nat.le_of_ble_eq_true rfl) (Nat.le_of_ble_eq_true rfl) ?_
  refine W.eq (g2 := F0 m 4 ls []) rfl ?_
  refine lv_aload_n hx hb d_Wire_init_4 rfl (lv_at hl 0 rfl) ?_
  refine lv_bipush (v := 80) hx hb d_Wire_init_5 (by decide) ?_
  replace hm := zb2_s hm
  obtain ⟨a1, X2, h3, hm⟩ := hm
  refine zr_newq (t := 3) (C := R_Message) (n := 80) (N' := 80) hx hb hown (hts _ tW73) (hk.2.2.2 _ ao_3) hk hX hS rfl h3 (by decide) rfl (by decide) (Nat.le_of_ble_eq_true rfl) (Nat.le_of_ble_eq_true rfl) d_Wire_init_7 (fun H hX hS => ?_)
  replace hm := zb1_s hm
  obtain ⟨X4, h5, hm⟩ := hm
  refine zr_putF (ci := 7) (C := R_Wire) (T := F_Wire) (N := 2) (ty := (.array (.object "ZoneNodes$Message"))) (v := .ref a1) hx hb hts in_Wire t_Wire t_Wire_ok n_Wire hown hk hX hS rfl 0 (by decide) (hts _ tW74) rfl rfl hin rfl (by decide +kernel) rfl rfl h5 d_Wire_init_10 (fun H locs hX hS => ?_)
  refine lv_iconst (v := 0) hx hb d_Wire_init_13 (by decide) ?_
  refine lv_istore_n (lv' := [(1, .int 0), (0, .ref x0)]) hx hb d_Wire_init_14 rfl hl (by decide) rfl (fun ls hl => ?_)
  replace hm := zb2_s hm
  obtain ⟨v21, X23, h22, hm⟩ := hm
  refine hL15 81 X4 x0 0 v21 X23 _ _ _ h22 hX hS (lv_sub hl [1, 0] rfl) _ _ (163) (1214) (by omega) (by omega) (by omega) (by omega) (fun H locs ls hX hS hl => ?_)
  cases hm
  refine W.widen (k := 163) (n := 1214) (Nat.le_of_ble_eq_true rfl) (Nat.le_of_ble_eq_true rfl) ?_
  exact W.vret hx hb hr (fun t ht hW => zh_end hk hX hS ht hW) hS.2.2 d_Wire_init_43
set_option maxHeartbeats 4000000 in
set_option maxRecDepth 100000 in
theorem c_ZoneNodes_init (l : Launch) (G : zh_G) (N : Nat) (X : zh_T) (x0 : Nat) (x1 : Int32) (x2 : Int32) (x3 : Int32) (x4 : Int32) (r : Unit) (X' : zh_T) (hm : f_ZoneNodes_init N X x0 x1 x2 x3 x4 = some (r, X')) : zM l G y_ZoneNodes_init w_ZoneNodes_init 5 103 X [.ref x0, .int x1, .int x2, .int x3, .int x4] none X' 223 2087 := by
  refine zr_ofW (by decide) (by exact Nat.le_of_ble_eq_true rfl) ?_
  intro p e s m args below meth c ls hx hb hml hr hts hown hin hlocks hk hX hl
  have hS : va_S (zh_A G) s.heap s.heap [] := va_S.rf
  have hl : lv_has ls 9 [(0, .ref x0), (1, .int x1), (2, .int x2), (3, .int x3), (4, .int x4)] := hl
  have hown : s.vm.findClass R_ZoneNodes = some m.cls := hown
  unfold f_ZoneNodes_init at hm
  have hL120 : ∀ (n : Nat) (X : zh_T) (w0 : Nat) (w5 : Int32) (w6 : Int32) (w7 : Int32) (w8 : Int32) (v : Unit) (X1 : zh_T) (H : Heap) (locs : List Loc) (ls : Array Slot), L_ZoneNodes_init_120 N w0 w5 w6 w7 n X w8 = some (v, X1) → zh_w G X H → va_S (zh_A G) s.heap H locs → lv_has ls 9 [(0, .ref w0), (5, .int w5), (6, .int w6), (7, .int w7), (8, .int w8)] → ∀ (cells slots ce se : Nat), cells + 5 * n ≤ ce → slots + 79 * n ≤ se → ce ≤ 223 → se ≤ 2087 → (∀ (H : Heap) (locs : List Loc) (ls : Array Slot), zh_w G X1 H → va_S (zh_A G) s.heap H locs → lv_has ls 9 [] → W p l e { frames := 5, cells := 223, slots := 2087, locals := 103 } s m args below meth c H locs ce se (MQ below (zh_Q G none X') args s 223 2087 (zh_A G)) (F0 m 156 ls [])) → W p l e { frames := 5, cells := 223, slots := 2087, locals := 103 } s m args below meth c H locs cells slots (MQ below (zh_Q G none X') args s 223 2087 (zh_A G)) (F0 m 120 ls []) := by
    intro n
    induction n with
    | zero =>
      intro X w0 w5 w6 w7 w8 v X1 H locs ls hm hX hS hl cells slots ce se hc1 hc2 hc3 hc4 hexit
      rw [L_ZoneNodes_init_120] at hm
      cases hm
    | succ n ih =>
      intro X w0 w5 w6 w7 w8 v X1 H locs ls hm hX hS hl cells slots ce se hc1 hc2 hc3 hc4 hexit
      rw [L_ZoneNodes_init_120] at hm
      refine lv_iload hx hb d_ZoneNodes_init_120 (lv_at hl 4 rfl) ?_
      refine lv_iconst (v := 2) hx hb d_ZoneNodes_init_122 (by decide) ?_
      refine lv_icmp_ge (tgt := 156) hx hb d_ZoneNodes_init_123 rfl (fun h49 => ?_) (fun h49 => ?_)
      · replace hm := zi_t h49 hm
        refine W.widen (k := ce) (n := se) (by omega) (by omega) ?_
        cases hm
        exact hexit _ _ _ hX hS (lv_sub hl [] rfl)
      · replace hm := zi_f h49 hm
        refine lv_aload_n hx hb d_ZoneNodes_init_126 rfl (lv_at hl 0 rfl) ?_
        replace hm := zb1_s hm
        obtain ⟨a51, h50, hm⟩ := hm
        refine zr_get (ci := 8) (C := R_ZoneNodes) (T := F_ZoneNodes) (N := 7) hx hb hts in_ZoneNodes hown hk hX rfl 5 (by decide) (hts _ tW97) rfl (zgr_v h50) d_ZoneNodes_init_127 ?_
        refine lv_iload hx hb d_ZoneNodes_init_130 (lv_at hl 4 rfl) ?_
        replace hm := zb2_s hm
        obtain ⟨a52, X53, h54, hm⟩ := hm
        refine zr_new (ci := 6) (C := R_Secondary) (T := F_Secondary) (N := 13) hx hb hts in_Secondary t_Secondary t_Secondary_ok hown (hts _ tW96) (hts _ tW109) (hts _ tW54) hk hX hS rfl h54 zf_Secondary (by show _ ≤ 223; omega) (by show _ ≤ 2087; omega) d_ZoneNodes_init_132 (fun H hX hS => ?_)
        refine lv_dup hx hb d_ZoneNodes_init_135 rfl ?_
        refine lv_iload hx hb d_ZoneNodes_init_136 (lv_at hl 4 rfl) ?_
        refine lv_iconst (v := 1) hx hb d_ZoneNodes_init_138 (by decide) ?_
        refine lv_iadd hx hb d_ZoneNodes_init_139 ?_
        refine lv_iload hx hb d_ZoneNodes_init_140 (lv_at hl 1 rfl) ?_
        refine lv_iload hx hb d_ZoneNodes_init_142 (lv_at hl 2 rfl) ?_
        refine lv_iload hx hb d_ZoneNodes_init_144 (lv_at hl 3 rfl) ?_
        replace hm := zb2_s hm
        obtain ⟨v56, X57, h55, hm⟩ := hm
        refine zr_callv (zr_runI (As := [.int (w8 + 1), .int w5, .int w6, .int w7]) (rest := [.ref a52, .int w8, .ref a51]) (n := 4) hx hb hml hown hts hk hX (c_Secondary_init l G N X53 a52 (w8 + 1) w5 w6 w7 v56 X57 h55) (hts _ tW110) tW111 (hts _ tW54) (hts _ tW112) (by decide +kernel) ⟨Nat.le_of_ble_eq_true rfl, Nat.le_of_ble_eq_true rfl⟩ rfl rfl hl.1 rfl (lv_room (Nat.le_of_ble_eq_true rfl)) d_ZoneNodes_init_146 ⟨(by show _ ≤ 223; omega), (by show _ ≤ 2087; omega)⟩) hS (fun H locs hX hS => ?_)
        replace hm := zb1_s hm
        obtain ⟨X58, h59, hm⟩ := hm
        refine zr_aastore (t := 4) (ci := 6) hx hb hk hX hS rfl rfl h59 d_ZoneNodes_init_149 (fun H locs hX hS => ?_)
        refine lv_iinc (v := w8 + 1) (lv' := [(8, .int (w8 + 1)), (0, .ref w0), (5, .int w5), (6, .int w6), (7, .int w7)]) hx hb d_ZoneNodes_init_150 hl (k := 4) rfl (by rw [show Int32.ofInt 1 = 1 by decide]) (by decide) rfl (fun ls hl => ?_)
        refine lv_goto (tgt := 120) hx hb d_ZoneNodes_init_153 rfl ?_
        exact ih X58 w0 w5 w6 w7 (w8 + 1) v X1 _ _ _ hm hX hS (lv_sub hl [1, 2, 3, 4, 0] rfl) _ _ ce se (by omega) (by omega) hc3 hc4 hexit
  have hJ81 : ∀ (X : zh_T) (w0 : Nat) (w1 : Int32) (w4 : Int32) (w5 : Int32) (u0 : Int32) (H : Heap) (locs : List Loc) (ls : Array Slot), J_ZoneNodes_init_81 N X w0 w1 w4 w5 u0 = some (r, X') → zh_w G X H → va_S (zh_A G) s.heap H locs → lv_has ls 9 [(0, .ref w0), (1, .int w1), (4, .int w4), (5, .int w5)] → W p l e { frames := 5, cells := 223, slots := 2087, locals := 103 } s m args below meth c H locs 170 1236 (MQ below (zh_Q G none X') args s 223 2087 (zh_A G)) (F0 m 81 ls [.int u0]) := by
    intro X w0 w1 w4 w5 u0 H locs ls hm hX hS hl
    unfold J_ZoneNodes_init_81 at hm
    refine lv_istore (lv' := [(6, .int u0), (0, .ref w0), (1, .int w1), (4, .int w4), (5, .int w5)]) hx hb d_ZoneNodes_init_81 hl (by decide) rfl (fun ls hl => ?_)
    refine lv_iload hx hb d_ZoneNodes_init_83 (lv_at hl 3 rfl) ?_
    refine lv_bipush (v := 10) hx hb d_ZoneNodes_init_85 (by decide) ?_
    refine lv_sipush (v := 200) hx hb d_ZoneNodes_init_87 (by decide) ?_
    replace hm := zb1_s hm
    obtain ⟨v39, h38, hm⟩ := hm
    refine zr_calli (zr_runS (As := [.int w4, .int 10, .int 200]) (rest := []) (n := 3) hx hb hml hown hts hk hX (c_ZoneNodes_within l G N X w4 10 200 v39 h38) (hts _ tW98) tW99 (hts _ tW100) (hts _ tW101) (by decide +kernel) ⟨Nat.le_of_ble_eq_true rfl, Nat.le_of_ble_eq_true rfl⟩ rfl rfl hl.1 rfl (lv_room (Nat.le_of_ble_eq_true rfl)) d_ZoneNodes_init_90 ⟨(Nat.le_of_ble_eq_true rfl), (Nat.le_of_ble_eq_true rfl)⟩) hS (fun H locs hX hS => ?_)
    refine lv_if_eq (tgt := 101) hx hb d_ZoneNodes_init_93 rfl (fun h40 => ?_) (fun h40 => ?_)
    · replace hm := zi_t h40 hm
      refine lv_bipush (v := 60) hx hb d_ZoneNodes_init_101 (by decide) ?_
      refine lv_istore (lv' := [(7, .int 60), (6, .int u0), (0, .ref w0), (1, .int w1), (4, .int w4), (5, .int w5)]) hx hb d_ZoneNodes_init_103 hl (by decide) rfl (fun ls hl => ?_)
      refine lv_aload_n hx hb d_ZoneNodes_init_105 rfl (lv_at hl 2 rfl) ?_
      replace hm := zb2_s hm
      obtain ⟨a41, X42, h43, hm⟩ := hm
      refine zr_new (ci := 4) (C := R_Primary) (T := F_Primary) (N := 9) hx hb hts in_Primary t_Primary t_Primary_ok hown (hts _ tW102) (hts _ tW103) (hts _ tW104) hk hX hS rfl h43 zf_Primary (Nat.le_of_ble_eq_true rfl) (Nat.le_of_ble_eq_true rfl) d_ZoneNodes_init_106 (fun H hX hS => ?_)
      refine lv_dup hx hb d_ZoneNodes_init_109 rfl ?_
      refine lv_iload_n hx hb d_ZoneNodes_init_110 rfl (lv_at hl 3 rfl) ?_
      replace hm := zb2_s hm
      obtain ⟨v45, X46, h44, hm⟩ := hm
      refine zr_callv (zr_runI (As := [.int w1]) (rest := [.ref a41, .ref w0]) (n := 1) hx hb hml hown hts hk hX (c_Primary_init l G N X42 a41 w1 v45 X46 h44) (hts _ tW105) tW106 (hts _ tW104) (hts _ tW107) (by decide +kernel) ⟨Nat.le_of_ble_eq_true rfl, Nat.le_of_ble_eq_true rfl⟩ rfl rfl hl.1 rfl (lv_room (Nat.le_of_ble_eq_true rfl)) d_ZoneNodes_init_111 ⟨(Nat.le_of_ble_eq_true rfl), (Nat.le_of_ble_eq_true rfl)⟩) hS (fun H locs hX hS => ?_)
      replace hm := zb1_s hm
      obtain ⟨X47, h48, hm⟩ := hm
      refine zr_putF (ci := 8) (C := R_ZoneNodes) (T := F_ZoneNodes) (N := 7) (ty := (.object "ZoneNodes$Primary")) (v := .ref a41) hx hb hts in_ZoneNodes t_ZoneNodes t_ZoneNodes_ok n_ZoneNodes hown hk hX hS rfl 4 (by decide) (hts _ tW108) rfl rfl hin rfl (by decide +kernel) rfl rfl h48 d_ZoneNodes_init_114 (fun H locs hX hS => ?_)
      refine lv_iconst (v := 0) hx hb d_ZoneNodes_init_117 (by decide) ?_
      refine lv_istore (lv' := [(8, .int 0), (7, .int 60), (6, .int u0), (0, .ref w0), (1, .int w1), (4, .int w4), (5, .int w5)]) hx hb d_ZoneNodes_init_118 hl (by decide) rfl (fun ls hl => ?_)
      replace hm := zb2_s hm
      obtain ⟨v60, X62, h61, hm⟩ := hm
      refine hL120 3 X47 w0 w5 u0 60 0 v60 X62 _ _ _ h61 hX hS (lv_sub hl [3, 6, 2, 1, 0] rfl) _ _ (223) (2087) (by omega) (by omega) (by omega) (by omega) (fun H locs ls hX hS hl => ?_)
      cases hm
      refine W.widen (k := 223) (n := 2087) (Nat.le_of_ble_eq_true rfl) (Nat.le_of_ble_eq_true rfl) ?_
      exact W.vret hx hb hr (fun t ht hW => zh_end hk hX hS ht hW) hS.2.2 d_ZoneNodes_init_156
    · replace hm := zi_f h40 hm
      refine lv_iload hx hb d_ZoneNodes_init_96 (lv_at hl 3 rfl) ?_
      refine lv_goto (tgt := 103) hx hb d_ZoneNodes_init_98 rfl ?_
      refine lv_istore (lv' := [(7, .int w4), (6, .int u0), (0, .ref w0), (1, .int w1), (4, .int w4), (5, .int w5)]) hx hb d_ZoneNodes_init_103 hl (by decide) rfl (fun ls hl => ?_)
      refine lv_aload_n hx hb d_ZoneNodes_init_105 rfl (lv_at hl 2 rfl) ?_
      replace hm := zb2_s hm
      obtain ⟨a63, X64, h65, hm⟩ := hm
      refine zr_new (ci := 4) (C := R_Primary) (T := F_Primary) (N := 9) hx hb hts in_Primary t_Primary t_Primary_ok hown (hts _ tW102) (hts _ tW103) (hts _ tW104) hk hX hS rfl h65 zf_Primary (Nat.le_of_ble_eq_true rfl) (Nat.le_of_ble_eq_true rfl) d_ZoneNodes_init_106 (fun H hX hS => ?_)
      refine lv_dup hx hb d_ZoneNodes_init_109 rfl ?_
      refine lv_iload_n hx hb d_ZoneNodes_init_110 rfl (lv_at hl 3 rfl) ?_
      replace hm := zb2_s hm
      obtain ⟨v67, X68, h66, hm⟩ := hm
      refine zr_callv (zr_runI (As := [.int w1]) (rest := [.ref a63, .ref w0]) (n := 1) hx hb hml hown hts hk hX (c_Primary_init l G N X64 a63 w1 v67 X68 h66) (hts _ tW105) tW106 (hts _ tW104) (hts _ tW107) (by decide +kernel) ⟨Nat.le_of_ble_eq_true rfl, Nat.le_of_ble_eq_true rfl⟩ rfl rfl hl.1 rfl (lv_room (Nat.le_of_ble_eq_true rfl)) d_ZoneNodes_init_111 ⟨(Nat.le_of_ble_eq_true rfl), (Nat.le_of_ble_eq_true rfl)⟩) hS (fun H locs hX hS => ?_)
      replace hm := zb1_s hm
      obtain ⟨X69, h70, hm⟩ := hm
      refine zr_putF (ci := 8) (C := R_ZoneNodes) (T := F_ZoneNodes) (N := 7) (ty := (.object "ZoneNodes$Primary")) (v := .ref a63) hx hb hts in_ZoneNodes t_ZoneNodes t_ZoneNodes_ok n_ZoneNodes hown hk hX hS rfl 4 (by decide) (hts _ tW108) rfl rfl hin rfl (by decide +kernel) rfl rfl h70 d_ZoneNodes_init_114 (fun H locs hX hS => ?_)
      refine lv_iconst (v := 0) hx hb d_ZoneNodes_init_117 (by decide) ?_
      refine lv_istore (lv' := [(8, .int 0), (7, .int w4), (6, .int u0), (0, .ref w0), (1, .int w1), (4, .int w4), (5, .int w5)]) hx hb d_ZoneNodes_init_118 hl (by decide) rfl (fun ls hl => ?_)
      replace hm := zb2_s hm
      obtain ⟨v71, X73, h72, hm⟩ := hm
      refine hL120 3 X69 w0 w5 u0 w4 0 v71 X73 _ _ _ h72 hX hS (lv_sub hl [3, 6, 2, 1, 0] rfl) _ _ (223) (2087) (by omega) (by omega) (by omega) (by omega) (fun H locs ls hX hS hl => ?_)
      cases hm
      refine W.widen (k := 223) (n := 2087) (Nat.le_of_ble_eq_true rfl) (Nat.le_of_ble_eq_true rfl) ?_
      exact W.vret hx hb hr (fun t ht hW => zh_end hk hX hS ht hW) hS.2.2 d_ZoneNodes_init_156
  refine lv_aload_n hx hb d_ZoneNodes_init_0 rfl (lv_at hl 0 rfl) ?_
  refine W.objInit hx hb hown (hts _ tW79) (hts _ tW1) (hts _ tW2) rfl (by rw [hml]; exact hl.1) rfl d_ZoneNodes_init_1 (Nat.le_of_ble_eq_true rfl) (Nat.le_of_ble_eq_true rfl) ?_
  refine W.eq (g2 := F0 m 4 ls []) rfl ?_
  refine lv_aload_n hx hb d_ZoneNodes_init_4 rfl (lv_at hl 0 rfl) ?_
  refine lv_iconst (v := 3) hx hb d_ZoneNodes_init_5 (by decide) ?_
  replace hm := zb2_s hm
  obtain ⟨a1, X2, h3, hm⟩ := hm
  refine zr_newai (n := 3) (N' := 3) hx hb (hts _ tW3) hk hX hS h3 (by decide) rfl (by decide) (Nat.le_of_ble_eq_true rfl) (Nat.le_of_ble_eq_true rfl) d_ZoneNodes_init_6 (fun H hX hS => ?_)
  replace hm := zb1_s hm
  obtain ⟨X4, h5, hm⟩ := hm
  refine zr_putF (ci := 8) (C := R_ZoneNodes) (T := F_ZoneNodes) (N := 7) (ty := (.array .int)) (v := .ref a1) hx hb hts in_ZoneNodes t_ZoneNodes t_ZoneNodes_ok n_ZoneNodes hown hk hX hS rfl 0 (by decide) (hts _ tW80) rfl rfl hin rfl (by decide +kernel) rfl rfl h5 d_ZoneNodes_init_8 (fun H locs hX hS => ?_)
  refine lv_aload_n hx hb d_ZoneNodes_init_11 rfl (lv_at hl 0 rfl) ?_
  refine lv_iconst (v := 3) hx hb d_ZoneNodes_init_12 (by decide) ?_
  replace hm := zb2_s hm
  obtain ⟨a6, X7, h8, hm⟩ := hm
  refine zr_newaz (n := 3) (N' := 3) hx hb (hts _ tW81) hk hX hS h8 (by decide) rfl (by decide) (Nat.le_of_ble_eq_true rfl) (Nat.le_of_ble_eq_true rfl) d_ZoneNodes_init_13 (fun H hX hS => ?_)
  replace hm := zb1_s hm
  obtain ⟨X9, h10, hm⟩ := hm
  refine zr_putF (ci := 8) (C := R_ZoneNodes) (T := F_ZoneNodes) (N := 7) (ty := (.array .boolean)) (v := .ref a6) hx hb hts in_ZoneNodes t_ZoneNodes t_ZoneNodes_ok n_ZoneNodes hown hk hX hS rfl 1 (by decide) (hts _ tW82) rfl rfl hin rfl (by decide +kernel) rfl rfl h10 d_ZoneNodes_init_15 (fun H locs hX hS => ?_)
  refine lv_aload_n hx hb d_ZoneNodes_init_18 rfl (lv_at hl 0 rfl) ?_
  replace hm := zb2_s hm
  obtain ⟨a11, X12, h13, hm⟩ := hm
  refine zr_new (ci := 0) (C := R_Draft) (T := F_Draft) (N := 4) hx hb hts in_Draft t_Draft t_Draft_ok hown (hts _ tW83) (hts _ tW84) (hts _ tW85) hk hX hS rfl h13 zf_Draft (Nat.le_of_ble_eq_true rfl) (Nat.le_of_ble_eq_true rfl) d_ZoneNodes_init_19 (fun H hX hS => ?_)
  refine lv_dup hx hb d_ZoneNodes_init_22 rfl ?_
  replace hm := zb2_s hm
  obtain ⟨v15, X16, h14, hm⟩ := hm
  refine zr_callv (zr_runIN (As := []) (rest := [.ref a11, .ref x0]) (n := 0) hx hb hml hown hts hk hX (c_Draft_init l G N X12 a11 v15 X16 h14) (nM5 hk) tW86 (hts _ tW85) (hts _ tW87) (by decide +kernel) ⟨Nat.le_of_ble_eq_true rfl, Nat.le_of_ble_eq_true rfl⟩ rfl rfl hl.1 rfl (lv_room (Nat.le_of_ble_eq_true rfl)) d_ZoneNodes_init_23 ⟨(Nat.le_of_ble_eq_true rfl), (Nat.le_of_ble_eq_true rfl)⟩) hS (fun H locs hX hS => ?_)
  replace hm := zb1_s hm
  obtain ⟨X17, h18, hm⟩ := hm
  refine zr_putF (ci := 8) (C := R_ZoneNodes) (T := F_ZoneNodes) (N := 7) (ty := (.object "ZoneNodes$Draft")) (v := .ref a11) hx hb hts in_ZoneNodes t_ZoneNodes t_ZoneNodes_ok n_ZoneNodes hown hk hX hS rfl 2 (by decide) (hts _ tW88) rfl rfl hin rfl (by decide +kernel) rfl rfl h18 d_ZoneNodes_init_26 (fun H locs hX hS => ?_)
  refine lv_aload_n hx hb d_ZoneNodes_init_29 rfl (lv_at hl 0 rfl) ?_
  replace hm := zb2_s hm
  obtain ⟨a19, X20, h21, hm⟩ := hm
  refine zr_new (ci := 7) (C := R_Wire) (T := F_Wire) (N := 2) hx hb hts in_Wire t_Wire t_Wire_ok hown (hts _ tW89) (hts _ tW90) (hts _ tW91) hk hX hS rfl h21 zf_Wire (Nat.le_of_ble_eq_true rfl) (Nat.le_of_ble_eq_true rfl) d_ZoneNodes_init_30 (fun H hX hS => ?_)
  refine lv_dup hx hb d_ZoneNodes_init_33 rfl ?_
  replace hm := zb2_s hm
  obtain ⟨v23, X24, h22, hm⟩ := hm
  refine zr_callv (zr_runI (As := []) (rest := [.ref a19, .ref x0]) (n := 0) hx hb hml hown hts hk hX (c_Wire_init l G N X20 a19 v23 X24 h22) (hts _ tW92) tW93 (hts _ tW91) (hts _ tW94) (by decide +kernel) ⟨Nat.le_of_ble_eq_true rfl, Nat.le_of_ble_eq_true rfl⟩ rfl rfl hl.1 rfl (lv_room (Nat.le_of_ble_eq_true rfl)) d_ZoneNodes_init_34 ⟨(Nat.le_of_ble_eq_true rfl), (Nat.le_of_ble_eq_true rfl)⟩) hS (fun H locs hX hS => ?_)
  replace hm := zb1_s hm
  obtain ⟨X25, h26, hm⟩ := hm
  refine zr_putF (ci := 8) (C := R_ZoneNodes) (T := F_ZoneNodes) (N := 7) (ty := (.object "ZoneNodes$Wire")) (v := .ref a19) hx hb hts in_ZoneNodes t_ZoneNodes t_ZoneNodes_ok n_ZoneNodes hown hk hX hS rfl 3 (by decide) (hts _ tW95) rfl rfl hin rfl (by decide +kernel) rfl rfl h26 d_ZoneNodes_init_37 (fun H locs hX hS => ?_)
  refine lv_aload_n hx hb d_ZoneNodes_init_40 rfl (lv_at hl 0 rfl) ?_
  refine lv_iconst (v := 2) hx hb d_ZoneNodes_init_41 (by decide) ?_
  replace hm := zb2_s hm
  obtain ⟨a27, X28, h29, hm⟩ := hm
  refine zr_newq (t := 4) (C := R_Secondary) (n := 2) (N' := 2) hx hb hown (hts _ tW96) (hk.2.2.2 _ ao_4) hk hX hS rfl h29 (by decide) rfl (by decide) (Nat.le_of_ble_eq_true rfl) (Nat.le_of_ble_eq_true rfl) d_ZoneNodes_init_42 (fun H hX hS => ?_)
  replace hm := zb1_s hm
  obtain ⟨X30, h31, hm⟩ := hm
  refine zr_putF (ci := 8) (C := R_ZoneNodes) (T := F_ZoneNodes) (N := 7) (ty := (.array (.object "ZoneNodes$Secondary"))) (v := .ref a27) hx hb hts in_ZoneNodes t_ZoneNodes t_ZoneNodes_ok n_ZoneNodes hown hk hX hS rfl 5 (by decide) (hts _ tW97) rfl rfl hin rfl (by decide +kernel) rfl rfl h31 d_ZoneNodes_init_45 (fun H locs hX hS => ?_)
  refine lv_iload_n hx hb d_ZoneNodes_init_48 rfl (lv_at hl 2 rfl) ?_
  refine lv_iconst (v := 4) hx hb d_ZoneNodes_init_49 (by decide) ?_
  refine lv_bipush (v := 50) hx hb d_ZoneNodes_init_50 (by decide) ?_
  replace hm := zb1_s hm
  obtain ⟨v33, h32, hm⟩ := hm
  refine zr_calli (zr_runS (As := [.int x2, .int 4, .int 50]) (rest := []) (n := 3) hx hb hml hown hts hk hX (c_ZoneNodes_within l G N X30 x2 4 50 v33 h32) (hts _ tW98) tW99 (hts _ tW100) (hts _ tW101) (by decide +kernel) ⟨Nat.le_of_ble_eq_true rfl, Nat.le_of_ble_eq_true rfl⟩ rfl rfl hl.1 rfl (lv_room (Nat.le_of_ble_eq_true rfl)) d_ZoneNodes_init_52 ⟨(Nat.le_of_ble_eq_true rfl), (Nat.le_of_ble_eq_true rfl)⟩) hS (fun H locs hX hS => ?_)
  refine lv_if_eq (tgt := 62) hx hb d_ZoneNodes_init_55 rfl (fun h34 => ?_) (fun h34 => ?_)
  · replace hm := zi_t h34 hm
    refine lv_bipush (v := 10) hx hb d_ZoneNodes_init_62 (by decide) ?_
    refine lv_istore (lv' := [(5, .int 10), (0, .ref x0), (1, .int x1), (2, .int x2), (3, .int x3), (4, .int x4)]) hx hb d_ZoneNodes_init_64 hl (by decide) rfl (fun ls hl => ?_)
    refine lv_iload_n hx hb d_ZoneNodes_init_66 rfl (lv_at hl 4 rfl) ?_
    refine lv_iconst (v := 2) hx hb d_ZoneNodes_init_67 (by decide) ?_
    refine lv_bipush (v := 20) hx hb d_ZoneNodes_init_68 (by decide) ?_
    replace hm := zb1_s hm
    obtain ⟨v36, h35, hm⟩ := hm
    refine zr_calli (zr_runS (As := [.int x3, .int 2, .int 20]) (rest := []) (n := 3) hx hb hml hown hts hk hX (c_ZoneNodes_within l G N X30 x3 2 20 v36 h35) (hts _ tW98) tW99 (hts _ tW100) (hts _ tW101) (by decide +kernel) ⟨Nat.le_of_ble_eq_true rfl, Nat.le_of_ble_eq_true rfl⟩ rfl rfl hl.1 rfl (lv_room (Nat.le_of_ble_eq_true rfl)) d_ZoneNodes_init_70 ⟨(Nat.le_of_ble_eq_true rfl), (Nat.le_of_ble_eq_true rfl)⟩) hS (fun H locs hX hS => ?_)
    refine lv_if_eq (tgt := 80) hx hb d_ZoneNodes_init_73 rfl (fun h37 => ?_) (fun h37 => ?_)
    · replace hm := zi_t h37 hm
      refine lv_iconst (v := 4) hx hb d_ZoneNodes_init_80 (by decide) ?_
      exact hJ81 X30 x0 x1 x4 10 4 _ _ _ hm hX hS (lv_sub hl [1, 2, 5, 0] rfl)
    · replace hm := zi_f h37 hm
      refine lv_iload_n hx hb d_ZoneNodes_init_76 rfl (lv_at hl 4 rfl) ?_
      refine lv_goto (tgt := 81) hx hb d_ZoneNodes_init_77 rfl ?_
      exact hJ81 X30 x0 x1 x4 10 x3 _ _ _ hm hX hS (lv_sub hl [1, 2, 5, 0] rfl)
  · replace hm := zi_f h34 hm
    refine lv_iload_n hx hb d_ZoneNodes_init_58 rfl (lv_at hl 2 rfl) ?_
    refine lv_goto (tgt := 64) hx hb d_ZoneNodes_init_59 rfl ?_
    refine lv_istore (lv' := [(5, .int x2), (0, .ref x0), (1, .int x1), (2, .int x2), (3, .int x3), (4, .int x4)]) hx hb d_ZoneNodes_init_64 hl (by decide) rfl (fun ls hl => ?_)
    refine lv_iload_n hx hb d_ZoneNodes_init_66 rfl (lv_at hl 4 rfl) ?_
    refine lv_iconst (v := 2) hx hb d_ZoneNodes_init_67 (by decide) ?_
    refine lv_bipush (v := 20) hx hb d_ZoneNodes_init_68 (by decide) ?_
    replace hm := zb1_s hm
    obtain ⟨v75, h74, hm⟩ := hm
    refine zr_calli (zr_runS (As := [.int x3, .int 2, .int 20]) (rest := []) (n := 3) hx hb hml hown hts hk hX (c_ZoneNodes_within l G N X30 x3 2 20 v75 h74) (hts _ tW98) tW99 (hts _ tW100) (hts _ tW101) (by decide +kernel) ⟨Nat.le_of_ble_eq_true rfl, Nat.le_of_ble_eq_true rfl⟩ rfl rfl hl.1 rfl (lv_room (Nat.le_of_ble_eq_true rfl)) d_ZoneNodes_init_70 ⟨(Nat.le_of_ble_eq_true rfl), (Nat.le_of_ble_eq_true rfl)⟩) hS (fun H locs hX hS => ?_)
    refine lv_if_eq (tgt := 80) hx hb d_ZoneNodes_init_73 rfl (fun h76 => ?_) (fun h76 => ?_)
    · replace hm := zi_t h76 hm
      refine lv_iconst (v := 4) hx hb d_ZoneNodes_init_80 (by decide) ?_
      exact hJ81 X30 x0 x1 x4 x2 4 _ _ _ hm hX hS (lv_sub hl [1, 2, 5, 0] rfl)
    · replace hm := zi_f h76 hm
      refine lv_iload_n hx hb d_ZoneNodes_init_76 rfl (lv_at hl 4 rfl) ?_
      refine lv_goto (tgt := 81) hx hb d_ZoneNodes_init_77 rfl ?_
      exact hJ81 X30 x0 x1 x4 x2 x3 _ _ _ hm hX hS (lv_sub hl [1, 2, 5, 0] rfl)
set_option maxHeartbeats 4000000 in
set_option maxRecDepth 100000 in
theorem c_Wire_at (l : Launch) (G : zh_G) (N : Nat) (X : zh_T) (x0 : Nat) (x1 : Int32) (r : Option Nat) (hm : f_Wire_at N X x0 x1 = some r) : zM l G y_Wire_at w_Wire_at 1 22 X [.ref x0, .int x1] (some (va_rf r)) X 0 0 := by
  refine zr_ofW (by decide) (by exact Nat.le_of_ble_eq_true rfl) ?_
  intro p e s m args below meth c ls hx hb hml hr hts hown hin hlocks hk hX hl
  have hS : va_S (zh_A G) s.heap s.heap [] := va_S.rf
  have hl : lv_has ls 2 [(0, .ref x0), (1, .int x1)] := hl
  have hown : s.vm.findClass R_Wire = some m.cls := hown
  unfold f_Wire_at at hm
  refine lv_iload_n hx hb d_Wire_at_0 rfl (lv_at hl 1 rfl) ?_
  refine lv_iconst (v := 0) hx hb d_Wire_at_1 (by decide) ?_
  refine lv_aload_n hx hb d_Wire_at_2 rfl (lv_at hl 0 rfl) ?_
  replace hm := zb1_s hm
  obtain ⟨v2, h1, hm⟩ := hm
  refine zr_get (ci := 7) (C := R_Wire) (T := F_Wire) (N := 2) hx hb hts in_Wire hown hk hX rfl 1 (by decide) (hts _ tW113) rfl (zgi_v h1) d_Wire_at_3 ?_
  refine lv_iconst (v := 1) hx hb d_Wire_at_6 (by decide) ?_
  refine lv_isub hx hb d_Wire_at_7 ?_
  replace hm := zb1_s hm
  obtain ⟨v4, h3, hm⟩ := hm
  refine zr_calli (zr_runSN (As := [.int x1, .int 0, .int (v2 - 1)]) (rest := []) (n := 3) hx hb hml hown hts hk hX (c_ZoneNodes_within l G N X x1 0 (v2 - 1) v4 h3) (nM6 hk) tW99 (hts _ tW100) (hts _ tW101) (by decide +kernel) ⟨Nat.le_of_ble_eq_true rfl, Nat.le_of_ble_eq_true rfl⟩ rfl rfl hl.1 rfl (lv_room (Nat.le_of_ble_eq_true rfl)) d_Wire_at_8 ⟨(Nat.le_of_ble_eq_true rfl), (Nat.le_of_ble_eq_true rfl)⟩) hS (fun H locs hX hS => ?_)
  refine lv_if_eq (tgt := 23) hx hb d_Wire_at_11 rfl (fun h5 => ?_) (fun h5 => ?_)
  · replace hm := zi_t h5 hm
    refine lv_null hx hb d_Wire_at_23 ?_
    cases hm
    exact W.aret hx hb hr (Or.inl ⟨_, rfl⟩) (Or.inl rfl) (fun t ht hW => zh_end hk hX hS ht hW) hS.2.2 d_Wire_at_24
  · replace hm := zi_f h5 hm
    refine lv_aload_n hx hb d_Wire_at_14 rfl (lv_at hl 0 rfl) ?_
    replace hm := zb1_s hm
    obtain ⟨a7, h6, hm⟩ := hm
    refine zr_get (ci := 7) (C := R_Wire) (T := F_Wire) (N := 2) hx hb hts in_Wire hown hk hX rfl 0 (by decide) (hts _ tW74) rfl (zgr_v h6) d_Wire_at_15 ?_
    refine lv_iload_n hx hb d_Wire_at_18 rfl (lv_at hl 1 rfl) ?_
    replace hm := zb1_s hm
    obtain ⟨a9, h8, hm⟩ := hm
    refine zr_aaload (t := 3) (q := some a9) hx hb hk hX rfl (zar_v h8) d_Wire_at_19 ?_
    refine lv_goto (tgt := 24) hx hb d_Wire_at_20 rfl ?_
    cases hm
    exact W.aret hx hb hr (Or.inl ⟨_, rfl⟩) (Or.inr ⟨_, rfl⟩) (fun t ht hW => zh_end hk hX hS ht hW) hS.2.2 d_Wire_at_24
set_option maxHeartbeats 4000000 in
set_option maxRecDepth 100000 in
theorem c_ZoneNodes_alter (l : Launch) (G : zh_G) (N : Nat) (X : zh_T) (x0 : Nat) (x1 : Int32) (r : Int32) (X' : zh_T) (hm : f_ZoneNodes_alter N X x0 x1 = some (r, X')) : zM l G y_ZoneNodes_alter w_ZoneNodes_alter 2 43 X [.ref x0, .int x1] (some (.int r)) X' 0 0 := by
  refine zr_ofW (by decide) (by exact Nat.le_of_ble_eq_true rfl) ?_
  intro p e s m args below meth c ls hx hb hml hr hts hown hin hlocks hk hX hl
  have hS : va_S (zh_A G) s.heap s.heap [] := va_S.rf
  have hl : lv_has ls 3 [(0, .ref x0), (1, .int x1)] := hl
  have hown : s.vm.findClass R_ZoneNodes = some m.cls := hown
  unfold f_ZoneNodes_alter at hm
  refine lv_aload_n hx hb d_ZoneNodes_alter_0 rfl (lv_at hl 0 rfl) ?_
  replace hm := zb1_s hm
  obtain ⟨a2, h1, hm⟩ := hm
  refine zr_get (ci := 8) (C := R_ZoneNodes) (T := F_ZoneNodes) (N := 7) hx hb hts in_ZoneNodes hown hk hX rfl 3 (by decide) (hts _ tW95) rfl (zgr_v h1) d_ZoneNodes_alter_1 ?_
  refine lv_iload_n hx hb d_ZoneNodes_alter_4 rfl (lv_at hl 1 rfl) ?_
  replace hm := zb1_s hm
  obtain ⟨_, h4, hm⟩ := hm
  replace hm := zb1_s hm
  obtain ⟨q5, h3, hm⟩ := hm
  refine zr_callq (zr_runV (As := [.int x1]) (rest := []) (n := 1) hx hb hml hown hts hk hX (c_Wire_at l G N X a2 x1 q5 h3) (hts _ tW114) tW115 (hts _ tW91) (hts _ tW116) (hts _ tW117) rfl h4 (by decide +kernel) ⟨Nat.le_of_ble_eq_true rfl, Nat.le_of_ble_eq_true rfl⟩ rfl rfl hl.1 rfl (lv_room (Nat.le_of_ble_eq_true rfl)) d_ZoneNodes_alter_5 ⟨(Nat.le_of_ble_eq_true rfl), (Nat.le_of_ble_eq_true rfl)⟩) hS (fun H locs hX hS => ?_)
  refine zr_astore_nq (lv' := [(2, va_rf q5), (0, .ref x0), (1, .int x1)]) hx hb d_ZoneNodes_alter_8 rfl hl (by decide) rfl (fun ls hl => ?_)
  cases q5 with
  | none =>
    replace hm := zbo_n hm
    refine lv_aload_nN hx hb d_ZoneNodes_alter_9 rfl (lv_at hl 0 rfl) ?_
    refine lv_ifnullN (tgt := 28) hx hb d_ZoneNodes_alter_10 rfl ?_
    refine lv_iconst (v := 0) hx hb d_ZoneNodes_alter_28 (by decide) ?_
    cases hm
    exact W.zret hx hb hr (by decide) (fun t ht hW => zh_end hk hX hS ht hW) hS.2.2 d_ZoneNodes_alter_29
  | some a6 =>
    replace hm := zbo_s hm
    refine lv_aload_n hx hb d_ZoneNodes_alter_9 rfl (lv_at hl 0 rfl) ?_
    refine lv_ifnull hx hb d_ZoneNodes_alter_10 ?_
    refine lv_aload_n hx hb d_ZoneNodes_alter_13 rfl (lv_at hl 0 rfl) ?_
    replace hm := zb1_s hm
    obtain ⟨v8, h7, hm⟩ := hm
    refine zr_getN (ci := 3) (C := R_Message) (T := F_Message) (N := 10) hx hb hts in_Message hown hk hX rfl 1 (by decide) rfl rfl (nF0 hk) rfl (zgi_v h7) d_ZoneNodes_alter_14 ?_
    refine lv_iconst (v := 5) hx hb d_ZoneNodes_alter_17 (by decide) ?_
    refine lv_icmp_ne (tgt := 28) hx hb d_ZoneNodes_alter_18 rfl (fun h9 => ?_) (fun h9 => ?_)
    · replace hm := zi_f h9 hm
      refine lv_iconst (v := 0) hx hb d_ZoneNodes_alter_28 (by decide) ?_
      cases hm
      exact W.zret hx hb hr (by decide) (fun t ht hW => zh_end hk hX hS ht hW) hS.2.2 d_ZoneNodes_alter_29
    · replace hm := zi_t h9 hm
      refine lv_aload_n hx hb d_ZoneNodes_alter_21 rfl (lv_at hl 0 rfl) ?_
      replace hm := zb1_s hm
      obtain ⟨v11, h10, hm⟩ := hm
      refine zr_getN (ci := 3) (C := R_Message) (T := F_Message) (N := 10) hx hb hts in_Message hown hk hX rfl 9 (by decide) rfl rfl (nF1 hk) rfl (zgi_v h10) d_ZoneNodes_alter_22 ?_
      refine lv_if_eq (tgt := 30) hx hb d_ZoneNodes_alter_25 rfl (fun h12 => ?_) (fun h12 => ?_)
      · replace hm := zi_t h12 hm
        refine lv_aload_n hx hb d_ZoneNodes_alter_30 rfl (lv_at hl 0 rfl) ?_
        refine lv_iconst (v := 1) hx hb d_ZoneNodes_alter_31 (by decide) ?_
        replace hm := zb1_s hm
        obtain ⟨X13, h14, hm⟩ := hm
        refine zr_putN (ci := 3) (C := R_Message) (T := F_Message) (N := 10) (ty := .boolean) (v := .int 1) hx hb hts in_Message t_Message t_Message_ok n_Message hown hk hX hS rfl 9 (by decide) rfl rfl (nF1 hk) rfl rfl (by decide +kernel) (zpz_n h14) (zpz_f h14) (zpz_v h14) d_ZoneNodes_alter_32 (fun H locs hX hS => ?_)
        refine lv_iconst (v := 1) hx hb d_ZoneNodes_alter_35 (by decide) ?_
        cases hm
        exact W.zret hx hb hr (by decide) (fun t ht hW => zh_end hk hX hS ht hW) hS.2.2 d_ZoneNodes_alter_36
      · replace hm := zi_f h12 hm
        refine lv_iconst (v := 0) hx hb d_ZoneNodes_alter_28 (by decide) ?_
        cases hm
        exact W.zret hx hb hr (by decide) (fun t ht hW => zh_end hk hX hS ht hW) hS.2.2 d_ZoneNodes_alter_29
set_option maxHeartbeats 4000000 in
set_option maxRecDepth 100000 in
theorem c_ZoneNodes_arm (l : Launch) (G : zh_G) (N : Nat) (X : zh_T) (x0 : Nat) (x1 : Int32) (r : Int32) (X' : zh_T) (hm : f_ZoneNodes_arm N X x0 x1 = some (r, X')) : zM l G y_ZoneNodes_arm w_ZoneNodes_arm 1 22 X [.ref x0, .int x1] (some (.int r)) X' 0 0 := by
  refine zr_ofW (by decide) (by exact Nat.le_of_ble_eq_true rfl) ?_
  intro p e s m args below meth c ls hx hb hml hr hts hown hin hlocks hk hX hl
  have hS : va_S (zh_A G) s.heap s.heap [] := va_S.rf
  have hl : lv_has ls 2 [(0, .ref x0), (1, .int x1)] := hl
  have hown : s.vm.findClass R_ZoneNodes = some m.cls := hown
  unfold f_ZoneNodes_arm at hm
  refine lv_iload_n hx hb d_ZoneNodes_arm_0 rfl (lv_at hl 1 rfl) ?_
  refine lv_iconst (v := 0) hx hb d_ZoneNodes_arm_1 (by decide) ?_
  refine lv_iconst (v := 3) hx hb d_ZoneNodes_arm_2 (by decide) ?_
  replace hm := zb1_s hm
  obtain ⟨v2, h1, hm⟩ := hm
  refine zr_calli (zr_runS (As := [.int x1, .int 0, .int 3]) (rest := []) (n := 3) hx hb hml hown hts hk hX (c_ZoneNodes_within l G N X x1 0 3 v2 h1) (hts _ tW98) tW99 (hts _ tW100) (hts _ tW101) (by decide +kernel) ⟨Nat.le_of_ble_eq_true rfl, Nat.le_of_ble_eq_true rfl⟩ rfl rfl hl.1 rfl (lv_room (Nat.le_of_ble_eq_true rfl)) d_ZoneNodes_arm_3 ⟨(Nat.le_of_ble_eq_true rfl), (Nat.le_of_ble_eq_true rfl)⟩) hS (fun H locs hX hS => ?_)
  refine lv_if_eq (tgt := 19) hx hb d_ZoneNodes_arm_6 rfl (fun h3 => ?_) (fun h3 => ?_)
  · replace hm := zi_t h3 hm
    refine lv_iconst (v := 0) hx hb d_ZoneNodes_arm_19 (by decide) ?_
    cases hm
    exact W.zret hx hb hr (by decide) (fun t ht hW => zh_end hk hX hS ht hW) hS.2.2 d_ZoneNodes_arm_20
  · replace hm := zi_f h3 hm
    refine lv_aload_n hx hb d_ZoneNodes_arm_9 rfl (lv_at hl 0 rfl) ?_
    replace hm := zb1_s hm
    obtain ⟨a5, h4, hm⟩ := hm
    refine zr_get (ci := 8) (C := R_ZoneNodes) (T := F_ZoneNodes) (N := 7) hx hb hts in_ZoneNodes hown hk hX rfl 4 (by decide) (hts _ tW108) rfl (zgr_v h4) d_ZoneNodes_arm_10 ?_
    replace hm := zb1_s hm
    obtain ⟨v7, h6, hm⟩ := hm
    refine zr_getN (ci := 4) (C := R_Primary) (T := F_Primary) (N := 9) hx hb hts in_Primary hown hk hX rfl 8 (by decide) rfl rfl (nF2 hk) rfl (zgi_v h6) d_ZoneNodes_arm_13 ?_
    refine lv_if_ne (tgt := 21) hx hb d_ZoneNodes_arm_16 rfl (fun h8 => ?_) (fun h8 => ?_)
    · replace hm := zi_f h8 hm
      refine lv_aload_n hx hb d_ZoneNodes_arm_21 rfl (lv_at hl 0 rfl) ?_
      replace hm := zb1_s hm
      obtain ⟨a10, h9, hm⟩ := hm
      refine zr_get (ci := 8) (C := R_ZoneNodes) (T := F_ZoneNodes) (N := 7) hx hb hts in_ZoneNodes hown hk hX rfl 4 (by decide) (hts _ tW108) rfl (zgr_v h9) d_ZoneNodes_arm_22 ?_
      refine lv_iload_n hx hb d_ZoneNodes_arm_25 rfl (lv_at hl 1 rfl) ?_
      replace hm := zb1_s hm
      obtain ⟨X11, h12, hm⟩ := hm
      refine zr_putN (ci := 4) (C := R_Primary) (T := F_Primary) (N := 9) (ty := .int) (v := .int x1) hx hb hts in_Primary t_Primary t_Primary_ok n_Primary hown hk hX hS rfl 7 (by decide) rfl rfl (nF3 hk) rfl rfl (by decide +kernel) rfl rfl h12 d_ZoneNodes_arm_26 (fun H locs hX hS => ?_)
      refine lv_iconst (v := 1) hx hb d_ZoneNodes_arm_29 (by decide) ?_
      cases hm
      exact W.zret hx hb hr (by decide) (fun t ht hW => zh_end hk hX hS ht hW) hS.2.2 d_ZoneNodes_arm_30
    · replace hm := zi_t h8 hm
      refine lv_iconst (v := 0) hx hb d_ZoneNodes_arm_19 (by decide) ?_
      cases hm
      exact W.zret hx hb hr (by decide) (fun t ht hW => zh_end hk hX hS ht hW) hS.2.2 d_ZoneNodes_arm_20
set_option maxHeartbeats 4000000 in
set_option maxRecDepth 100000 in
theorem c_Journal_leadsTo (l : Launch) (G : zh_G) (N : Nat) (X : zh_T) (x0 : Nat) (x1 : Int32) (x2 : Int32) (r : Int32) (hm : f_Journal_leadsTo N X x0 x1 x2 = some r) : zM l G y_Journal_leadsTo w_Journal_leadsTo 0 0 X [.ref x0, .int x1, .int x2] (some (.int r)) X 0 0 := by
  refine zr_ofW (by decide) (by exact Nat.le_of_ble_eq_true rfl) ?_
  intro p e s m args below meth c ls hx hb hml hr hts hown hin hlocks hk hX hl
  have hS : va_S (zh_A G) s.heap s.heap [] := va_S.rf
  have hl : lv_has ls 5 [(0, .ref x0), (1, .int x1), (2, .int x2)] := hl
  have hown : s.vm.findClass R_Journal = some m.cls := hown
  unfold f_Journal_leadsTo at hm
  have hL13 : ∀ (n : Nat) (X : zh_T) (w0 : Nat) (w2 : Int32) (w3 : Int32) (w4 : Int32) (o : (Int32 ⊕ Int32)) (H : Heap) (locs : List Loc) (ls : Array Slot), L_Journal_leadsTo_13 N X w0 w2 n w3 w4 = some o → zh_w G X H → va_S (zh_A G) s.heap H locs → lv_has ls 5 [(0, .ref w0), (2, .int w2), (3, .int w3), (4, .int w4)] → (∀ r0 : Int32, o = Sum.inl r0 → r0 = r) → (∀ v : Int32, o = Sum.inr v → ∀ (H : Heap) (locs : List Loc) (ls : Array Slot), zh_w G X H → va_S (zh_A G) s.heap H locs → lv_has ls 5 [(2, .int w2), (3, .int v)] → W p l e { frames := 0, cells := 0, slots := 0, locals := 0 } s m args below meth c H locs 0 0 (MQ below (zh_Q G (some (.int r)) X) args s 0 0 (zh_A G)) (F0 m 47 ls [])) → W p l e { frames := 0, cells := 0, slots := 0, locals := 0 } s m args below meth c H locs 0 0 (MQ below (zh_Q G (some (.int r)) X) args s 0 0 (zh_A G)) (F0 m 13 ls []) := by
    intro n
    induction n with
    | zero =>
      intro X w0 w2 w3 w4 o H locs ls hm hX hS hl hret hexit
      rw [L_Journal_leadsTo_13] at hm
      cases hm
    | succ n ih =>
      intro X w0 w2 w3 w4 o H locs ls hm hX hS hl hret hexit
      rw [L_Journal_leadsTo_13] at hm
      refine lv_iload hx hb d_Journal_leadsTo_13 (lv_at hl 3 rfl) ?_
      refine lv_aload_n hx hb d_Journal_leadsTo_15 rfl (lv_at hl 0 rfl) ?_
      replace hm := zb1_s hm
      obtain ⟨v8, h7, hm⟩ := hm
      refine zr_get (ci := 2) (C := R_Journal) (T := F_Journal) (N := 2) hx hb hts in_Journal hown hk hX rfl 1 (by decide) (hts _ tW118) rfl (zgi_v h7) d_Journal_leadsTo_16 ?_
      refine lv_icmp_ge (tgt := 47) hx hb d_Journal_leadsTo_19 rfl (fun h9 => ?_) (fun h9 => ?_)
      · replace hm := zi_t h9 hm
        exact hexit _ (Option.some.inj hm).symm _ _ _ hX hS (lv_sub hl [1, 2] rfl)
      · replace hm := zi_f h9 hm
        refine lv_aload_n hx hb d_Journal_leadsTo_22 rfl (lv_at hl 0 rfl) ?_
        replace hm := zb1_s hm
        obtain ⟨a11, h10, hm⟩ := hm
        refine zr_get (ci := 2) (C := R_Journal) (T := F_Journal) (N := 2) hx hb hts in_Journal hown hk hX rfl 0 (by decide) (hts _ tW18) rfl (zgr_v h10) d_Journal_leadsTo_23 ?_
        refine lv_iload hx hb d_Journal_leadsTo_26 (lv_at hl 3 rfl) ?_
        replace hm := zb1_s hm
        obtain ⟨a13, h12, hm⟩ := hm
        refine zr_aaload (t := 2) (q := some a13) hx hb hk hX rfl (zar_v h12) d_Journal_leadsTo_28 ?_
        replace hm := zb1_s hm
        obtain ⟨v15, h14, hm⟩ := hm
        refine zr_getN (ci := 1) (C := R_Entry) (T := F_Entry) (N := 4) hx hb hts in_Entry hown hk hX rfl 2 (by decide) rfl rfl (nF4 hk) rfl (zgi_v h14) d_Journal_leadsTo_29 ?_
        refine lv_iload_n hx hb d_Journal_leadsTo_32 rfl (lv_at hl 2 rfl) ?_
        refine lv_icmp_eq (tgt := 38) hx hb d_Journal_leadsTo_33 rfl (fun h16 => ?_) (fun h16 => ?_)
        · replace hm := zi_t h16 hm
          refine lv_iinc (v := w3 + 1) (lv' := [(3, .int (w3 + 1)), (0, .ref w0), (2, .int w2), (4, .int w4)]) hx hb d_Journal_leadsTo_38 hl (k := 2) rfl (by rw [show Int32.ofInt 1 = 1 by decide]) (by decide) rfl (fun ls hl => ?_)
          refine lv_iinc (v := w4 + 1) (lv' := [(4, .int (w4 + 1)), (3, .int (w3 + 1)), (0, .ref w0), (2, .int w2)]) hx hb d_Journal_leadsTo_41 hl (k := 3) rfl (by rw [show Int32.ofInt 1 = 1 by decide]) (by decide) rfl (fun ls hl => ?_)
          refine lv_goto (tgt := 13) hx hb d_Journal_leadsTo_44 rfl ?_
          exact ih X w0 w2 (w3 + 1) (w4 + 1) o _ _ _ hm hX hS (lv_sub hl [2, 3, 1, 0] rfl) hret hexit
        · replace hm := zi_f h16 hm
          refine lv_iconst (v := 0) hx hb d_Journal_leadsTo_36 (by decide) ?_
          obtain rfl := hret _ (Option.some.inj hm).symm
          exact W.zret hx hb hr (by decide) (fun t ht hW => zh_end hk hX hS ht hW) hS.2.2 d_Journal_leadsTo_37
  refine lv_aload_n hx hb d_Journal_leadsTo_0 rfl (lv_at hl 0 rfl) ?_
  replace hm := zb1_s hm
  obtain ⟨a2, h1, hm⟩ := hm
  refine zr_get (ci := 2) (C := R_Journal) (T := F_Journal) (N := 2) hx hb hts in_Journal hown hk hX rfl 0 (by decide) (hts _ tW18) rfl (zgr_v h1) d_Journal_leadsTo_1 ?_
  refine lv_iload_n hx hb d_Journal_leadsTo_4 rfl (lv_at hl 1 rfl) ?_
  replace hm := zb1_s hm
  obtain ⟨a4, h3, hm⟩ := hm
  refine zr_aaload (t := 2) (q := some a4) hx hb hk hX rfl (zar_v h3) d_Journal_leadsTo_5 ?_
  replace hm := zb1_s hm
  obtain ⟨v6, h5, hm⟩ := hm
  refine zr_getN (ci := 1) (C := R_Entry) (T := F_Entry) (N := 4) hx hb hts in_Entry hown hk hX rfl 2 (by decide) rfl rfl (nF4 hk) rfl (zgi_v h5) d_Journal_leadsTo_6 ?_
  refine lv_istore_n (lv' := [(3, .int v6), (0, .ref x0), (1, .int x1), (2, .int x2)]) hx hb d_Journal_leadsTo_9 rfl hl (by decide) rfl (fun ls hl => ?_)
  refine lv_iload_n hx hb d_Journal_leadsTo_10 rfl (lv_at hl 2 rfl) ?_
  refine lv_istore (lv' := [(4, .int x1), (3, .int v6), (0, .ref x0), (1, .int x1), (2, .int x2)]) hx hb d_Journal_leadsTo_11 hl (by decide) rfl (fun ls hl => ?_)
  replace hm := zbs_s hm
  obtain ⟨o20, h18, hm⟩ := hm
  refine hL13 N X x0 x2 v6 x1 o20 _ _ _ h18 hX hS (lv_sub hl [2, 4, 1, 0] rfl) (fun r0 e0 => ?_) (fun v17 e0 H locs ls hX hS hl => ?_)
  · subst e0
    replace hm := zs_l hm
    exact Option.some.inj hm
  · subst e0
    replace hm := zs_r hm
    refine lv_iload_n hx hb d_Journal_leadsTo_47 rfl (lv_at hl 1 rfl) ?_
    refine lv_iload_n hx hb d_Journal_leadsTo_48 rfl (lv_at hl 0 rfl) ?_
    refine lv_icmp_ne (tgt := 56) hx hb d_Journal_leadsTo_49 rfl (fun h19 => ?_) (fun h19 => ?_)
    · replace hm := zi_f h19 hm
      refine lv_iconst (v := 0) hx hb d_Journal_leadsTo_56 (by decide) ?_
      cases hm
      exact W.zret hx hb hr (by decide) (fun t ht hW => zh_end hk hX hS ht hW) hS.2.2 d_Journal_leadsTo_57
    · replace hm := zi_t h19 hm
      refine lv_iconst (v := 1) hx hb d_Journal_leadsTo_52 (by decide) ?_
      refine lv_goto (tgt := 57) hx hb d_Journal_leadsTo_53 rfl ?_
      cases hm
      exact W.zret hx hb hr (by decide) (fun t ht hW => zh_end hk hX hS ht hW) hS.2.2 d_Journal_leadsTo_57
end
