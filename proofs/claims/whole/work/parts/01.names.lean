-- ===== PART A: goes FIRST, ahead of the names: the tables' words, and 'selects' of the private methods out of them =====
/-- a private method of a class that the tables say can be made, by its rows of tables_1 -/
def lw_okq (q : MethodName × Nat) : Prop := (q.1.cls ≠ "java/lang/invoke/MethodHandle" ∧ q.1.cls ≠ "java/lang/invoke/VarHandle") ∧ Cond.instantiable q.1.cls q.2 ∈ tables_1 ∧ Cond.privateMethod q.1 ∈ tables_1 ∧ Cond.instanceMethod q.1 ∈ tables_1
theorem lw_p0 : lw_okq (⟨"ToldByWitnesses$Reader", "scan", "([II)V"⟩, 6) := ⟨⟨by decide +kernel, by decide +kernel⟩, List.mem_of_getElem? (i := 36) (by decide +kernel), List.mem_of_getElem? (i := 266) (by decide +kernel), List.mem_of_getElem? (i := 267) (by decide +kernel)⟩
theorem lw_p1 : lw_okq (⟨"ToldByWitnesses$Reader", "readPart", "(II)Z"⟩, 6) := ⟨⟨by decide +kernel, by decide +kernel⟩, List.mem_of_getElem? (i := 36) (by decide +kernel), List.mem_of_getElem? (i := 317) (by decide +kernel), List.mem_of_getElem? (i := 318) (by decide +kernel)⟩
theorem lw_p2 : lw_okq (⟨"ToldByWitnesses$Reader", "take", "(I)Z"⟩, 6) := ⟨⟨by decide +kernel, by decide +kernel⟩, List.mem_of_getElem? (i := 36) (by decide +kernel), List.mem_of_getElem? (i := 321) (by decide +kernel), List.mem_of_getElem? (i := 322) (by decide +kernel)⟩
theorem lw_p3 : lw_okq (⟨"ToldByWitnesses$Reader", "sign", "()I"⟩, 6) := ⟨⟨by decide +kernel, by decide +kernel⟩, List.mem_of_getElem? (i := 36) (by decide +kernel), List.mem_of_getElem? (i := 325) (by decide +kernel), List.mem_of_getElem? (i := 326) (by decide +kernel)⟩
theorem lw_p4 : lw_okq (⟨"ToldByWitnesses$Reader", "readChain", "(II)Z"⟩, 6) := ⟨⟨by decide +kernel, by decide +kernel⟩, List.mem_of_getElem? (i := 36) (by decide +kernel), List.mem_of_getElem? (i := 329) (by decide +kernel), List.mem_of_getElem? (i := 330) (by decide +kernel)⟩
theorem lw_p5 : lw_okq (⟨"ToldByWitnesses$Reader", "readLink", "(II)Z"⟩, 6) := ⟨⟨by decide +kernel, by decide +kernel⟩, List.mem_of_getElem? (i := 36) (by decide +kernel), List.mem_of_getElem? (i := 333) (by decide +kernel), List.mem_of_getElem? (i := 334) (by decide +kernel)⟩
theorem lw_p6 : lw_okq (⟨"ToldByWitnesses$Reader", "readNot", "(I)Z"⟩, 6) := ⟨⟨by decide +kernel, by decide +kernel⟩, List.mem_of_getElem? (i := 36) (by decide +kernel), List.mem_of_getElem? (i := 337) (by decide +kernel), List.mem_of_getElem? (i := 338) (by decide +kernel)⟩
theorem lw_p7 : lw_okq (⟨"ToldByWitnesses$Reader", "emit", "(I)Z"⟩, 6) := ⟨⟨by decide +kernel, by decide +kernel⟩, List.mem_of_getElem? (i := 36) (by decide +kernel), List.mem_of_getElem? (i := 341) (by decide +kernel), List.mem_of_getElem? (i := 342) (by decide +kernel)⟩
theorem lw_p8 : lw_okq (⟨"ToldByWitnesses$Reader", "readOne", "(I)Z"⟩, 6) := ⟨⟨by decide +kernel, by decide +kernel⟩, List.mem_of_getElem? (i := 36) (by decide +kernel), List.mem_of_getElem? (i := 345) (by decide +kernel), List.mem_of_getElem? (i := 346) (by decide +kernel)⟩
theorem lw_p9 : lw_okq (⟨"ToldByWitnesses", "setAge", "(I)I"⟩, 18) := ⟨⟨by decide +kernel, by decide +kernel⟩, List.mem_of_getElem? (i := 22) (by decide +kernel), List.mem_of_getElem? (i := 453) (by decide +kernel), List.mem_of_getElem? (i := 454) (by decide +kernel)⟩
theorem lw_p10 : lw_okq (⟨"ToldByWitnesses", "setDoing", "(II)I"⟩, 18) := ⟨⟨by decide +kernel, by decide +kernel⟩, List.mem_of_getElem? (i := 22) (by decide +kernel), List.mem_of_getElem? (i := 460) (by decide +kernel), List.mem_of_getElem? (i := 461) (by decide +kernel)⟩
theorem lw_p11 : lw_okq (⟨"ToldByWitnesses", "witnessAt", "(I)LToldByWitnesses$Witness;"⟩, 18) := ⟨⟨by decide +kernel, by decide +kernel⟩, List.mem_of_getElem? (i := 22) (by decide +kernel), List.mem_of_getElem? (i := 469) (by decide +kernel), List.mem_of_getElem? (i := 470) (by decide +kernel)⟩
theorem lw_p12 : lw_okq (⟨"ToldByWitnesses", "priceOf", "(LToldByWitnesses$Witness;)I"⟩, 18) := ⟨⟨by decide +kernel, by decide +kernel⟩, List.mem_of_getElem? (i := 22) (by decide +kernel), List.mem_of_getElem? (i := 491) (by decide +kernel), List.mem_of_getElem? (i := 492) (by decide +kernel)⟩
theorem lw_p13 : lw_okq (⟨"ToldByWitnesses", "saidBy", "(LToldByWitnesses$Witness;I)I"⟩, 18) := ⟨⟨by decide +kernel, by decide +kernel⟩, List.mem_of_getElem? (i := 22) (by decide +kernel), List.mem_of_getElem? (i := 531) (by decide +kernel), List.mem_of_getElem? (i := 532) (by decide +kernel)⟩
theorem lw_p14 : lw_okq (⟨"ToldByWitnesses", "nameStep", "(I)V"⟩, 18) := ⟨⟨by decide +kernel, by decide +kernel⟩, List.mem_of_getElem? (i := 22) (by decide +kernel), List.mem_of_getElem? (i := 535) (by decide +kernel), List.mem_of_getElem? (i := 536) (by decide +kernel)⟩
theorem lw_p15 : lw_okq (⟨"ToldByWitnesses", "textAt", "(I)LToldByWitnesses$Text;"⟩, 18) := ⟨⟨by decide +kernel, by decide +kernel⟩, List.mem_of_getElem? (i := 22) (by decide +kernel), List.mem_of_getElem? (i := 558) (by decide +kernel), List.mem_of_getElem? (i := 559) (by decide +kernel)⟩
def lw_privs_1 : List (MethodName × Nat) := [(⟨"ToldByWitnesses$Reader", "scan", "([II)V"⟩, 6), (⟨"ToldByWitnesses$Reader", "readPart", "(II)Z"⟩, 6), (⟨"ToldByWitnesses$Reader", "take", "(I)Z"⟩, 6), (⟨"ToldByWitnesses$Reader", "sign", "()I"⟩, 6), (⟨"ToldByWitnesses$Reader", "readChain", "(II)Z"⟩, 6), (⟨"ToldByWitnesses$Reader", "readLink", "(II)Z"⟩, 6), (⟨"ToldByWitnesses$Reader", "readNot", "(I)Z"⟩, 6), (⟨"ToldByWitnesses$Reader", "emit", "(I)Z"⟩, 6), (⟨"ToldByWitnesses$Reader", "readOne", "(I)Z"⟩, 6), (⟨"ToldByWitnesses", "setAge", "(I)I"⟩, 18), (⟨"ToldByWitnesses", "setDoing", "(II)I"⟩, 18), (⟨"ToldByWitnesses", "witnessAt", "(I)LToldByWitnesses$Witness;"⟩, 18), (⟨"ToldByWitnesses", "priceOf", "(LToldByWitnesses$Witness;)I"⟩, 18), (⟨"ToldByWitnesses", "saidBy", "(LToldByWitnesses$Witness;I)I"⟩, 18), (⟨"ToldByWitnesses", "nameStep", "(I)V"⟩, 18), (⟨"ToldByWitnesses", "textAt", "(I)LToldByWitnesses$Text;"⟩, 18)]
theorem lw_r1 : ∀ q ∈ lw_privs_1, lw_okq q := List.forall_mem_cons.mpr ⟨lw_p0, List.forall_mem_cons.mpr ⟨lw_p1, List.forall_mem_cons.mpr ⟨lw_p2, List.forall_mem_cons.mpr ⟨lw_p3, List.forall_mem_cons.mpr ⟨lw_p4, List.forall_mem_cons.mpr ⟨lw_p5, List.forall_mem_cons.mpr ⟨lw_p6, List.forall_mem_cons.mpr ⟨lw_p7, List.forall_mem_cons.mpr ⟨lw_p8, List.forall_mem_cons.mpr ⟨lw_p9, List.forall_mem_cons.mpr ⟨lw_p10, List.forall_mem_cons.mpr ⟨lw_p11, List.forall_mem_cons.mpr ⟨lw_p12, List.forall_mem_cons.mpr ⟨lw_p13, List.forall_mem_cons.mpr ⟨lw_p14, List.forall_mem_cons.mpr ⟨lw_p15, fun _ h => absurd h List.not_mem_nil⟩⟩⟩⟩⟩⟩⟩⟩⟩⟩⟩⟩⟩⟩⟩⟩
theorem lw_p16 : lw_okq (⟨"ToldByWitnesses", "compareWith", "([I)V"⟩, 18) := ⟨⟨by decide +kernel, by decide +kernel⟩, List.mem_of_getElem? (i := 22) (by decide +kernel), List.mem_of_getElem? (i := 566) (by decide +kernel), List.mem_of_getElem? (i := 567) (by decide +kernel)⟩
theorem lw_p17 : lw_okq (⟨"ToldByWitnesses", "sentBits", "()I"⟩, 18) := ⟨⟨by decide +kernel, by decide +kernel⟩, List.mem_of_getElem? (i := 22) (by decide +kernel), List.mem_of_getElem? (i := 606) (by decide +kernel), List.mem_of_getElem? (i := 607) (by decide +kernel)⟩
theorem lw_p18 : lw_okq (⟨"ToldByWitnesses$Lives", "waysBy", "(IIII)I"⟩, 5) := ⟨⟨by decide +kernel, by decide +kernel⟩, List.mem_of_getElem? (i := 94) (by decide +kernel), List.mem_of_getElem? (i := 620) (by decide +kernel), List.mem_of_getElem? (i := 621) (by decide +kernel)⟩
theorem lw_p19 : lw_okq (⟨"ToldByWitnesses$Lives", "fits", "(IIII)Z"⟩, 5) := ⟨⟨by decide +kernel, by decide +kernel⟩, List.mem_of_getElem? (i := 94) (by decide +kernel), List.mem_of_getElem? (i := 624) (by decide +kernel), List.mem_of_getElem? (i := 625) (by decide +kernel)⟩
theorem lw_p20 : lw_okq (⟨"ToldByWitnesses$Lives", "doingsBehind", "(III)I"⟩, 5) := ⟨⟨by decide +kernel, by decide +kernel⟩, List.mem_of_getElem? (i := 94) (by decide +kernel), List.mem_of_getElem? (i := 633) (by decide +kernel), List.mem_of_getElem? (i := 634) (by decide +kernel)⟩
theorem lw_p21 : lw_okq (⟨"ToldByWitnesses", "weightOfLife", "(I)I"⟩, 18) := ⟨⟨by decide +kernel, by decide +kernel⟩, List.mem_of_getElem? (i := 22) (by decide +kernel), List.mem_of_getElem? (i := 639) (by decide +kernel), List.mem_of_getElem? (i := 640) (by decide +kernel)⟩
theorem lw_p22 : lw_okq (⟨"ToldByWitnesses", "priceOfSent", "()I"⟩, 18) := ⟨⟨by decide +kernel, by decide +kernel⟩, List.mem_of_getElem? (i := 22) (by decide +kernel), List.mem_of_getElem? (i := 643) (by decide +kernel), List.mem_of_getElem? (i := 644) (by decide +kernel)⟩
theorem lw_p23 : lw_okq (⟨"ToldByWitnesses", "fillPrices", "()V"⟩, 18) := ⟨⟨by decide +kernel, by decide +kernel⟩, List.mem_of_getElem? (i := 22) (by decide +kernel), List.mem_of_getElem? (i := 647) (by decide +kernel), List.mem_of_getElem? (i := 648) (by decide +kernel)⟩
theorem lw_p24 : lw_okq (⟨"ToldByWitnesses", "priceOfSet", "(I)I"⟩, 18) := ⟨⟨by decide +kernel, by decide +kernel⟩, List.mem_of_getElem? (i := 22) (by decide +kernel), List.mem_of_getElem? (i := 651) (by decide +kernel), List.mem_of_getElem? (i := 652) (by decide +kernel)⟩
theorem lw_p25 : lw_okq (⟨"ToldByWitnesses", "fillWeights", "(II)V"⟩, 18) := ⟨⟨by decide +kernel, by decide +kernel⟩, List.mem_of_getElem? (i := 22) (by decide +kernel), List.mem_of_getElem? (i := 676) (by decide +kernel), List.mem_of_getElem? (i := 677) (by decide +kernel)⟩
theorem lw_p26 : lw_okq (⟨"ToldByWitnesses$Lives", "heaviest", "(III[I)I"⟩, 5) := ⟨⟨by decide +kernel, by decide +kernel⟩, List.mem_of_getElem? (i := 94) (by decide +kernel), List.mem_of_getElem? (i := 687) (by decide +kernel), List.mem_of_getElem? (i := 688) (by decide +kernel)⟩
theorem lw_p27 : lw_okq (⟨"ToldByWitnesses$Lives", "weightBy", "(III[I)I"⟩, 5) := ⟨⟨by decide +kernel, by decide +kernel⟩, List.mem_of_getElem? (i := 94) (by decide +kernel), List.mem_of_getElem? (i := 691) (by decide +kernel), List.mem_of_getElem? (i := 692) (by decide +kernel)⟩
theorem lw_p28 : lw_okq (⟨"ToldByWitnesses", "bestToSendFor", "(IZ)I"⟩, 18) := ⟨⟨by decide +kernel, by decide +kernel⟩, List.mem_of_getElem? (i := 22) (by decide +kernel), List.mem_of_getElem? (i := 704) (by decide +kernel), List.mem_of_getElem? (i := 705) (by decide +kernel)⟩
theorem lw_p29 : lw_okq (⟨"ToldByWitnesses$Lives", "fillBounds", "(I[I)V"⟩, 5) := ⟨⟨by decide +kernel, by decide +kernel⟩, List.mem_of_getElem? (i := 94) (by decide +kernel), List.mem_of_getElem? (i := 712) (by decide +kernel), List.mem_of_getElem? (i := 713) (by decide +kernel)⟩
theorem lw_p30 : lw_okq (⟨"ToldByWitnesses$Lives", "boundBy", "(I[III)I"⟩, 5) := ⟨⟨by decide +kernel, by decide +kernel⟩, List.mem_of_getElem? (i := 94) (by decide +kernel), List.mem_of_getElem? (i := 716) (by decide +kernel), List.mem_of_getElem? (i := 717) (by decide +kernel)⟩
theorem lw_p31 : lw_okq (⟨"ToldByWitnesses$Lives", "isTold", "(I[IIII)Z"⟩, 5) := ⟨⟨by decide +kernel, by decide +kernel⟩, List.mem_of_getElem? (i := 94) (by decide +kernel), List.mem_of_getElem? (i := 720) (by decide +kernel), List.mem_of_getElem? (i := 721) (by decide +kernel)⟩
def lw_privs_2 : List (MethodName × Nat) := [(⟨"ToldByWitnesses", "compareWith", "([I)V"⟩, 18), (⟨"ToldByWitnesses", "sentBits", "()I"⟩, 18), (⟨"ToldByWitnesses$Lives", "waysBy", "(IIII)I"⟩, 5), (⟨"ToldByWitnesses$Lives", "fits", "(IIII)Z"⟩, 5), (⟨"ToldByWitnesses$Lives", "doingsBehind", "(III)I"⟩, 5), (⟨"ToldByWitnesses", "weightOfLife", "(I)I"⟩, 18), (⟨"ToldByWitnesses", "priceOfSent", "()I"⟩, 18), (⟨"ToldByWitnesses", "fillPrices", "()V"⟩, 18), (⟨"ToldByWitnesses", "priceOfSet", "(I)I"⟩, 18), (⟨"ToldByWitnesses", "fillWeights", "(II)V"⟩, 18), (⟨"ToldByWitnesses$Lives", "heaviest", "(III[I)I"⟩, 5), (⟨"ToldByWitnesses$Lives", "weightBy", "(III[I)I"⟩, 5), (⟨"ToldByWitnesses", "bestToSendFor", "(IZ)I"⟩, 18), (⟨"ToldByWitnesses$Lives", "fillBounds", "(I[I)V"⟩, 5), (⟨"ToldByWitnesses$Lives", "boundBy", "(I[III)I"⟩, 5), (⟨"ToldByWitnesses$Lives", "isTold", "(I[IIII)Z"⟩, 5)]
theorem lw_r2 : ∀ q ∈ lw_privs_2, lw_okq q := List.forall_mem_cons.mpr ⟨lw_p16, List.forall_mem_cons.mpr ⟨lw_p17, List.forall_mem_cons.mpr ⟨lw_p18, List.forall_mem_cons.mpr ⟨lw_p19, List.forall_mem_cons.mpr ⟨lw_p20, List.forall_mem_cons.mpr ⟨lw_p21, List.forall_mem_cons.mpr ⟨lw_p22, List.forall_mem_cons.mpr ⟨lw_p23, List.forall_mem_cons.mpr ⟨lw_p24, List.forall_mem_cons.mpr ⟨lw_p25, List.forall_mem_cons.mpr ⟨lw_p26, List.forall_mem_cons.mpr ⟨lw_p27, List.forall_mem_cons.mpr ⟨lw_p28, List.forall_mem_cons.mpr ⟨lw_p29, List.forall_mem_cons.mpr ⟨lw_p30, List.forall_mem_cons.mpr ⟨lw_p31, fun _ h => absurd h List.not_mem_nil⟩⟩⟩⟩⟩⟩⟩⟩⟩⟩⟩⟩⟩⟩⟩⟩
theorem lw_p32 : lw_okq (⟨"ToldByWitnesses$Lives", "follow", "(I[II)V"⟩, 5) := ⟨⟨by decide +kernel, by decide +kernel⟩, List.mem_of_getElem? (i := 94) (by decide +kernel), List.mem_of_getElem? (i := 724) (by decide +kernel), List.mem_of_getElem? (i := 725) (by decide +kernel)⟩
theorem lw_p33 : lw_okq (⟨"ToldByWitnesses$Lives", "spread", "(I[III)I"⟩, 5) := ⟨⟨by decide +kernel, by decide +kernel⟩, List.mem_of_getElem? (i := 94) (by decide +kernel), List.mem_of_getElem? (i := 728) (by decide +kernel), List.mem_of_getElem? (i := 729) (by decide +kernel)⟩
theorem lw_p34 : lw_okq (⟨"ToldByWitnesses$Lives", "reach", "(I[III)V"⟩, 5) := ⟨⟨by decide +kernel, by decide +kernel⟩, List.mem_of_getElem? (i := 94) (by decide +kernel), List.mem_of_getElem? (i := 732) (by decide +kernel), List.mem_of_getElem? (i := 733) (by decide +kernel)⟩
theorem lw_p35 : lw_okq (⟨"ToldByWitnesses", "leastSet", "(IIZ)I"⟩, 18) := ⟨⟨by decide +kernel, by decide +kernel⟩, List.mem_of_getElem? (i := 22) (by decide +kernel), List.mem_of_getElem? (i := 744) (by decide +kernel), List.mem_of_getElem? (i := 745) (by decide +kernel)⟩
theorem lw_p36 : lw_okq (⟨"ToldByWitnesses", "saysFalse", "(LToldByWitnesses$Witness;)Z"⟩, 18) := ⟨⟨by decide +kernel, by decide +kernel⟩, List.mem_of_getElem? (i := 22) (by decide +kernel), List.mem_of_getElem? (i := 752) (by decide +kernel), List.mem_of_getElem? (i := 753) (by decide +kernel)⟩
theorem lw_p37 : lw_okq (⟨"ToldByWitnesses", "sheetAt", "(I)LToldByWitnesses$Sheet;"⟩, 18) := ⟨⟨by decide +kernel, by decide +kernel⟩, List.mem_of_getElem? (i := 22) (by decide +kernel), List.mem_of_getElem? (i := 760) (by decide +kernel), List.mem_of_getElem? (i := 761) (by decide +kernel)⟩
theorem lw_p38 : lw_okq (⟨"ToldByWitnesses", "firstOther", "(LToldByWitnesses$Sheet;LToldByWitnesses$Text;III)I"⟩, 18) := ⟨⟨by decide +kernel, by decide +kernel⟩, List.mem_of_getElem? (i := 22) (by decide +kernel), List.mem_of_getElem? (i := 764) (by decide +kernel), List.mem_of_getElem? (i := 765) (by decide +kernel)⟩
theorem lw_p39 : lw_okq (⟨"ToldByWitnesses", "livesTold", "(LToldByWitnesses$Sheet;LToldByWitnesses$Witness;)I"⟩, 18) := ⟨⟨by decide +kernel, by decide +kernel⟩, List.mem_of_getElem? (i := 22) (by decide +kernel), List.mem_of_getElem? (i := 773) (by decide +kernel), List.mem_of_getElem? (i := 774) (by decide +kernel)⟩
theorem lw_p40 : lw_okq (⟨"ToldByWitnesses", "kindsTelling", "(LToldByWitnesses$Sheet;LToldByWitnesses$Witness;)I"⟩, 18) := ⟨⟨by decide +kernel, by decide +kernel⟩, List.mem_of_getElem? (i := 22) (by decide +kernel), List.mem_of_getElem? (i := 778) (by decide +kernel), List.mem_of_getElem? (i := 779) (by decide +kernel)⟩
theorem lw_p41 : lw_okq (⟨"ToldByWitnesses", "numbersTelling", "(LToldByWitnesses$Sheet;LToldByWitnesses$Witness;)I"⟩, 18) := ⟨⟨by decide +kernel, by decide +kernel⟩, List.mem_of_getElem? (i := 22) (by decide +kernel), List.mem_of_getElem? (i := 782) (by decide +kernel), List.mem_of_getElem? (i := 783) (by decide +kernel)⟩
theorem lw_p42 : lw_okq (⟨"ToldByWitnesses", "sawTelling", "(LToldByWitnesses$Sheet;LToldByWitnesses$Witness;)I"⟩, 18) := ⟨⟨by decide +kernel, by decide +kernel⟩, List.mem_of_getElem? (i := 22) (by decide +kernel), List.mem_of_getElem? (i := 786) (by decide +kernel), List.mem_of_getElem? (i := 787) (by decide +kernel)⟩
theorem lw_p43 : lw_okq (⟨"ToldByWitnesses", "leastSawTelling", "(LToldByWitnesses$Sheet;LToldByWitnesses$Witness;)I"⟩, 18) := ⟨⟨by decide +kernel, by decide +kernel⟩, List.mem_of_getElem? (i := 22) (by decide +kernel), List.mem_of_getElem? (i := 790) (by decide +kernel), List.mem_of_getElem? (i := 791) (by decide +kernel)⟩
theorem lw_p44 : lw_okq (⟨"ToldByWitnesses", "textsTelling", "(LToldByWitnesses$Sheet;LToldByWitnesses$Witness;)I"⟩, 18) := ⟨⟨by decide +kernel, by decide +kernel⟩, List.mem_of_getElem? (i := 22) (by decide +kernel), List.mem_of_getElem? (i := 794) (by decide +kernel), List.mem_of_getElem? (i := 795) (by decide +kernel)⟩
theorem lw_p45 : lw_okq (⟨"ToldByWitnesses", "draw", "(I)V"⟩, 18) := ⟨⟨by decide +kernel, by decide +kernel⟩, List.mem_of_getElem? (i := 22) (by decide +kernel), List.mem_of_getElem? (i := 816) (by decide +kernel), List.mem_of_getElem? (i := 817) (by decide +kernel)⟩
theorem lw_p46 : lw_okq (⟨"ToldByWitnessesModel", "spell", "(IIIIIIIII)V"⟩, 41) := ⟨⟨by decide +kernel, by decide +kernel⟩, List.mem_of_getElem? (i := 888) (by decide +kernel), List.mem_of_getElem? (i := 894) (by decide +kernel), List.mem_of_getElem? (i := 895) (by decide +kernel)⟩
theorem lw_p47 : lw_okq (⟨"ToldByWitnessesModel", "isOf", "(II)Z"⟩, 41) := ⟨⟨by decide +kernel, by decide +kernel⟩, List.mem_of_getElem? (i := 888) (by decide +kernel), List.mem_of_getElem? (i := 1030) (by decide +kernel), List.mem_of_getElem? (i := 1031) (by decide +kernel)⟩
def lw_privs_3 : List (MethodName × Nat) := [(⟨"ToldByWitnesses$Lives", "follow", "(I[II)V"⟩, 5), (⟨"ToldByWitnesses$Lives", "spread", "(I[III)I"⟩, 5), (⟨"ToldByWitnesses$Lives", "reach", "(I[III)V"⟩, 5), (⟨"ToldByWitnesses", "leastSet", "(IIZ)I"⟩, 18), (⟨"ToldByWitnesses", "saysFalse", "(LToldByWitnesses$Witness;)Z"⟩, 18), (⟨"ToldByWitnesses", "sheetAt", "(I)LToldByWitnesses$Sheet;"⟩, 18), (⟨"ToldByWitnesses", "firstOther", "(LToldByWitnesses$Sheet;LToldByWitnesses$Text;III)I"⟩, 18), (⟨"ToldByWitnesses", "livesTold", "(LToldByWitnesses$Sheet;LToldByWitnesses$Witness;)I"⟩, 18), (⟨"ToldByWitnesses", "kindsTelling", "(LToldByWitnesses$Sheet;LToldByWitnesses$Witness;)I"⟩, 18), (⟨"ToldByWitnesses", "numbersTelling", "(LToldByWitnesses$Sheet;LToldByWitnesses$Witness;)I"⟩, 18), (⟨"ToldByWitnesses", "sawTelling", "(LToldByWitnesses$Sheet;LToldByWitnesses$Witness;)I"⟩, 18), (⟨"ToldByWitnesses", "leastSawTelling", "(LToldByWitnesses$Sheet;LToldByWitnesses$Witness;)I"⟩, 18), (⟨"ToldByWitnesses", "textsTelling", "(LToldByWitnesses$Sheet;LToldByWitnesses$Witness;)I"⟩, 18), (⟨"ToldByWitnesses", "draw", "(I)V"⟩, 18), (⟨"ToldByWitnessesModel", "spell", "(IIIIIIIII)V"⟩, 41), (⟨"ToldByWitnessesModel", "isOf", "(II)Z"⟩, 41)]
theorem lw_r3 : ∀ q ∈ lw_privs_3, lw_okq q := List.forall_mem_cons.mpr ⟨lw_p32, List.forall_mem_cons.mpr ⟨lw_p33, List.forall_mem_cons.mpr ⟨lw_p34, List.forall_mem_cons.mpr ⟨lw_p35, List.forall_mem_cons.mpr ⟨lw_p36, List.forall_mem_cons.mpr ⟨lw_p37, List.forall_mem_cons.mpr ⟨lw_p38, List.forall_mem_cons.mpr ⟨lw_p39, List.forall_mem_cons.mpr ⟨lw_p40, List.forall_mem_cons.mpr ⟨lw_p41, List.forall_mem_cons.mpr ⟨lw_p42, List.forall_mem_cons.mpr ⟨lw_p43, List.forall_mem_cons.mpr ⟨lw_p44, List.forall_mem_cons.mpr ⟨lw_p45, List.forall_mem_cons.mpr ⟨lw_p46, List.forall_mem_cons.mpr ⟨lw_p47, fun _ h => absurd h List.not_mem_nil⟩⟩⟩⟩⟩⟩⟩⟩⟩⟩⟩⟩⟩⟩⟩⟩
theorem lw_p48 : lw_okq (⟨"ToldByWitnessesModel", "isWitness", "(I)Z"⟩, 41) := ⟨⟨by decide +kernel, by decide +kernel⟩, List.mem_of_getElem? (i := 888) (by decide +kernel), List.mem_of_getElem? (i := 1038) (by decide +kernel), List.mem_of_getElem? (i := 1039) (by decide +kernel)⟩
theorem lw_p49 : lw_okq (⟨"ToldByWitnessesModel", "saysNow", "(II)I"⟩, 41) := ⟨⟨by decide +kernel, by decide +kernel⟩, List.mem_of_getElem? (i := 888) (by decide +kernel), List.mem_of_getElem? (i := 1052) (by decide +kernel), List.mem_of_getElem? (i := 1053) (by decide +kernel)⟩
theorem lw_p50 : lw_okq (⟨"ToldByWitnessesModel", "saysOf", "(IIII)I"⟩, 41) := ⟨⟨by decide +kernel, by decide +kernel⟩, List.mem_of_getElem? (i := 888) (by decide +kernel), List.mem_of_getElem? (i := 1056) (by decide +kernel), List.mem_of_getElem? (i := 1057) (by decide +kernel)⟩
theorem lw_p51 : lw_okq (⟨"ToldByWitnessesModel", "asks", "(IIIII)I"⟩, 41) := ⟨⟨by decide +kernel, by decide +kernel⟩, List.mem_of_getElem? (i := 888) (by decide +kernel), List.mem_of_getElem? (i := 1060) (by decide +kernel), List.mem_of_getElem? (i := 1061) (by decide +kernel)⟩
theorem lw_p52 : lw_okq (⟨"ToldByWitnessesModel", "read", "(II)I"⟩, 41) := ⟨⟨by decide +kernel, by decide +kernel⟩, List.mem_of_getElem? (i := 888) (by decide +kernel), List.mem_of_getElem? (i := 1067) (by decide +kernel), List.mem_of_getElem? (i := 1068) (by decide +kernel)⟩
theorem lw_p53 : lw_okq (⟨"ToldByWitnessesModel", "nextToken", "()V"⟩, 41) := ⟨⟨by decide +kernel, by decide +kernel⟩, List.mem_of_getElem? (i := 888) (by decide +kernel), List.mem_of_getElem? (i := 1071) (by decide +kernel), List.mem_of_getElem? (i := 1072) (by decide +kernel)⟩
theorem lw_p54 : lw_okq (⟨"ToldByWitnessesModel", "byteAt", "(I)I"⟩, 41) := ⟨⟨by decide +kernel, by decide +kernel⟩, List.mem_of_getElem? (i := 888) (by decide +kernel), List.mem_of_getElem? (i := 1075) (by decide +kernel), List.mem_of_getElem? (i := 1076) (by decide +kernel)⟩
theorem lw_p55 : lw_okq (⟨"ToldByWitnessesModel", "isWord", "(IIIIIIII)Z"⟩, 41) := ⟨⟨by decide +kernel, by decide +kernel⟩, List.mem_of_getElem? (i := 888) (by decide +kernel), List.mem_of_getElem? (i := 1083) (by decide +kernel), List.mem_of_getElem? (i := 1084) (by decide +kernel)⟩
theorem lw_p56 : lw_okq (⟨"ToldByWitnessesModel", "isLetter", "(II)Z"⟩, 41) := ⟨⟨by decide +kernel, by decide +kernel⟩, List.mem_of_getElem? (i := 888) (by decide +kernel), List.mem_of_getElem? (i := 1087) (by decide +kernel), List.mem_of_getElem? (i := 1088) (by decide +kernel)⟩
theorem lw_p57 : lw_okq (⟨"ToldByWitnessesModel", "part", "(Z)I"⟩, 41) := ⟨⟨by decide +kernel, by decide +kernel⟩, List.mem_of_getElem? (i := 888) (by decide +kernel), List.mem_of_getElem? (i := 1091) (by decide +kernel), List.mem_of_getElem? (i := 1092) (by decide +kernel)⟩
theorem lw_p58 : lw_okq (⟨"ToldByWitnessesModel", "fail", "()V"⟩, 41) := ⟨⟨by decide +kernel, by decide +kernel⟩, List.mem_of_getElem? (i := 888) (by decide +kernel), List.mem_of_getElem? (i := 1095) (by decide +kernel), List.mem_of_getElem? (i := 1096) (by decide +kernel)⟩
theorem lw_p59 : lw_okq (⟨"ToldByWitnessesModel", "either0", "()I"⟩, 41) := ⟨⟨by decide +kernel, by decide +kernel⟩, List.mem_of_getElem? (i := 888) (by decide +kernel), List.mem_of_getElem? (i := 1099) (by decide +kernel), List.mem_of_getElem? (i := 1100) (by decide +kernel)⟩
theorem lw_p60 : lw_okq (⟨"ToldByWitnessesModel", "both0", "()I"⟩, 41) := ⟨⟨by decide +kernel, by decide +kernel⟩, List.mem_of_getElem? (i := 888) (by decide +kernel), List.mem_of_getElem? (i := 1103) (by decide +kernel), List.mem_of_getElem? (i := 1104) (by decide +kernel)⟩
theorem lw_p61 : lw_okq (⟨"ToldByWitnessesModel", "not0", "()I"⟩, 41) := ⟨⟨by decide +kernel, by decide +kernel⟩, List.mem_of_getElem? (i := 888) (by decide +kernel), List.mem_of_getElem? (i := 1107) (by decide +kernel), List.mem_of_getElem? (i := 1108) (by decide +kernel)⟩
theorem lw_p62 : lw_okq (⟨"ToldByWitnessesModel", "opens", "()Z"⟩, 41) := ⟨⟨by decide +kernel, by decide +kernel⟩, List.mem_of_getElem? (i := 888) (by decide +kernel), List.mem_of_getElem? (i := 1111) (by decide +kernel), List.mem_of_getElem? (i := 1112) (by decide +kernel)⟩
theorem lw_p63 : lw_okq (⟨"ToldByWitnessesModel", "not1", "()I"⟩, 41) := ⟨⟨by decide +kernel, by decide +kernel⟩, List.mem_of_getElem? (i := 888) (by decide +kernel), List.mem_of_getElem? (i := 1115) (by decide +kernel), List.mem_of_getElem? (i := 1116) (by decide +kernel)⟩
def lw_privs_4 : List (MethodName × Nat) := [(⟨"ToldByWitnessesModel", "isWitness", "(I)Z"⟩, 41), (⟨"ToldByWitnessesModel", "saysNow", "(II)I"⟩, 41), (⟨"ToldByWitnessesModel", "saysOf", "(IIII)I"⟩, 41), (⟨"ToldByWitnessesModel", "asks", "(IIIII)I"⟩, 41), (⟨"ToldByWitnessesModel", "read", "(II)I"⟩, 41), (⟨"ToldByWitnessesModel", "nextToken", "()V"⟩, 41), (⟨"ToldByWitnessesModel", "byteAt", "(I)I"⟩, 41), (⟨"ToldByWitnessesModel", "isWord", "(IIIIIIII)Z"⟩, 41), (⟨"ToldByWitnessesModel", "isLetter", "(II)Z"⟩, 41), (⟨"ToldByWitnessesModel", "part", "(Z)I"⟩, 41), (⟨"ToldByWitnessesModel", "fail", "()V"⟩, 41), (⟨"ToldByWitnessesModel", "either0", "()I"⟩, 41), (⟨"ToldByWitnessesModel", "both0", "()I"⟩, 41), (⟨"ToldByWitnessesModel", "not0", "()I"⟩, 41), (⟨"ToldByWitnessesModel", "opens", "()Z"⟩, 41), (⟨"ToldByWitnessesModel", "not1", "()I"⟩, 41)]
theorem lw_r4 : ∀ q ∈ lw_privs_4, lw_okq q := List.forall_mem_cons.mpr ⟨lw_p48, List.forall_mem_cons.mpr ⟨lw_p49, List.forall_mem_cons.mpr ⟨lw_p50, List.forall_mem_cons.mpr ⟨lw_p51, List.forall_mem_cons.mpr ⟨lw_p52, List.forall_mem_cons.mpr ⟨lw_p53, List.forall_mem_cons.mpr ⟨lw_p54, List.forall_mem_cons.mpr ⟨lw_p55, List.forall_mem_cons.mpr ⟨lw_p56, List.forall_mem_cons.mpr ⟨lw_p57, List.forall_mem_cons.mpr ⟨lw_p58, List.forall_mem_cons.mpr ⟨lw_p59, List.forall_mem_cons.mpr ⟨lw_p60, List.forall_mem_cons.mpr ⟨lw_p61, List.forall_mem_cons.mpr ⟨lw_p62, List.forall_mem_cons.mpr ⟨lw_p63, fun _ h => absurd h List.not_mem_nil⟩⟩⟩⟩⟩⟩⟩⟩⟩⟩⟩⟩⟩⟩⟩⟩
theorem lw_p64 : lw_okq (⟨"ToldByWitnessesModel", "not2", "()I"⟩, 41) := ⟨⟨by decide +kernel, by decide +kernel⟩, List.mem_of_getElem? (i := 888) (by decide +kernel), List.mem_of_getElem? (i := 1119) (by decide +kernel), List.mem_of_getElem? (i := 1120) (by decide +kernel)⟩
theorem lw_p65 : lw_okq (⟨"ToldByWitnessesModel", "not3", "()I"⟩, 41) := ⟨⟨by decide +kernel, by decide +kernel⟩, List.mem_of_getElem? (i := 888) (by decide +kernel), List.mem_of_getElem? (i := 1123) (by decide +kernel), List.mem_of_getElem? (i := 1124) (by decide +kernel)⟩
theorem lw_p66 : lw_okq (⟨"ToldByWitnessesModel", "not4", "()I"⟩, 41) := ⟨⟨by decide +kernel, by decide +kernel⟩, List.mem_of_getElem? (i := 888) (by decide +kernel), List.mem_of_getElem? (i := 1127) (by decide +kernel), List.mem_of_getElem? (i := 1128) (by decide +kernel)⟩
theorem lw_p67 : lw_okq (⟨"ToldByWitnessesModel", "not5", "()I"⟩, 41) := ⟨⟨by decide +kernel, by decide +kernel⟩, List.mem_of_getElem? (i := 888) (by decide +kernel), List.mem_of_getElem? (i := 1131) (by decide +kernel), List.mem_of_getElem? (i := 1132) (by decide +kernel)⟩
theorem lw_p68 : lw_okq (⟨"ToldByWitnessesModel", "added5", "()I"⟩, 41) := ⟨⟨by decide +kernel, by decide +kernel⟩, List.mem_of_getElem? (i := 888) (by decide +kernel), List.mem_of_getElem? (i := 1135) (by decide +kernel), List.mem_of_getElem? (i := 1136) (by decide +kernel)⟩
theorem lw_p69 : lw_okq (⟨"ToldByWitnessesModel", "term5", "()I"⟩, 41) := ⟨⟨by decide +kernel, by decide +kernel⟩, List.mem_of_getElem? (i := 888) (by decide +kernel), List.mem_of_getElem? (i := 1139) (by decide +kernel), List.mem_of_getElem? (i := 1140) (by decide +kernel)⟩
theorem lw_p70 : lw_okq (⟨"ToldByWitnessesModel", "atom5", "()I"⟩, 41) := ⟨⟨by decide +kernel, by decide +kernel⟩, List.mem_of_getElem? (i := 888) (by decide +kernel), List.mem_of_getElem? (i := 1143) (by decide +kernel), List.mem_of_getElem? (i := 1144) (by decide +kernel)⟩
theorem lw_p71 : lw_okq (⟨"ToldByWitnessesModel", "isSign", "(I)Z"⟩, 41) := ⟨⟨by decide +kernel, by decide +kernel⟩, List.mem_of_getElem? (i := 888) (by decide +kernel), List.mem_of_getElem? (i := 1147) (by decide +kernel), List.mem_of_getElem? (i := 1148) (by decide +kernel)⟩
theorem lw_p72 : lw_okq (⟨"ToldByWitnessesModel", "name", "()I"⟩, 41) := ⟨⟨by decide +kernel, by decide +kernel⟩, List.mem_of_getElem? (i := 888) (by decide +kernel), List.mem_of_getElem? (i := 1151) (by decide +kernel), List.mem_of_getElem? (i := 1152) (by decide +kernel)⟩
theorem lw_p73 : lw_okq (⟨"ToldByWitnessesModel", "added4", "()I"⟩, 41) := ⟨⟨by decide +kernel, by decide +kernel⟩, List.mem_of_getElem? (i := 888) (by decide +kernel), List.mem_of_getElem? (i := 1157) (by decide +kernel), List.mem_of_getElem? (i := 1158) (by decide +kernel)⟩
theorem lw_p74 : lw_okq (⟨"ToldByWitnessesModel", "term4", "()I"⟩, 41) := ⟨⟨by decide +kernel, by decide +kernel⟩, List.mem_of_getElem? (i := 888) (by decide +kernel), List.mem_of_getElem? (i := 1161) (by decide +kernel), List.mem_of_getElem? (i := 1162) (by decide +kernel)⟩
theorem lw_p75 : lw_okq (⟨"ToldByWitnessesModel", "atom4", "()I"⟩, 41) := ⟨⟨by decide +kernel, by decide +kernel⟩, List.mem_of_getElem? (i := 888) (by decide +kernel), List.mem_of_getElem? (i := 1165) (by decide +kernel), List.mem_of_getElem? (i := 1166) (by decide +kernel)⟩
theorem lw_p76 : lw_okq (⟨"ToldByWitnessesModel", "either5", "()I"⟩, 41) := ⟨⟨by decide +kernel, by decide +kernel⟩, List.mem_of_getElem? (i := 888) (by decide +kernel), List.mem_of_getElem? (i := 1169) (by decide +kernel), List.mem_of_getElem? (i := 1170) (by decide +kernel)⟩
theorem lw_p77 : lw_okq (⟨"ToldByWitnessesModel", "both5", "()I"⟩, 41) := ⟨⟨by decide +kernel, by decide +kernel⟩, List.mem_of_getElem? (i := 888) (by decide +kernel), List.mem_of_getElem? (i := 1173) (by decide +kernel), List.mem_of_getElem? (i := 1174) (by decide +kernel)⟩
theorem lw_p78 : lw_okq (⟨"ToldByWitnessesModel", "added3", "()I"⟩, 41) := ⟨⟨by decide +kernel, by decide +kernel⟩, List.mem_of_getElem? (i := 888) (by decide +kernel), List.mem_of_getElem? (i := 1177) (by decide +kernel), List.mem_of_getElem? (i := 1178) (by decide +kernel)⟩
theorem lw_p79 : lw_okq (⟨"ToldByWitnessesModel", "term3", "()I"⟩, 41) := ⟨⟨by decide +kernel, by decide +kernel⟩, List.mem_of_getElem? (i := 888) (by decide +kernel), List.mem_of_getElem? (i := 1181) (by decide +kernel), List.mem_of_getElem? (i := 1182) (by decide +kernel)⟩
def lw_privs_5 : List (MethodName × Nat) := [(⟨"ToldByWitnessesModel", "not2", "()I"⟩, 41), (⟨"ToldByWitnessesModel", "not3", "()I"⟩, 41), (⟨"ToldByWitnessesModel", "not4", "()I"⟩, 41), (⟨"ToldByWitnessesModel", "not5", "()I"⟩, 41), (⟨"ToldByWitnessesModel", "added5", "()I"⟩, 41), (⟨"ToldByWitnessesModel", "term5", "()I"⟩, 41), (⟨"ToldByWitnessesModel", "atom5", "()I"⟩, 41), (⟨"ToldByWitnessesModel", "isSign", "(I)Z"⟩, 41), (⟨"ToldByWitnessesModel", "name", "()I"⟩, 41), (⟨"ToldByWitnessesModel", "added4", "()I"⟩, 41), (⟨"ToldByWitnessesModel", "term4", "()I"⟩, 41), (⟨"ToldByWitnessesModel", "atom4", "()I"⟩, 41), (⟨"ToldByWitnessesModel", "either5", "()I"⟩, 41), (⟨"ToldByWitnessesModel", "both5", "()I"⟩, 41), (⟨"ToldByWitnessesModel", "added3", "()I"⟩, 41), (⟨"ToldByWitnessesModel", "term3", "()I"⟩, 41)]
theorem lw_r5 : ∀ q ∈ lw_privs_5, lw_okq q := List.forall_mem_cons.mpr ⟨lw_p64, List.forall_mem_cons.mpr ⟨lw_p65, List.forall_mem_cons.mpr ⟨lw_p66, List.forall_mem_cons.mpr ⟨lw_p67, List.forall_mem_cons.mpr ⟨lw_p68, List.forall_mem_cons.mpr ⟨lw_p69, List.forall_mem_cons.mpr ⟨lw_p70, List.forall_mem_cons.mpr ⟨lw_p71, List.forall_mem_cons.mpr ⟨lw_p72, List.forall_mem_cons.mpr ⟨lw_p73, List.forall_mem_cons.mpr ⟨lw_p74, List.forall_mem_cons.mpr ⟨lw_p75, List.forall_mem_cons.mpr ⟨lw_p76, List.forall_mem_cons.mpr ⟨lw_p77, List.forall_mem_cons.mpr ⟨lw_p78, List.forall_mem_cons.mpr ⟨lw_p79, fun _ h => absurd h List.not_mem_nil⟩⟩⟩⟩⟩⟩⟩⟩⟩⟩⟩⟩⟩⟩⟩⟩
theorem lw_p80 : lw_okq (⟨"ToldByWitnessesModel", "atom3", "()I"⟩, 41) := ⟨⟨by decide +kernel, by decide +kernel⟩, List.mem_of_getElem? (i := 888) (by decide +kernel), List.mem_of_getElem? (i := 1185) (by decide +kernel), List.mem_of_getElem? (i := 1186) (by decide +kernel)⟩
theorem lw_p81 : lw_okq (⟨"ToldByWitnessesModel", "either4", "()I"⟩, 41) := ⟨⟨by decide +kernel, by decide +kernel⟩, List.mem_of_getElem? (i := 888) (by decide +kernel), List.mem_of_getElem? (i := 1189) (by decide +kernel), List.mem_of_getElem? (i := 1190) (by decide +kernel)⟩
theorem lw_p82 : lw_okq (⟨"ToldByWitnessesModel", "both4", "()I"⟩, 41) := ⟨⟨by decide +kernel, by decide +kernel⟩, List.mem_of_getElem? (i := 888) (by decide +kernel), List.mem_of_getElem? (i := 1193) (by decide +kernel), List.mem_of_getElem? (i := 1194) (by decide +kernel)⟩
theorem lw_p83 : lw_okq (⟨"ToldByWitnessesModel", "added2", "()I"⟩, 41) := ⟨⟨by decide +kernel, by decide +kernel⟩, List.mem_of_getElem? (i := 888) (by decide +kernel), List.mem_of_getElem? (i := 1197) (by decide +kernel), List.mem_of_getElem? (i := 1198) (by decide +kernel)⟩
theorem lw_p84 : lw_okq (⟨"ToldByWitnessesModel", "term2", "()I"⟩, 41) := ⟨⟨by decide +kernel, by decide +kernel⟩, List.mem_of_getElem? (i := 888) (by decide +kernel), List.mem_of_getElem? (i := 1201) (by decide +kernel), List.mem_of_getElem? (i := 1202) (by decide +kernel)⟩
theorem lw_p85 : lw_okq (⟨"ToldByWitnessesModel", "atom2", "()I"⟩, 41) := ⟨⟨by decide +kernel, by decide +kernel⟩, List.mem_of_getElem? (i := 888) (by decide +kernel), List.mem_of_getElem? (i := 1205) (by decide +kernel), List.mem_of_getElem? (i := 1206) (by decide +kernel)⟩
theorem lw_p86 : lw_okq (⟨"ToldByWitnessesModel", "either3", "()I"⟩, 41) := ⟨⟨by decide +kernel, by decide +kernel⟩, List.mem_of_getElem? (i := 888) (by decide +kernel), List.mem_of_getElem? (i := 1209) (by decide +kernel), List.mem_of_getElem? (i := 1210) (by decide +kernel)⟩
theorem lw_p87 : lw_okq (⟨"ToldByWitnessesModel", "both3", "()I"⟩, 41) := ⟨⟨by decide +kernel, by decide +kernel⟩, List.mem_of_getElem? (i := 888) (by decide +kernel), List.mem_of_getElem? (i := 1213) (by decide +kernel), List.mem_of_getElem? (i := 1214) (by decide +kernel)⟩
theorem lw_p88 : lw_okq (⟨"ToldByWitnessesModel", "added1", "()I"⟩, 41) := ⟨⟨by decide +kernel, by decide +kernel⟩, List.mem_of_getElem? (i := 888) (by decide +kernel), List.mem_of_getElem? (i := 1217) (by decide +kernel), List.mem_of_getElem? (i := 1218) (by decide +kernel)⟩
theorem lw_p89 : lw_okq (⟨"ToldByWitnessesModel", "term1", "()I"⟩, 41) := ⟨⟨by decide +kernel, by decide +kernel⟩, List.mem_of_getElem? (i := 888) (by decide +kernel), List.mem_of_getElem? (i := 1221) (by decide +kernel), List.mem_of_getElem? (i := 1222) (by decide +kernel)⟩
theorem lw_p90 : lw_okq (⟨"ToldByWitnessesModel", "atom1", "()I"⟩, 41) := ⟨⟨by decide +kernel, by decide +kernel⟩, List.mem_of_getElem? (i := 888) (by decide +kernel), List.mem_of_getElem? (i := 1225) (by decide +kernel), List.mem_of_getElem? (i := 1226) (by decide +kernel)⟩
theorem lw_p91 : lw_okq (⟨"ToldByWitnessesModel", "either2", "()I"⟩, 41) := ⟨⟨by decide +kernel, by decide +kernel⟩, List.mem_of_getElem? (i := 888) (by decide +kernel), List.mem_of_getElem? (i := 1229) (by decide +kernel), List.mem_of_getElem? (i := 1230) (by decide +kernel)⟩
theorem lw_p92 : lw_okq (⟨"ToldByWitnessesModel", "both2", "()I"⟩, 41) := ⟨⟨by decide +kernel, by decide +kernel⟩, List.mem_of_getElem? (i := 888) (by decide +kernel), List.mem_of_getElem? (i := 1233) (by decide +kernel), List.mem_of_getElem? (i := 1234) (by decide +kernel)⟩
theorem lw_p93 : lw_okq (⟨"ToldByWitnessesModel", "added0", "()I"⟩, 41) := ⟨⟨by decide +kernel, by decide +kernel⟩, List.mem_of_getElem? (i := 888) (by decide +kernel), List.mem_of_getElem? (i := 1237) (by decide +kernel), List.mem_of_getElem? (i := 1238) (by decide +kernel)⟩
theorem lw_p94 : lw_okq (⟨"ToldByWitnessesModel", "term0", "()I"⟩, 41) := ⟨⟨by decide +kernel, by decide +kernel⟩, List.mem_of_getElem? (i := 888) (by decide +kernel), List.mem_of_getElem? (i := 1241) (by decide +kernel), List.mem_of_getElem? (i := 1242) (by decide +kernel)⟩
theorem lw_p95 : lw_okq (⟨"ToldByWitnessesModel", "atom0", "()I"⟩, 41) := ⟨⟨by decide +kernel, by decide +kernel⟩, List.mem_of_getElem? (i := 888) (by decide +kernel), List.mem_of_getElem? (i := 1245) (by decide +kernel), List.mem_of_getElem? (i := 1246) (by decide +kernel)⟩
def lw_privs_6 : List (MethodName × Nat) := [(⟨"ToldByWitnessesModel", "atom3", "()I"⟩, 41), (⟨"ToldByWitnessesModel", "either4", "()I"⟩, 41), (⟨"ToldByWitnessesModel", "both4", "()I"⟩, 41), (⟨"ToldByWitnessesModel", "added2", "()I"⟩, 41), (⟨"ToldByWitnessesModel", "term2", "()I"⟩, 41), (⟨"ToldByWitnessesModel", "atom2", "()I"⟩, 41), (⟨"ToldByWitnessesModel", "either3", "()I"⟩, 41), (⟨"ToldByWitnessesModel", "both3", "()I"⟩, 41), (⟨"ToldByWitnessesModel", "added1", "()I"⟩, 41), (⟨"ToldByWitnessesModel", "term1", "()I"⟩, 41), (⟨"ToldByWitnessesModel", "atom1", "()I"⟩, 41), (⟨"ToldByWitnessesModel", "either2", "()I"⟩, 41), (⟨"ToldByWitnessesModel", "both2", "()I"⟩, 41), (⟨"ToldByWitnessesModel", "added0", "()I"⟩, 41), (⟨"ToldByWitnessesModel", "term0", "()I"⟩, 41), (⟨"ToldByWitnessesModel", "atom0", "()I"⟩, 41)]
theorem lw_r6 : ∀ q ∈ lw_privs_6, lw_okq q := List.forall_mem_cons.mpr ⟨lw_p80, List.forall_mem_cons.mpr ⟨lw_p81, List.forall_mem_cons.mpr ⟨lw_p82, List.forall_mem_cons.mpr ⟨lw_p83, List.forall_mem_cons.mpr ⟨lw_p84, List.forall_mem_cons.mpr ⟨lw_p85, List.forall_mem_cons.mpr ⟨lw_p86, List.forall_mem_cons.mpr ⟨lw_p87, List.forall_mem_cons.mpr ⟨lw_p88, List.forall_mem_cons.mpr ⟨lw_p89, List.forall_mem_cons.mpr ⟨lw_p90, List.forall_mem_cons.mpr ⟨lw_p91, List.forall_mem_cons.mpr ⟨lw_p92, List.forall_mem_cons.mpr ⟨lw_p93, List.forall_mem_cons.mpr ⟨lw_p94, List.forall_mem_cons.mpr ⟨lw_p95, fun _ h => absurd h List.not_mem_nil⟩⟩⟩⟩⟩⟩⟩⟩⟩⟩⟩⟩⟩⟩⟩⟩
theorem lw_p96 : lw_okq (⟨"ToldByWitnessesModel", "either1", "()I"⟩, 41) := ⟨⟨by decide +kernel, by decide +kernel⟩, List.mem_of_getElem? (i := 888) (by decide +kernel), List.mem_of_getElem? (i := 1249) (by decide +kernel), List.mem_of_getElem? (i := 1250) (by decide +kernel)⟩
theorem lw_p97 : lw_okq (⟨"ToldByWitnessesModel", "both1", "()I"⟩, 41) := ⟨⟨by decide +kernel, by decide +kernel⟩, List.mem_of_getElem? (i := 888) (by decide +kernel), List.mem_of_getElem? (i := 1253) (by decide +kernel), List.mem_of_getElem? (i := 1254) (by decide +kernel)⟩
theorem lw_p98 : lw_okq (⟨"ToldByWitnessesModel", "costsOf", "(I)I"⟩, 41) := ⟨⟨by decide +kernel, by decide +kernel⟩, List.mem_of_getElem? (i := 888) (by decide +kernel), List.mem_of_getElem? (i := 1260) (by decide +kernel), List.mem_of_getElem? (i := 1261) (by decide +kernel)⟩
theorem lw_p99 : lw_okq (⟨"ToldByWitnessesModel", "lays", "(III)V"⟩, 41) := ⟨⟨by decide +kernel, by decide +kernel⟩, List.mem_of_getElem? (i := 888) (by decide +kernel), List.mem_of_getElem? (i := 1264) (by decide +kernel), List.mem_of_getElem? (i := 1265) (by decide +kernel)⟩
theorem lw_p100 : lw_okq (⟨"ToldByWitnessesModel", "gathers", "()V"⟩, 41) := ⟨⟨by decide +kernel, by decide +kernel⟩, List.mem_of_getElem? (i := 888) (by decide +kernel), List.mem_of_getElem? (i := 1293) (by decide +kernel), List.mem_of_getElem? (i := 1294) (by decide +kernel)⟩
theorem lw_p101 : lw_okq (⟨"ToldByWitnessesModel", "tables", "()V"⟩, 41) := ⟨⟨by decide +kernel, by decide +kernel⟩, List.mem_of_getElem? (i := 888) (by decide +kernel), List.mem_of_getElem? (i := 1297) (by decide +kernel), List.mem_of_getElem? (i := 1298) (by decide +kernel)⟩
theorem lw_p102 : lw_okq (⟨"ToldByWitnessesModel", "lifeNow", "()I"⟩, 41) := ⟨⟨by decide +kernel, by decide +kernel⟩, List.mem_of_getElem? (i := 888) (by decide +kernel), List.mem_of_getElem? (i := 1304) (by decide +kernel), List.mem_of_getElem? (i := 1305) (by decide +kernel)⟩
theorem lw_p103 : lw_okq (⟨"ToldByWitnessesModel", "saysBy", "(III)I"⟩, 41) := ⟨⟨by decide +kernel, by decide +kernel⟩, List.mem_of_getElem? (i := 888) (by decide +kernel), List.mem_of_getElem? (i := 1308) (by decide +kernel), List.mem_of_getElem? (i := 1309) (by decide +kernel)⟩
theorem lw_p104 : lw_okq (⟨"ToldByWitnessesModel", "sentSet", "()I"⟩, 41) := ⟨⟨by decide +kernel, by decide +kernel⟩, List.mem_of_getElem? (i := 888) (by decide +kernel), List.mem_of_getElem? (i := 1318) (by decide +kernel), List.mem_of_getElem? (i := 1319) (by decide +kernel)⟩
theorem lw_p105 : lw_okq (⟨"ToldByWitnessesModel", "livesBy", "(I)I"⟩, 41) := ⟨⟨by decide +kernel, by decide +kernel⟩, List.mem_of_getElem? (i := 888) (by decide +kernel), List.mem_of_getElem? (i := 1322) (by decide +kernel), List.mem_of_getElem? (i := 1323) (by decide +kernel)⟩
theorem lw_p106 : lw_okq (⟨"ToldByWitnessesModel", "sure", "()I"⟩, 41) := ⟨⟨by decide +kernel, by decide +kernel⟩, List.mem_of_getElem? (i := 888) (by decide +kernel), List.mem_of_getElem? (i := 1326) (by decide +kernel), List.mem_of_getElem? (i := 1327) (by decide +kernel)⟩
theorem lw_p107 : lw_okq (⟨"ToldByWitnessesModel", "canBeBy", "(II)I"⟩, 41) := ⟨⟨by decide +kernel, by decide +kernel⟩, List.mem_of_getElem? (i := 888) (by decide +kernel), List.mem_of_getElem? (i := 1330) (by decide +kernel), List.mem_of_getElem? (i := 1331) (by decide +kernel)⟩
theorem lw_p108 : lw_okq (⟨"ToldByWitnessesModel", "tellsValues", "(I)V"⟩, 41) := ⟨⟨by decide +kernel, by decide +kernel⟩, List.mem_of_getElem? (i := 888) (by decide +kernel), List.mem_of_getElem? (i := 1334) (by decide +kernel), List.mem_of_getElem? (i := 1335) (by decide +kernel)⟩
theorem lw_p109 : lw_okq (⟨"ToldByWitnessesModel", "valueOf", "(I)I"⟩, 41) := ⟨⟨by decide +kernel, by decide +kernel⟩, List.mem_of_getElem? (i := 888) (by decide +kernel), List.mem_of_getElem? (i := 1338) (by decide +kernel), List.mem_of_getElem? (i := 1339) (by decide +kernel)⟩
theorem lw_p110 : lw_okq (⟨"ToldByWitnessesModel", "costsBy", "(I)I"⟩, 41) := ⟨⟨by decide +kernel, by decide +kernel⟩, List.mem_of_getElem? (i := 888) (by decide +kernel), List.mem_of_getElem? (i := 1342) (by decide +kernel), List.mem_of_getElem? (i := 1343) (by decide +kernel)⟩
theorem lw_p111 : lw_okq (⟨"ToldByWitnessesModel", "worstBy", "(II)I"⟩, 41) := ⟨⟨by decide +kernel, by decide +kernel⟩, List.mem_of_getElem? (i := 888) (by decide +kernel), List.mem_of_getElem? (i := 1369) (by decide +kernel), List.mem_of_getElem? (i := 1370) (by decide +kernel)⟩
def lw_privs_7 : List (MethodName × Nat) := [(⟨"ToldByWitnessesModel", "either1", "()I"⟩, 41), (⟨"ToldByWitnessesModel", "both1", "()I"⟩, 41), (⟨"ToldByWitnessesModel", "costsOf", "(I)I"⟩, 41), (⟨"ToldByWitnessesModel", "lays", "(III)V"⟩, 41), (⟨"ToldByWitnessesModel", "gathers", "()V"⟩, 41), (⟨"ToldByWitnessesModel", "tables", "()V"⟩, 41), (⟨"ToldByWitnessesModel", "lifeNow", "()I"⟩, 41), (⟨"ToldByWitnessesModel", "saysBy", "(III)I"⟩, 41), (⟨"ToldByWitnessesModel", "sentSet", "()I"⟩, 41), (⟨"ToldByWitnessesModel", "livesBy", "(I)I"⟩, 41), (⟨"ToldByWitnessesModel", "sure", "()I"⟩, 41), (⟨"ToldByWitnessesModel", "canBeBy", "(II)I"⟩, 41), (⟨"ToldByWitnessesModel", "tellsValues", "(I)V"⟩, 41), (⟨"ToldByWitnessesModel", "valueOf", "(I)I"⟩, 41), (⟨"ToldByWitnessesModel", "costsBy", "(I)I"⟩, 41), (⟨"ToldByWitnessesModel", "worstBy", "(II)I"⟩, 41)]
theorem lw_r7 : ∀ q ∈ lw_privs_7, lw_okq q := List.forall_mem_cons.mpr ⟨lw_p96, List.forall_mem_cons.mpr ⟨lw_p97, List.forall_mem_cons.mpr ⟨lw_p98, List.forall_mem_cons.mpr ⟨lw_p99, List.forall_mem_cons.mpr ⟨lw_p100, List.forall_mem_cons.mpr ⟨lw_p101, List.forall_mem_cons.mpr ⟨lw_p102, List.forall_mem_cons.mpr ⟨lw_p103, List.forall_mem_cons.mpr ⟨lw_p104, List.forall_mem_cons.mpr ⟨lw_p105, List.forall_mem_cons.mpr ⟨lw_p106, List.forall_mem_cons.mpr ⟨lw_p107, List.forall_mem_cons.mpr ⟨lw_p108, List.forall_mem_cons.mpr ⟨lw_p109, List.forall_mem_cons.mpr ⟨lw_p110, List.forall_mem_cons.mpr ⟨lw_p111, fun _ h => absurd h List.not_mem_nil⟩⟩⟩⟩⟩⟩⟩⟩⟩⟩⟩⟩⟩⟩⟩⟩
theorem lw_p112 : lw_okq (⟨"ToldByWitnessesModel", "sorts1", "(I)V"⟩, 41) := ⟨⟨by decide +kernel, by decide +kernel⟩, List.mem_of_getElem? (i := 888) (by decide +kernel), List.mem_of_getElem? (i := 1373) (by decide +kernel), List.mem_of_getElem? (i := 1374) (by decide +kernel)⟩
theorem lw_p113 : lw_okq (⟨"ToldByWitnessesModel", "sinks", "(II)V"⟩, 41) := ⟨⟨by decide +kernel, by decide +kernel⟩, List.mem_of_getElem? (i := 888) (by decide +kernel), List.mem_of_getElem? (i := 1377) (by decide +kernel), List.mem_of_getElem? (i := 1378) (by decide +kernel)⟩
theorem lw_p114 : lw_okq (⟨"ToldByWitnessesModel", "firstOther", "(II)I"⟩, 41) := ⟨⟨by decide +kernel, by decide +kernel⟩, List.mem_of_getElem? (i := 888) (by decide +kernel), List.mem_of_getElem? (i := 1398) (by decide +kernel), List.mem_of_getElem? (i := 1399) (by decide +kernel)⟩
theorem lw_p115 : lw_okq (⟨"ToldByWitnessesModel", "livesTold", "(IIZ)I"⟩, 41) := ⟨⟨by decide +kernel, by decide +kernel⟩, List.mem_of_getElem? (i := 888) (by decide +kernel), List.mem_of_getElem? (i := 1402) (by decide +kernel), List.mem_of_getElem? (i := 1403) (by decide +kernel)⟩
theorem lw_p116 : lw_okq (⟨"ToldByWitnessesModel", "draws", "(I)V"⟩, 41) := ⟨⟨by decide +kernel, by decide +kernel⟩, List.mem_of_getElem? (i := 888) (by decide +kernel), List.mem_of_getElem? (i := 1420) (by decide +kernel), List.mem_of_getElem? (i := 1421) (by decide +kernel)⟩
theorem lw_p117 : lw_okq (⟨"ToldByWitnessesModel", "laysBack", "()V"⟩, 41) := ⟨⟨by decide +kernel, by decide +kernel⟩, List.mem_of_getElem? (i := 888) (by decide +kernel), List.mem_of_getElem? (i := 1425) (by decide +kernel), List.mem_of_getElem? (i := 1426) (by decide +kernel)⟩
def lw_privs_8 : List (MethodName × Nat) := [(⟨"ToldByWitnessesModel", "sorts1", "(I)V"⟩, 41), (⟨"ToldByWitnessesModel", "sinks", "(II)V"⟩, 41), (⟨"ToldByWitnessesModel", "firstOther", "(II)I"⟩, 41), (⟨"ToldByWitnessesModel", "livesTold", "(IIZ)I"⟩, 41), (⟨"ToldByWitnessesModel", "draws", "(I)V"⟩, 41), (⟨"ToldByWitnessesModel", "laysBack", "()V"⟩, 41)]
theorem lw_r8 : ∀ q ∈ lw_privs_8, lw_okq q := List.forall_mem_cons.mpr ⟨lw_p112, List.forall_mem_cons.mpr ⟨lw_p113, List.forall_mem_cons.mpr ⟨lw_p114, List.forall_mem_cons.mpr ⟨lw_p115, List.forall_mem_cons.mpr ⟨lw_p116, List.forall_mem_cons.mpr ⟨lw_p117, fun _ h => absurd h List.not_mem_nil⟩⟩⟩⟩⟩⟩
def lw_privs : List (MethodName × Nat) := lw_privs_1 ++ (lw_privs_2 ++ (lw_privs_3 ++ (lw_privs_4 ++ (lw_privs_5 ++ (lw_privs_6 ++ (lw_privs_7 ++ (lw_privs_8)))))))
def lw_tbl : List Cond := k2_sels lw_privs ++ tables_1
theorem lw_privs_ok : ∀ q ∈ lw_privs, lw_okq q := by
  show ∀ q ∈ lw_privs_1 ++ (lw_privs_2 ++ (lw_privs_3 ++ (lw_privs_4 ++ (lw_privs_5 ++ (lw_privs_6 ++ (lw_privs_7 ++ (lw_privs_8))))))), lw_okq q
  exact List.forall_mem_append.mpr ⟨lw_r1, List.forall_mem_append.mpr ⟨lw_r2, List.forall_mem_append.mpr ⟨lw_r3, List.forall_mem_append.mpr ⟨lw_r4, List.forall_mem_append.mpr ⟨lw_r5, List.forall_mem_append.mpr ⟨lw_r6, List.forall_mem_append.mpr ⟨lw_r7, lw_r8⟩⟩⟩⟩⟩⟩⟩
-- ===== end of PART A =====
def RX0 : String := "ToldByWitnesses$Image"
def TX0 : u_T := fun k => match k with
  | 0 => ("ToldByWitnesses$Image", "stands", "Z", false)
  | 1 => ("ToldByWitnesses$Image", "age", "I", false)
  | 2 => ("ToldByWitnesses$Image", "rule", "I", false)
  | 3 => ("ToldByWitnesses$Image", "count", "I", false)
  | 4 => ("ToldByWitnesses$Image", "doings", "[I", true)
  | 5 => ("ToldByWitnesses$Image", "numbers", "[I", true)
  | 6 => ("ToldByWitnesses$Image", "saw", "[I", true)
  | _ => ("ToldByWitnesses$Image", "sent", "[I", true)
def tyX0 : Nat → FieldType := fun k => match k with
  | 0 => .boolean
  | 1 => .int
  | 2 => .int
  | 3 => .int
  | 4 => .array .int
  | 5 => .array .int
  | 6 => .array .int
  | _ => .array .int
abbrev wsX00 : List Cond := u_ws RX0 TX0 8
theorem nmX0 : ∀ a, a < 8 → ∀ b, b < 8 → a ≠ b → (TX0 a).2.1 ≠ (TX0 b).2.1 := by decide +kernel
theorem tyX0_ok : ∀ k, k < 8 → parseFieldDescriptor (TX0 k).2.2.1 = some (tyX0 k) := by decide +kernel
abbrev cX0_init : ByteArray := prog_2_method_1_code
def yX0_init : MethodName := ⟨RX0, "<init>", "()V"⟩
abbrev cX0_keep : ByteArray := prog_2_method_2_code
def yX0_keep : MethodName := ⟨RX0, "keep", "([III[LToldByWitnesses$Witness;I)V"⟩
abbrev cX0_giveBack : ByteArray := prog_2_method_3_code
def yX0_giveBack : MethodName := ⟨RX0, "giveBack", "([I[LToldByWitnesses$Witness;)V"⟩
def RX1 : String := "ToldByWitnesses$Kinds"
def TX1 : u_T := fun k => match k with
  | _ => ("", "", "", false)
def tyX1 : Nat → FieldType := fun k => match k with
  | _ => .int
abbrev wsX10 : List Cond := u_ws RX1 TX1 0
theorem nmX1 : ∀ a, a < 0 → ∀ b, b < 0 → a ≠ b → (TX1 a).2.1 ≠ (TX1 b).2.1 := by decide +kernel
theorem tyX1_ok : ∀ k, k < 0 → parseFieldDescriptor (TX1 k).2.2.1 = some (tyX1 k) := by decide +kernel
abbrev cX1_isKind : ByteArray := prog_3_method_2_code
def yX1_isKind : MethodName := ⟨RX1, "isKind", "(I)Z"⟩
abbrev cX1_isUnder : ByteArray := prog_3_method_3_code
def yX1_isUnder : MethodName := ⟨RX1, "isUnder", "(II)Z"⟩
abbrev cX1_telling : ByteArray := prog_3_method_4_code
def yX1_telling : MethodName := ⟨RX1, "telling", "(LToldByWitnesses$Text;LToldByWitnesses$Names;II)I"⟩
abbrev cX1_roughly : ByteArray := prog_3_method_5_code
def yX1_roughly : MethodName := ⟨RX1, "roughly", "(I)I"⟩
abbrev cX1_price : ByteArray := prog_3_method_6_code
def yX1_price : MethodName := ⟨RX1, "price", "(III)I"⟩
def RX2 : String := "ToldByWitnesses$Lives"
def TX2 : u_T := fun k => match k with
  | 0 => ("ToldByWitnesses$Lives", "alike", "[I", true)
  | 1 => ("ToldByWitnesses$Lives", "ways", "[I", true)
  | 2 => ("ToldByWitnesses$Lives", "most", "[I", true)
  | 3 => ("ToldByWitnesses$Lives", "heads", "[I", true)
  | _ => ("ToldByWitnesses$Lives", "found", "I", false)
def tyX2 : Nat → FieldType := fun k => match k with
  | 0 => .array .int
  | 1 => .array .int
  | 2 => .array .int
  | 3 => .array .int
  | _ => .int
abbrev wsX20 : List Cond := u_ws RX2 TX2 5
theorem nmX2 : ∀ a, a < 5 → ∀ b, b < 5 → a ≠ b → (TX2 a).2.1 ≠ (TX2 b).2.1 := by decide +kernel
theorem tyX2_ok : ∀ k, k < 5 → parseFieldDescriptor (TX2 k).2.2.1 = some (tyX2 k) := by decide +kernel
abbrev cX2_init : ByteArray := prog_4_method_1_code
def yX2_init : MethodName := ⟨RX2, "<init>", "()V"⟩
abbrev cX2_forget : ByteArray := prog_4_method_2_code
def yX2_forget : MethodName := ⟨RX2, "forget", "()V"⟩
abbrev cX2_markAlike : ByteArray := prog_4_method_3_code
def yX2_markAlike : MethodName := ⟨RX2, "markAlike", "([I[II)V"⟩
abbrev cX2_markStep : ByteArray := prog_4_method_4_code
def yX2_markStep : MethodName := ⟨RX2, "markStep", "([IIII)V"⟩
abbrev cX2_spot : ByteArray := prog_4_method_5_code
def yX2_spot : MethodName := ⟨RX2, "spot", "(II)I"⟩
abbrev cX2_fits : ByteArray := prog_4_method_6_code
def yX2_fits : MethodName := ⟨RX2, "fits", "(IIII)Z"⟩
abbrev cX2_waysBy : ByteArray := prog_4_method_7_code
def yX2_waysBy : MethodName := ⟨RX2, "waysBy", "(IIII)I"⟩
abbrev cX2_fitting : ByteArray := prog_4_method_8_code
def yX2_fitting : MethodName := ⟨RX2, "fitting", "(I)I"⟩
abbrev cX2_endWithOnes : ByteArray := prog_4_method_9_code
def yX2_endWithOnes : MethodName := ⟨RX2, "endWithOnes", "([I)V"⟩
abbrev cX2_doingsAt : ByteArray := prog_4_method_10_code
def yX2_doingsAt : MethodName := ⟨RX2, "doingsAt", "(II)I"⟩
abbrev cX2_sureSteps : ByteArray := prog_4_method_11_code
def yX2_sureSteps : MethodName := ⟨RX2, "sureSteps", "(I)I"⟩
abbrev cX2_doingsBehind : ByteArray := prog_4_method_12_code
def yX2_doingsBehind : MethodName := ⟨RX2, "doingsBehind", "(III)I"⟩
abbrev cX2_digitsOf : ByteArray := prog_4_method_13_code
def yX2_digitsOf : MethodName := ⟨RX2, "digitsOf", "(II)I"⟩
abbrev cX2_mostWeight : ByteArray := prog_4_method_14_code
def yX2_mostWeight : MethodName := ⟨RX2, "mostWeight", "(I[I)I"⟩
abbrev cX2_digitsOfMost : ByteArray := prog_4_method_15_code
def yX2_digitsOfMost : MethodName := ⟨RX2, "digitsOfMost", "(I[I)I"⟩
abbrev cX2_weightBy : ByteArray := prog_4_method_16_code
def yX2_weightBy : MethodName := ⟨RX2, "weightBy", "(III[I)I"⟩
abbrev cX2_heaviest : ByteArray := prog_4_method_17_code
def yX2_heaviest : MethodName := ⟨RX2, "heaviest", "(III[I)I"⟩
abbrev cX2_mostToldAlike : ByteArray := prog_4_method_18_code
def yX2_mostToldAlike : MethodName := ⟨RX2, "mostToldAlike", "(I[I)I"⟩
abbrev cX2_fillBounds : ByteArray := prog_4_method_19_code
def yX2_fillBounds : MethodName := ⟨RX2, "fillBounds", "(I[I)V"⟩
abbrev cX2_boundBy : ByteArray := prog_4_method_20_code
def yX2_boundBy : MethodName := ⟨RX2, "boundBy", "(I[III)I"⟩
abbrev cX2_isTold : ByteArray := prog_4_method_21_code
def yX2_isTold : MethodName := ⟨RX2, "isTold", "(I[IIII)Z"⟩
abbrev cX2_follow : ByteArray := prog_4_method_22_code
def yX2_follow : MethodName := ⟨RX2, "follow", "(I[II)V"⟩
abbrev cX2_reach : ByteArray := prog_4_method_23_code
def yX2_reach : MethodName := ⟨RX2, "reach", "(I[III)V"⟩
abbrev cX2_spread : ByteArray := prog_4_method_24_code
def yX2_spread : MethodName := ⟨RX2, "spread", "(I[III)I"⟩
def RX3 : String := "ToldByWitnesses$Names"
def TX3 : u_T := fun k => match k with
  | 0 => ("ToldByWitnesses$Names", "stack", "[I", true)
  | 1 => ("ToldByWitnesses$Names", "doing", "I", false)
  | 2 => ("ToldByWitnesses$Names", "step", "I", false)
  | 3 => ("ToldByWitnesses$Names", "number", "I", false)
  | 4 => ("ToldByWitnesses$Names", "last", "I", false)
  | 5 => ("ToldByWitnesses$Names", "seen", "I", false)
  | _ => ("ToldByWitnesses$Names", "age", "I", false)
def tyX3 : Nat → FieldType := fun k => match k with
  | 0 => .array .int
  | 1 => .int
  | 2 => .int
  | 3 => .int
  | 4 => .int
  | 5 => .int
  | _ => .int
abbrev wsX30 : List Cond := u_ws RX3 TX3 7
theorem nmX3 : ∀ a, a < 7 → ∀ b, b < 7 → a ≠ b → (TX3 a).2.1 ≠ (TX3 b).2.1 := by decide +kernel
theorem tyX3_ok : ∀ k, k < 7 → parseFieldDescriptor (TX3 k).2.2.1 = some (tyX3 k) := by decide +kernel
abbrev cX3_init : ByteArray := prog_5_method_1_code
def yX3_init : MethodName := ⟨RX3, "<init>", "()V"⟩
abbrev cX3_ofWitness : ByteArray := prog_5_method_2_code
def yX3_ofWitness : MethodName := ⟨RX3, "ofWitness", "(II)V"⟩
abbrev cX3_ofStep : ByteArray := prog_5_method_3_code
def yX3_ofStep : MethodName := ⟨RX3, "ofStep", "(IIII)V"⟩
abbrev cX3_named : ByteArray := prog_5_method_4_code
def yX3_named : MethodName := ⟨RX3, "named", "(I)I"⟩
def RX4 : String := "ToldByWitnesses$Reader"
def TX4 : u_T := fun k => match k with
  | 0 => ("ToldByWitnesses$Reader", "signs", "[I", true)
  | 1 => ("ToldByWitnesses$Reader", "places", "[I", true)
  | 2 => ("ToldByWitnesses$Reader", "code", "[I", true)
  | 3 => ("ToldByWitnesses$Reader", "ends", "[I", true)
  | 4 => ("ToldByWitnesses$Reader", "at", "I", false)
  | _ => ("ToldByWitnesses$Reader", "size", "I", false)
def tyX4 : Nat → FieldType := fun k => match k with
  | 0 => .array .int
  | 1 => .array .int
  | 2 => .array .int
  | 3 => .array .int
  | 4 => .int
  | _ => .int
abbrev wsX40 : List Cond := u_ws RX4 TX4 6
theorem nmX4 : ∀ a, a < 6 → ∀ b, b < 6 → a ≠ b → (TX4 a).2.1 ≠ (TX4 b).2.1 := by decide +kernel
theorem tyX4_ok : ∀ k, k < 6 → parseFieldDescriptor (TX4 k).2.2.1 = some (tyX4 k) := by decide +kernel
abbrev cX4_init : ByteArray := prog_6_method_1_code
def yX4_init : MethodName := ⟨RX4, "<init>", "()V"⟩
abbrev cX4_faultOf : ByteArray := prog_6_method_2_code
def yX4_faultOf : MethodName := ⟨RX4, "faultOf", "([II)I"⟩
abbrev cX4_textRead : ByteArray := prog_6_method_3_code
def yX4_textRead : MethodName := ⟨RX4, "textRead", "()LToldByWitnesses$Text;"⟩
abbrev cX4_scan : ByteArray := prog_6_method_4_code
def yX4_scan : MethodName := ⟨RX4, "scan", "([II)V"⟩
abbrev cX4_behindBlanks : ByteArray := prog_6_method_5_code
def yX4_behindBlanks : MethodName := ⟨RX4, "behindBlanks", "([III)I"⟩
abbrev cX4_behindToken : ByteArray := prog_6_method_6_code
def yX4_behindToken : MethodName := ⟨RX4, "behindToken", "([III)I"⟩
abbrev cX4_sortOf : ByteArray := prog_6_method_7_code
def yX4_sortOf : MethodName := ⟨RX4, "sortOf", "(I)I"⟩
abbrev cX4_signBetween : ByteArray := prog_6_method_8_code
def yX4_signBetween : MethodName := ⟨RX4, "signBetween", "([III)I"⟩
abbrev cX4_numberBetween : ByteArray := prog_6_method_9_code
def yX4_numberBetween : MethodName := ⟨RX4, "numberBetween", "([III)I"⟩
abbrev cX4_wordBetween : ByteArray := prog_6_method_10_code
def yX4_wordBetween : MethodName := ⟨RX4, "wordBetween", "([III)I"⟩
abbrev cX4_nameBetween : ByteArray := prog_6_method_11_code
def yX4_nameBetween : MethodName := ⟨RX4, "nameBetween", "([III)I"⟩
abbrev cX4_stands : ByteArray := prog_6_method_12_code
def yX4_stands : MethodName := ⟨RX4, "stands", "(Ljava/lang/String;[III)Z"⟩
abbrev cX4_sign : ByteArray := prog_6_method_13_code
def yX4_sign : MethodName := ⟨RX4, "sign", "()I"⟩
abbrev cX4_take : ByteArray := prog_6_method_14_code
def yX4_take : MethodName := ⟨RX4, "take", "(I)Z"⟩
abbrev cX4_emit : ByteArray := prog_6_method_15_code
def yX4_emit : MethodName := ⟨RX4, "emit", "(I)Z"⟩
abbrev cX4_readPart : ByteArray := prog_6_method_16_code
def yX4_readPart : MethodName := ⟨RX4, "readPart", "(II)Z"⟩
abbrev cX4_readChain : ByteArray := prog_6_method_17_code
def yX4_readChain : MethodName := ⟨RX4, "readChain", "(II)Z"⟩
abbrev cX4_joins : ByteArray := prog_6_method_18_code
def yX4_joins : MethodName := ⟨RX4, "joins", "(II)Z"⟩
abbrev cX4_readLink : ByteArray := prog_6_method_19_code
def yX4_readLink : MethodName := ⟨RX4, "readLink", "(II)Z"⟩
abbrev cX4_readNot : ByteArray := prog_6_method_20_code
def yX4_readNot : MethodName := ⟨RX4, "readNot", "(I)Z"⟩
abbrev cX4_readOne : ByteArray := prog_6_method_21_code
def yX4_readOne : MethodName := ⟨RX4, "readOne", "(I)Z"⟩
def RX5 : String := "ToldByWitnesses$Rows"
def TX5 : u_T := fun k => match k with
  | _ => ("", "", "", false)
def tyX5 : Nat → FieldType := fun k => match k with
  | _ => .int
abbrev wsX50 : List Cond := u_ws RX5 TX5 0
theorem nmX5 : ∀ a, a < 0 → ∀ b, b < 0 → a ≠ b → (TX5 a).2.1 ≠ (TX5 b).2.1 := by decide +kernel
theorem tyX5_ok : ∀ k, k < 0 → parseFieldDescriptor (TX5 k).2.2.1 = some (tyX5 k) := by decide +kernel
abbrev cX5_at : ByteArray := prog_7_method_2_code
def yX5_at : MethodName := ⟨RX5, "at", "([II)I"⟩
abbrev cX5_put : ByteArray := prog_7_method_3_code
def yX5_put : MethodName := ⟨RX5, "put", "([III)V"⟩
abbrev cX5_place : ByteArray := prog_7_method_4_code
def yX5_place : MethodName := ⟨RX5, "place", "(III)I"⟩
abbrev cX5_stepOf : ByteArray := prog_7_method_5_code
def yX5_stepOf : MethodName := ⟨RX5, "stepOf", "(I)I"⟩
abbrev cX5_lastOf : ByteArray := prog_7_method_6_code
def yX5_lastOf : MethodName := ⟨RX5, "lastOf", "(I)I"⟩
abbrev cX5_doingOf : ByteArray := prog_7_method_7_code
def yX5_doingOf : MethodName := ⟨RX5, "doingOf", "(I)I"⟩
def RX6 : String := "ToldByWitnesses$Sheet"
def TX6 : u_T := fun k => match k with
  | 0 => ("ToldByWitnesses$Sheet", "items", "[I", true)
  | 1 => ("ToldByWitnesses$Sheet", "sort", "I", false)
  | _ => ("ToldByWitnesses$Sheet", "size", "I", false)
def tyX6 : Nat → FieldType := fun k => match k with
  | 0 => .array .int
  | 1 => .int
  | _ => .int
abbrev wsX60 : List Cond := u_ws RX6 TX6 3
theorem nmX6 : ∀ a, a < 3 → ∀ b, b < 3 → a ≠ b → (TX6 a).2.1 ≠ (TX6 b).2.1 := by decide +kernel
theorem tyX6_ok : ∀ k, k < 3 → parseFieldDescriptor (TX6 k).2.2.1 = some (tyX6 k) := by decide +kernel
abbrev cX6_init : ByteArray := prog_8_method_1_code
def yX6_init : MethodName := ⟨RX6, "<init>", "()V"⟩
abbrev cX6_become : ByteArray := prog_8_method_2_code
def yX6_become : MethodName := ⟨RX6, "become", "(II)V"⟩
abbrev cX6_holds : ByteArray := prog_8_method_3_code
def yX6_holds : MethodName := ⟨RX6, "holds", "(I)Z"⟩
abbrev cX6_holdsAll : ByteArray := prog_8_method_4_code
def yX6_holdsAll : MethodName := ⟨RX6, "holdsAll", "(II)Z"⟩
abbrev cX6_item : ByteArray := prog_8_method_5_code
def yX6_item : MethodName := ⟨RX6, "item", "(I)I"⟩
abbrev cX6_put : ByteArray := prog_8_method_6_code
def yX6_put : MethodName := ⟨RX6, "put", "(II)V"⟩
def RX7 : String := "ToldByWitnesses$Signs"
def TX7 : u_T := fun k => match k with
  | _ => ("", "", "", false)
def tyX7 : Nat → FieldType := fun k => match k with
  | _ => .int
abbrev wsX70 : List Cond := u_ws RX7 TX7 0
theorem nmX7 : ∀ a, a < 0 → ∀ b, b < 0 → a ≠ b → (TX7 a).2.1 ≠ (TX7 b).2.1 := by decide +kernel
theorem tyX7_ok : ∀ k, k < 0 → parseFieldDescriptor (TX7 k).2.2.1 = some (tyX7 k) := by decide +kernel
abbrev cX7_isValue : ByteArray := prog_9_method_2_code
def yX7_isValue : MethodName := ⟨RX7, "isValue", "(I)Z"⟩
abbrev cX7_ofByte : ByteArray := prog_9_method_3_code
def yX7_ofByte : MethodName := ⟨RX7, "ofByte", "(I)I"⟩
def RX8 : String := "ToldByWitnesses$Text"
def TX8 : u_T := fun k => match k with
  | 0 => ("ToldByWitnesses$Text", "code", "[I", true)
  | _ => ("ToldByWitnesses$Text", "ends", "[I", true)
def tyX8 : Nat → FieldType := fun k => match k with
  | 0 => .array .int
  | _ => .array .int
abbrev wsX80 : List Cond := u_ws RX8 TX8 2
theorem nmX8 : ∀ a, a < 2 → ∀ b, b < 2 → a ≠ b → (TX8 a).2.1 ≠ (TX8 b).2.1 := by decide +kernel
theorem tyX8_ok : ∀ k, k < 2 → parseFieldDescriptor (TX8 k).2.2.1 = some (tyX8 k) := by decide +kernel
abbrev cX8_init : ByteArray := prog_10_method_1_code
def yX8_init : MethodName := ⟨RX8, "<init>", "([I[I)V"⟩
abbrev cX8_value : ByteArray := prog_10_method_2_code
def yX8_value : MethodName := ⟨RX8, "value", "(ILToldByWitnesses$Names;)I"⟩
abbrev cX8_reckon : ByteArray := prog_10_method_3_code
def yX8_reckon : MethodName := ⟨RX8, "reckon", "(IILToldByWitnesses$Names;)I"⟩
abbrev cX8_joined : ByteArray := prog_10_method_4_code
def yX8_joined : MethodName := ⟨RX8, "joined", "(III)I"⟩
def RX9 : String := "ToldByWitnesses$Witness"
def TX9 : u_T := fun k => match k with
  | 0 => ("ToldByWitnesses$Witness", "says", "[I", true)
  | 1 => ("ToldByWitnesses$Witness", "kind", "I", false)
  | 2 => ("ToldByWitnesses$Witness", "number", "I", false)
  | 3 => ("ToldByWitnesses$Witness", "saw", "I", false)
  | 4 => ("ToldByWitnesses$Witness", "sent", "I", false)
  | 5 => ("ToldByWitnesses$Witness", "byRule", "I", false)
  | 6 => ("ToldByWitnesses$Witness", "byAge", "I", false)
  | 7 => ("ToldByWitnesses$Witness", "byKind", "I", false)
  | 8 => ("ToldByWitnesses$Witness", "byNumber", "I", false)
  | _ => ("ToldByWitnesses$Witness", "bySaw", "I", false)
def tyX9 : Nat → FieldType := fun k => match k with
  | 0 => .array .int
  | 1 => .int
  | 2 => .int
  | 3 => .int
  | 4 => .int
  | 5 => .int
  | 6 => .int
  | 7 => .int
  | 8 => .int
  | _ => .int
abbrev wsX90 : List Cond := u_ws RX9 TX9 10
theorem nmX9 : ∀ a, a < 10 → ∀ b, b < 10 → a ≠ b → (TX9 a).2.1 ≠ (TX9 b).2.1 := by decide +kernel
theorem tyX9_ok : ∀ k, k < 10 → parseFieldDescriptor (TX9 k).2.2.1 = some (tyX9 k) := by decide +kernel
abbrev cX9_init : ByteArray := prog_11_method_1_code
def yX9_init : MethodName := ⟨RX9, "<init>", "()V"⟩
abbrev cX9_become : ByteArray := prog_11_method_2_code
def yX9_become : MethodName := ⟨RX9, "become", "(III)V"⟩
abbrev cX9_learn : ByteArray := prog_11_method_3_code
def yX9_learn : MethodName := ⟨RX9, "learn", "(LToldByWitnesses$Text;IILToldByWitnesses$Names;)V"⟩
def RX10 : String := "ToldByWitnesses"
def TX10 : u_T := fun k => match k with
  | 0 => ("ToldByWitnesses", "theLife", "[I", true)
  | 1 => ("ToldByWitnesses", "drawnLife", "[I", true)
  | 2 => ("ToldByWitnesses", "known", "[LToldByWitnesses$Witness;", true)
  | 3 => ("ToldByWitnesses", "texts", "[LToldByWitnesses$Text;", true)
  | 4 => ("ToldByWitnesses", "tape", "[I", true)
  | 5 => ("ToldByWitnesses", "sheets", "[LToldByWitnesses$Sheet;", true)
  | 6 => ("ToldByWitnesses", "reader", "LToldByWitnesses$Reader;", true)
  | 7 => ("ToldByWitnesses", "names", "LToldByWitnesses$Names;", true)
  | 8 => ("ToldByWitnesses", "lives", "LToldByWitnesses$Lives;", true)
  | 9 => ("ToldByWitnesses", "kept", "LToldByWitnesses$Image;", true)
  | 10 => ("ToldByWitnesses", "weights", "[I", true)
  | 11 => ("ToldByWitnesses", "prices", "[I", true)
  | 12 => ("ToldByWitnesses", "age", "I", false)
  | 13 => ("ToldByWitnesses", "witnessCount", "I", false)
  | 14 => ("ToldByWitnesses", "textCount", "I", false)
  | 15 => ("ToldByWitnesses", "tapeSize", "I", false)
  | 16 => ("ToldByWitnesses", "ruleNumber", "I", false)
  | _ => ("ToldByWitnesses", "rule", "LToldByWitnesses$Text;", false)
def tyX10 : Nat → FieldType := fun k => match k with
  | 0 => .array .int
  | 1 => .array .int
  | 2 => .array (.object "ToldByWitnesses$Witness")
  | 3 => .array (.object "ToldByWitnesses$Text")
  | 4 => .array .int
  | 5 => .array (.object "ToldByWitnesses$Sheet")
  | 6 => .object "ToldByWitnesses$Reader"
  | 7 => .object "ToldByWitnesses$Names"
  | 8 => .object "ToldByWitnesses$Lives"
  | 9 => .object "ToldByWitnesses$Image"
  | 10 => .array .int
  | 11 => .array .int
  | 12 => .int
  | 13 => .int
  | 14 => .int
  | 15 => .int
  | 16 => .int
  | _ => .object "ToldByWitnesses$Text"
abbrev wsX100 : List Cond := u_ws RX10 TX10 18
theorem nmX10 : ∀ a, a < 18 → ∀ b, b < 18 → a ≠ b → (TX10 a).2.1 ≠ (TX10 b).2.1 := by decide +kernel
theorem tyX10_ok : ∀ k, k < 18 → parseFieldDescriptor (TX10 k).2.2.1 = some (tyX10 k) := by decide +kernel
abbrev cX10_init : ByteArray := prog_1_method_1_code
def yX10_init : MethodName := ⟨RX10, "<init>", "()V"⟩
abbrev cX10_set : ByteArray := prog_1_method_2_code
def yX10_set : MethodName := ⟨RX10, "set", "(III)I"⟩
abbrev cX10_witness : ByteArray := prog_1_method_3_code
def yX10_witness : MethodName := ⟨RX10, "witness", "(III)I"⟩
abbrev cX10_told : ByteArray := prog_1_method_4_code
def yX10_told : MethodName := ⟨RX10, "told", "(II)I"⟩
abbrev cX10_feed : ByteArray := prog_1_method_5_code
def yX10_feed : MethodName := ⟨RX10, "feed", "(I)I"⟩
abbrev cX10_text : ByteArray := prog_1_method_6_code
def yX10_text : MethodName := ⟨RX10, "text", "()I"⟩
abbrev cX10_force : ByteArray := prog_1_method_7_code
def yX10_force : MethodName := ⟨RX10, "force", "(I)I"⟩
abbrev cX10_all : ByteArray := prog_1_method_8_code
def yX10_all : MethodName := ⟨RX10, "all", "(I)I"⟩
abbrev cX10_canBe : ByteArray := prog_1_method_9_code
def yX10_canBe : MethodName := ⟨RX10, "canBe", "(I)I"⟩
abbrev cX10_fit : ByteArray := prog_1_method_10_code
def yX10_fit : MethodName := ⟨RX10, "fit", "(I)I"⟩
abbrev cX10_life : ByteArray := prog_1_method_11_code
def yX10_life : MethodName := ⟨RX10, "life", "(II)I"⟩
abbrev cX10_next : ByteArray := prog_1_method_12_code
def yX10_next : MethodName := ⟨RX10, "next", "(I)I"⟩
abbrev cX10_safest : ByteArray := prog_1_method_13_code
def yX10_safest : MethodName := ⟨RX10, "safest", "(I)I"⟩
abbrev cX10_fewest : ByteArray := prog_1_method_14_code
def yX10_fewest : MethodName := ⟨RX10, "fewest", "(I)I"⟩
abbrev cX10_wrong : ByteArray := prog_1_method_15_code
def yX10_wrong : MethodName := ⟨RX10, "wrong", "()I"⟩
abbrev cX10_tells : ByteArray := prog_1_method_16_code
def yX10_tells : MethodName := ⟨RX10, "tells", "(III)I"⟩
abbrev cX10_film : ByteArray := prog_1_method_17_code
def yX10_film : MethodName := ⟨RX10, "film", "(II)I"⟩
abbrev cX10_drawn : ByteArray := prog_1_method_18_code
def yX10_drawn : MethodName := ⟨RX10, "drawn", "(I)I"⟩
abbrev cX10_chance : ByteArray := prog_1_method_19_code
def yX10_chance : MethodName := ⟨RX10, "chance", "(IIII)J"⟩
abbrev cX10_image : ByteArray := prog_1_method_20_code
def yX10_image : MethodName := ⟨RX10, "image", "()I"⟩
abbrev cX10_back : ByteArray := prog_1_method_21_code
def yX10_back : MethodName := ⟨RX10, "back", "()I"⟩
abbrev cX10_count : ByteArray := prog_1_method_22_code
def yX10_count : MethodName := ⟨RX10, "count", "(I)I"⟩
abbrev cX10_sheet : ByteArray := prog_1_method_23_code
def yX10_sheet : MethodName := ⟨RX10, "sheet", "(III)I"⟩
abbrev cX10_cell : ByteArray := prog_1_method_24_code
def yX10_cell : MethodName := ⟨RX10, "cell", "(III)I"⟩
abbrev cX10_copy : ByteArray := prog_1_method_25_code
def yX10_copy : MethodName := ⟨RX10, "copy", "(IIIII)I"⟩
abbrev cX10_witnesses : ByteArray := prog_1_method_26_code
def yX10_witnesses : MethodName := ⟨RX10, "witnesses", "(IIII)I"⟩
abbrev cX10_taken : ByteArray := prog_1_method_27_code
def yX10_taken : MethodName := ⟨RX10, "taken", "(II)I"⟩
abbrev cX10_isWithin : ByteArray := prog_1_method_28_code
def yX10_isWithin : MethodName := ⟨RX10, "isWithin", "(II)Z"⟩
abbrev cX10_isStep : ByteArray := prog_1_method_29_code
def yX10_isStep : MethodName := ⟨RX10, "isStep", "(I)Z"⟩
abbrev cX10_witnessAt : ByteArray := prog_1_method_30_code
def yX10_witnessAt : MethodName := ⟨RX10, "witnessAt", "(I)LToldByWitnesses$Witness;"⟩
abbrev cX10_textAt : ByteArray := prog_1_method_31_code
def yX10_textAt : MethodName := ⟨RX10, "textAt", "(I)LToldByWitnesses$Text;"⟩
abbrev cX10_sheetAt : ByteArray := prog_1_method_32_code
def yX10_sheetAt : MethodName := ⟨RX10, "sheetAt", "(I)LToldByWitnesses$Sheet;"⟩
abbrev cX10_setAge : ByteArray := prog_1_method_33_code
def yX10_setAge : MethodName := ⟨RX10, "setAge", "(I)I"⟩
abbrev cX10_setDoing : ByteArray := prog_1_method_34_code
def yX10_setDoing : MethodName := ⟨RX10, "setDoing", "(II)I"⟩
abbrev cX10_setOfWitness : ByteArray := prog_1_method_35_code
def yX10_setOfWitness : MethodName := ⟨RX10, "setOfWitness", "(ILToldByWitnesses$Witness;I)I"⟩
abbrev cX10_sentBits : ByteArray := prog_1_method_36_code
def yX10_sentBits : MethodName := ⟨RX10, "sentBits", "()I"⟩
abbrev cX10_nameStep : ByteArray := prog_1_method_37_code
def yX10_nameStep : MethodName := ⟨RX10, "nameStep", "(I)V"⟩
abbrev cX10_saidBy : ByteArray := prog_1_method_38_code
def yX10_saidBy : MethodName := ⟨RX10, "saidBy", "(LToldByWitnesses$Witness;I)I"⟩
abbrev cX10_saysFalse : ByteArray := prog_1_method_39_code
def yX10_saysFalse : MethodName := ⟨RX10, "saysFalse", "(LToldByWitnesses$Witness;)Z"⟩
abbrev cX10_priceOf : ByteArray := prog_1_method_40_code
def yX10_priceOf : MethodName := ⟨RX10, "priceOf", "(LToldByWitnesses$Witness;)I"⟩
abbrev cX10_fillPrices : ByteArray := prog_1_method_41_code
def yX10_fillPrices : MethodName := ⟨RX10, "fillPrices", "()V"⟩
abbrev cX10_priceOfSet : ByteArray := prog_1_method_42_code
def yX10_priceOfSet : MethodName := ⟨RX10, "priceOfSet", "(I)I"⟩
abbrev cX10_priceOfSent : ByteArray := prog_1_method_43_code
def yX10_priceOfSent : MethodName := ⟨RX10, "priceOfSent", "()I"⟩
abbrev cX10_weightOfLife : ByteArray := prog_1_method_44_code
def yX10_weightOfLife : MethodName := ⟨RX10, "weightOfLife", "(I)I"⟩
abbrev cX10_fillWeights : ByteArray := prog_1_method_45_code
def yX10_fillWeights : MethodName := ⟨RX10, "fillWeights", "(II)V"⟩
abbrev cX10_compareWith : ByteArray := prog_1_method_46_code
def yX10_compareWith : MethodName := ⟨RX10, "compareWith", "([I)V"⟩
abbrev cX10_bestToSendFor : ByteArray := prog_1_method_47_code
def yX10_bestToSendFor : MethodName := ⟨RX10, "bestToSendFor", "(IZ)I"⟩
abbrev cX10_leastSet : ByteArray := prog_1_method_48_code
def yX10_leastSet : MethodName := ⟨RX10, "leastSet", "(IIZ)I"⟩
abbrev cX10_draw : ByteArray := prog_1_method_49_code
def yX10_draw : MethodName := ⟨RX10, "draw", "(I)V"⟩
abbrev cX10_commonDivisor : ByteArray := prog_1_method_50_code
def yX10_commonDivisor : MethodName := ⟨RX10, "commonDivisor", "(II)I"⟩
abbrev cX10_firstOther : ByteArray := prog_1_method_51_code
def yX10_firstOther : MethodName := ⟨RX10, "firstOther", "(LToldByWitnesses$Sheet;LToldByWitnesses$Text;III)I"⟩
abbrev cX10_livesTold : ByteArray := prog_1_method_52_code
def yX10_livesTold : MethodName := ⟨RX10, "livesTold", "(LToldByWitnesses$Sheet;LToldByWitnesses$Witness;)I"⟩
abbrev cX10_kindsTelling : ByteArray := prog_1_method_53_code
def yX10_kindsTelling : MethodName := ⟨RX10, "kindsTelling", "(LToldByWitnesses$Sheet;LToldByWitnesses$Witness;)I"⟩
abbrev cX10_numbersTelling : ByteArray := prog_1_method_54_code
def yX10_numbersTelling : MethodName := ⟨RX10, "numbersTelling", "(LToldByWitnesses$Sheet;LToldByWitnesses$Witness;)I"⟩
abbrev cX10_sawTelling : ByteArray := prog_1_method_55_code
def yX10_sawTelling : MethodName := ⟨RX10, "sawTelling", "(LToldByWitnesses$Sheet;LToldByWitnesses$Witness;)I"⟩
abbrev cX10_leastSawTelling : ByteArray := prog_1_method_56_code
def yX10_leastSawTelling : MethodName := ⟨RX10, "leastSawTelling", "(LToldByWitnesses$Sheet;LToldByWitnesses$Witness;)I"⟩
abbrev cX10_textsTelling : ByteArray := prog_1_method_57_code
def yX10_textsTelling : MethodName := ⟨RX10, "textsTelling", "(LToldByWitnesses$Sheet;LToldByWitnesses$Witness;)I"⟩
def RX11 : String := "ToldByWitnessesModel"
def TX11 : u_T := fun k => match k with
  | 0 => ("ToldByWitnessesModel", "thrown", "I", false)
  | 1 => ("ToldByWitnessesModel", "texts", "[I", true)
  | 2 => ("ToldByWitnessesModel", "textSize", "[I", true)
  | 3 => ("ToldByWitnessesModel", "textCount", "I", false)
  | 4 => ("ToldByWitnessesModel", "rule", "I", false)
  | 5 => ("ToldByWitnessesModel", "tape", "[I", true)
  | 6 => ("ToldByWitnessesModel", "taped", "I", false)
  | 7 => ("ToldByWitnessesModel", "ageNow", "I", false)
  | 8 => ("ToldByWitnessesModel", "doings", "[I", true)
  | 9 => ("ToldByWitnessesModel", "kinds", "[I", true)
  | 10 => ("ToldByWitnessesModel", "rows", "[I", true)
  | 11 => ("ToldByWitnessesModel", "many", "I", false)
  | 12 => ("ToldByWitnessesModel", "ofDoing", "I", false)
  | 13 => ("ToldByWitnessesModel", "ofStep", "I", false)
  | 14 => ("ToldByWitnessesModel", "ofNumber", "I", false)
  | 15 => ("ToldByWitnessesModel", "ofLast", "I", false)
  | 16 => ("ToldByWitnessesModel", "ofSeen", "I", false)
  | 17 => ("ToldByWitnessesModel", "ofAge", "I", false)
  | 18 => ("ToldByWitnessesModel", "from", "I", false)
  | 19 => ("ToldByWitnessesModel", "size", "I", false)
  | 20 => ("ToldByWitnessesModel", "here", "I", false)
  | 21 => ("ToldByWitnessesModel", "token", "I", false)
  | 22 => ("ToldByWitnessesModel", "tokenAt", "I", false)
  | 23 => ("ToldByWitnessesModel", "tokenWorth", "J", false)
  | 24 => ("ToldByWitnessesModel", "open", "I", false)
  | 25 => ("ToldByWitnessesModel", "bad", "Z", false)
  | 26 => ("ToldByWitnessesModel", "fault", "I", false)
  | 27 => ("ToldByWitnessesModel", "table", "[I", true)
  | 28 => ("ToldByWitnessesModel", "alike", "[I", true)
  | 29 => ("ToldByWitnessesModel", "values", "[I", true)
  | 30 => ("ToldByWitnessesModel", "sayings", "[I", true)
  | 31 => ("ToldByWitnessesModel", "doingsWas", "[I", true)
  | 32 => ("ToldByWitnessesModel", "doingsKept", "[I", true)
  | 33 => ("ToldByWitnessesModel", "rowsKept", "[I", true)
  | 34 => ("ToldByWitnessesModel", "manyKept", "I", false)
  | 35 => ("ToldByWitnessesModel", "ageKept", "I", false)
  | 36 => ("ToldByWitnessesModel", "ruleKept", "I", false)
  | 37 => ("ToldByWitnessesModel", "isThere", "[Z", true)
  | 38 => ("ToldByWitnessesModel", "sorts", "[I", true)
  | 39 => ("ToldByWitnessesModel", "sheetSize", "[I", true)
  | _ => ("ToldByWitnessesModel", "items", "[I", true)
def tyX11 : Nat → FieldType := fun k => match k with
  | 0 => .int
  | 1 => .array .int
  | 2 => .array .int
  | 3 => .int
  | 4 => .int
  | 5 => .array .int
  | 6 => .int
  | 7 => .int
  | 8 => .array .int
  | 9 => .array .int
  | 10 => .array .int
  | 11 => .int
  | 12 => .int
  | 13 => .int
  | 14 => .int
  | 15 => .int
  | 16 => .int
  | 17 => .int
  | 18 => .int
  | 19 => .int
  | 20 => .int
  | 21 => .int
  | 22 => .int
  | 23 => .long
  | 24 => .int
  | 25 => .boolean
  | 26 => .int
  | 27 => .array .int
  | 28 => .array .int
  | 29 => .array .int
  | 30 => .array .int
  | 31 => .array .int
  | 32 => .array .int
  | 33 => .array .int
  | 34 => .int
  | 35 => .int
  | 36 => .int
  | 37 => .array .boolean
  | 38 => .array .int
  | 39 => .array .int
  | _ => .array .int
abbrev wsX110 : List Cond := u_ws RX11 TX11 41
theorem nmX11 : ∀ a, a < 41 → ∀ b, b < 41 → a ≠ b → (TX11 a).2.1 ≠ (TX11 b).2.1 := by decide +kernel
theorem tyX11_ok : ∀ k, k < 41 → parseFieldDescriptor (TX11 k).2.2.1 = some (tyX11 k) := by decide +kernel
abbrev cX11_in : ByteArray := prog_13_method_2_code
def yX11_in : MethodName := ⟨RX11, "in", "(JJJ)Z"⟩
abbrev cX11_within : ByteArray := prog_13_method_3_code
def yX11_within : MethodName := ⟨RX11, "within", "(III)I"⟩
abbrev cX11_init : ByteArray := prog_13_method_4_code
def yX11_init : MethodName := ⟨RX11, "<init>", "()V"⟩
abbrev cX11_spell : ByteArray := prog_13_method_5_code
def yX11_spell : MethodName := ⟨RX11, "spell", "(IIIIIIIII)V"⟩
abbrev cX11_isWitness : ByteArray := prog_13_method_6_code
def yX11_isWitness : MethodName := ⟨RX11, "isWitness", "(I)Z"⟩
abbrev cX11_isStep : ByteArray := prog_13_method_7_code
def yX11_isStep : MethodName := ⟨RX11, "isStep", "(I)Z"⟩
abbrev cX11_isOf : ByteArray := prog_13_method_8_code
def yX11_isOf : MethodName := ⟨RX11, "isOf", "(II)Z"⟩
abbrev cX11_mostOf : ByteArray := prog_13_method_9_code
def yX11_mostOf : MethodName := ⟨RX11, "mostOf", "(I)I"⟩
abbrev cX11_set : ByteArray := prog_13_method_10_code
def yX11_set : MethodName := ⟨RX11, "set", "(III)I"⟩
abbrev cX11_lays : ByteArray := prog_13_method_11_code
def yX11_lays : MethodName := ⟨RX11, "lays", "(III)V"⟩
abbrev cX11_witness : ByteArray := prog_13_method_12_code
def yX11_witness : MethodName := ⟨RX11, "witness", "(III)I"⟩
abbrev cX11_told : ByteArray := prog_13_method_13_code
def yX11_told : MethodName := ⟨RX11, "told", "(II)I"⟩
abbrev cX11_feed : ByteArray := prog_13_method_14_code
def yX11_feed : MethodName := ⟨RX11, "feed", "(I)I"⟩
abbrev cX11_byteAt : ByteArray := prog_13_method_15_code
def yX11_byteAt : MethodName := ⟨RX11, "byteAt", "(I)I"⟩
abbrev cX11_nextToken : ByteArray := prog_13_method_16_code
def yX11_nextToken : MethodName := ⟨RX11, "nextToken", "()V"⟩
abbrev cX11_fail : ByteArray := prog_13_method_17_code
def yX11_fail : MethodName := ⟨RX11, "fail", "()V"⟩
abbrev cX11_isLetter : ByteArray := prog_13_method_18_code
def yX11_isLetter : MethodName := ⟨RX11, "isLetter", "(II)Z"⟩
abbrev cX11_isWord : ByteArray := prog_13_method_19_code
def yX11_isWord : MethodName := ⟨RX11, "isWord", "(IIIIIIII)Z"⟩
abbrev cX11_isSign : ByteArray := prog_13_method_20_code
def yX11_isSign : MethodName := ⟨RX11, "isSign", "(I)Z"⟩
abbrev cX11_opens : ByteArray := prog_13_method_21_code
def yX11_opens : MethodName := ⟨RX11, "opens", "()Z"⟩
abbrev cX11_name : ByteArray := prog_13_method_22_code
def yX11_name : MethodName := ⟨RX11, "name", "()I"⟩
abbrev cX11_atom5 : ByteArray := prog_13_method_23_code
def yX11_atom5 : MethodName := ⟨RX11, "atom5", "()I"⟩
abbrev cX11_term5 : ByteArray := prog_13_method_24_code
def yX11_term5 : MethodName := ⟨RX11, "term5", "()I"⟩
abbrev cX11_added5 : ByteArray := prog_13_method_25_code
def yX11_added5 : MethodName := ⟨RX11, "added5", "()I"⟩
abbrev cX11_not5 : ByteArray := prog_13_method_26_code
def yX11_not5 : MethodName := ⟨RX11, "not5", "()I"⟩
abbrev cX11_both5 : ByteArray := prog_13_method_27_code
def yX11_both5 : MethodName := ⟨RX11, "both5", "()I"⟩
abbrev cX11_either5 : ByteArray := prog_13_method_28_code
def yX11_either5 : MethodName := ⟨RX11, "either5", "()I"⟩
abbrev cX11_atom4 : ByteArray := prog_13_method_29_code
def yX11_atom4 : MethodName := ⟨RX11, "atom4", "()I"⟩
abbrev cX11_term4 : ByteArray := prog_13_method_30_code
def yX11_term4 : MethodName := ⟨RX11, "term4", "()I"⟩
abbrev cX11_added4 : ByteArray := prog_13_method_31_code
def yX11_added4 : MethodName := ⟨RX11, "added4", "()I"⟩
abbrev cX11_not4 : ByteArray := prog_13_method_32_code
def yX11_not4 : MethodName := ⟨RX11, "not4", "()I"⟩
abbrev cX11_both4 : ByteArray := prog_13_method_33_code
def yX11_both4 : MethodName := ⟨RX11, "both4", "()I"⟩
abbrev cX11_either4 : ByteArray := prog_13_method_34_code
def yX11_either4 : MethodName := ⟨RX11, "either4", "()I"⟩
abbrev cX11_atom3 : ByteArray := prog_13_method_35_code
def yX11_atom3 : MethodName := ⟨RX11, "atom3", "()I"⟩
abbrev cX11_term3 : ByteArray := prog_13_method_36_code
def yX11_term3 : MethodName := ⟨RX11, "term3", "()I"⟩
abbrev cX11_added3 : ByteArray := prog_13_method_37_code
def yX11_added3 : MethodName := ⟨RX11, "added3", "()I"⟩
abbrev cX11_not3 : ByteArray := prog_13_method_38_code
def yX11_not3 : MethodName := ⟨RX11, "not3", "()I"⟩
abbrev cX11_both3 : ByteArray := prog_13_method_39_code
def yX11_both3 : MethodName := ⟨RX11, "both3", "()I"⟩
abbrev cX11_either3 : ByteArray := prog_13_method_40_code
def yX11_either3 : MethodName := ⟨RX11, "either3", "()I"⟩
abbrev cX11_atom2 : ByteArray := prog_13_method_41_code
def yX11_atom2 : MethodName := ⟨RX11, "atom2", "()I"⟩
abbrev cX11_term2 : ByteArray := prog_13_method_42_code
def yX11_term2 : MethodName := ⟨RX11, "term2", "()I"⟩
abbrev cX11_added2 : ByteArray := prog_13_method_43_code
def yX11_added2 : MethodName := ⟨RX11, "added2", "()I"⟩
abbrev cX11_not2 : ByteArray := prog_13_method_44_code
def yX11_not2 : MethodName := ⟨RX11, "not2", "()I"⟩
abbrev cX11_both2 : ByteArray := prog_13_method_45_code
def yX11_both2 : MethodName := ⟨RX11, "both2", "()I"⟩
abbrev cX11_either2 : ByteArray := prog_13_method_46_code
def yX11_either2 : MethodName := ⟨RX11, "either2", "()I"⟩
abbrev cX11_atom1 : ByteArray := prog_13_method_47_code
def yX11_atom1 : MethodName := ⟨RX11, "atom1", "()I"⟩
abbrev cX11_term1 : ByteArray := prog_13_method_48_code
def yX11_term1 : MethodName := ⟨RX11, "term1", "()I"⟩
abbrev cX11_added1 : ByteArray := prog_13_method_49_code
def yX11_added1 : MethodName := ⟨RX11, "added1", "()I"⟩
abbrev cX11_not1 : ByteArray := prog_13_method_50_code
def yX11_not1 : MethodName := ⟨RX11, "not1", "()I"⟩
abbrev cX11_both1 : ByteArray := prog_13_method_51_code
def yX11_both1 : MethodName := ⟨RX11, "both1", "()I"⟩
abbrev cX11_either1 : ByteArray := prog_13_method_52_code
def yX11_either1 : MethodName := ⟨RX11, "either1", "()I"⟩
abbrev cX11_atom0 : ByteArray := prog_13_method_53_code
def yX11_atom0 : MethodName := ⟨RX11, "atom0", "()I"⟩
abbrev cX11_term0 : ByteArray := prog_13_method_54_code
def yX11_term0 : MethodName := ⟨RX11, "term0", "()I"⟩
abbrev cX11_added0 : ByteArray := prog_13_method_55_code
def yX11_added0 : MethodName := ⟨RX11, "added0", "()I"⟩
abbrev cX11_not0 : ByteArray := prog_13_method_56_code
def yX11_not0 : MethodName := ⟨RX11, "not0", "()I"⟩
abbrev cX11_both0 : ByteArray := prog_13_method_57_code
def yX11_both0 : MethodName := ⟨RX11, "both0", "()I"⟩
abbrev cX11_either0 : ByteArray := prog_13_method_58_code
def yX11_either0 : MethodName := ⟨RX11, "either0", "()I"⟩
abbrev cX11_part : ByteArray := prog_13_method_59_code
def yX11_part : MethodName := ⟨RX11, "part", "(Z)I"⟩
abbrev cX11_read : ByteArray := prog_13_method_60_code
def yX11_read : MethodName := ⟨RX11, "read", "(II)I"⟩
abbrev cX11_text : ByteArray := prog_13_method_61_code
def yX11_text : MethodName := ⟨RX11, "text", "()I"⟩
abbrev cX11_force : ByteArray := prog_13_method_62_code
def yX11_force : MethodName := ⟨RX11, "force", "(I)I"⟩
abbrev cX11_bitsOf : ByteArray := prog_13_method_63_code
def yX11_bitsOf : MethodName := ⟨RX11, "bitsOf", "(I)I"⟩
abbrev cX11_asks : ByteArray := prog_13_method_64_code
def yX11_asks : MethodName := ⟨RX11, "asks", "(IIIII)I"⟩
abbrev cX11_costsOf : ByteArray := prog_13_method_65_code
def yX11_costsOf : MethodName := ⟨RX11, "costsOf", "(I)I"⟩
abbrev cX11_saysOf : ByteArray := prog_13_method_66_code
def yX11_saysOf : MethodName := ⟨RX11, "saysOf", "(IIII)I"⟩
abbrev cX11_saysNow : ByteArray := prog_13_method_67_code
def yX11_saysNow : MethodName := ⟨RX11, "saysNow", "(II)I"⟩
abbrev cX11_doing : ByteArray := prog_13_method_68_code
def yX11_doing : MethodName := ⟨RX11, "doing", "(II)I"⟩
abbrev cX11_lastOf : ByteArray := prog_13_method_69_code
def yX11_lastOf : MethodName := ⟨RX11, "lastOf", "(II)I"⟩
abbrev cX11_digits : ByteArray := prog_13_method_70_code
def yX11_digits : MethodName := ⟨RX11, "digits", "(I)I"⟩
abbrev cX11_spot : ByteArray := prog_13_method_71_code
def yX11_spot : MethodName := ⟨RX11, "spot", "(IIII)I"⟩
abbrev cX11_saysBy : ByteArray := prog_13_method_72_code
def yX11_saysBy : MethodName := ⟨RX11, "saysBy", "(III)I"⟩
abbrev cX11_lifeNow : ByteArray := prog_13_method_73_code
def yX11_lifeNow : MethodName := ⟨RX11, "lifeNow", "()I"⟩
abbrev cX11_tables : ByteArray := prog_13_method_74_code
def yX11_tables : MethodName := ⟨RX11, "tables", "()V"⟩
abbrev cX11_gathers : ByteArray := prog_13_method_75_code
def yX11_gathers : MethodName := ⟨RX11, "gathers", "()V"⟩
abbrev cX11_sentSet : ByteArray := prog_13_method_76_code
def yX11_sentSet : MethodName := ⟨RX11, "sentSet", "()I"⟩
abbrev cX11_livesBy : ByteArray := prog_13_method_77_code
def yX11_livesBy : MethodName := ⟨RX11, "livesBy", "(I)I"⟩
abbrev cX11_canBeBy : ByteArray := prog_13_method_78_code
def yX11_canBeBy : MethodName := ⟨RX11, "canBeBy", "(II)I"⟩
abbrev cX11_sure : ByteArray := prog_13_method_79_code
def yX11_sure : MethodName := ⟨RX11, "sure", "()I"⟩
abbrev cX11_tellsValues : ByteArray := prog_13_method_80_code
def yX11_tellsValues : MethodName := ⟨RX11, "tellsValues", "(I)V"⟩
abbrev cX11_valueOf : ByteArray := prog_13_method_81_code
def yX11_valueOf : MethodName := ⟨RX11, "valueOf", "(I)I"⟩
abbrev cX11_all : ByteArray := prog_13_method_82_code
def yX11_all : MethodName := ⟨RX11, "all", "(I)I"⟩
abbrev cX11_costsBy : ByteArray := prog_13_method_83_code
def yX11_costsBy : MethodName := ⟨RX11, "costsBy", "(I)I"⟩
abbrev cX11_canBe : ByteArray := prog_13_method_84_code
def yX11_canBe : MethodName := ⟨RX11, "canBe", "(I)I"⟩
abbrev cX11_fit : ByteArray := prog_13_method_85_code
def yX11_fit : MethodName := ⟨RX11, "fit", "(I)I"⟩
abbrev cX11_life : ByteArray := prog_13_method_86_code
def yX11_life : MethodName := ⟨RX11, "life", "(II)I"⟩
abbrev cX11_next : ByteArray := prog_13_method_87_code
def yX11_next : MethodName := ⟨RX11, "next", "(I)I"⟩
abbrev cX11_sinks : ByteArray := prog_13_method_88_code
def yX11_sinks : MethodName := ⟨RX11, "sinks", "(II)V"⟩
abbrev cX11_sorts1 : ByteArray := prog_13_method_89_code
def yX11_sorts1 : MethodName := ⟨RX11, "sorts1", "(I)V"⟩
abbrev cX11_worstBy : ByteArray := prog_13_method_90_code
def yX11_worstBy : MethodName := ⟨RX11, "worstBy", "(II)I"⟩
abbrev cX11_safest : ByteArray := prog_13_method_91_code
def yX11_safest : MethodName := ⟨RX11, "safest", "(I)I"⟩
abbrev cX11_fewest : ByteArray := prog_13_method_92_code
def yX11_fewest : MethodName := ⟨RX11, "fewest", "(I)I"⟩
abbrev cX11_wrong : ByteArray := prog_13_method_93_code
def yX11_wrong : MethodName := ⟨RX11, "wrong", "()I"⟩
abbrev cX11_firstOther : ByteArray := prog_13_method_94_code
def yX11_firstOther : MethodName := ⟨RX11, "firstOther", "(II)I"⟩
abbrev cX11_livesTold : ByteArray := prog_13_method_95_code
def yX11_livesTold : MethodName := ⟨RX11, "livesTold", "(IIZ)I"⟩
abbrev cX11_tells : ByteArray := prog_13_method_96_code
def yX11_tells : MethodName := ⟨RX11, "tells", "(III)I"⟩
abbrev cX11_film : ByteArray := prog_13_method_97_code
def yX11_film : MethodName := ⟨RX11, "film", "(II)I"⟩
abbrev cX11_draws : ByteArray := prog_13_method_98_code
def yX11_draws : MethodName := ⟨RX11, "draws", "(I)V"⟩
abbrev cX11_laysBack : ByteArray := prog_13_method_99_code
def yX11_laysBack : MethodName := ⟨RX11, "laysBack", "()V"⟩
abbrev cX11_drawn : ByteArray := prog_13_method_100_code
def yX11_drawn : MethodName := ⟨RX11, "drawn", "(I)I"⟩
abbrev cX11_chance : ByteArray := prog_13_method_101_code
def yX11_chance : MethodName := ⟨RX11, "chance", "(IIII)J"⟩
abbrev cX11_image : ByteArray := prog_13_method_102_code
def yX11_image : MethodName := ⟨RX11, "image", "()I"⟩
abbrev cX11_back : ByteArray := prog_13_method_103_code
def yX11_back : MethodName := ⟨RX11, "back", "()I"⟩
abbrev cX11_count : ByteArray := prog_13_method_104_code
def yX11_count : MethodName := ⟨RX11, "count", "(I)I"⟩
abbrev cX11_isSheet : ByteArray := prog_13_method_105_code
def yX11_isSheet : MethodName := ⟨RX11, "isSheet", "(I)Z"⟩
abbrev cX11_sheet : ByteArray := prog_13_method_106_code
def yX11_sheet : MethodName := ⟨RX11, "sheet", "(III)I"⟩
abbrev cX11_cell : ByteArray := prog_13_method_107_code
def yX11_cell : MethodName := ⟨RX11, "cell", "(III)I"⟩
abbrev cX11_copy : ByteArray := prog_13_method_108_code
def yX11_copy : MethodName := ⟨RX11, "copy", "(IIIII)I"⟩
abbrev cX11_witnesses : ByteArray := prog_13_method_109_code
def yX11_witnesses : MethodName := ⟨RX11, "witnesses", "(IIII)I"⟩
abbrev cX11_over : ByteArray := prog_13_method_110_code
def yX11_over : MethodName := ⟨RX11, "over", "(I)I"⟩
abbrev cX11_taken : ByteArray := prog_13_method_111_code
def yX11_taken : MethodName := ⟨RX11, "taken", "(II)I"⟩
def RJx145de : String := "java/io/Serializable"
def TJx145de : u_T := fun k => match k with
  | _ => ("", "", "", false)
def tyJx145de : Nat → FieldType := fun k => match k with
  | _ => .int
abbrev wsJx145de0 : List Cond := u_ws RJx145de TJx145de 0
theorem nmJx145de : ∀ a, a < 0 → ∀ b, b < 0 → a ≠ b → (TJx145de a).2.1 ≠ (TJx145de b).2.1 := by decide +kernel
theorem tyJx145de_ok : ∀ k, k < 0 → parseFieldDescriptor (TJx145de k).2.2.1 = some (tyJx145de k) := by decide +kernel
def RJx9f9b0 : String := "java/lang/CharSequence"
def TJx9f9b0 : u_T := fun k => match k with
  | _ => ("", "", "", false)
def tyJx9f9b0 : Nat → FieldType := fun k => match k with
  | _ => .int
abbrev wsJx9f9b00 : List Cond := u_ws RJx9f9b0 TJx9f9b0 0
theorem nmJx9f9b0 : ∀ a, a < 0 → ∀ b, b < 0 → a ≠ b → (TJx9f9b0 a).2.1 ≠ (TJx9f9b0 b).2.1 := by decide +kernel
theorem tyJx9f9b0_ok : ∀ k, k < 0 → parseFieldDescriptor (TJx9f9b0 k).2.2.1 = some (tyJx9f9b0 k) := by decide +kernel
def RJx8e188 : String := "java/lang/Cloneable"
def TJx8e188 : u_T := fun k => match k with
  | _ => ("", "", "", false)
def tyJx8e188 : Nat → FieldType := fun k => match k with
  | _ => .int
abbrev wsJx8e1880 : List Cond := u_ws RJx8e188 TJx8e188 0
theorem nmJx8e188 : ∀ a, a < 0 → ∀ b, b < 0 → a ≠ b → (TJx8e188 a).2.1 ≠ (TJx8e188 b).2.1 := by decide +kernel
theorem tyJx8e188_ok : ∀ k, k < 0 → parseFieldDescriptor (TJx8e188 k).2.2.1 = some (tyJx8e188 k) := by decide +kernel
def RJxb160c : String := "java/lang/Comparable"
def TJxb160c : u_T := fun k => match k with
  | _ => ("", "", "", false)
def tyJxb160c : Nat → FieldType := fun k => match k with
  | _ => .int
abbrev wsJxb160c0 : List Cond := u_ws RJxb160c TJxb160c 0
theorem nmJxb160c : ∀ a, a < 0 → ∀ b, b < 0 → a ≠ b → (TJxb160c a).2.1 ≠ (TJxb160c b).2.1 := by decide +kernel
theorem tyJxb160c_ok : ∀ k, k < 0 → parseFieldDescriptor (TJxb160c k).2.2.1 = some (tyJxb160c k) := by decide +kernel
def RJ6 : String := "java/lang/Integer"
def TJ6 : u_T := fun k => match k with
  | _ => ("", "", "", false)
def tyJ6 : Nat → FieldType := fun k => match k with
  | _ => .int
abbrev wsJ60 : List Cond := u_ws RJ6 TJ6 0
theorem nmJ6 : ∀ a, a < 0 → ∀ b, b < 0 → a ≠ b → (TJ6 a).2.1 ≠ (TJ6 b).2.1 := by decide +kernel
theorem tyJ6_ok : ∀ k, k < 0 → parseFieldDescriptor (TJ6 k).2.2.1 = some (tyJ6 k) := by decide +kernel
abbrev cJ6_bitCount_0f7a4 : ByteArray := prog_15_method_49_code
def yJ6_bitCount_0f7a4 : MethodName := ⟨RJ6, "bitCount", "(I)I"⟩
def RJ9 : String := "java/lang/Math"
def TJ9 : u_T := fun k => match k with
  | _ => ("", "", "", false)
def tyJ9 : Nat → FieldType := fun k => match k with
  | _ => .int
abbrev wsJ90 : List Cond := u_ws RJ9 TJ9 0
theorem nmJ9 : ∀ a, a < 0 → ∀ b, b < 0 → a ≠ b → (TJ9 a).2.1 ≠ (TJ9 b).2.1 := by decide +kernel
theorem tyJ9_ok : ∀ k, k < 0 → parseFieldDescriptor (TJ9 k).2.2.1 = some (tyJ9 k) := by decide +kernel
abbrev cJ9_max_7cf53 : ByteArray := prog_16_method_65_code
def yJ9_max_7cf53 : MethodName := ⟨RJ9, "max", "(II)I"⟩
abbrev cJ9_min_7cf53 : ByteArray := prog_16_method_69_code
def yJ9_min_7cf53 : MethodName := ⟨RJ9, "min", "(II)I"⟩
def RJ0 : String := "java/lang/String"
def TJ0 : u_T := fun k => match k with
  | _ => ("", "", "", false)
def tyJ0 : Nat → FieldType := fun k => match k with
  | _ => .int
abbrev wsJ00 : List Cond := u_ws RJ0 TJ0 0
theorem nmJ0 : ∀ a, a < 0 → ∀ b, b < 0 → a ≠ b → (TJ0 a).2.1 ≠ (TJ0 b).2.1 := by decide +kernel
theorem tyJ0_ok : ∀ k, k < 0 → parseFieldDescriptor (TJ0 k).2.2.1 = some (tyJ0 k) := by decide +kernel
abbrev cJ0_length_8abf5 : ByteArray := prog_17_method_54_code
def yJ0_length_8abf5 : MethodName := ⟨RJ0, "length", "()I"⟩
abbrev cJ0_charAt_5068e : ByteArray := prog_17_method_56_code
def yJ0_charAt_5068e : MethodName := ⟨RJ0, "charAt", "(I)C"⟩
abbrev cJ0_coder_7d493 : ByteArray := prog_17_method_152_code
def yJ0_coder_7d493 : MethodName := ⟨RJ0, "coder", "()B"⟩
abbrev cJ0_isLatin1_aae02 : ByteArray := prog_17_method_154_code
def yJ0_isLatin1_aae02 : MethodName := ⟨RJ0, "isLatin1", "()Z"⟩
abbrev cJ0_checkIndex_df160 : ByteArray := prog_17_method_155_code
def yJ0_checkIndex_df160 : MethodName := ⟨RJ0, "checkIndex", "(II)V"⟩
def RJ1 : String := "java/lang/StringLatin1"
def TJ1 : u_T := fun k => match k with
  | _ => ("", "", "", false)
def tyJ1 : Nat → FieldType := fun k => match k with
  | _ => .int
abbrev wsJ10 : List Cond := u_ws RJ1 TJ1 0
theorem nmJ1 : ∀ a, a < 0 → ∀ b, b < 0 → a ≠ b → (TJ1 a).2.1 ≠ (TJ1 b).2.1 := by decide +kernel
theorem tyJ1_ok : ∀ k, k < 0 → parseFieldDescriptor (TJ1 k).2.2.1 = some (tyJ1 k) := by decide +kernel
abbrev cJ1_charAt_3b067 : ByteArray := prog_18_method_2_code
def yJ1_charAt_3b067 : MethodName := ⟨RJ1, "charAt", "([BI)C"⟩
def RJ2 : String := "java/lang/StringUTF16"
def TJ2 : u_T := fun k => match k with
  | _ => ("", "", "", false)
def tyJ2 : Nat → FieldType := fun k => match k with
  | _ => .int
abbrev wsJ20 : List Cond := u_ws RJ2 TJ2 0
theorem nmJ2 : ∀ a, a < 0 → ∀ b, b < 0 → a ≠ b → (TJ2 a).2.1 ≠ (TJ2 b).2.1 := by decide +kernel
theorem tyJ2_ok : ∀ k, k < 0 → parseFieldDescriptor (TJ2 k).2.2.1 = some (tyJ2 k) := by decide +kernel
abbrev cJ2_getChar_3b067 : ByteArray := prog_19_method_5_code
def yJ2_getChar_3b067 : MethodName := ⟨RJ2, "getChar", "([BI)C"⟩
abbrev cJ2_length_9d52b : ByteArray := prog_19_method_6_code
def yJ2_length_9d52b : MethodName := ⟨RJ2, "length", "([B)I"⟩
abbrev cJ2_charAt_3b067 : ByteArray := prog_19_method_83_code
def yJ2_charAt_3b067 : MethodName := ⟨RJ2, "charAt", "([BI)C"⟩
abbrev cJ2_checkIndex_2214a : ByteArray := prog_19_method_91_code
def yJ2_checkIndex_2214a : MethodName := ⟨RJ2, "checkIndex", "(I[B)V"⟩
def RJ10 : String := "java/lang/System"
def TJ10 : u_T := fun k => match k with
  | _ => ("", "", "", false)
def tyJ10 : Nat → FieldType := fun k => match k with
  | _ => .int
abbrev wsJ100 : List Cond := u_ws RJ10 TJ10 0
theorem nmJ10 : ∀ a, a < 0 → ∀ b, b < 0 → a ≠ b → (TJ10 a).2.1 ≠ (TJ10 b).2.1 := by decide +kernel
theorem tyJ10_ok : ∀ k, k < 0 → parseFieldDescriptor (TJ10 k).2.2.1 = some (tyJ10 k) := by decide +kernel
def RJxfd54e : String := "java/lang/constant/Constable"
def TJxfd54e : u_T := fun k => match k with
  | _ => ("", "", "", false)
def tyJxfd54e : Nat → FieldType := fun k => match k with
  | _ => .int
abbrev wsJxfd54e0 : List Cond := u_ws RJxfd54e TJxfd54e 0
theorem nmJxfd54e : ∀ a, a < 0 → ∀ b, b < 0 → a ≠ b → (TJxfd54e a).2.1 ≠ (TJxfd54e b).2.1 := by decide +kernel
theorem tyJxfd54e_ok : ∀ k, k < 0 → parseFieldDescriptor (TJxfd54e k).2.2.1 = some (tyJxfd54e k) := by decide +kernel
def RJx3cf43 : String := "java/lang/constant/ConstantDesc"
def TJx3cf43 : u_T := fun k => match k with
  | _ => ("", "", "", false)
def tyJx3cf43 : Nat → FieldType := fun k => match k with
  | _ => .int
abbrev wsJx3cf430 : List Cond := u_ws RJx3cf43 TJx3cf43 0
theorem nmJx3cf43 : ∀ a, a < 0 → ∀ b, b < 0 → a ≠ b → (TJx3cf43 a).2.1 ≠ (TJx3cf43 b).2.1 := by decide +kernel
theorem tyJx3cf43_ok : ∀ k, k < 0 → parseFieldDescriptor (TJx3cf43 k).2.2.1 = some (tyJx3cf43 k) := by decide +kernel
def RJ7 : String := "java/util/Arrays"
def TJ7 : u_T := fun k => match k with
  | _ => ("", "", "", false)
def tyJ7 : Nat → FieldType := fun k => match k with
  | _ => .int
abbrev wsJ70 : List Cond := u_ws RJ7 TJ7 0
theorem nmJ7 : ∀ a, a < 0 → ∀ b, b < 0 → a ≠ b → (TJ7 a).2.1 ≠ (TJ7 b).2.1 := by decide +kernel
theorem tyJ7_ok : ∀ k, k < 0 → parseFieldDescriptor (TJ7 k).2.2.1 = some (tyJ7 k) := by decide +kernel
abbrev cJ7_fill_53178 : ByteArray := prog_21_method_103_code
def yJ7_fill_53178 : MethodName := ⟨RJ7, "fill", "([II)V"⟩
abbrev cJ7_copyOf_59c91 : ByteArray := prog_21_method_123_code
def yJ7_copyOf_59c91 : MethodName := ⟨RJ7, "copyOf", "([II)[I"⟩
def RJ3 : String := "jdk/internal/util/Preconditions"
def TJ3 : u_T := fun k => match k with
  | _ => ("", "", "", false)
def tyJ3 : Nat → FieldType := fun k => match k with
  | _ => .int
abbrev wsJ30 : List Cond := u_ws RJ3 TJ3 0
theorem nmJ3 : ∀ a, a < 0 → ∀ b, b < 0 → a ≠ b → (TJ3 a).2.1 ≠ (TJ3 b).2.1 := by decide +kernel
theorem tyJ3_ok : ∀ k, k < 0 → parseFieldDescriptor (TJ3 k).2.2.1 = some (tyJ3 k) := by decide +kernel
abbrev cJ3_checkIndex_8e157 : ByteArray := prog_22_method_11_code
def yJ3_checkIndex_8e157 : MethodName := ⟨RJ3, "checkIndex", "(IILjava/util/function/BiFunction;)I"⟩
def RL : String := "ToldByWitnessesLaw"
abbrev cL_law : ByteArray := code
def yL_law : MethodName := ⟨RL, "law", "([I)Z"⟩
abbrev vwCl : List vw_C := [(RX0, TX0, 8), (RX2, TX2, 5), (RX3, TX3, 7), (RX4, TX4, 6), (RX6, TX6, 3), (RX8, TX8, 2), (RX9, TX9, 10), (RX10, TX10, 18), (RX11, TX11, 41)]
