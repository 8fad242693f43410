section
-- ===== PART A: goes FIRST, ahead of the names: the tables' words, and 'selects' of the private methods out of them =====
/-- a private method of a class that the tables say can be made, by its rows of tables_1 -/
def lw_okq (q : MethodName × Nat) : Prop := (q.1.cls ≠ "java/lang/invoke/MethodHandle" ∧ q.1.cls ≠ "java/lang/invoke/VarHandle") ∧ Cond.instantiable q.1.cls q.2 ∈ tables_1 ∧ Cond.privateMethod q.1 ∈ tables_1 ∧ Cond.instanceMethod q.1 ∈ tables_1
theorem lw_p0 : lw_okq (⟨"MoleculeRegistry", "append", "(J)V"⟩, 11) := ⟨⟨by decide +kernel, by decide +kernel⟩, List.mem_of_getElem? (i := 27) (by decide +kernel), List.mem_of_getElem? (i := 225) (by decide +kernel), List.mem_of_getElem? (i := 226) (by decide +kernel)⟩
theorem lw_p1 : lw_okq (⟨"MoleculeRegistry", "carryOut", "()V"⟩, 11) := ⟨⟨by decide +kernel, by decide +kernel⟩, List.mem_of_getElem? (i := 27) (by decide +kernel), List.mem_of_getElem? (i := 245) (by decide +kernel), List.mem_of_getElem? (i := 246) (by decide +kernel)⟩
theorem lw_p2 : lw_okq (⟨"MoleculeRegistry", "visible", "(I)LMoleculeRegistry$Graph;"⟩, 11) := ⟨⟨by decide +kernel, by decide +kernel⟩, List.mem_of_getElem? (i := 27) (by decide +kernel), List.mem_of_getElem? (i := 281) (by decide +kernel), List.mem_of_getElem? (i := 282) (by decide +kernel)⟩
theorem lw_p3 : lw_okq (⟨"MoleculeRegistry", "readBuffer", "(Z)V"⟩, 11) := ⟨⟨by decide +kernel, by decide +kernel⟩, List.mem_of_getElem? (i := 27) (by decide +kernel), List.mem_of_getElem? (i := 313) (by decide +kernel), List.mem_of_getElem? (i := 314) (by decide +kernel)⟩
theorem lw_p4 : lw_okq (⟨"MoleculeRegistry", "refuseWhenDown", "()V"⟩, 11) := ⟨⟨by decide +kernel, by decide +kernel⟩, List.mem_of_getElem? (i := 27) (by decide +kernel), List.mem_of_getElem? (i := 317) (by decide +kernel), List.mem_of_getElem? (i := 318) (by decide +kernel)⟩
theorem lw_p5 : lw_okq (⟨"java/lang/Throwable", "fillInStackTrace", "(I)Ljava/lang/Throwable;"⟩, 6) := ⟨⟨by decide +kernel, by decide +kernel⟩, List.mem_of_getElem? (i := 361) (by decide +kernel), List.mem_of_getElem? (i := 359) (by decide +kernel), List.mem_of_getElem? (i := 360) (by decide +kernel)⟩
theorem lw_p6 : lw_okq (⟨"MoleculeRegistry$Reader", "readLink", "()I"⟩, 15) := ⟨⟨by decide +kernel, by decide +kernel⟩, List.mem_of_getElem? (i := 35) (by decide +kernel), List.mem_of_getElem? (i := 406) (by decide +kernel), List.mem_of_getElem? (i := 407) (by decide +kernel)⟩
theorem lw_p7 : lw_okq (⟨"MoleculeRegistry$Reader", "takes", "(C)Z"⟩, 15) := ⟨⟨by decide +kernel, by decide +kernel⟩, List.mem_of_getElem? (i := 35) (by decide +kernel), List.mem_of_getElem? (i := 410) (by decide +kernel), List.mem_of_getElem? (i := 411) (by decide +kernel)⟩
theorem lw_p8 : lw_okq (⟨"MoleculeRegistry$Reader", "readAtom", "()Z"⟩, 15) := ⟨⟨by decide +kernel, by decide +kernel⟩, List.mem_of_getElem? (i := 35) (by decide +kernel), List.mem_of_getElem? (i := 414) (by decide +kernel), List.mem_of_getElem? (i := 415) (by decide +kernel)⟩
theorem lw_p9 : lw_okq (⟨"MoleculeRegistry$Reader", "here", "()C"⟩, 15) := ⟨⟨by decide +kernel, by decide +kernel⟩, List.mem_of_getElem? (i := 35) (by decide +kernel), List.mem_of_getElem? (i := 418) (by decide +kernel), List.mem_of_getElem? (i := 419) (by decide +kernel)⟩
theorem lw_p10 : lw_okq (⟨"MoleculeRegistry$Reader", "readBrackets", "()Z"⟩, 15) := ⟨⟨by decide +kernel, by decide +kernel⟩, List.mem_of_getElem? (i := 35) (by decide +kernel), List.mem_of_getElem? (i := 422) (by decide +kernel), List.mem_of_getElem? (i := 423) (by decide +kernel)⟩
theorem lw_p11 : lw_okq (⟨"MoleculeRegistry$Reader", "readList", "(C)Z"⟩, 15) := ⟨⟨by decide +kernel, by decide +kernel⟩, List.mem_of_getElem? (i := 35) (by decide +kernel), List.mem_of_getElem? (i := 511) (by decide +kernel), List.mem_of_getElem? (i := 512) (by decide +kernel)⟩
theorem lw_p12 : lw_okq (⟨"MoleculeRegistry$Reader", "addAtom", "(II)Z"⟩, 15) := ⟨⟨by decide +kernel, by decide +kernel⟩, List.mem_of_getElem? (i := 35) (by decide +kernel), List.mem_of_getElem? (i := 515) (by decide +kernel), List.mem_of_getElem? (i := 516) (by decide +kernel)⟩
theorem lw_p13 : lw_okq (⟨"MoleculeRegistry$Reader", "readHydrogens", "()I"⟩, 15) := ⟨⟨by decide +kernel, by decide +kernel⟩, List.mem_of_getElem? (i := 35) (by decide +kernel), List.mem_of_getElem? (i := 519) (by decide +kernel), List.mem_of_getElem? (i := 520) (by decide +kernel)⟩
theorem lw_p14 : lw_okq (⟨"MoleculeRegistry$Reader", "readCharge", "()I"⟩, 15) := ⟨⟨by decide +kernel, by decide +kernel⟩, List.mem_of_getElem? (i := 35) (by decide +kernel), List.mem_of_getElem? (i := 523) (by decide +kernel), List.mem_of_getElem? (i := 524) (by decide +kernel)⟩
theorem lw_p15 : lw_okq (⟨"MoleculeRegistry$Reader", "bind", "(III)Z"⟩, 15) := ⟨⟨by decide +kernel, by decide +kernel⟩, List.mem_of_getElem? (i := 35) (by decide +kernel), List.mem_of_getElem? (i := 528) (by decide +kernel), List.mem_of_getElem? (i := 529) (by decide +kernel)⟩
def lw_privs_1 : List (MethodName × Nat) := [(⟨"MoleculeRegistry", "append", "(J)V"⟩, 11), (⟨"MoleculeRegistry", "carryOut", "()V"⟩, 11), (⟨"MoleculeRegistry", "visible", "(I)LMoleculeRegistry$Graph;"⟩, 11), (⟨"MoleculeRegistry", "readBuffer", "(Z)V"⟩, 11), (⟨"MoleculeRegistry", "refuseWhenDown", "()V"⟩, 11), (⟨"java/lang/Throwable", "fillInStackTrace", "(I)Ljava/lang/Throwable;"⟩, 6), (⟨"MoleculeRegistry$Reader", "readLink", "()I"⟩, 15), (⟨"MoleculeRegistry$Reader", "takes", "(C)Z"⟩, 15), (⟨"MoleculeRegistry$Reader", "readAtom", "()Z"⟩, 15), (⟨"MoleculeRegistry$Reader", "here", "()C"⟩, 15), (⟨"MoleculeRegistry$Reader", "readBrackets", "()Z"⟩, 15), (⟨"MoleculeRegistry$Reader", "readList", "(C)Z"⟩, 15), (⟨"MoleculeRegistry$Reader", "addAtom", "(II)Z"⟩, 15), (⟨"MoleculeRegistry$Reader", "readHydrogens", "()I"⟩, 15), (⟨"MoleculeRegistry$Reader", "readCharge", "()I"⟩, 15), (⟨"MoleculeRegistry$Reader", "bind", "(III)Z"⟩, 15)]
theorem lw_r1 : ∀ q ∈ lw_privs_1, lw_okq q := List.forall_mem_cons.mpr ⟨lw_p0, List.forall_mem_cons.mpr ⟨lw_p1, List.forall_mem_cons.mpr ⟨lw_p2, List.forall_mem_cons.mpr ⟨lw_p3, List.forall_mem_cons.mpr ⟨lw_p4, List.forall_mem_cons.mpr ⟨lw_p5, List.forall_mem_cons.mpr ⟨lw_p6, List.forall_mem_cons.mpr ⟨lw_p7, List.forall_mem_cons.mpr ⟨lw_p8, List.forall_mem_cons.mpr ⟨lw_p9, List.forall_mem_cons.mpr ⟨lw_p10, List.forall_mem_cons.mpr ⟨lw_p11, List.forall_mem_cons.mpr ⟨lw_p12, List.forall_mem_cons.mpr ⟨lw_p13, List.forall_mem_cons.mpr ⟨lw_p14, List.forall_mem_cons.mpr ⟨lw_p15, fun _ h => absurd h List.not_mem_nil⟩⟩⟩⟩⟩⟩⟩⟩⟩⟩⟩⟩⟩⟩⟩⟩
theorem lw_p16 : lw_okq (⟨"MoleculeRegistry$Reader", "kindFor", "(III)I"⟩, 15) := ⟨⟨by decide +kernel, by decide +kernel⟩, List.mem_of_getElem? (i := 35) (by decide +kernel), List.mem_of_getElem? (i := 532) (by decide +kernel), List.mem_of_getElem? (i := 533) (by decide +kernel)⟩
theorem lw_p17 : lw_okq (⟨"MoleculeRegistry$Reader", "areBound", "(II)Z"⟩, 15) := ⟨⟨by decide +kernel, by decide +kernel⟩, List.mem_of_getElem? (i := 35) (by decide +kernel), List.mem_of_getElem? (i := 536) (by decide +kernel), List.mem_of_getElem? (i := 537) (by decide +kernel)⟩
theorem lw_p18 : lw_okq (⟨"MoleculeRegistry$Reader", "readClosures", "(I)Z"⟩, 15) := ⟨⟨by decide +kernel, by decide +kernel⟩, List.mem_of_getElem? (i := 35) (by decide +kernel), List.mem_of_getElem? (i := 540) (by decide +kernel), List.mem_of_getElem? (i := 541) (by decide +kernel)⟩
theorem lw_p19 : lw_okq (⟨"MoleculeRegistry$Reader", "openOrClose", "(III)Z"⟩, 15) := ⟨⟨by decide +kernel, by decide +kernel⟩, List.mem_of_getElem? (i := 35) (by decide +kernel), List.mem_of_getElem? (i := 544) (by decide +kernel), List.mem_of_getElem? (i := 545) (by decide +kernel)⟩
theorem lw_p20 : lw_okq (⟨"MoleculeRegistry$Reader", "readPartEnds", "(I)I"⟩, 15) := ⟨⟨by decide +kernel, by decide +kernel⟩, List.mem_of_getElem? (i := 35) (by decide +kernel), List.mem_of_getElem? (i := 548) (by decide +kernel), List.mem_of_getElem? (i := 549) (by decide +kernel)⟩
theorem lw_p21 : lw_okq (⟨"MoleculeRegistry$Reader", "readPartStart", "(I)V"⟩, 15) := ⟨⟨by decide +kernel, by decide +kernel⟩, List.mem_of_getElem? (i := 35) (by decide +kernel), List.mem_of_getElem? (i := 552) (by decide +kernel), List.mem_of_getElem? (i := 553) (by decide +kernel)⟩
theorem lw_p22 : lw_okq (⟨"MoleculeRegistry$Graph", "joinOneWay", "(III)V"⟩, 5) := ⟨⟨by decide +kernel, by decide +kernel⟩, List.mem_of_getElem? (i := 91) (by decide +kernel), List.mem_of_getElem? (i := 610) (by decide +kernel), List.mem_of_getElem? (i := 611) (by decide +kernel)⟩
theorem lw_p23 : lw_okq (⟨"MoleculeRegistry", "idOfSame", "()I"⟩, 11) := ⟨⟨by decide +kernel, by decide +kernel⟩, List.mem_of_getElem? (i := 27) (by decide +kernel), List.mem_of_getElem? (i := 666) (by decide +kernel), List.mem_of_getElem? (i := 667) (by decide +kernel)⟩
theorem lw_p24 : lw_okq (⟨"MoleculeRegistry$Matcher", "findChoices", "(LMoleculeRegistry$Graph;LMoleculeRegistry$Graph;I)Z"⟩, 2) := ⟨⟨by decide +kernel, by decide +kernel⟩, List.mem_of_getElem? (i := 120) (by decide +kernel), List.mem_of_getElem? (i := 674) (by decide +kernel), List.mem_of_getElem? (i := 675) (by decide +kernel)⟩
theorem lw_p25 : lw_okq (⟨"MoleculeRegistry$Matcher", "canPlace", "(LMoleculeRegistry$Graph;LMoleculeRegistry$Graph;II)Z"⟩, 2) := ⟨⟨by decide +kernel, by decide +kernel⟩, List.mem_of_getElem? (i := 120) (by decide +kernel), List.mem_of_getElem? (i := 690) (by decide +kernel), List.mem_of_getElem? (i := 691) (by decide +kernel)⟩
theorem lw_p26 : lw_okq (⟨"MoleculeRegistry", "change", "(ZI)Z"⟩, 11) := ⟨⟨by decide +kernel, by decide +kernel⟩, List.mem_of_getElem? (i := 27) (by decide +kernel), List.mem_of_getElem? (i := 712) (by decide +kernel), List.mem_of_getElem? (i := 713) (by decide +kernel)⟩
theorem lw_p27 : lw_okq (⟨"MoleculeRegistryModel", "raise", "(I)I"⟩, 40) := ⟨⟨by decide +kernel, by decide +kernel⟩, List.mem_of_getElem? (i := 746) (by decide +kernel), List.mem_of_getElem? (i := 890) (by decide +kernel), List.mem_of_getElem? (i := 891) (by decide +kernel)⟩
theorem lw_p28 : lw_okq (⟨"MoleculeRegistryModel", "wrongness", "()I"⟩, 40) := ⟨⟨by decide +kernel, by decide +kernel⟩, List.mem_of_getElem? (i := 746) (by decide +kernel), List.mem_of_getElem? (i := 894) (by decide +kernel), List.mem_of_getElem? (i := 895) (by decide +kernel)⟩
theorem lw_p29 : lw_okq (⟨"MoleculeRegistryModel", "read", "(Z)Z"⟩, 40) := ⟨⟨by decide +kernel, by decide +kernel⟩, List.mem_of_getElem? (i := 746) (by decide +kernel), List.mem_of_getElem? (i := 898) (by decide +kernel), List.mem_of_getElem? (i := 899) (by decide +kernel)⟩
theorem lw_p30 : lw_okq (⟨"MoleculeRegistryModel", "ch", "(I)I"⟩, 40) := ⟨⟨by decide +kernel, by decide +kernel⟩, List.mem_of_getElem? (i := 746) (by decide +kernel), List.mem_of_getElem? (i := 902) (by decide +kernel), List.mem_of_getElem? (i := 903) (by decide +kernel)⟩
theorem lw_p31 : lw_okq (⟨"MoleculeRegistryModel", "atom", "(Z)Z"⟩, 40) := ⟨⟨by decide +kernel, by decide +kernel⟩, List.mem_of_getElem? (i := 746) (by decide +kernel), List.mem_of_getElem? (i := 909) (by decide +kernel), List.mem_of_getElem? (i := 910) (by decide +kernel)⟩
def lw_privs_2 : List (MethodName × Nat) := [(⟨"MoleculeRegistry$Reader", "kindFor", "(III)I"⟩, 15), (⟨"MoleculeRegistry$Reader", "areBound", "(II)Z"⟩, 15), (⟨"MoleculeRegistry$Reader", "readClosures", "(I)Z"⟩, 15), (⟨"MoleculeRegistry$Reader", "openOrClose", "(III)Z"⟩, 15), (⟨"MoleculeRegistry$Reader", "readPartEnds", "(I)I"⟩, 15), (⟨"MoleculeRegistry$Reader", "readPartStart", "(I)V"⟩, 15), (⟨"MoleculeRegistry$Graph", "joinOneWay", "(III)V"⟩, 5), (⟨"MoleculeRegistry", "idOfSame", "()I"⟩, 11), (⟨"MoleculeRegistry$Matcher", "findChoices", "(LMoleculeRegistry$Graph;LMoleculeRegistry$Graph;I)Z"⟩, 2), (⟨"MoleculeRegistry$Matcher", "canPlace", "(LMoleculeRegistry$Graph;LMoleculeRegistry$Graph;II)Z"⟩, 2), (⟨"MoleculeRegistry", "change", "(ZI)Z"⟩, 11), (⟨"MoleculeRegistryModel", "raise", "(I)I"⟩, 40), (⟨"MoleculeRegistryModel", "wrongness", "()I"⟩, 40), (⟨"MoleculeRegistryModel", "read", "(Z)Z"⟩, 40), (⟨"MoleculeRegistryModel", "ch", "(I)I"⟩, 40), (⟨"MoleculeRegistryModel", "atom", "(Z)Z"⟩, 40)]
theorem lw_r2 : ∀ q ∈ lw_privs_2, lw_okq q := List.forall_mem_cons.mpr ⟨lw_p16, List.forall_mem_cons.mpr ⟨lw_p17, List.forall_mem_cons.mpr ⟨lw_p18, List.forall_mem_cons.mpr ⟨lw_p19, List.forall_mem_cons.mpr ⟨lw_p20, List.forall_mem_cons.mpr ⟨lw_p21, List.forall_mem_cons.mpr ⟨lw_p22, List.forall_mem_cons.mpr ⟨lw_p23, List.forall_mem_cons.mpr ⟨lw_p24, List.forall_mem_cons.mpr ⟨lw_p25, List.forall_mem_cons.mpr ⟨lw_p26, List.forall_mem_cons.mpr ⟨lw_p27, List.forall_mem_cons.mpr ⟨lw_p28, List.forall_mem_cons.mpr ⟨lw_p29, List.forall_mem_cons.mpr ⟨lw_p30, List.forall_mem_cons.mpr ⟨lw_p31, fun _ h => absurd h List.not_mem_nil⟩⟩⟩⟩⟩⟩⟩⟩⟩⟩⟩⟩⟩⟩⟩⟩
theorem lw_p32 : lw_okq (⟨"MoleculeRegistryModel", "newAtom", "(IZ)V"⟩, 40) := ⟨⟨by decide +kernel, by decide +kernel⟩, List.mem_of_getElem? (i := 746) (by decide +kernel), List.mem_of_getElem? (i := 916) (by decide +kernel), List.mem_of_getElem? (i := 917) (by decide +kernel)⟩
theorem lw_p33 : lw_okq (⟨"MoleculeRegistryModel", "several", "()Z"⟩, 40) := ⟨⟨by decide +kernel, by decide +kernel⟩, List.mem_of_getElem? (i := 746) (by decide +kernel), List.mem_of_getElem? (i := 920) (by decide +kernel), List.mem_of_getElem? (i := 921) (by decide +kernel)⟩
theorem lw_p34 : lw_okq (⟨"MoleculeRegistryModel", "one", "()Z"⟩, 40) := ⟨⟨by decide +kernel, by decide +kernel⟩, List.mem_of_getElem? (i := 746) (by decide +kernel), List.mem_of_getElem? (i := 924) (by decide +kernel), List.mem_of_getElem? (i := 925) (by decide +kernel)⟩
theorem lw_p35 : lw_okq (⟨"MoleculeRegistryModel", "bind", "(III)V"⟩, 40) := ⟨⟨by decide +kernel, by decide +kernel⟩, List.mem_of_getElem? (i := 746) (by decide +kernel), List.mem_of_getElem? (i := 928) (by decide +kernel), List.mem_of_getElem? (i := 929) (by decide +kernel)⟩
theorem lw_p36 : lw_okq (⟨"MoleculeRegistryModel", "closures", "(IZ)V"⟩, 40) := ⟨⟨by decide +kernel, by decide +kernel⟩, List.mem_of_getElem? (i := 746) (by decide +kernel), List.mem_of_getElem? (i := 932) (by decide +kernel), List.mem_of_getElem? (i := 933) (by decide +kernel)⟩
theorem lw_p37 : lw_okq (⟨"MoleculeRegistryModel", "valences", "()Z"⟩, 40) := ⟨⟨by decide +kernel, by decide +kernel⟩, List.mem_of_getElem? (i := 746) (by decide +kernel), List.mem_of_getElem? (i := 936) (by decide +kernel), List.mem_of_getElem? (i := 937) (by decide +kernel)⟩
theorem lw_p38 : lw_okq (⟨"MoleculeRegistryModel", "orders", "(I)I"⟩, 40) := ⟨⟨by decide +kernel, by decide +kernel⟩, List.mem_of_getElem? (i := 746) (by decide +kernel), List.mem_of_getElem? (i := 940) (by decide +kernel), List.mem_of_getElem? (i := 941) (by decide +kernel)⟩
theorem lw_p39 : lw_okq (⟨"MoleculeRegistryModel", "most", "(I)I"⟩, 40) := ⟨⟨by decide +kernel, by decide +kernel⟩, List.mem_of_getElem? (i := 746) (by decide +kernel), List.mem_of_getElem? (i := 944) (by decide +kernel), List.mem_of_getElem? (i := 945) (by decide +kernel)⟩
theorem lw_p40 : lw_okq (⟨"MoleculeRegistryModel", "matching", "()Z"⟩, 40) := ⟨⟨by decide +kernel, by decide +kernel⟩, List.mem_of_getElem? (i := 746) (by decide +kernel), List.mem_of_getElem? (i := 948) (by decide +kernel), List.mem_of_getElem? (i := 949) (by decide +kernel)⟩
theorem lw_p41 : lw_okq (⟨"MoleculeRegistryModel", "pairs", "(I)Z"⟩, 40) := ⟨⟨by decide +kernel, by decide +kernel⟩, List.mem_of_getElem? (i := 746) (by decide +kernel), List.mem_of_getElem? (i := 952) (by decide +kernel), List.mem_of_getElem? (i := 953) (by decide +kernel)⟩
theorem lw_p42 : lw_okq (⟨"MoleculeRegistryModel", "free", "()I"⟩, 40) := ⟨⟨by decide +kernel, by decide +kernel⟩, List.mem_of_getElem? (i := 746) (by decide +kernel), List.mem_of_getElem? (i := 956) (by decide +kernel), List.mem_of_getElem? (i := 957) (by decide +kernel)⟩
theorem lw_p43 : lw_okq (⟨"MoleculeRegistryModel", "same", "()I"⟩, 40) := ⟨⟨by decide +kernel, by decide +kernel⟩, List.mem_of_getElem? (i := 746) (by decide +kernel), List.mem_of_getElem? (i := 960) (by decide +kernel), List.mem_of_getElem? (i := 961) (by decide +kernel)⟩
theorem lw_p44 : lw_okq (⟨"MoleculeRegistryModel", "canBePut", "(IZ)Z"⟩, 40) := ⟨⟨by decide +kernel, by decide +kernel⟩, List.mem_of_getElem? (i := 746) (by decide +kernel), List.mem_of_getElem? (i := 964) (by decide +kernel), List.mem_of_getElem? (i := 965) (by decide +kernel)⟩
theorem lw_p45 : lw_okq (⟨"MoleculeRegistryModel", "agrees", "(IIIZ)Z"⟩, 40) := ⟨⟨by decide +kernel, by decide +kernel⟩, List.mem_of_getElem? (i := 746) (by decide +kernel), List.mem_of_getElem? (i := 968) (by decide +kernel), List.mem_of_getElem? (i := 969) (by decide +kernel)⟩
theorem lw_p46 : lw_okq (⟨"MoleculeRegistryModel", "fits", "(IIIZ)Z"⟩, 40) := ⟨⟨by decide +kernel, by decide +kernel⟩, List.mem_of_getElem? (i := 746) (by decide +kernel), List.mem_of_getElem? (i := 972) (by decide +kernel), List.mem_of_getElem? (i := 973) (by decide +kernel)⟩
theorem lw_p47 : lw_okq (⟨"MoleculeRegistryModel", "keepText", "()V"⟩, 40) := ⟨⟨by decide +kernel, by decide +kernel⟩, List.mem_of_getElem? (i := 746) (by decide +kernel), List.mem_of_getElem? (i := 976) (by decide +kernel), List.mem_of_getElem? (i := 977) (by decide +kernel)⟩
def lw_privs_3 : List (MethodName × Nat) := [(⟨"MoleculeRegistryModel", "newAtom", "(IZ)V"⟩, 40), (⟨"MoleculeRegistryModel", "several", "()Z"⟩, 40), (⟨"MoleculeRegistryModel", "one", "()Z"⟩, 40), (⟨"MoleculeRegistryModel", "bind", "(III)V"⟩, 40), (⟨"MoleculeRegistryModel", "closures", "(IZ)V"⟩, 40), (⟨"MoleculeRegistryModel", "valences", "()Z"⟩, 40), (⟨"MoleculeRegistryModel", "orders", "(I)I"⟩, 40), (⟨"MoleculeRegistryModel", "most", "(I)I"⟩, 40), (⟨"MoleculeRegistryModel", "matching", "()Z"⟩, 40), (⟨"MoleculeRegistryModel", "pairs", "(I)Z"⟩, 40), (⟨"MoleculeRegistryModel", "free", "()I"⟩, 40), (⟨"MoleculeRegistryModel", "same", "()I"⟩, 40), (⟨"MoleculeRegistryModel", "canBePut", "(IZ)Z"⟩, 40), (⟨"MoleculeRegistryModel", "agrees", "(IIIZ)Z"⟩, 40), (⟨"MoleculeRegistryModel", "fits", "(IIIZ)Z"⟩, 40), (⟨"MoleculeRegistryModel", "keepText", "()V"⟩, 40)]
theorem lw_r3 : ∀ q ∈ lw_privs_3, lw_okq q := List.forall_mem_cons.mpr ⟨lw_p32, List.forall_mem_cons.mpr ⟨lw_p33, List.forall_mem_cons.mpr ⟨lw_p34, List.forall_mem_cons.mpr ⟨lw_p35, List.forall_mem_cons.mpr ⟨lw_p36, List.forall_mem_cons.mpr ⟨lw_p37, List.forall_mem_cons.mpr ⟨lw_p38, List.forall_mem_cons.mpr ⟨lw_p39, List.forall_mem_cons.mpr ⟨lw_p40, List.forall_mem_cons.mpr ⟨lw_p41, List.forall_mem_cons.mpr ⟨lw_p42, List.forall_mem_cons.mpr ⟨lw_p43, List.forall_mem_cons.mpr ⟨lw_p44, List.forall_mem_cons.mpr ⟨lw_p45, List.forall_mem_cons.mpr ⟨lw_p46, List.forall_mem_cons.mpr ⟨lw_p47, fun _ h => absurd h List.not_mem_nil⟩⟩⟩⟩⟩⟩⟩⟩⟩⟩⟩⟩⟩⟩⟩⟩
theorem lw_p48 : lw_okq (⟨"MoleculeRegistryModel", "change", "(II)Z"⟩, 40) := ⟨⟨by decide +kernel, by decide +kernel⟩, List.mem_of_getElem? (i := 746) (by decide +kernel), List.mem_of_getElem? (i := 980) (by decide +kernel), List.mem_of_getElem? (i := 981) (by decide +kernel)⟩
theorem lw_p49 : lw_okq (⟨"MoleculeRegistryModel", "perform", "()V"⟩, 40) := ⟨⟨by decide +kernel, by decide +kernel⟩, List.mem_of_getElem? (i := 746) (by decide +kernel), List.mem_of_getElem? (i := 984) (by decide +kernel), List.mem_of_getElem? (i := 985) (by decide +kernel)⟩
theorem lw_p50 : lw_okq (⟨"MoleculeRegistryModel", "placeOfId", "(I)I"⟩, 40) := ⟨⟨by decide +kernel, by decide +kernel⟩, List.mem_of_getElem? (i := 746) (by decide +kernel), List.mem_of_getElem? (i := 988) (by decide +kernel), List.mem_of_getElem? (i := 989) (by decide +kernel)⟩
theorem lw_p51 : lw_okq (⟨"MoleculeRegistryModel", "copyMolecule", "(II)V"⟩, 40) := ⟨⟨by decide +kernel, by decide +kernel⟩, List.mem_of_getElem? (i := 746) (by decide +kernel), List.mem_of_getElem? (i := 992) (by decide +kernel), List.mem_of_getElem? (i := 993) (by decide +kernel)⟩
def lw_privs_4 : List (MethodName × Nat) := [(⟨"MoleculeRegistryModel", "change", "(II)Z"⟩, 40), (⟨"MoleculeRegistryModel", "perform", "()V"⟩, 40), (⟨"MoleculeRegistryModel", "placeOfId", "(I)I"⟩, 40), (⟨"MoleculeRegistryModel", "copyMolecule", "(II)V"⟩, 40)]
theorem lw_r4 : ∀ q ∈ lw_privs_4, lw_okq q := List.forall_mem_cons.mpr ⟨lw_p48, List.forall_mem_cons.mpr ⟨lw_p49, List.forall_mem_cons.mpr ⟨lw_p50, List.forall_mem_cons.mpr ⟨lw_p51, fun _ h => absurd h List.not_mem_nil⟩⟩⟩⟩
def lw_privs : List (MethodName × Nat) := lw_privs_1 ++ (lw_privs_2 ++ (lw_privs_3 ++ (lw_privs_4)))
def lw_tbl : List Cond := k2_sels lw_privs ++ tables_1
theorem lw_privs_ok : ∀ q ∈ lw_privs, lw_okq q := by
  show ∀ q ∈ lw_privs_1 ++ (lw_privs_2 ++ (lw_privs_3 ++ (lw_privs_4))), lw_okq q
  exact List.forall_mem_append.mpr ⟨lw_r1, List.forall_mem_append.mpr ⟨lw_r2, List.forall_mem_append.mpr ⟨lw_r3, lw_r4⟩⟩⟩
end
section
/-! THE ABSTRACT MACHINE: memory is a function from places to cells (references are places), a method's code a table of operations; 'jx_run' runs it. -/
abbrev jx_C : Type := (Nat × vp_A) ⊕ (Nat × List Value)
abbrev jx_M : Type := (Nat → jx_C) × Nat × Nat × Nat
abbrev jx_L : Type := List (Option Value)
abbrev jx_R : Type := Option Value ⊕ Nat
abbrev jx_N : Type := (Nat × jx_L × List Value × jx_M) ⊕ (jx_R × jx_M) ⊕ (Nat × List Value × List Value × Nat)
abbrev jx_O : Type := Nat → jx_L → List Value → jx_M → Option jx_N
/-- places below jx_g are what the program finds there (its script, constants); the rest it makes -/
def jx_g : Nat := 16
def jx_dead : jx_C := .inr (9999, [])
def jx_up (h : Nat → jx_C) (k : Nat) (c : jx_C) : Nat → jx_C := fun j => if j = k then c else h j
def jx_st (M : jx_M) (k : Nat) (c : jx_C) : jx_M := (jx_up M.1 k c, M.2)
def jx_pu (M : jx_M) (c : jx_C) (w : Nat) : Option jx_M := if 1 ≤ M.2.2.1 ∧ w ≤ M.2.2.2 then some (jx_up M.1 M.2.1 c, M.2.1 + 1, M.2.2.1 - 1, M.2.2.2 - w) else none
def jx_c2 (o : Option Value) : Bool := match o with
  | some (.long _) => true
  | some (.double _) => true
  | _ => false
def jx_s1 (L : jx_L) (i : Nat) (v : Value) : Option jx_L := if i < L.length ∧ (i = 0 ∨ jx_c2 (L.getD (i - 1) none) = false) then some (L.set i (some v)) else none
def jx_s2 (L : jx_L) (i : Nat) (v : Value) : Option jx_L := if i + 1 < L.length ∧ (i = 0 ∨ jx_c2 (L.getD (i - 1) none) = false) then some ((L.set i (some v)).set (i + 1) none) else none
/-! operations -/
def o_push (v : Value) (len : Nat) : jx_O := fun pc L st M => some (.inl (pc + len, L, v :: st, M))
def o_ild (i len : Nat) : jx_O := fun pc L st M => match L.getD i none with
  | some (.int x) => some (.inl (pc + len, L, .int x :: st, M))
  | _ => none
def o_lld (i len : Nat) : jx_O := fun pc L st M => match L.getD i none with
  | some (.long x) => some (.inl (pc + len, L, .long x :: st, M))
  | _ => none
def o_ald (i len : Nat) : jx_O := fun pc L st M => match L.getD i none with
  | some (.ref x) => some (.inl (pc + len, L, .ref x :: st, M))
  | some .null => some (.inl (pc + len, L, .null :: st, M))
  | _ => none
def o_ist (i len : Nat) : jx_O := fun pc L st M => match st with
  | .int x :: r => (jx_s1 L i (.int x)).map fun L' => .inl (pc + len, L', r, M)
  | _ => none
def o_lst (i len : Nat) : jx_O := fun pc L st M => match st with
  | .long x :: r => (jx_s2 L i (.long x)).map fun L' => .inl (pc + len, L', r, M)
  | _ => none
def o_ast (i len : Nat) : jx_O := fun pc L st M => match st with
  | .ref x :: r => (jx_s1 L i (.ref x)).map fun L' => .inl (pc + len, L', r, M)
  | .null :: r => (jx_s1 L i .null).map fun L' => .inl (pc + len, L', r, M)
  | _ => none
def o_iinc (i : Nat) (k : Int32) : jx_O := fun pc L st M => match L.getD i none with
  | some (.int x) => (jx_s1 L i (.int (x + k))).map fun L' => .inl (pc + 3, L', st, M)
  | _ => none
def o_bin (f : Int32 → Int32 → Int32) : jx_O := fun pc L st M => match st with
  | .int y :: .int x :: r => some (.inl (pc + 1, L, .int (f x y) :: r, M))
  | _ => none
def o_un (f : Int32 → Int32) : jx_O := fun pc L st M => match st with
  | .int x :: r => some (.inl (pc + 1, L, .int (f x) :: r, M))
  | _ => none
def o_binl (f : Int64 → Int64 → Int64) : jx_O := fun pc L st M => match st with
  | .long y :: .long x :: r => some (.inl (pc + 1, L, .long (f x y) :: r, M))
  | _ => none
def o_shl (f : Int64 → Int32 → Int64) : jx_O := fun pc L st M => match st with
  | .int y :: .long x :: r => some (.inl (pc + 1, L, .long (f x y) :: r, M))
  | _ => none
def o_i2l : jx_O := fun pc L st M => match st with
  | .int x :: r => some (.inl (pc + 1, L, .long x.toInt64 :: r, M))
  | _ => none
def o_l2i : jx_O := fun pc L st M => match st with
  | .long x :: r => some (.inl (pc + 1, L, .int x.toInt32 :: r, M))
  | _ => none
def o_lcmp : jx_O := fun pc L st M => match st with
  | .long y :: .long x :: r => some (.inl (pc + 1, L, .int (lg_cmp x y) :: r, M))
  | _ => none
def jx_v1 (v : Value) : Bool := match v with
  | .long _ => false
  | .double _ => false
  | _ => true
def o_dup : jx_O := fun pc L st M => match st with
  | a :: r => if jx_v1 a = true then some (.inl (pc + 1, L, a :: a :: r, M)) else none
  | _ => none
def o_pop : jx_O := fun pc L st M => match st with
  | a :: r => if jx_v1 a = true then some (.inl (pc + 1, L, r, M)) else none
  | _ => none
def o_dup_x1 : jx_O := fun pc L st M => match st with
  | a :: b :: r => if jx_v1 a = true ∧ jx_v1 b = true then some (.inl (pc + 1, L, a :: b :: a :: r, M)) else none
  | _ => none
def o_dup2 : jx_O := fun pc L st M => match st with
  | a :: b :: r => if jx_v1 a = true ∧ jx_v1 b = true then some (.inl (pc + 1, L, a :: b :: a :: b :: r, M)) else none
  | _ => none
def o_goto (t : Nat) : jx_O := fun _ L st M => some (.inl (t, L, st, M))
def o_ifeq (t : Nat) : jx_O := fun pc L st M => match st with
  | .int x :: r => some (.inl (if x = 0 then t else pc + 3, L, r, M))
  | _ => none
def o_ifne (t : Nat) : jx_O := fun pc L st M => match st with
  | .int x :: r => some (.inl (if x = 0 then pc + 3 else t, L, r, M))
  | _ => none
def o_iflt (t : Nat) : jx_O := fun pc L st M => match st with
  | .int x :: r => some (.inl (if x < 0 then t else pc + 3, L, r, M))
  | _ => none
def o_ifge (t : Nat) : jx_O := fun pc L st M => match st with
  | .int x :: r => some (.inl (if x < 0 then pc + 3 else t, L, r, M))
  | _ => none
def o_ifgt (t : Nat) : jx_O := fun pc L st M => match st with
  | .int x :: r => some (.inl (if 0 < x then t else pc + 3, L, r, M))
  | _ => none
def o_ifle (t : Nat) : jx_O := fun pc L st M => match st with
  | .int x :: r => some (.inl (if 0 < x then pc + 3 else t, L, r, M))
  | _ => none
def o_ieq (t : Nat) : jx_O := fun pc L st M => match st with
  | .int y :: .int x :: r => some (.inl (if x = y then t else pc + 3, L, r, M))
  | _ => none
def o_ine (t : Nat) : jx_O := fun pc L st M => match st with
  | .int y :: .int x :: r => some (.inl (if x = y then pc + 3 else t, L, r, M))
  | _ => none
def o_ilt (t : Nat) : jx_O := fun pc L st M => match st with
  | .int y :: .int x :: r => some (.inl (if x < y then t else pc + 3, L, r, M))
  | _ => none
def o_ige (t : Nat) : jx_O := fun pc L st M => match st with
  | .int y :: .int x :: r => some (.inl (if x < y then pc + 3 else t, L, r, M))
  | _ => none
def o_igt (t : Nat) : jx_O := fun pc L st M => match st with
  | .int y :: .int x :: r => some (.inl (if y < x then t else pc + 3, L, r, M))
  | _ => none
def o_ile (t : Nat) : jx_O := fun pc L st M => match st with
  | .int y :: .int x :: r => some (.inl (if y < x then pc + 3 else t, L, r, M))
  | _ => none
def o_ifnull (t : Nat) : jx_O := fun pc L st M => match st with
  | .null :: r => some (.inl (t, L, r, M))
  | .ref _ :: r => some (.inl (pc + 3, L, r, M))
  | _ => none
def o_ifnonnull (t : Nat) : jx_O := fun pc L st M => match st with
  | .null :: r => some (.inl (pc + 3, L, r, M))
  | .ref _ :: r => some (.inl (t, L, r, M))
  | _ => none
/-- a switch over 0 .. ts.length - 1 -/
def o_table (dflt : Nat) (ts : List Nat) : jx_O := fun _ L st M => match st with
  | .int x :: r => some (.inl (if x < 0 then dflt else ts.getD x.toNatClampNeg dflt, L, r, M))
  | _ => none
def o_getf (ci k : Nat) : jx_O := fun pc L st M => match st with
  | .ref a :: r => match M.1 a with
    | .inr (c, fs) => if c = ci then (fs[k]?).map fun v => .inl (pc + 3, L, v :: r, M) else none
    | _ => none
  | _ => none
def o_putf (ci k : Nat) (ok : Value → Bool) : jx_O := fun pc L st M => match st with
  | v :: .ref a :: r => match M.1 a with
    | .inr (c, fs) => if c = ci ∧ ok v = true ∧ k < fs.length then some (.inl (pc + 3, L, r, jx_st M a (.inr (ci, fs.set k v)))) else none
    | _ => none
  | _ => none
def jx_ix (i : Int32) (n : Nat) : Bool := decide (¬ i < 0) && decide (i.toNatClampNeg < n)
def o_iald : jx_O := fun pc L st M => match st with
  | .int i :: .ref a :: r => match M.1 a with
    | .inl (t, n, .inl f) => if (t = 0 ∨ t = 9) ∧ jx_ix i n = true then some (.inl (pc + 1, L, .int (f i.toNatClampNeg) :: r, M)) else none
    | _ => none
  | _ => none
def o_xald (t0 : Nat) : jx_O := fun pc L st M => match st with
  | .int i :: .ref a :: r => match M.1 a with
    | .inl (t, n, .inl f) => if t = t0 ∧ jx_ix i n = true then some (.inl (pc + 1, L, .int (f i.toNatClampNeg) :: r, M)) else none
    | _ => none
  | _ => none
/-- a byte of a constant's array -/
def o_bald : jx_O := fun pc L st M => match st with
  | .int i :: .ref a :: r => match M.1 a with
    | .inl (t, n, .inl f) => if t = 10 ∧ jx_ix i n = true then some (.inl (pc + 1, L, .int (f i.toNatClampNeg) :: r, M)) else none
    | _ => none
  | _ => none
def o_lald : jx_O := fun pc L st M => match st with
  | .int i :: .ref a :: r => match M.1 a with
    | .inl (t, n, .inr (.inl f)) => if t = 3 ∧ jx_ix i n = true then some (.inl (pc + 1, L, .long (f i.toNatClampNeg) :: r, M)) else none
    | _ => none
  | _ => none
def o_aald : jx_O := fun pc L st M => match st with
  | .int i :: .ref a :: r => match M.1 a with
    | .inl (t, n, .inr (.inr (.inr (.inr f)))) => if t = 4 ∧ jx_ix i n = true then some (.inl (pc + 1, L, va_rf (f i.toNatClampNeg) :: r, M)) else none
    | _ => none
  | _ => none
def o_iast : jx_O := fun pc L st M => match st with
  | .int x :: .int i :: .ref a :: r => match M.1 a with
    | .inl (t, n, .inl f) => if t = 0 ∧ jx_ix i n = true then some (.inl (pc + 1, L, r, jx_st M a (.inl (0, n, .inl (upd f i.toNatClampNeg x))))) else none
    | _ => none
  | _ => none
def o_cast : jx_O := fun pc L st M => match st with
  | .int x :: .int i :: .ref a :: r => match M.1 a with
    | .inl (t, n, .inl f) => if t = 1 ∧ jx_ix i n = true then some (.inl (pc + 1, L, r, jx_st M a (.inl (1, n, .inl (upd f i.toNatClampNeg (vp_nar .char x)))))) else none
    | _ => none
  | _ => none
def o_zast : jx_O := fun pc L st M => match st with
  | .int x :: .int i :: .ref a :: r => match M.1 a with
    | .inl (t, n, .inl f) => if t = 2 ∧ jx_ix i n = true then some (.inl (pc + 1, L, r, jx_st M a (.inl (2, n, .inl (upd f i.toNatClampNeg (vp_nar .boolean x)))))) else none
    | _ => none
  | _ => none
def o_last : jx_O := fun pc L st M => match st with
  | .long x :: .int i :: .ref a :: r => match M.1 a with
    | .inl (t, n, .inr (.inl f)) => if t = 3 ∧ jx_ix i n = true then some (.inl (pc + 1, L, r, jx_st M a (.inl (3, n, .inr (.inl (vp_updL f i.toNatClampNeg x)))))) else none
    | _ => none
  | _ => none
/-- into an array of the objects of class ci -/
def o_aast (ci : Nat) : jx_O := fun pc L st M => match st with
  | .ref v :: .int i :: .ref a :: r => match M.1 a, M.1 v with
    | .inl (t, n, .inr (.inr (.inr (.inr f)))), .inr (c, _) => if t = 4 ∧ c = ci ∧ jx_ix i n = true then some (.inl (pc + 1, L, r, jx_st M a (.inl (4, n, .inr (.inr (.inr (.inr (va_up f i.toNatClampNeg (some v))))))))) else none
    | _, _ => none
  | _ => none
def o_alen : jx_O := fun pc L st M => match st with
  | .ref a :: r => match M.1 a with
    | .inl (t, n, _) => if t < 5 ∨ t = 9 ∨ t = 10 then some (.inl (pc + 1, L, .int (Int32.ofNat n) :: r, M)) else none
    | _ => none
  | _ => none
def o_new (ci : Nat) (fs : List Value) : jx_O := fun pc L st M =>
  (jx_pu M (.inr (ci, fs)) fs.length).map fun M' => .inl (pc + 3, L, .ref M.2.1 :: st, M')
def o_newa (t : Nat) (z : Nat → vp_A) : jx_O := fun pc L st M => match st with
  | .int n :: r => if ¬ n < 0 ∧ n.toNatClampNeg ≤ 100000 then (jx_pu M (.inl (t, z n.toNatClampNeg)) n.toNatClampNeg).map fun M' => .inl (pc + (if t = 4 then 3 else 2), L, .ref M.2.1 :: r, M') else none
  | _ => none
def jx_zi (n : Nat) : vp_A := (n, .inl fun _ => 0)
def jx_zl (n : Nat) : vp_A := (n, .inr (.inl fun _ => 0))
def jx_zq (n : Nat) : vp_A := (n, .inr (.inr (.inr (.inr fun _ => none))))
def o_ret : jx_O := fun _ _ st M => match st with
  | [] => some (.inr (.inl (.inl none, M)))
  | _ => none
def o_iret : jx_O := fun _ _ st M => match st with
  | [.int x] => some (.inr (.inl (.inl (some (.int x)), M)))
  | _ => none
/-- a boolean answer -/
def o_zret : jx_O := fun _ _ st M => match st with
  | [.int x] => if x = 0 ∨ x = 1 then some (.inr (.inl (.inl (some (.int x)), M))) else none
  | _ => none
def o_cret : jx_O := fun _ _ st M => match st with
  | [.int x] => if vp_nar .char x = x then some (.inr (.inl (.inl (some (.int x)), M))) else none
  | _ => none
def o_bret : jx_O := fun _ _ st M => match st with
  | [.int x] => if vp_nar .byte x = x then some (.inr (.inl (.inl (some (.int x)), M))) else none
  | _ => none
/-- System.arraycopy between two arrays of ints or of chars -/
def o_copy : jx_O := fun pc L st M => match st with
  | .int n :: .int dp :: .ref b :: .int sp :: .ref a :: r => match M.1 a, M.1 b with
    | .inl (t, n0, .inl f), .inl (t', n1, .inl g) => if (t = 0 ∨ t = 1 ∧ ((List.range n.toNatClampNeg).all fun i => fits .char (.int (f (sp.toNatClampNeg + i)))) = true) ∧ t' = t ∧ ¬ sp < 0 ∧ ¬ dp < 0 ∧ ¬ n < 0 ∧ sp.toNatClampNeg + n.toNatClampNeg ≤ n0 ∧ dp.toNatClampNeg + n.toNatClampNeg ≤ n1 ∧ r.length ≤ 4 then some (.inl (pc + 3, L, r, jx_st M b (.inl (t, n1, .inl (va_cpy f g sp.toNatClampNeg dp.toNatClampNeg n.toNatClampNeg))))) else none
    | _, _ => none
  | _ => none
def o_aret : jx_O := fun _ _ st M => match st with
  | [.ref a] => some (.inr (.inl (.inl (some (.ref a)), M)))
  | [.null] => some (.inr (.inl (.inl (some .null), M)))
  | _ => none
/-- a call: n values, the receiver among them -/
def o_call (ce n : Nat) : jx_O := fun pc _ st _ => if n ≤ st.length ∧ st.length ≤ n + 4 then some (.inr (.inr (ce, (st.take n).reverse, st.drop n, pc + 3))) else none
/-- a call on an object of class ci -/
def o_callv (ci ce n : Nat) : jx_O := fun pc _ st M => if n < st.length ∧ st.length ≤ n + 5 then match st.getD n .null with
  | .ref a => match M.1 a with
    | .inr (c, _) => if c = ci then some (.inr (.inr (ce, (st.take (n + 1)).reverse, st.drop (n + 1), pc + 3))) else none
    | _ => none
  | _ => none
  else none
/-- Object() -/
def o_oinit : jx_O := fun pc L st M => match st with
  | .ref _ :: r => if r.length ≤ 4 then some (.inl (pc + 3, L, r, M)) else none
  | _ => none
/-- new E(text), thrown: out of the method -/
def o_thr (ci : Nat) : jx_O := fun _ _ _ M => (jx_pu M (.inr (ci, [])) 6).map fun M' => .inr (.inl (.inr M.2.1, M'))
/-! methods -/
/-- name, bytes, locals, answer, handlers (with the class that each takes) -/
abbrev jx_D : Type := MethodName × ByteArray × Nat × Option FieldType × List ((Nat × Nat × Nat × Nat) × String)
def jx_en (as : List Value) (n : Nat) : jx_L := (as.flatMap fun v => if jx_v1 v = true then [some v] else [some v, none]) ++ List.replicate (n - (as.flatMap fun v => if jx_v1 v = true then [some v] else [some v, none]).length) none
/-- handlers of a method as the abstract machine has them: start, end, handler, the class; none: it doesn't say; some none: no handler there -/
def jx_hf (pc ci : Nat) : List (Nat × Nat × Nat × Nat) → Option Nat
  | [] => none
  | h :: t => if h.1 ≤ pc ∧ pc < h.2.1 ∧ h.2.2.2 = ci then some h.2.2.1 else jx_hf pc ci t
def jx_ho (pc : Nat) : List (Nat × Nat × Nat × Nat) → Bool
  | [] => true
  | h :: t => if h.1 ≤ pc ∧ pc < h.2.1 then false else jx_ho pc t
def jx_hd (pc ci : Nat) (hs : List (Nat × Nat × Nat × Nat)) : Option (Option Nat) := if jx_ho pc hs = true then some none else (jx_hf pc ci hs).map some
def jx_cl (c : jx_C) : Nat := match c with
  | .inr (ci, _) => ci
  | _ => 9999
def jx_run (ml : Nat → Nat) (hs : Nat → List (Nat × Nat × Nat × Nat)) (cd : Nat → Nat → Option jx_O) : Nat → Nat → Nat → Nat → jx_L → List Value → jx_M → Option (jx_R × jx_M)
  | 0, _, _, _, _, _, _ => none
  | f + 1, d, mi, pc, L, st, M => match cd mi pc with
    | none => none
    | some op => match op pc L st M with
      | none => none
      | some (.inl (pc', L', st', M')) => jx_run ml hs cd f d mi pc' L' st' M'
      | some (.inr (.inl (r, M'))) => some (r, M')
      | some (.inr (.inr (ce, as, rest, pc'))) => match d with
        | 0 => none
        | d' + 1 => if (jx_en as (ml ce)).length = ml ce then match jx_run ml hs cd f d' ce 0 (jx_en as (ml ce)) [] M with
          | none => none
          | some (.inl v, M') => jx_run ml hs cd f (d' + 1) mi pc' L (v.toList ++ rest) M'
          | some (.inr k, M') => match jx_hd pc (jx_cl (M'.1 k)) (hs mi) with
            | none => none
            | some (some hp) => jx_run ml hs cd f (d' + 1) mi hp L [.ref k] M'
            | some none => some (.inr k, M')
          else none
end
section
/-! WHAT THE ABSTRACT MACHINE SAYS OF THE REAL ONE -/
/-- classes and fields; their names; array classes; the heap at the law's start; where the constants lie; what they are; the words; what else is so -/
abbrev jx_X : Type := va_G × List vw_C × List (ClassId × FieldType) × Heap × (Nat → Nat) × (Nat → jx_C) × List Cond × (State → Prop)
abbrev jx_X.D (X : jx_X) : va_G := X.1
abbrev jx_X.cl (X : jx_X) : List vw_C := X.2.1
abbrev jx_X.ty (X : jx_X) : List (ClassId × FieldType) := X.2.2.1
abbrev jx_X.H (X : jx_X) : Heap := X.2.2.2.1
abbrev jx_X.ga (X : jx_X) : Nat → Nat := X.2.2.2.2.1
abbrev jx_X.gl (X : jx_X) : Nat → jx_C := X.2.2.2.2.2.1
abbrev jx_X.W (X : jx_X) : List Cond := X.2.2.2.2.2.2.1
abbrev jx_X.G (X : jx_X) : State → Prop := X.2.2.2.2.2.2.2
def jx_ad (X : jx_X) (k : Nat) : Nat := if k < jx_g then X.ga k else X.H.size + (k - jx_g)
def jx_v (X : jx_X) (v : Value) : Value := match v with
  | .ref k => .ref (jx_ad X k)
  | v => v
def jx_q (X : jx_X) (r : Option Nat) : Option Nat := match r with
  | some k => some (jx_ad X k)
  | none => none
def jx_a (X : jx_X) (a : vp_A) : vp_A := match a with
  | (n, .inr (.inr (.inr (.inr f)))) => (n, .inr (.inr (.inr (.inr fun j => jx_q X (f j)))))
  | a => a
def jx_e (X : jx_X) (c : jx_C) : va_E := match c with
  | .inl (t, a) => .inl ((X.ty.getD t (0, .int)).1, jx_a X a)
  | .inr (ci, fs) => .inr (ci, fs.map (jx_v X))
theorem jx_v_int (X : jx_X) (x : Int32) : jx_v X (.int x) = .int x := rfl
theorem jx_v_long (X : jx_X) (x : Int64) : jx_v X (.long x) = .long x := rfl
theorem jx_v_null (X : jx_X) : jx_v X .null = .null := rfl
theorem jx_v_ref (X : jx_X) (k : Nat) : jx_v X (.ref k) = .ref (jx_ad X k) := rfl
theorem jx_v_cat (X : jx_X) (v : Value) : (jx_v X v).category = v.category := by cases v <;> rfl
theorem jx_v1_cat {v : Value} (h : jx_v1 v = true) : v.category = 1 := by cases v <;> first | rfl | cases h
theorem jx_v1_ncat {v : Value} (h : ¬ jx_v1 v = true) : v.category = 2 := by cases v <;> first | rfl | exact absurd rfl h
theorem jx_rf (X : jx_X) (r : Option Nat) : jx_v X (va_rf r) = va_rf (jx_q X r) := by cases r <;> rfl
theorem jx_ad_inj {X : jx_X} {a b : Nat} (ha : jx_g ≤ a) (hb : jx_g ≤ b) (h : jx_ad X a = jx_ad X b) : a = b := by
  unfold jx_ad at h
  rw [if_neg (by omega), if_neg (by omega)] at h
  omega
theorem jx_ad_ge {X : jx_X} {a : Nat} (ha : jx_g ≤ a) : jx_ad X a = X.H.size + (a - jx_g) := by
  unfold jx_ad
  rw [if_neg (by omega)]
/-- no constant's array -/
def jx_t9 (c : jx_C) : Bool := match c with
  | .inl (t, _) => t == 9 || t == 10
  | .inr _ => false
/-- the memory -/
def jx_H (X : jx_X) (M : jx_M) (H : Heap) : Prop :=
  jx_g ≤ M.2.1 ∧ H.size + jx_g = X.H.size + M.2.1 ∧ (∀ k, jx_g ≤ k → k < M.2.1 → jx_t9 (M.1 k) = false ∧ va_at X.D X.cl (jx_ad X k, jx_e X (M.1 k)) H) ∧ (∀ k, M.2.1 ≤ k → M.1 k = jx_dead) ∧
  (∀ q : Nat, q < X.H.size → H[q]? = X.H[q]?) ∧ ∀ k, k < jx_g → M.1 k = X.gl k
/-- the locals -/
def jx_lo (X : jx_X) (ls : Array Slot) (L : jx_L) : Prop := ls.size = L.length ∧ lv_wf ls ∧ ∀ (i : Nat) (v : Value), L.getD i none = some v → ls[i]? = some (.val (jx_v X v))
def jx_I (X : jx_X) (R : Room) (nl : Nat) (M : jx_M) (H : Heap) (ls : Array Slot) (L : jx_L) (locs : List Loc) (cells slots : Nat) : Prop :=
  jx_H X M H ∧ jx_lo X ls L ∧ (∀ x ∈ locs, X.H.size ≤ x.base) ∧ cells + M.2.2.1 ≤ R.cells ∧ slots + M.2.2.2 ≤ R.slots ∧ L.length = nl
/-- what is true of the constants -/
def jx_GL (X : jx_X) (s : State) : Prop := ∀ k, k < jx_g → match X.gl k with
  | .inl (t, n, .inl f) => (t = 9 ∨ t = 10) ∧ ∃ cell : Cell, X.H[X.ga k]? = some cell ∧ s.isArrayOf cell (if t = 9 then .int else .byte) ∧ cell.vm ≠ .unknown ∧ cell.slots.size = n ∧ ∀ j : Nat, j < n → cell.slots[j]? = some (.int (f j))
  | .inl _ => False
  | .inr (c, _) => 100 ≤ c
/-- where a method stands -/
def jx_B (X : jx_X) (md : jx_D) (p : Program) (l : Launch) (e : Env) (R : Room) (s : State) (m : MethodId) (args : Array Value) (meth : Method) (c : Code) (d : Nat) : Prop :=
  p.tables.exec = Jvm.exec ∧ e.platform.stackTraces = false ∧ (∀ w ∈ X.W, w.before args s = true) ∧ va_K X.D X.cl X.ty s ∧ jx_GL X s ∧ s.vm.findClass md.1.cls = some m.cls ∧ meth.name = md.1.name ∧
  c.code = md.2.1 ∧ c.maxLocals = md.2.2.1 ∧ meth.sig.returnType = md.2.2.2.1 ∧ meth.locks = false ∧
  c.exceptionTable.toList.map (fun x => (x.startPc, x.endPc, x.handlerPc, x.catchType)) = md.2.2.2.2.map (fun h => h.1) ∧ d + 10 ≤ R.frames ∧ 50 * d + 300 ≤ R.locals ∧
  (∀ (q : Nat) (cell : Cell), X.H.size ≤ q → s.heap[q]? = some cell → cell.vm.isStatics = false) ∧ (∀ (C : String) (cA : ClassId), X.ty[4]? = some (cA, .object C) → va_AO C s) ∧ X.G s
def jx_o (X : jx_X) (r : jx_R) (o : Outcome) : Prop := match r with
  | .inl v => o = .returned (v.map (jx_v X))
  | .inr k => o = .threw (jx_ad X k)
def jx_Q (X : jx_X) (R : Room) (below : List Frame) (s : State) (r : jx_R) (M : jx_M) : State → Prop := fun t =>
  ∃ (o : Outcome) (locs : List Loc) (cells slots : Nat), t.status = .running ∧ Ended t below o ∧ jx_o X r o ∧ jx_H X M t.heap ∧ s.WarmedH t.vm ∧ s.sameButNew ({ t with vm := s.vm } : State) locs cells slots ∧ (∀ x ∈ locs, X.H.size ≤ x.base) ∧ cells + M.2.2.1 ≤ R.cells ∧ slots + M.2.2.2 ≤ R.slots
/-- a method's code stands in the words -/
def jx_c (X : jx_X) (md : jx_D) : Prop := (((Cond.code md.1 md.2.1 md.2.2.1 md.2.2.2.1 : Cond) ∈ X.W ∧ md.2.2.2.2 = []) ∨ (Cond.codeWith md.1 md.2.1 md.2.2.1 md.2.2.2.1 (md.2.2.2.2.map fun h => h.1) : Cond) ∈ X.W) ∧ plainFor md.1 = true ∧ md.2.2.1 ≤ 30
/-- an operation is what the instruction at pc does -/
def jx_S (X : jx_X) (mt : Nat → jx_D) (md : jx_D) (pc : Nat) (op : jx_O) : Prop :=
  ∀ (p : Program) (l : Launch) (e : Env) (R : Room) (s : State) (m : MethodId) (args : Array Value) (below : List Frame) (meth : Method) (c : Code) (d : Nat), jx_B X md p l e R s m args meth c d →
  ∀ (L : jx_L) (st : List Value) (M : jx_M) (N : jx_N), op pc L st M = some N →
  ∀ (H : Heap) (ls : Array Slot) (locs : List Loc) (cells slots : Nat), jx_I X R md.2.2.1 M H ls L locs cells slots →
  match N with
  | .inl (pc', L', st', M') => ∀ Q : State → Prop, (∀ (H' : Heap) (ls' : Array Slot) (locs' : List Loc) (cells' slots' : Nat), jx_I X R md.2.2.1 M' H' ls' L' locs' cells' slots' → W p l e R s m args below meth c H' locs' cells' slots' Q (F0 m pc' ls' (st'.map (jx_v X)))) → W p l e R s m args below meth c H locs cells slots Q (F0 m pc ls (st.map (jx_v X)))
  | .inr (.inl (r, M')) => W p l e R s m args below meth c H locs cells slots (jx_Q X R below s r M') (F0 m pc ls (st.map (jx_v X)))
  | .inr (.inr (ce, as, rest, pc')) => ∀ T : State, T.heap = H → Stand p l e R s m args below meth c T locs cells slots → ∃ (vm₁ : Vm) (mk : MethodId) (ig : Instr), Stand p l e R s m args below meth c (T.setVm vm₁) locs cells slots ∧ s.methodNamed? (mt ce).1 = some mk ∧ decode c.code pc = .ok (ig, 3) ∧ pc' = pc + 3 ∧ rest.length ≤ 4 ∧ jx_c X (mt ce) ∧
      ∀ target, (∀ acts, Steps p.tables e below (doInvoke e ((T.setVm vm₁).setTop (F0 m pc ls (rest.map (jx_v X)))) acts mk (as.map (jx_v X)).toArray).1 target) → Steps p.tables e below (T.setTop (F0 m pc ls (st.map (jx_v X)))) target
/-! the memory, read and written -/
theorem jx_H.obj {X : jx_X} {M : jx_M} {H : Heap} {s : State} (h : jx_H X M H) (hg : jx_GL X s) {a ci : Nat} {fs : List Value} (ha : M.1 a = .inr (ci, fs)) (hc : ci < 100) : jx_g ≤ a ∧ a < M.2.1 ∧ va_at X.D X.cl (jx_ad X a, .inr (ci, fs.map (jx_v X))) H := by
  obtain ⟨h1, h2, h3, h4, h5, h6⟩ := h
  have g1 : jx_g ≤ a := by
    apply Nat.le_of_not_lt
    intro hlt
    have h7 := hg a hlt
    rw [← h6 a hlt, ha] at h7
    have h8 : 100 ≤ ci := h7
    omega
  have g2 : a < M.2.1 := by
    apply Nat.lt_of_not_le
    intro hle
    have h7 := h4 a hle
    rw [ha] at h7
    unfold jx_dead at h7
    have h8 : (ci, fs) = (9999, ([] : List Value)) := Sum.inr.inj h7
    have h9 : ci = 9999 := congrArg Prod.fst h8
    omega
  refine ⟨g1, g2, ?_⟩
  have h7 := (h3 a g1 g2).2
  rw [ha] at h7
  exact h7
theorem jx_H.arr {X : jx_X} {M : jx_M} {H : Heap} {s : State} (h : jx_H X M H) (hg : jx_GL X s) {a t : Nat} {v : vp_A} (ha : M.1 a = .inl (t, v)) (ht : t < 9) : jx_g ≤ a ∧ a < M.2.1 ∧ va_at X.D X.cl (jx_ad X a, .inl ((X.ty.getD t (0, .int)).1, jx_a X v)) H := by
  obtain ⟨h1, h2, h3, h4, h5, h6⟩ := h
  have g1 : jx_g ≤ a := by
    apply Nat.le_of_not_lt
    intro hlt
    have h7 := hg a hlt
    rw [← h6 a hlt, ha] at h7
    obtain ⟨n, f⟩ := v
    cases f with
    | inl f => have h8 := h7.1; omega
    | inr f => exact h7
  have g2 : a < M.2.1 := by
    apply Nat.lt_of_not_le
    intro hle
    have h7 := h4 a hle
    rw [ha] at h7
    cases h7
  refine ⟨g1, g2, ?_⟩
  have h7 := (h3 a g1 g2).2
  rw [ha] at h7
  exact h7
/-- a constant's array -/
theorem jx_H.con {X : jx_X} {M : jx_M} {H : Heap} {s : State} (h : jx_H X M H) (hg : jx_GL X s) {a t n : Nat} {f : Nat → Int32} (ha : M.1 a = .inl (t, n, .inl f)) (ht : t = 9 ∨ t = 10) :
    ∃ cell : Cell, H[jx_ad X a]? = some cell ∧ s.isArrayOf cell (if t = 9 then .int else .byte) ∧ cell.vm ≠ .unknown ∧ cell.slots.size = n ∧ ∀ j : Nat, j < n → cell.slots[j]? = some (.int (f j)) := by
  obtain ⟨h1, h2, h3, h4, h5, h6⟩ := h
  have g1 : a < jx_g := by
    apply Nat.lt_of_not_le
    intro hge
    by_cases hlt : a < M.2.1
    · have h7 := (h3 a hge hlt).1
      rw [ha] at h7
      rcases ht with rfl | rfl <;> cases h7
    · have h7 := h4 a (Nat.le_of_not_lt hlt)
      rw [ha] at h7
      cases h7
  have h7 := hg a g1
  rw [← h6 a g1, ha] at h7
  obtain ⟨-, cell, q1, q2⟩ := h7
  refine ⟨cell, ?_, q2⟩
  have hlt : X.ga a < X.H.size := (Array.getElem?_eq_some_iff.mp q1).1
  unfold jx_ad
  rw [if_pos g1, h5 _ hlt]
  exact q1
/-- an int table that may be read: one of the program's own, or a constant -/
theorem jx_H.tab {X : jx_X} {M : jx_M} {H : Heap} {s : State} (h : jx_H X M H) (hg : jx_GL X s) (hK : va_K X.D X.cl X.ty s) (h0 : ∃ cA, X.ty[0]? = some (cA, .int)) {a t n : Nat} {f : Nat → Int32} (ha : M.1 a = .inl (t, n, .inl f)) (ht : t = 0 ∨ t = 9) :
    ∃ cell : Cell, H[jx_ad X a]? = some cell ∧ s.isArrayOf cell .int ∧ cell.vm ≠ .unknown ∧ cell.slots.size = n ∧ ∀ j : Nat, j < n → cell.slots[j]? = some (.int (f j)) := by
  by_cases h9 : t = 9
  · subst h9
    exact h.con hg ha (Or.inl rfl)
  · obtain ⟨cA, hA⟩ := h0
    have ht0 : t = 0 := by omega
    subst ht0
    obtain ⟨-, -, q⟩ := h.arr hg ha (by omega)
    have e : (X.ty.getD 0 (0, .int)).1 = cA := by rw [List.getD_eq_getElem?_getD, hA]; rfl
    rw [e] at q
    have q : H[jx_ad X a]? = some (arrV cA n (fun j => .int (f j))) := q
    refine ⟨_, q, (hK.2 0 _ hA).1 n _, (fun h => by cases h), arrV_size _ _ _, fun j hj => arrV_read _ _ hj⟩
theorem jx_H.set {X : jx_X} {M : jx_M} {H H1 : Heap} (h : jx_H X M H) {a : Nat} (g1 : jx_g ≤ a) (g2 : a < M.2.1) {c : jx_C} (ht : jx_t9 c = false) (hz : H1.size = H.size) (ho : ∀ q : Nat, q ≠ jx_ad X a → H1[q]? = H[q]?) (hc : va_at X.D X.cl (jx_ad X a, jx_e X c) H1) : jx_H X (jx_st M a c) H1 := by
  obtain ⟨h1, h2, h3, h4, h5, h6⟩ := h
  refine ⟨h1, by rw [hz]; exact h2, fun k k1 k2 => ?_, fun k k1 => ?_, fun q hq => ?_, fun k hk => ?_⟩
  · show jx_t9 (jx_up M.1 a c k) = false ∧ va_at X.D X.cl (jx_ad X k, jx_e X (jx_up M.1 a c k)) H1
    by_cases e : k = a
    · subst e
      rw [show jx_up M.1 k c k = c from if_pos rfl]
      exact ⟨ht, hc⟩
    · rw [show jx_up M.1 a c k = M.1 k from if_neg e]
      refine ⟨(h3 k k1 k2).1, (h3 k k1 k2).2.kept (ho _ fun q => e (jx_ad_inj k1 g1 q))⟩
  · show jx_up M.1 a c k = jx_dead
    rw [show jx_up M.1 a c k = M.1 k from if_neg (by have : M.2.1 ≤ k := k1; omega)]
    exact h4 k k1
  · rw [ho q (by rw [jx_ad_ge g1]; omega)]
    exact h5 q hq
  · show jx_up M.1 a c k = X.gl k
    rw [show jx_up M.1 a c k = M.1 k from if_neg (by omega)]
    exact h6 k hk
theorem jx_H.push {X : jx_X} {M M' : jx_M} {H H1 : Heap} {w : Nat} {c : jx_C} (h : jx_H X M H) (hp : jx_pu M c w = some M') (ht : jx_t9 c = false) (hz : H1.size = H.size + 1) (ho : ∀ q : Nat, q < H.size → H1[q]? = H[q]?) (hc : va_at X.D X.cl (H.size, jx_e X c) H1) : jx_H X M' H1 ∧ jx_ad X M.2.1 = H.size ∧ 1 ≤ M.2.2.1 ∧ w ≤ M.2.2.2 ∧ M'.2.2.1 = M.2.2.1 - 1 ∧ M'.2.2.2 = M.2.2.2 - w := by
  obtain ⟨h1, h2, h3, h4, h5, h6⟩ := h
  unfold jx_pu at hp
  split at hp
  · rename_i hr
    cases hp
    have hn : jx_ad X M.2.1 = H.size := by rw [jx_ad_ge h1]; omega
    refine ⟨⟨by show jx_g ≤ M.2.1 + 1; omega, by show H1.size + jx_g = X.H.size + (M.2.1 + 1); omega, fun k k1 k2 => ?_, fun k k1 => ?_, fun q hq => ?_, fun k hk => ?_⟩, hn, hr.1, hr.2, rfl, rfl⟩
    · show jx_t9 (jx_up M.1 M.2.1 c k) = false ∧ va_at X.D X.cl (jx_ad X k, jx_e X (jx_up M.1 M.2.1 c k)) H1
      have k2 : k < M.2.1 + 1 := k2
      by_cases e : k = M.2.1
      · rw [e, show jx_up M.1 M.2.1 c M.2.1 = c from if_pos rfl, hn]
        exact ⟨ht, hc⟩
      · rw [show jx_up M.1 M.2.1 c k = M.1 k from if_neg e]
        have k3 := h3 k k1 (by omega)
        exact ⟨k3.1, k3.2.kept (ho _ k3.2.lt)⟩
    · show jx_up M.1 M.2.1 c k = jx_dead
      have k1 : M.2.1 + 1 ≤ k := k1
      rw [show jx_up M.1 M.2.1 c k = M.1 k from if_neg (by omega)]
      exact h4 k (by omega)
    · rw [ho q (by omega)]
      exact h5 q hq
    · show jx_up M.1 M.2.1 c k = X.gl k
      rw [show jx_up M.1 M.2.1 c k = M.1 k from if_neg (by omega)]
      exact h6 k hk
  · cases hp
/-! the locals -/
def jx_pr (X : jx_X) (L : jx_L) : List (Nat × Value) := (List.range L.length).filterMap fun i => (L.getD i none).map fun v => (i, jx_v X v)
theorem jx_pr_mem {X : jx_X} {L : jx_L} {q : Nat × Value} : q ∈ jx_pr X L ↔ ∃ v, L.getD q.1 none = some v ∧ q.2 = jx_v X v := by
  unfold jx_pr
  rw [List.mem_filterMap]
  constructor
  · rintro ⟨i, -, hi⟩
    obtain ⟨v, h1, h2⟩ := Option.map_eq_some_iff.mp hi
    subst h2
    exact ⟨v, h1, rfl⟩
  · rintro ⟨v, h1, h2⟩
    refine ⟨q.1, List.mem_range.mpr ?_, by rw [h1]; show some (q.1, jx_v X v) = some q; rw [← h2]⟩
    apply Nat.lt_of_not_le
    intro hle
    rw [List.getD_eq_getElem?_getD, List.getElem?_eq_none hle] at h1
    cases h1
theorem jx_lo.has {X : jx_X} {ls : Array Slot} {L : jx_L} (h : jx_lo X ls L) : lv_has ls L.length (jx_pr X L) := by
  refine ⟨h.1, h.2.1, fun q hq => ?_⟩
  obtain ⟨v, h1, h2⟩ := jx_pr_mem.mp hq
  rw [h2]
  exact h.2.2 _ _ h1
theorem jx_getD_set {L : jx_L} {i j : Nat} {o : Option Value} (hi : i < L.length) : (L.set i o).getD j none = if j = i then o else L.getD j none := by
  rw [List.getD_eq_getElem?_getD, List.getD_eq_getElem?_getD, List.getElem?_set]
  by_cases e : i = j
  · subst e
    rw [if_pos rfl, if_pos rfl, if_pos hi]
    rfl
  · rw [if_neg e, if_neg (fun q => e q.symm)]
theorem jx_c2_cat {X : jx_X} {v : Value} (h : jx_c2 (some v) = false) : ¬ (jx_v X v).category = 2 := by
  cases v <;> first | (intro q; cases q; done) | cases h
theorem jx_lo.set1 {X : jx_X} {ls' : Array Slot} {L L' : jx_L} {i : Nat} {v : Value} (hs : jx_s1 L i v = some L')
    (h' : lv_has ls' L.length ((i, jx_v X v) :: (jx_pr X L).filter (fun q => !(q.1 == i) && !(q.1 + 1 == i && q.2.category == 2)))) : jx_lo X ls' L' := by
  unfold jx_s1 at hs
  split at hs
  · rename_i hc
    cases hs
    refine ⟨by rw [List.length_set]; exact h'.1, h'.2.1, fun j w hw => ?_⟩
    rw [jx_getD_set hc.1] at hw
    by_cases e : j = i
    · rw [if_pos e] at hw
      cases hw
      subst e
      exact h'.2.2 _ List.mem_cons_self
    · rw [if_neg e] at hw
      refine h'.2.2 (j, jx_v X w) (List.mem_cons_of_mem _ (List.mem_filter.mpr ⟨jx_pr_mem.mpr ⟨w, hw, rfl⟩, ?_⟩))
      by_cases e2 : j + 1 = i
      · have h3 : jx_c2 (some w) = false := by
          rcases hc.2 with z | z
          · omega
          · rw [show i - 1 = j by omega, hw] at z
            exact z
        have h4 := jx_c2_cat (X := X) h3
        simp [e, h4]
      · simp [e, e2]
  · cases hs
theorem jx_lo.set2 {X : jx_X} {ls' : Array Slot} {L L' : jx_L} {i : Nat} {v : Value} (hs : jx_s2 L i v = some L')
    (h' : lv_has ls' L.length ((i, jx_v X v) :: (jx_pr X L).filter (fun q => !(q.1 == i) && (!(q.1 == i + 1) && !(q.1 + 1 == i && q.2.category == 2))))) : jx_lo X ls' L' := by
  unfold jx_s2 at hs
  split at hs
  · rename_i hc
    cases hs
    refine ⟨by rw [List.length_set, List.length_set]; exact h'.1, h'.2.1, fun j w hw => ?_⟩
    rw [jx_getD_set (by rw [List.length_set]; exact hc.1)] at hw
    by_cases e0 : j = i + 1
    · rw [if_pos e0] at hw
      cases hw
    · rw [if_neg e0, jx_getD_set (by omega)] at hw
      by_cases e : j = i
      · rw [if_pos e] at hw
        cases hw
        subst e
        exact h'.2.2 _ List.mem_cons_self
      · rw [if_neg e] at hw
        refine h'.2.2 (j, jx_v X w) (List.mem_cons_of_mem _ (List.mem_filter.mpr ⟨jx_pr_mem.mpr ⟨w, hw, rfl⟩, ?_⟩))
        by_cases e2 : j + 1 = i
        · have h3 : jx_c2 (some w) = false := by
            rcases hc.2 with z | z
            · omega
            · rw [show i - 1 = j by omega, hw] at z
              exact z
          have h4 := jx_c2_cat (X := X) h3
          simp [e, e0, h4]
        · simp [e, e0, e2]
  · cases hs
theorem jx_s1_len {L L' : jx_L} {i : Nat} {v : Value} (hs : jx_s1 L i v = some L') : L'.length = L.length := by
  unfold jx_s1 at hs
  split at hs
  · cases hs; rw [List.length_set]
  · cases hs
theorem jx_s2_len {L L' : jx_L} {i : Nat} {v : Value} (hs : jx_s2 L i v = some L') : L'.length = L.length := by
  unfold jx_s2 at hs
  split at hs
  · cases hs; rw [List.length_set, List.length_set]
  · cases hs
theorem jx_s1_lt {L L' : jx_L} {i : Nat} {v : Value} (hs : jx_s1 L i v = some L') : i < L.length := by
  unfold jx_s1 at hs
  split at hs
  · rename_i hc; exact hc.1
  · cases hs
theorem jx_s2_lt {L L' : jx_L} {i : Nat} {v : Value} (hs : jx_s2 L i v = some L') : i + 1 < L.length := by
  unfold jx_s2 at hs
  split at hs
  · rename_i hc; exact hc.1
  · cases hs
theorem jx_ix_in {i : Int32} {n : Nat} (h : jx_ix i n = true) : vp_in i n := by
  simp only [jx_ix, Bool.and_eq_true, decide_eq_true_eq] at h
  rintro (q | q)
  · exact h.1 q
  · omega
end
section
/-! EACH OPERATION IS WHAT ITS INSTRUCTION DOES -/
section JO
variable {X : jx_X} {mt : Nat → jx_D} {md : jx_D} {pc : Nat}
theorem s_iconst {n : Int} {v : Int32} (hd : decode md.2.1 pc = .ok (.iconst n, 1)) (hv : Int32.ofInt n = v) : jx_S X mt md pc (o_push (.int v) 1) := by
  intro p l e R s m args below meth c d B L st M N h H ls locs cells slots I
  cases h
  intro Q k
  obtain ⟨hx, -, -, -, -, -, -, hb, -⟩ := B
  exact lv_iconst hx hb hd hv (k _ _ _ _ _ I)
theorem s_bipush {n : Int} {v : Int32} (hd : decode md.2.1 pc = .ok (.bipush n, 2)) (hv : (Int8.ofInt n).toInt32 = v) : jx_S X mt md pc (o_push (.int v) 2) := by
  intro p l e R s m args below meth c d B L st M N h H ls locs cells slots I
  cases h
  intro Q k
  obtain ⟨hx, -, -, -, -, -, -, hb, -⟩ := B
  exact lv_bipush hx hb hd hv (k _ _ _ _ _ I)
theorem s_sipush {n : Int} {v : Int32} (hd : decode md.2.1 pc = .ok (.sipush n, 3)) (hv : (Int16.ofInt n).toInt32 = v) : jx_S X mt md pc (o_push (.int v) 3) := by
  intro p l e R s m args below meth c d B L st M N h H ls locs cells slots I
  cases h
  intro Q k
  obtain ⟨hx, -, -, -, -, -, -, hb, -⟩ := B
  exact lv_sipush hx hb hd hv (k _ _ _ _ _ I)
theorem s_null (hd : decode md.2.1 pc = .ok (.aconst_null, 1)) : jx_S X mt md pc (o_push .null 1) := by
  intro p l e R s m args below meth c d B L st M N h H ls locs cells slots I
  cases h
  intro Q k
  obtain ⟨hx, -, -, -, -, -, -, hb, -⟩ := B
  exact lv_null hx hb hd (k _ _ _ _ _ I)
theorem s_lconst {n : Fin 2} {v : Int64} (hd : decode md.2.1 pc = .ok (.lconst n, 1)) (hv : Int64.ofNat (n : Nat) = v) : jx_S X mt md pc (o_push (.long v) 1) := by
  intro p l e R s m args below meth c d B L st M N h H ls locs cells slots I
  cases h
  intro Q k
  obtain ⟨hx, -, -, -, -, -, -, hb, -⟩ := B
  exact lv_lconst hx hb hd hv (k _ _ _ _ _ I)
theorem s_ldc2 {i : Nat} {v : Int64} (hd : decode md.2.1 pc = .ok (.ldc2_w i, 3)) (hw : (Cond.constantLong md.1.cls i v : Cond) ∈ X.W) : jx_S X mt md pc (o_push (.long v) 3) := by
  intro p l e R s m args below meth c d B L st M N h H ls locs cells slots I
  cases h
  intro Q k
  obtain ⟨hx, -, hts, -, -, hown, -, hb, -⟩ := B
  exact lv_ldc2 hx hb hown (hts _ hw) hd (k _ _ _ _ _ I)
theorem s_ldc {i : Nat} {v : Int32} (hd : decode md.2.1 pc = .ok (.ldc i, 2)) (hw : (Cond.constant md.1.cls i v : Cond) ∈ X.W) : jx_S X mt md pc (o_push (.int v) 2) := by
  intro p l e R s m args below meth c d B L st M N h H ls locs cells slots I
  cases h
  intro Q k
  obtain ⟨hx, -, hts, -, -, hown, -, hb, -⟩ := B
  exact lv_ldc hx hb hown (hts _ hw) hd (k _ _ _ _ _ I)
theorem s_iload_n {i : Nat} {n : Fin 4} (hd : decode md.2.1 pc = .ok (.iload_n n, 1)) (hi : (n : Nat) = i) : jx_S X mt md pc (o_ild i 1) := by
  intro p l e R s m args below meth c d B L st M N h H ls locs cells slots I
  unfold o_ild at h
  split at h
  · rename_i x hx0
    cases h
    intro Q k
    obtain ⟨hx, -, -, -, -, -, -, hb, -⟩ := B
    exact lv_iload_n hx hb hd hi (I.2.1.2.2 _ _ hx0) (k _ _ _ _ _ I)
  · cases h
theorem s_iload {i : Nat} (hd : decode md.2.1 pc = .ok (.iload i, 2)) : jx_S X mt md pc (o_ild i 2) := by
  intro p l e R s m args below meth c d B L st M N h H ls locs cells slots I
  unfold o_ild at h
  split at h
  · rename_i x hx0
    cases h
    intro Q k
    obtain ⟨hx, -, -, -, -, -, -, hb, -⟩ := B
    exact lv_iload hx hb hd (I.2.1.2.2 _ _ hx0) (k _ _ _ _ _ I)
  · cases h
theorem s_lload_n {i : Nat} {n : Fin 4} (hd : decode md.2.1 pc = .ok (.lload_n n, 1)) (hi : (n : Nat) = i) : jx_S X mt md pc (o_lld i 1) := by
  intro p l e R s m args below meth c d B L st M N h H ls locs cells slots I
  unfold o_lld at h
  split at h
  · rename_i x hx0
    cases h
    intro Q k
    obtain ⟨hx, -, -, -, -, -, -, hb, -⟩ := B
    exact lv_lload_n hx hb hd hi (I.2.1.2.2 _ _ hx0) (k _ _ _ _ _ I)
  · cases h
theorem s_lload {i : Nat} (hd : decode md.2.1 pc = .ok (.lload i, 2)) : jx_S X mt md pc (o_lld i 2) := by
  intro p l e R s m args below meth c d B L st M N h H ls locs cells slots I
  unfold o_lld at h
  split at h
  · rename_i x hx0
    cases h
    intro Q k
    obtain ⟨hx, -, -, -, -, -, -, hb, -⟩ := B
    exact lv_lload hx hb hd (I.2.1.2.2 _ _ hx0) (k _ _ _ _ _ I)
  · cases h
theorem s_aload_n {i : Nat} {n : Fin 4} (hd : decode md.2.1 pc = .ok (.aload_n n, 1)) (hi : (n : Nat) = i) : jx_S X mt md pc (o_ald i 1) := by
  intro p l e R s m args below meth c d B L st M N h H ls locs cells slots I
  obtain ⟨hx, -, -, -, -, -, -, hb, -⟩ := B
  unfold o_ald at h
  split at h
  · rename_i x hx0
    cases h
    intro Q k
    exact lv_aload_n hx hb hd hi (I.2.1.2.2 _ _ hx0) (k _ _ _ _ _ I)
  · rename_i hx0
    cases h
    intro Q k
    exact lv_aload_nN hx hb hd hi (I.2.1.2.2 _ _ hx0) (k _ _ _ _ _ I)
  · cases h
theorem s_aload {i : Nat} (hd : decode md.2.1 pc = .ok (.aload i, 2)) : jx_S X mt md pc (o_ald i 2) := by
  intro p l e R s m args below meth c d B L st M N h H ls locs cells slots I
  obtain ⟨hx, -, -, -, -, -, -, hb, -⟩ := B
  unfold o_ald at h
  split at h
  · rename_i x hx0
    cases h
    intro Q k
    exact lv_aload hx hb hd (I.2.1.2.2 _ _ hx0) (k _ _ _ _ _ I)
  · rename_i hx0
    cases h
    intro Q k
    exact lv_aloadN hx hb hd (I.2.1.2.2 _ _ hx0) (k _ _ _ _ _ I)
  · cases h
theorem s_istore_n {i : Nat} {n : Fin 4} (hd : decode md.2.1 pc = .ok (.istore_n n, 1)) (hi : (n : Nat) = i) : jx_S X mt md pc (o_ist i 1) := by
  intro p l e R s m args below meth c d B L st M N h H ls locs cells slots I
  obtain ⟨hx, -, -, -, -, -, -, hb, -⟩ := B
  unfold o_ist at h
  split at h
  · obtain ⟨L', h1, h2⟩ := Option.map_eq_some_iff.mp h
    cases h2
    intro Q k
    exact lv_istore_n hx hb hd hi I.2.1.has (jx_s1_lt h1) rfl fun ls' h' => k _ _ _ _ _ ⟨I.1, jx_lo.set1 h1 h', I.2.2.1, I.2.2.2.1, I.2.2.2.2.1, (jx_s1_len h1).trans I.2.2.2.2.2⟩
  · cases h
theorem s_istore {i : Nat} (hd : decode md.2.1 pc = .ok (.istore i, 2)) : jx_S X mt md pc (o_ist i 2) := by
  intro p l e R s m args below meth c d B L st M N h H ls locs cells slots I
  obtain ⟨hx, -, -, -, -, -, -, hb, -⟩ := B
  unfold o_ist at h
  split at h
  · obtain ⟨L', h1, h2⟩ := Option.map_eq_some_iff.mp h
    cases h2
    intro Q k
    exact lv_istore hx hb hd I.2.1.has (jx_s1_lt h1) rfl fun ls' h' => k _ _ _ _ _ ⟨I.1, jx_lo.set1 h1 h', I.2.2.1, I.2.2.2.1, I.2.2.2.2.1, (jx_s1_len h1).trans I.2.2.2.2.2⟩
  · cases h
theorem s_lstore_n {i : Nat} {n : Fin 4} (hd : decode md.2.1 pc = .ok (.lstore_n n, 1)) (hi : (n : Nat) = i) : jx_S X mt md pc (o_lst i 1) := by
  intro p l e R s m args below meth c d B L st M N h H ls locs cells slots I
  obtain ⟨hx, -, -, -, -, -, -, hb, -⟩ := B
  unfold o_lst at h
  split at h
  · obtain ⟨L', h1, h2⟩ := Option.map_eq_some_iff.mp h
    cases h2
    intro Q k
    exact lv_lstore_n hx hb hd hi I.2.1.has (jx_s2_lt h1) rfl fun ls' h' => k _ _ _ _ _ ⟨I.1, jx_lo.set2 h1 h', I.2.2.1, I.2.2.2.1, I.2.2.2.2.1, (jx_s2_len h1).trans I.2.2.2.2.2⟩
  · cases h
theorem s_lstore {i : Nat} (hd : decode md.2.1 pc = .ok (.lstore i, 2)) : jx_S X mt md pc (o_lst i 2) := by
  intro p l e R s m args below meth c d B L st M N h H ls locs cells slots I
  obtain ⟨hx, -, -, -, -, -, -, hb, -⟩ := B
  unfold o_lst at h
  split at h
  · obtain ⟨L', h1, h2⟩ := Option.map_eq_some_iff.mp h
    cases h2
    intro Q k
    exact lv_lstore hx hb hd I.2.1.has (jx_s2_lt h1) rfl fun ls' h' => k _ _ _ _ _ ⟨I.1, jx_lo.set2 h1 h', I.2.2.1, I.2.2.2.1, I.2.2.2.2.1, (jx_s2_len h1).trans I.2.2.2.2.2⟩
  · cases h
theorem s_astore_n {i : Nat} {n : Fin 4} (hd : decode md.2.1 pc = .ok (.astore_n n, 1)) (hi : (n : Nat) = i) : jx_S X mt md pc (o_ast i 1) := by
  intro p l e R s m args below meth c d B L st M N h H ls locs cells slots I
  obtain ⟨hx, -, -, -, -, -, -, hb, -⟩ := B
  unfold o_ast at h
  split at h
  · obtain ⟨L', h1, h2⟩ := Option.map_eq_some_iff.mp h
    cases h2
    intro Q k
    exact lv_astore_n hx hb hd hi I.2.1.has (jx_s1_lt h1) rfl fun ls' h' => k _ _ _ _ _ ⟨I.1, jx_lo.set1 h1 h', I.2.2.1, I.2.2.2.1, I.2.2.2.2.1, (jx_s1_len h1).trans I.2.2.2.2.2⟩
  · obtain ⟨L', h1, h2⟩ := Option.map_eq_some_iff.mp h
    cases h2
    intro Q k
    exact lv_astore_nN hx hb hd hi I.2.1.has (jx_s1_lt h1) rfl fun ls' h' => k _ _ _ _ _ ⟨I.1, jx_lo.set1 h1 h', I.2.2.1, I.2.2.2.1, I.2.2.2.2.1, (jx_s1_len h1).trans I.2.2.2.2.2⟩
  · cases h
theorem s_astore {i : Nat} (hd : decode md.2.1 pc = .ok (.astore i, 2)) : jx_S X mt md pc (o_ast i 2) := by
  intro p l e R s m args below meth c d B L st M N h H ls locs cells slots I
  obtain ⟨hx, -, -, -, -, -, -, hb, -⟩ := B
  unfold o_ast at h
  split at h
  · obtain ⟨L', h1, h2⟩ := Option.map_eq_some_iff.mp h
    cases h2
    intro Q k
    exact lv_astore hx hb hd I.2.1.has (jx_s1_lt h1) rfl fun ls' h' => k _ _ _ _ _ ⟨I.1, jx_lo.set1 h1 h', I.2.2.1, I.2.2.2.1, I.2.2.2.2.1, (jx_s1_len h1).trans I.2.2.2.2.2⟩
  · obtain ⟨L', h1, h2⟩ := Option.map_eq_some_iff.mp h
    cases h2
    intro Q k
    exact lv_astoreN hx hb hd I.2.1.has (jx_s1_lt h1) rfl fun ls' h' => k _ _ _ _ _ ⟨I.1, jx_lo.set1 h1 h', I.2.2.1, I.2.2.2.1, I.2.2.2.2.1, (jx_s1_len h1).trans I.2.2.2.2.2⟩
  · cases h
theorem s_iinc {i : Nat} {n : Int} {v : Int32} (hd : decode md.2.1 pc = .ok (.iinc i n, 3)) (hv : Int32.ofInt n = v) : jx_S X mt md pc (o_iinc i v) := by
  intro p l e R s m args below meth c d B L st M N h H ls locs cells slots I
  obtain ⟨hx, -, -, -, -, -, -, hb, -⟩ := B
  unfold o_iinc at h
  split at h
  · rename_i x hx0
    obtain ⟨L', h1, h2⟩ := Option.map_eq_some_iff.mp h
    cases h2
    intro Q k
    have hm : (i, Value.int x) ∈ jx_pr X L := jx_pr_mem.mpr ⟨_, hx0, rfl⟩
    obtain ⟨j, hj⟩ := List.getElem?_of_mem hm
    exact lv_iinc hx hb hd I.2.1.has hj (by rw [hv]) (jx_s1_lt h1) rfl fun ls' h' => k _ _ _ _ _ ⟨I.1, jx_lo.set1 h1 h', I.2.2.1, I.2.2.2.1, I.2.2.2.2.1, (jx_s1_len h1).trans I.2.2.2.2.2⟩
  · cases h
theorem s_iadd (hd : decode md.2.1 pc = .ok (.iadd, 1)) : jx_S X mt md pc (o_bin fun x y => x + y) := by
  intro p l e R s m args below meth c d B L st M N h H ls locs cells slots I
  obtain ⟨hx, -, -, -, -, -, -, hb, -⟩ := B
  unfold o_bin at h
  split at h
  · cases h
    intro Q k
    exact lv_iadd hx hb hd (k _ _ _ _ _ I)
  · cases h
theorem s_isub (hd : decode md.2.1 pc = .ok (.isub, 1)) : jx_S X mt md pc (o_bin fun x y => x - y) := by
  intro p l e R s m args below meth c d B L st M N h H ls locs cells slots I
  obtain ⟨hx, -, -, -, -, -, -, hb, -⟩ := B
  unfold o_bin at h
  split at h
  · cases h
    intro Q k
    exact lv_isub hx hb hd (k _ _ _ _ _ I)
  · cases h
theorem s_imul (hd : decode md.2.1 pc = .ok (.imul, 1)) : jx_S X mt md pc (o_bin fun x y => x * y) := by
  intro p l e R s m args below meth c d B L st M N h H ls locs cells slots I
  obtain ⟨hx, -, -, -, -, -, -, hb, -⟩ := B
  unfold o_bin at h
  split at h
  · cases h
    intro Q k
    exact lv_imul hx hb hd (k _ _ _ _ _ I)
  · cases h
theorem s_iand (hd : decode md.2.1 pc = .ok (.iand, 1)) : jx_S X mt md pc (o_bin fun x y => x &&& y) := by
  intro p l e R s m args below meth c d B L st M N h H ls locs cells slots I
  obtain ⟨hx, -, -, -, -, -, -, hb, -⟩ := B
  unfold o_bin at h
  split at h
  · cases h
    intro Q k
    exact lv_iand hx hb hd (k _ _ _ _ _ I)
  · cases h
theorem s_ior (hd : decode md.2.1 pc = .ok (.ior, 1)) : jx_S X mt md pc (o_bin fun x y => x ||| y) := by
  intro p l e R s m args below meth c d B L st M N h H ls locs cells slots I
  obtain ⟨hx, -, -, -, -, -, -, hb, -⟩ := B
  unfold o_bin at h
  split at h
  · cases h
    intro Q k
    exact lv_ior hx hb hd (k _ _ _ _ _ I)
  · cases h
theorem s_ixor (hd : decode md.2.1 pc = .ok (.ixor, 1)) : jx_S X mt md pc (o_bin fun x y => x ^^^ y) := by
  intro p l e R s m args below meth c d B L st M N h H ls locs cells slots I
  obtain ⟨hx, -, -, -, -, -, -, hb, -⟩ := B
  unfold o_bin at h
  split at h
  · cases h
    intro Q k
    exact lv_ixor hx hb hd (k _ _ _ _ _ I)
  · cases h
theorem s_ishl (hd : decode md.2.1 pc = .ok (.ishl, 1)) : jx_S X mt md pc (o_bin fun x y => x <<< (y &&& 31)) := by
  intro p l e R s m args below meth c d B L st M N h H ls locs cells slots I
  obtain ⟨hx, -, -, -, -, -, -, hb, -⟩ := B
  unfold o_bin at h
  split at h
  · cases h
    intro Q k
    exact lv_ishl hx hb hd (k _ _ _ _ _ I)
  · cases h
theorem s_ishr (hd : decode md.2.1 pc = .ok (.ishr, 1)) : jx_S X mt md pc (o_bin fun x y => x >>> (y &&& 31)) := by
  intro p l e R s m args below meth c d B L st M N h H ls locs cells slots I
  obtain ⟨hx, -, -, -, -, -, -, hb, -⟩ := B
  unfold o_bin at h
  split at h
  · cases h
    intro Q k
    exact lv_ishr hx hb hd (k _ _ _ _ _ I)
  · cases h
theorem s_iushr (hd : decode md.2.1 pc = .ok (.iushr, 1)) : jx_S X mt md pc (o_bin fun x y => (x.toUInt32 >>> (y.toUInt32 &&& Int32.toUInt32 31)).toInt32) := by
  intro p l e R s m args below meth c d B L st M N h H ls locs cells slots I
  obtain ⟨hx, -, -, -, -, -, -, hb, -⟩ := B
  unfold o_bin at h
  split at h
  · cases h
    intro Q k
    exact lv_iushr hx hb hd rfl (k _ _ _ _ _ I)
  · cases h
theorem s_ineg (hd : decode md.2.1 pc = .ok (.ineg, 1)) : jx_S X mt md pc (o_un fun x => -x) := by
  intro p l e R s m args below meth c d B L st M N h H ls locs cells slots I
  obtain ⟨hx, -, -, -, -, -, -, hb, -⟩ := B
  unfold o_un at h
  split at h
  · cases h
    intro Q k
    exact lv_ineg hx hb hd (k _ _ _ _ _ I)
  · cases h
theorem s_i2c (hd : decode md.2.1 pc = .ok (.i2c, 1)) : jx_S X mt md pc (o_un fun x => (x.toUInt32 % 65536).toInt32) := by
  intro p l e R s m args below meth c d B L st M N h H ls locs cells slots I
  obtain ⟨hx, -, -, -, -, -, -, hb, -⟩ := B
  unfold o_un at h
  split at h
  · cases h
    intro Q k
    exact lv_i2c hx hb hd rfl (k _ _ _ _ _ I)
  · cases h
theorem s_ladd (hd : decode md.2.1 pc = .ok (.ladd, 1)) : jx_S X mt md pc (o_binl fun x y => x + y) := by
  intro p l e R s m args below meth c d B L st M N h H ls locs cells slots I
  obtain ⟨hx, -, -, -, -, -, -, hb, -⟩ := B
  unfold o_binl at h
  split at h
  · cases h
    intro Q k
    exact lv_ladd hx hb hd (k _ _ _ _ _ I)
  · cases h
theorem s_land (hd : decode md.2.1 pc = .ok (.land, 1)) : jx_S X mt md pc (o_binl fun x y => x &&& y) := by
  intro p l e R s m args below meth c d B L st M N h H ls locs cells slots I
  obtain ⟨hx, -, -, -, -, -, -, hb, -⟩ := B
  unfold o_binl at h
  split at h
  · cases h
    intro Q k
    exact lv_land hx hb hd (k _ _ _ _ _ I)
  · cases h
theorem s_lor (hd : decode md.2.1 pc = .ok (.lor, 1)) : jx_S X mt md pc (o_binl fun x y => x ||| y) := by
  intro p l e R s m args below meth c d B L st M N h H ls locs cells slots I
  obtain ⟨hx, -, -, -, -, -, -, hb, -⟩ := B
  unfold o_binl at h
  split at h
  · cases h
    intro Q k
    exact lv_lor hx hb hd (k _ _ _ _ _ I)
  · cases h
theorem s_lshl (hd : decode md.2.1 pc = .ok (.lshl, 1)) : jx_S X mt md pc (o_shl fun x y => x <<< (y.toInt64 &&& 63)) := by
  intro p l e R s m args below meth c d B L st M N h H ls locs cells slots I
  obtain ⟨hx, -, -, -, -, -, -, hb, -⟩ := B
  unfold o_shl at h
  split at h
  · cases h
    intro Q k
    exact lv_lshl hx hb hd rfl (k _ _ _ _ _ I)
  · cases h
theorem s_lushr (hd : decode md.2.1 pc = .ok (.lushr, 1)) : jx_S X mt md pc (o_shl fun x y => (x.toUInt64 >>> (y.toInt64.toUInt64 &&& Int64.toUInt64 63)).toInt64) := by
  intro p l e R s m args below meth c d B L st M N h H ls locs cells slots I
  obtain ⟨hx, -, -, -, -, -, -, hb, -⟩ := B
  unfold o_shl at h
  split at h
  · cases h
    intro Q k
    exact lv_lushr hx hb hd rfl (k _ _ _ _ _ I)
  · cases h
theorem s_i2l (hd : decode md.2.1 pc = .ok (.i2l, 1)) : jx_S X mt md pc o_i2l := by
  intro p l e R s m args below meth c d B L st M N h H ls locs cells slots I
  obtain ⟨hx, -, -, -, -, -, -, hb, -⟩ := B
  unfold o_i2l at h
  split at h
  · cases h
    intro Q k
    exact lv_i2l hx hb hd rfl (k _ _ _ _ _ I)
  · cases h
theorem s_l2i (hd : decode md.2.1 pc = .ok (.l2i, 1)) : jx_S X mt md pc o_l2i := by
  intro p l e R s m args below meth c d B L st M N h H ls locs cells slots I
  obtain ⟨hx, -, -, -, -, -, -, hb, -⟩ := B
  unfold o_l2i at h
  split at h
  · cases h
    intro Q k
    exact lv_l2i hx hb hd rfl (k _ _ _ _ _ I)
  · cases h
theorem s_lcmp (hd : decode md.2.1 pc = .ok (.lcmp, 1)) : jx_S X mt md pc o_lcmp := by
  intro p l e R s m args below meth c d B L st M N h H ls locs cells slots I
  obtain ⟨hx, -, -, -, -, -, -, hb, -⟩ := B
  unfold o_lcmp at h
  split at h
  · cases h
    intro Q k
    exact W.lcmp hx hb hd (k _ _ _ _ _ I)
  · cases h
theorem s_dup (hd : decode md.2.1 pc = .ok (.dup, 1)) : jx_S X mt md pc o_dup := by
  intro p l e R s m args below meth c d B L st M N h H ls locs cells slots I
  obtain ⟨hx, -, -, -, -, -, -, hb, -⟩ := B
  unfold o_dup at h
  split at h
  · split at h
    · rename_i hv
      cases h
      intro Q k
      exact lv_dup hx hb hd (by rw [jx_v_cat]; exact jx_v1_cat hv) (k _ _ _ _ _ I)
    · cases h
  · cases h
theorem s_pop (hd : decode md.2.1 pc = .ok (.pop, 1)) : jx_S X mt md pc o_pop := by
  intro p l e R s m args below meth c d B L st M N h H ls locs cells slots I
  obtain ⟨hx, -, -, -, -, -, -, hb, -⟩ := B
  unfold o_pop at h
  split at h
  · split at h
    · rename_i hv
      cases h
      intro Q k
      exact lv_pop hx hb hd (by rw [jx_v_cat]; exact jx_v1_cat hv) (k _ _ _ _ _ I)
    · cases h
  · cases h
theorem s_dup_x1 (hd : decode md.2.1 pc = .ok (.dup_x1, 1)) : jx_S X mt md pc o_dup_x1 := by
  intro p l e R s m args below meth c d B L st M N h H ls locs cells slots I
  obtain ⟨hx, -, -, -, -, -, -, hb, -⟩ := B
  unfold o_dup_x1 at h
  split at h
  · split at h
    · rename_i hv
      cases h
      intro Q k
      exact lv_dup_x1 hx hb hd (by rw [jx_v_cat]; exact jx_v1_cat hv.1) (by rw [jx_v_cat]; exact jx_v1_cat hv.2) (k _ _ _ _ _ I)
    · cases h
  · cases h
theorem s_dup2 (hd : decode md.2.1 pc = .ok (.dup2, 1)) : jx_S X mt md pc o_dup2 := by
  intro p l e R s m args below meth c d B L st M N h H ls locs cells slots I
  obtain ⟨hx, -, -, -, -, -, -, hb, -⟩ := B
  unfold o_dup2 at h
  split at h
  · split at h
    · rename_i hv
      cases h
      intro Q k
      exact lv_dup2_11 hx hb hd (by rw [jx_v_cat]; exact jx_v1_cat hv.1) (by rw [jx_v_cat]; exact jx_v1_cat hv.2) (k _ _ _ _ _ I)
    · cases h
  · cases h
theorem s_goto {off : Int} {t : Nat} (hd : decode md.2.1 pc = .ok (.goto off, 3)) (ht : (pc : Int) + off = (t : Int)) : jx_S X mt md pc (o_goto t) := by
  intro p l e R s m args below meth c d B L st M N h H ls locs cells slots I
  obtain ⟨hx, -, -, -, -, -, -, hb, -⟩ := B
  cases h
  intro Q k
  exact lv_goto hx hb hd ht (k _ _ _ _ _ I)
theorem s_ifeq {off : Int} {t : Nat} (hd : decode md.2.1 pc = .ok (.ifCond .eq off, 3)) (ht : (pc : Int) + off = (t : Int)) : jx_S X mt md pc (o_ifeq t) := by
  intro p l e R s m args below meth c d B L st M N h H ls locs cells slots I
  obtain ⟨hx, -, -, -, -, -, -, hb, -⟩ := B
  unfold o_ifeq at h
  split at h
  · cases h
    intro Q k
    refine lv_if_eq hx hb hd ht (fun q => ?_) (fun q => ?_)
    · have k2 := k _ _ _ _ _ I
      rw [if_pos q] at k2
      exact k2
    · have k2 := k _ _ _ _ _ I
      rw [if_neg q] at k2
      exact k2
  · cases h
theorem s_ifne {off : Int} {t : Nat} (hd : decode md.2.1 pc = .ok (.ifCond .ne off, 3)) (ht : (pc : Int) + off = (t : Int)) : jx_S X mt md pc (o_ifne t) := by
  intro p l e R s m args below meth c d B L st M N h H ls locs cells slots I
  obtain ⟨hx, -, -, -, -, -, -, hb, -⟩ := B
  unfold o_ifne at h
  split at h
  · cases h
    intro Q k
    refine lv_if_ne hx hb hd ht (fun q => ?_) (fun q => ?_)
    · have k2 := k _ _ _ _ _ I
      rw [if_neg q] at k2
      exact k2
    · have k2 := k _ _ _ _ _ I
      rw [if_pos q] at k2
      exact k2
  · cases h
theorem s_iflt {off : Int} {t : Nat} (hd : decode md.2.1 pc = .ok (.ifCond .lt off, 3)) (ht : (pc : Int) + off = (t : Int)) : jx_S X mt md pc (o_iflt t) := by
  intro p l e R s m args below meth c d B L st M N h H ls locs cells slots I
  obtain ⟨hx, -, -, -, -, -, -, hb, -⟩ := B
  unfold o_iflt at h
  split at h
  · cases h
    intro Q k
    refine lv_if_lt hx hb hd ht (fun q => ?_) (fun q => ?_)
    · have k2 := k _ _ _ _ _ I
      rw [if_pos q] at k2
      exact k2
    · have k2 := k _ _ _ _ _ I
      rw [if_neg q] at k2
      exact k2
  · cases h
theorem s_ifge {off : Int} {t : Nat} (hd : decode md.2.1 pc = .ok (.ifCond .ge off, 3)) (ht : (pc : Int) + off = (t : Int)) : jx_S X mt md pc (o_ifge t) := by
  intro p l e R s m args below meth c d B L st M N h H ls locs cells slots I
  obtain ⟨hx, -, -, -, -, -, -, hb, -⟩ := B
  unfold o_ifge at h
  split at h
  · cases h
    intro Q k
    refine lv_if_ge hx hb hd ht (fun q => ?_) (fun q => ?_)
    · have k2 := k _ _ _ _ _ I
      rw [if_neg (k2_nlt q)] at k2
      exact k2
    · have k2 := k _ _ _ _ _ I
      rw [if_pos (k2_lt q)] at k2
      exact k2
  · cases h
theorem s_ifgt {off : Int} {t : Nat} (hd : decode md.2.1 pc = .ok (.ifCond .gt off, 3)) (ht : (pc : Int) + off = (t : Int)) : jx_S X mt md pc (o_ifgt t) := by
  intro p l e R s m args below meth c d B L st M N h H ls locs cells slots I
  obtain ⟨hx, -, -, -, -, -, -, hb, -⟩ := B
  unfold o_ifgt at h
  split at h
  · cases h
    intro Q k
    refine lv_if_gt hx hb hd ht (fun q => ?_) (fun q => ?_)
    · have k2 := k _ _ _ _ _ I
      rw [if_pos q] at k2
      exact k2
    · have k2 := k _ _ _ _ _ I
      rw [if_neg q] at k2
      exact k2
  · cases h
theorem s_ifle {off : Int} {t : Nat} (hd : decode md.2.1 pc = .ok (.ifCond .le off, 3)) (ht : (pc : Int) + off = (t : Int)) : jx_S X mt md pc (o_ifle t) := by
  intro p l e R s m args below meth c d B L st M N h H ls locs cells slots I
  obtain ⟨hx, -, -, -, -, -, -, hb, -⟩ := B
  unfold o_ifle at h
  split at h
  · cases h
    intro Q k
    refine lv_if_le hx hb hd ht (fun q => ?_) (fun q => ?_)
    · have k2 := k _ _ _ _ _ I
      rw [if_neg (k2_nlt q)] at k2
      exact k2
    · have k2 := k _ _ _ _ _ I
      rw [if_pos (k2_lt q)] at k2
      exact k2
  · cases h
theorem s_ieq {off : Int} {t : Nat} (hd : decode md.2.1 pc = .ok (.if_icmp .eq off, 3)) (ht : (pc : Int) + off = (t : Int)) : jx_S X mt md pc (o_ieq t) := by
  intro p l e R s m args below meth c d B L st M N h H ls locs cells slots I
  obtain ⟨hx, -, -, -, -, -, -, hb, -⟩ := B
  unfold o_ieq at h
  split at h
  · cases h
    intro Q k
    refine lv_icmp_eq hx hb hd ht (fun q => ?_) (fun q => ?_)
    · have k2 := k _ _ _ _ _ I
      rw [if_pos q] at k2
      exact k2
    · have k2 := k _ _ _ _ _ I
      rw [if_neg q] at k2
      exact k2
  · cases h
theorem s_ine {off : Int} {t : Nat} (hd : decode md.2.1 pc = .ok (.if_icmp .ne off, 3)) (ht : (pc : Int) + off = (t : Int)) : jx_S X mt md pc (o_ine t) := by
  intro p l e R s m args below meth c d B L st M N h H ls locs cells slots I
  obtain ⟨hx, -, -, -, -, -, -, hb, -⟩ := B
  unfold o_ine at h
  split at h
  · cases h
    intro Q k
    refine lv_icmp_ne hx hb hd ht (fun q => ?_) (fun q => ?_)
    · have k2 := k _ _ _ _ _ I
      rw [if_neg q] at k2
      exact k2
    · have k2 := k _ _ _ _ _ I
      rw [if_pos q] at k2
      exact k2
  · cases h
theorem s_ilt {off : Int} {t : Nat} (hd : decode md.2.1 pc = .ok (.if_icmp .lt off, 3)) (ht : (pc : Int) + off = (t : Int)) : jx_S X mt md pc (o_ilt t) := by
  intro p l e R s m args below meth c d B L st M N h H ls locs cells slots I
  obtain ⟨hx, -, -, -, -, -, -, hb, -⟩ := B
  unfold o_ilt at h
  split at h
  · cases h
    intro Q k
    refine lv_icmp_lt hx hb hd ht (fun q => ?_) (fun q => ?_)
    · have k2 := k _ _ _ _ _ I
      rw [if_pos q] at k2
      exact k2
    · have k2 := k _ _ _ _ _ I
      rw [if_neg q] at k2
      exact k2
  · cases h
theorem s_ige {off : Int} {t : Nat} (hd : decode md.2.1 pc = .ok (.if_icmp .ge off, 3)) (ht : (pc : Int) + off = (t : Int)) : jx_S X mt md pc (o_ige t) := by
  intro p l e R s m args below meth c d B L st M N h H ls locs cells slots I
  obtain ⟨hx, -, -, -, -, -, -, hb, -⟩ := B
  unfold o_ige at h
  split at h
  · cases h
    intro Q k
    refine lv_icmp_ge hx hb hd ht (fun q => ?_) (fun q => ?_)
    · have k2 := k _ _ _ _ _ I
      rw [if_neg (k2_nlt q)] at k2
      exact k2
    · have k2 := k _ _ _ _ _ I
      rw [if_pos (k2_lt q)] at k2
      exact k2
  · cases h
theorem s_igt {off : Int} {t : Nat} (hd : decode md.2.1 pc = .ok (.if_icmp .gt off, 3)) (ht : (pc : Int) + off = (t : Int)) : jx_S X mt md pc (o_igt t) := by
  intro p l e R s m args below meth c d B L st M N h H ls locs cells slots I
  obtain ⟨hx, -, -, -, -, -, -, hb, -⟩ := B
  unfold o_igt at h
  split at h
  · cases h
    intro Q k
    refine lv_icmp_gt hx hb hd ht (fun q => ?_) (fun q => ?_)
    · have k2 := k _ _ _ _ _ I
      rw [if_pos q] at k2
      exact k2
    · have k2 := k _ _ _ _ _ I
      rw [if_neg q] at k2
      exact k2
  · cases h
theorem s_ile {off : Int} {t : Nat} (hd : decode md.2.1 pc = .ok (.if_icmp .le off, 3)) (ht : (pc : Int) + off = (t : Int)) : jx_S X mt md pc (o_ile t) := by
  intro p l e R s m args below meth c d B L st M N h H ls locs cells slots I
  obtain ⟨hx, -, -, -, -, -, -, hb, -⟩ := B
  unfold o_ile at h
  split at h
  · cases h
    intro Q k
    refine lv_icmp_le hx hb hd ht (fun q => ?_) (fun q => ?_)
    · have k2 := k _ _ _ _ _ I
      rw [if_neg (k2_nlt q)] at k2
      exact k2
    · have k2 := k _ _ _ _ _ I
      rw [if_pos (k2_lt q)] at k2
      exact k2
  · cases h
theorem s_ifnull {off : Int} {t : Nat} (hd : decode md.2.1 pc = .ok (.ifnull off, 3)) (ht : (pc : Int) + off = (t : Int)) : jx_S X mt md pc (o_ifnull t) := by
  intro p l e R s m args below meth c d B L st M N h H ls locs cells slots I
  obtain ⟨hx, -, -, -, -, -, -, hb, -⟩ := B
  unfold o_ifnull at h
  split at h
  · cases h
    intro Q k
    exact lv_ifnullN hx hb hd ht (k _ _ _ _ _ I)
  · cases h
    intro Q k
    exact lv_ifnull hx hb hd (k _ _ _ _ _ I)
  · cases h
theorem s_ifnonnull {off : Int} {t : Nat} (hd : decode md.2.1 pc = .ok (.ifnonnull off, 3)) (ht : (pc : Int) + off = (t : Int)) : jx_S X mt md pc (o_ifnonnull t) := by
  intro p l e R s m args below meth c d B L st M N h H ls locs cells slots I
  obtain ⟨hx, -, -, -, -, -, -, hb, -⟩ := B
  unfold o_ifnonnull at h
  split at h
  · cases h
    intro Q k
    exact lv_ifnonnullN hx hb hd (k _ _ _ _ _ I)
  · cases h
    intro Q k
    exact lv_ifnonnull hx hb hd ht (k _ _ _ _ _ I)
  · cases h
end JO
end
section
/-! THE OPERATIONS THAT TOUCH THE MEMORY -/
/-- a class of the program: its name, its fields -/
def jx_k (X : jx_X) (ci : Nat) (C : String) (T : u_T) (N : Nat) (ty : Nat → FieldType) : Prop :=
  X.cl[ci]? = some (C, T, N) ∧ ci < 100 ∧ (∀ w ∈ u_ws C T N, w ∈ X.W) ∧ (∀ k, k < N → parseFieldDescriptor (T k).2.2.1 = some (ty k)) ∧ ∀ a, a < N → ∀ b, b < N → a ≠ b → (T a).2.1 ≠ (T b).2.1
theorem jx_P1 {D : va_G} {cl : List vw_C} {q : Nat × va_E} {H : Heap} (h : va_at D cl q H) : va_P D cl [q] H := by
  intro k x hx
  have hz : k < 1 := (List.getElem?_eq_some_iff.mp hx).1
  rw [show k = 0 by omega] at hx
  cases hx
  exact h
/-- what a field of that type takes -/
def jx_okI (v : Value) : Bool := match v with
  | .int _ => true
  | _ => false
def jx_okZ (v : Value) : Bool := match v with
  | .int x => x == 0 || x == 1
  | _ => false
def jx_okR (v : Value) : Bool := match v with
  | .ref _ => true
  | .null => true
  | _ => false
theorem jx_okI_n (X : jx_X) {v : Value} (h : jx_okI v = true) : narrow .int (jx_v X v) = jx_v X v ∧ fits .int (jx_v X v) = true := by
  cases v <;> first | exact ⟨rfl, rfl⟩ | cases h
theorem jx_okZ_n (X : jx_X) {v : Value} (h : jx_okZ v = true) : narrow .boolean (jx_v X v) = jx_v X v ∧ fits .boolean (jx_v X v) = true := by
  cases v with
  | int x =>
    simp only [jx_okZ, Bool.or_eq_true, beq_iff_eq] at h
    rcases h with rfl | rfl
    · exact ⟨rfl, rfl⟩
    · exact ⟨rfl, rfl⟩
  | _ => cases h
theorem jx_okR_n (X : jx_X) (C : String) {v : Value} (h : jx_okR v = true) : narrow (.object C) (jx_v X v) = jx_v X v ∧ fits (.object C) (jx_v X v) = true := by
  cases v <;> first | exact ⟨rfl, rfl⟩ | cases h
theorem jx_okA_n (X : jx_X) (t : FieldType) {v : Value} (h : jx_okR v = true) : narrow (.array t) (jx_v X v) = jx_v X v ∧ fits (.array t) (jx_v X v) = true := by
  cases v <;> first | exact ⟨rfl, rfl⟩ | cases h
section JW
variable {p : Program} {l : Launch} {e : Env} {R : Room} {s : State} {m : MethodId} {args : Array Value} {below : List Frame} {meth : Method} {c : Code} {H : Heap} {locs : List Loc} {cells slots : Nat} {Q : State → Prop}
variable {cc : ByteArray} {pc : Nat} {ls : Array Slot} {rest : List Value} {D : va_G} {cl : List vw_C} {a : Nat} {tys : List (ClassId × FieldType)}
/-- a field is written: what the heap is then -/
theorem jx_wput (hx : p.tables.exec = Jvm.exec) (hb : c.code = cc) {own C : String} {T : u_T} {N ci index : Nat} {Ts : List Cond} (hts : ∀ w ∈ Ts, w.before args s = true) (hin : ∀ w ∈ u_ws C T N, w ∈ Ts) (ty0 : Nat → FieldType) (hty : ∀ k, k < N → parseFieldDescriptor (T k).2.2.1 = some (ty0 k)) (hnm : ∀ a, a < N → ∀ b, b < N → a ≠ b → (T a).2.1 ≠ (T b).2.1) (hown : s.vm.findClass own = some m.cls) (hK : va_K D cl tys s) {fs : List Value} (hP : va_at D cl (a, .inr (ci, fs)) H) (hc : cl[ci]? = some (C, T, N)) {k : Nat} (hk : k < N) (hl : k < fs.length)
    (hlink : ((T k).2.2.2 = false ∧ (Cond.fieldLink own index (T k).1 (T k).2.1 (T k).2.2.1).before args s = true) ∨ ((T k).2.2.2 = false ∧ ∃ host, (Cond.fieldLinkNest own index (T k).1 (T k).2.1 (T k).2.2.1 host).before args s = true) ∨ ((T k).2.2.2 = true ∧ meth.name = "<init>" ∧ (T k).1 = own ∧ (Cond.fieldLink own index (T k).1 (T k).2.1 (T k).2.2.1).before args s = true))
    {v : Value} (hv : narrow (ty0 k) v = v ∧ fits (ty0 k) v = true) (hdg : decode cc pc = .ok (.putfield index, 3))
    (kk : ∀ (H1 : Heap) (sl : Nat), H1.size = H.size → (∀ q : Nat, q ≠ a → H1[q]? = H[q]?) → va_at D cl (a, .inr (ci, fs.set k v)) H1 → W p l e R s m args below meth c H1 (locs ++ [⟨a, sl⟩]) cells slots Q (F0 m (pc + 3) ls rest)) : W p l e R s m args below meth c H locs cells slots Q (F0 m pc ls (v :: .ref a :: rest)) := by
  have hap := va_apart (own := own) hts hin ty0 hty hnm hK hc
  obtain ⟨r, h1, cell, q1, q2, q3, q4⟩ := hP
  have hr : r = (C, T, N) := Option.some.inj (h1.symm.trans hc)
  subst hr
  obtain ⟨hS, hfc, kC, hkC, hkind⟩ := hK.1 ci _ hc
  obtain ⟨cf, kf, fi, f, hi, hsl⟩ := hS k hk
  have hlay := hts _ (hin _ (u_in_lay hk))
  have hst := (u_facts hfc hkC (u_lays hts hin hk) hi).1
  have hd := hty k hk
  have fin : ∀ H' : Heap, H'[a]? = some (cell.setSlot f.slot v) → H'.size = H.size → (∀ q, q ≠ a → H'[q]? = H[q]?) → W p l e R s m args below meth c H' (locs ++ [⟨a, f.slot⟩]) cells slots Q (F0 m (pc + 3) ls rest) := by
    intro H' e1 e2 e3
    refine kk H' _ e2 e3 ⟨_, hc, t_OB.to (V := updV (vp_V fs) k v) ⟨_, e1, q2, q3, ?_⟩ (fun j _ => vp_updV_set hl v j)⟩
    rw [hsl]
    exact t_set q4 hap hk v
  rcases hlink with ⟨hf, hlink⟩ | ⟨hf, host, hlink⟩ | ⟨hf, hin2, hdecl, hlink⟩
  · unfold u_lay at hlay
    rw [if_neg (by rw [hf]; decide)] at hlay
    have h6 := u_store hfc hkC hkind hlay hi hd hv.1 hv.2
    exact W.putK hx hb (f := f) ⟨hown, hlink, ⟨_, _, _, hi⟩, hst⟩ (by rw [q2]; exact h6) q1 q3 (by rw [hsl]; exact k2_hasslot (q4 k hk)) rfl rfl hdg fin
  · unfold u_lay at hlay
    rw [if_neg (by rw [hf]; decide)] at hlay
    have h6 := u_store hfc hkC hkind hlay hi hd hv.1 hv.2
    exact va_WputK hx hb (f := f) hown hlink hi hst (by rw [q2]; exact h6) q1 q3 (by rw [hsl]; exact k2_hasslot (q4 k hk)) rfl rfl hdg fin
  · unfold u_lay at hlay
    rw [if_pos hf] at hlay
    have hcf : m.cls = cf := by
      obtain ⟨_, _, c', _, _, _, -, -, hf', -, -, -, hown2, -⟩ := Cond.laysFinal_spec hlay
      have e1 : c' = cf := by have := hi.symm.trans hf'; simp at this; exact this.1.symm
      rw [hdecl] at hown2
      rw [← e1]; exact Option.some.inj (hown.symm.trans hown2)
    have h6 := u_fits hfc hkC hkind (Or.inr hlay) hi hd hv.1 hv.2
    exact W.putFinK hx hb hown hlink hi hst hcf hin2 (by rw [q2]; exact h6) q1 q3 (by rw [hsl]; exact k2_hasslot (q4 k hk)) rfl rfl hdg fin
end JW
section JM
variable {X : jx_X} {mt : Nat → jx_D} {md : jx_D} {pc : Nat}
theorem jx_fget {ci k : Nat} {C : String} {T : u_T} {N i : Nat} {ty : Nat → FieldType} (hk : jx_k X ci C T N ty) (hkN : k < N) (hd : decode md.2.1 pc = .ok (.getfield i, 3))
    (hl : ∀ (args : Array Value) (s : State), (∀ w ∈ X.W, w.before args s = true) → (Cond.fieldLink md.1.cls i (T k).1 (T k).2.1 (T k).2.2.1).before args s = true ∨ ∃ host, (Cond.fieldLinkNest md.1.cls i (T k).1 (T k).2.1 (T k).2.2.1 host).before args s = true) : jx_S X mt md pc (o_getf ci k) := by
  intro p l e R s m args below meth c d B L st M N h H ls locs cells slots I
  obtain ⟨hx, -, hts, hK, hG, hown, -, hb, -⟩ := B
  unfold o_getf at h
  split at h
  · split at h
    · rename_i a r _ c0 fs hcell
      split at h
      · rename_i hc0
        subst hc0
        obtain ⟨v, h1, h2⟩ := Option.map_eq_some_iff.mp h
        cases h2
        intro Q kk
        obtain ⟨hc, hci, hin, hty, hnm⟩ := hk
        obtain ⟨-, -, hP⟩ := I.1.obj hG hcell hci
        have hv : (fs.map (jx_v X))[k]? = some (jx_v X v) := by rw [List.getElem?_map, h1]; rfl
        rcases hl args s hts with hlink | ⟨host, hlink⟩
        · exact va_get hx hb hts hin hown hK (jx_P1 hP) 0 rfl hc k hkN hlink (fun _ q => q) hv hd (kk _ _ _ _ _ I)
        · exact va_getN hx hb hts hin hown hK (jx_P1 hP) 0 rfl hc k hkN hlink (fun _ q => q) hv hd (kk _ _ _ _ _ I)
      · cases h
    · cases h
  · cases h
theorem s_getf {ci k : Nat} {C : String} {T : u_T} {N i : Nat} {ty : Nat → FieldType} (hk : jx_k X ci C T N ty) (hkN : k < N) (hd : decode md.2.1 pc = .ok (.getfield i, 3)) (hw : (Cond.fieldLink md.1.cls i (T k).1 (T k).2.1 (T k).2.2.1 : Cond) ∈ X.W) : jx_S X mt md pc (o_getf ci k) :=
  jx_fget hk hkN hd fun _ _ h => Or.inl (h _ hw)
theorem s_getfN {ci k : Nat} {C host : String} {T : u_T} {N i : Nat} {ty : Nat → FieldType} (hk : jx_k X ci C T N ty) (hkN : k < N) (hd : decode md.2.1 pc = .ok (.getfield i, 3)) (hw : (Cond.fieldLinkNest md.1.cls i (T k).1 (T k).2.1 (T k).2.2.1 host : Cond) ∈ X.W) : jx_S X mt md pc (o_getf ci k) :=
  jx_fget hk hkN hd fun _ _ h => Or.inr ⟨host, h _ hw⟩
theorem jx_fput {ci k : Nat} {C : String} {T : u_T} {N i : Nat} {ty : Nat → FieldType} {ok : Value → Bool} (hk : jx_k X ci C T N ty) (hkN : k < N) (hd : decode md.2.1 pc = .ok (.putfield i, 3)) (hok : ∀ v, ok v = true → narrow (ty k) (jx_v X v) = jx_v X v ∧ fits (ty k) (jx_v X v) = true)
    (hl : ∀ (args : Array Value) (s : State) (meth : Method), (∀ w ∈ X.W, w.before args s = true) → meth.name = md.1.name → ((T k).2.2.2 = false ∧ (Cond.fieldLink md.1.cls i (T k).1 (T k).2.1 (T k).2.2.1).before args s = true) ∨ ((T k).2.2.2 = false ∧ ∃ host, (Cond.fieldLinkNest md.1.cls i (T k).1 (T k).2.1 (T k).2.2.1 host).before args s = true) ∨ ((T k).2.2.2 = true ∧ meth.name = "<init>" ∧ (T k).1 = md.1.cls ∧ (Cond.fieldLink md.1.cls i (T k).1 (T k).2.1 (T k).2.2.1).before args s = true)) : jx_S X mt md pc (o_putf ci k ok) := by
  intro p l e R s m args below meth c d B L st M N h H ls locs cells slots I
  obtain ⟨hx, -, hts, hK, hG, hown, hnm0, hb, -⟩ := B
  unfold o_putf at h
  split at h
  · split at h
    · rename_i v a r _ c0 fs hcell
      split at h
      · rename_i hc0
        obtain ⟨e0, hv, hlen⟩ := hc0
        subst e0
        cases h
        intro Q kk
        obtain ⟨hc, hci, hin, hty, hnm⟩ := hk
        obtain ⟨g1, g2, hP⟩ := I.1.obj hG hcell hci
        refine jx_wput hx hb hts hin ty hty hnm hown hK hP hc hkN (by rw [List.length_map]; exact hlen) (hl args s meth hts hnm0) (hok v hv) hd fun H1 sl z o at1 => ?_
        refine kk _ _ _ _ _ ⟨I.1.set g1 g2 rfl z o ?_, I.2.1, fun x hx => ?_, I.2.2.2.1, I.2.2.2.2⟩
        · show va_at X.D X.cl (jx_ad X a, .inr (c0, (fs.set k v).map (jx_v X))) H1
          rw [List.map_set]
          exact at1
        · rcases List.mem_append.mp hx with q | q
          · exact I.2.2.1 x q
          · rw [List.mem_singleton.mp q]
            show X.H.size ≤ jx_ad X a
            rw [jx_ad_ge g1]
            omega
      · cases h
    · cases h
  · cases h
theorem s_putf {ci k : Nat} {C : String} {T : u_T} {N i : Nat} {ty : Nat → FieldType} {ok : Value → Bool} (hk : jx_k X ci C T N ty) (hkN : k < N) (hd : decode md.2.1 pc = .ok (.putfield i, 3)) (hok : ∀ v, ok v = true → narrow (ty k) (jx_v X v) = jx_v X v ∧ fits (ty k) (jx_v X v) = true) (hf : (T k).2.2.2 = false) (hw : (Cond.fieldLink md.1.cls i (T k).1 (T k).2.1 (T k).2.2.1 : Cond) ∈ X.W) : jx_S X mt md pc (o_putf ci k ok) :=
  jx_fput hk hkN hd hok fun _ _ _ h _ => Or.inl ⟨hf, h _ hw⟩
theorem s_putfN {ci k : Nat} {C host : String} {T : u_T} {N i : Nat} {ty : Nat → FieldType} {ok : Value → Bool} (hk : jx_k X ci C T N ty) (hkN : k < N) (hd : decode md.2.1 pc = .ok (.putfield i, 3)) (hok : ∀ v, ok v = true → narrow (ty k) (jx_v X v) = jx_v X v ∧ fits (ty k) (jx_v X v) = true) (hf : (T k).2.2.2 = false) (hw : (Cond.fieldLinkNest md.1.cls i (T k).1 (T k).2.1 (T k).2.2.1 host : Cond) ∈ X.W) : jx_S X mt md pc (o_putf ci k ok) :=
  jx_fput hk hkN hd hok fun _ _ _ h _ => Or.inr (Or.inl ⟨hf, host, h _ hw⟩)
theorem s_putfF {ci k : Nat} {C : String} {T : u_T} {N i : Nat} {ty : Nat → FieldType} {ok : Value → Bool} (hk : jx_k X ci C T N ty) (hkN : k < N) (hd : decode md.2.1 pc = .ok (.putfield i, 3)) (hok : ∀ v, ok v = true → narrow (ty k) (jx_v X v) = jx_v X v ∧ fits (ty k) (jx_v X v) = true) (hf : (T k).2.2.2 = true) (hn : md.1.name = "<init>") (ho : (T k).1 = md.1.cls) (hw : (Cond.fieldLink md.1.cls i (T k).1 (T k).2.1 (T k).2.2.1 : Cond) ∈ X.W) : jx_S X mt md pc (o_putf ci k ok) :=
  jx_fput hk hkN hd hok fun _ _ _ h h2 => Or.inr (Or.inr ⟨hf, h2.trans hn, ho, h _ hw⟩)
theorem s_iald {cA : ClassId} (hT : X.ty[0]? = some (cA, .int)) (hd : decode md.2.1 pc = .ok (.iaload, 1)) : jx_S X mt md pc o_iald := by
  intro p l e R s m args below meth c d B L st M N h H ls locs cells slots I
  obtain ⟨hx, -, hts, hK, hG, hown, -, hb, -⟩ := B
  unfold o_iald at h
  split at h
  · split at h
    · rename_i i a r _ t n f hcell
      split at h
      · rename_i hc
        cases h
        intro Q kk
        obtain ⟨cell, q1, q2, q3, q4, q5⟩ := I.1.tab hG hK ⟨cA, hT⟩ hcell hc.1
        have hin := jx_ix_in hc.2
        refine W.iald hx hb q1 q2 q3 (by rw [q4]; exact hin) (q5 _ (Nat.not_le.mp fun q => hin (Or.inr q))) rfl rfl hd (kk _ _ _ _ _ I)
      · cases h
    · cases h
  · cases h
theorem jx_ty0 {t : Nat} {cA : ClassId} {ty : FieldType} (hT : X.ty[t]? = some (cA, ty)) : (X.ty.getD t (0, .int)).1 = cA := by
  rw [List.getD_eq_getElem?_getD, hT]; rfl
theorem s_cald {cA : ClassId} (hT : X.ty[1]? = some (cA, .char)) (hd : decode md.2.1 pc = .ok (.caload, 1)) : jx_S X mt md pc (o_xald 1) := by
  intro p l e R s m args below meth c d B L st M N h H ls locs cells slots I
  obtain ⟨hx, -, hts, hK, hG, hown, -, hb, -⟩ := B
  unfold o_xald at h
  split at h
  · split at h
    · rename_i i a r _ t n f hcell
      split at h
      · rename_i hc
        cases h
        intro Q kk
        obtain ⟨e0, hin⟩ := hc
        subst e0
        obtain ⟨-, -, hP⟩ := I.1.arr hG hcell (by decide)
        rw [jx_ty0 hT] at hP
        exact va_cald hx hb hK (jx_P1 hP) 0 1 rfl hT (jx_ix_in hin) hd (kk _ _ _ _ _ I)
      · cases h
    · cases h
  · cases h
theorem s_zald {cA : ClassId} (hT : X.ty[2]? = some (cA, .boolean)) (hd : decode md.2.1 pc = .ok (.baload, 1)) : jx_S X mt md pc (o_xald 2) := by
  intro p l e R s m args below meth c d B L st M N h H ls locs cells slots I
  obtain ⟨hx, -, hts, hK, hG, hown, -, hb, -⟩ := B
  unfold o_xald at h
  split at h
  · split at h
    · rename_i i a r _ t n f hcell
      split at h
      · rename_i hc
        cases h
        intro Q kk
        obtain ⟨e0, hin⟩ := hc
        subst e0
        obtain ⟨-, -, hP⟩ := I.1.arr hG hcell (by decide)
        rw [jx_ty0 hT] at hP
        exact va_zald hx hb hK (jx_P1 hP) 0 2 rfl hT (jx_ix_in hin) hd (kk _ _ _ _ _ I)
      · cases h
    · cases h
  · cases h
theorem s_lald {cA : ClassId} (hT : X.ty[3]? = some (cA, .long)) (hd : decode md.2.1 pc = .ok (.laload, 1)) : jx_S X mt md pc o_lald := by
  intro p l e R s m args below meth c d B L st M N h H ls locs cells slots I
  obtain ⟨hx, -, hts, hK, hG, hown, -, hb, -⟩ := B
  unfold o_lald at h
  split at h
  · split at h
    · rename_i i a r _ t n f hcell
      split at h
      · rename_i hc
        cases h
        intro Q kk
        obtain ⟨e0, hin⟩ := hc
        subst e0
        obtain ⟨-, -, hP⟩ := I.1.arr hG hcell (by decide)
        rw [jx_ty0 hT] at hP
        exact va_lald hx hb hK (jx_P1 hP) 0 3 rfl hT (jx_ix_in hin) hd (kk _ _ _ _ _ I)
      · cases h
    · cases h
  · cases h
theorem s_aald {cA : ClassId} {C : String} (hT : X.ty[4]? = some (cA, .object C)) (hd : decode md.2.1 pc = .ok (.aaload, 1)) : jx_S X mt md pc o_aald := by
  intro p l e R s m args below meth c d B L st M N h H ls locs cells slots I
  obtain ⟨hx, -, hts, hK, hG, hown, -, hb, -⟩ := B
  unfold o_aald at h
  split at h
  · split at h
    · rename_i i a r _ t n f hcell
      split at h
      · rename_i hc
        cases h
        intro Q kk
        obtain ⟨e0, hin⟩ := hc
        subst e0
        obtain ⟨-, -, hP⟩ := I.1.arr hG hcell (by decide)
        rw [jx_ty0 hT] at hP
        have k2 := kk _ _ _ _ _ I
        rw [List.map_cons, jx_rf] at k2
        exact va_aldq hx hb hK (jx_P1 hP) 0 4 rfl hT (jx_ix_in hin) hd k2
      · cases h
    · cases h
  · cases h
theorem jx_locs {X : jx_X} {locs : List Loc} {a j : Nat} (h : ∀ x ∈ locs, X.H.size ≤ x.base) (g1 : jx_g ≤ a) : ∀ x ∈ locs ++ [⟨jx_ad X a, j⟩], X.H.size ≤ x.base := by
  intro x hx
  rcases List.mem_append.mp hx with q | q
  · exact h x q
  · rw [List.mem_singleton.mp q]
    show X.H.size ≤ jx_ad X a
    rw [jx_ad_ge g1]
    omega
theorem s_iast {cA : ClassId} (hT : X.ty[0]? = some (cA, .int)) (hd : decode md.2.1 pc = .ok (.iastore, 1)) : jx_S X mt md pc o_iast := by
  intro p l e R s m args below meth c d B L st M N h H ls locs cells slots I
  obtain ⟨hx, -, hts, hK, hG, hown, -, hb, -⟩ := B
  unfold o_iast at h
  split at h
  · split at h
    · rename_i x i a r _ t n f hcell
      split at h
      · rename_i hc
        cases h
        intro Q kk
        obtain ⟨e0, hin⟩ := hc
        subst e0
        obtain ⟨g1, g2, hP⟩ := I.1.arr hG hcell (by decide)
        rw [jx_ty0 hT] at hP
        refine W.iast hx hb hP ((hK.2 0 _ hT).1 n (fun j => .int (f j))) (fun q => by cases q) (by show ¬ (i < 0 ∨ (arrV _ _ _).slots.size ≤ _); rw [arrV_size]; exact jx_ix_in hin) rfl rfl hd fun H1 e1 z oq => ?_
        refine kk _ _ _ _ _ ⟨I.1.set g1 g2 rfl z oq ?_, I.2.1, jx_locs I.2.2.1 g1, I.2.2.2.1, I.2.2.2.2⟩
        show H1[jx_ad X a]? = some (vp_cell (X.ty.getD 0 (0, .int)).1 (n, .inl (upd f i.toNatClampNeg x)))
        rw [jx_ty0 hT, e1]
        exact congrArg some (arr_store cA n _ f x)
      · cases h
    · cases h
  · cases h
theorem s_cast {cA : ClassId} (hT : X.ty[1]? = some (cA, .char)) (hd : decode md.2.1 pc = .ok (.castore, 1)) : jx_S X mt md pc o_cast := by
  intro p l e R s m args below meth c d B L st M N h H ls locs cells slots I
  obtain ⟨hx, -, hts, hK, hG, hown, -, hb, -⟩ := B
  unfold o_cast at h
  split at h
  · split at h
    · rename_i x i a r _ t n f hcell
      split at h
      · rename_i hc
        cases h
        intro Q kk
        obtain ⟨e0, hin⟩ := hc
        subst e0
        obtain ⟨g1, g2, hP⟩ := I.1.arr hG hcell (by decide)
        rw [jx_ty0 hT] at hP
        refine W.cast hx hb hP ((hK.2 1 _ hT).1 n (fun j => .int (f j))) (fun q => by cases q) (by show ¬ (i < 0 ∨ (arrV _ _ _).slots.size ≤ _); rw [arrV_size]; exact jx_ix_in hin) rfl rfl hd fun H1 e1 z oq => ?_
        refine kk _ _ _ _ _ ⟨I.1.set g1 g2 rfl z oq ?_, I.2.1, jx_locs I.2.2.1 g1, I.2.2.2.1, I.2.2.2.2⟩
        show H1[jx_ad X a]? = some (vp_cell (X.ty.getD 1 (0, .int)).1 (n, .inl (upd f i.toNatClampNeg (vp_nar .char x))))
        rw [jx_ty0 hT, e1]
        exact congrArg some (arr_store cA n _ f (vp_nar .char x))
      · cases h
    · cases h
  · cases h
theorem s_zast {cA : ClassId} (hT : X.ty[2]? = some (cA, .boolean)) (hd : decode md.2.1 pc = .ok (.bastore, 1)) : jx_S X mt md pc o_zast := by
  intro p l e R s m args below meth c d B L st M N h H ls locs cells slots I
  obtain ⟨hx, -, hts, hK, hG, hown, -, hb, -⟩ := B
  unfold o_zast at h
  split at h
  · split at h
    · rename_i x i a r _ t n f hcell
      split at h
      · rename_i hc
        cases h
        intro Q kk
        obtain ⟨e0, hin⟩ := hc
        subst e0
        obtain ⟨g1, g2, hP⟩ := I.1.arr hG hcell (by decide)
        rw [jx_ty0 hT] at hP
        refine W.zast hx hb hP ((hK.2 2 _ hT).1 n (fun j => .int (f j))) (fun q => by cases q) (by show ¬ (i < 0 ∨ (arrV _ _ _).slots.size ≤ _); rw [arrV_size]; exact jx_ix_in hin) rfl rfl hd fun H1 e1 z oq => ?_
        refine kk _ _ _ _ _ ⟨I.1.set g1 g2 rfl z oq ?_, I.2.1, jx_locs I.2.2.1 g1, I.2.2.2.1, I.2.2.2.2⟩
        show H1[jx_ad X a]? = some (vp_cell (X.ty.getD 2 (0, .int)).1 (n, .inl (upd f i.toNatClampNeg (vp_nar .boolean x))))
        rw [jx_ty0 hT, e1]
        exact congrArg some (arr_store cA n _ f (vp_nar .boolean x))
      · cases h
    · cases h
  · cases h
theorem s_last {cA : ClassId} (hT : X.ty[3]? = some (cA, .long)) (hd : decode md.2.1 pc = .ok (.lastore, 1)) : jx_S X mt md pc o_last := by
  intro p l e R s m args below meth c d B L st M N h H ls locs cells slots I
  obtain ⟨hx, -, hts, hK, hG, hown, -, hb, -⟩ := B
  unfold o_last at h
  split at h
  · split at h
    · rename_i x i a r _ t n f hcell
      split at h
      · rename_i hc
        cases h
        intro Q kk
        obtain ⟨e0, hin⟩ := hc
        subst e0
        obtain ⟨g1, g2, hP⟩ := I.1.arr hG hcell (by decide)
        rw [jx_ty0 hT] at hP
        refine W.last hx hb hP ((hK.2 3 _ hT).1 n (fun j => .long (f j))) (fun q => by cases q) (by show ¬ (i < 0 ∨ (arrV _ _ _).slots.size ≤ _); rw [arrV_size]; exact jx_ix_in hin) rfl rfl hd fun H1 e1 z oq => ?_
        refine kk _ _ _ _ _ ⟨I.1.set g1 g2 rfl z oq ?_, I.2.1, jx_locs I.2.2.1 g1, I.2.2.2.1, I.2.2.2.2⟩
        show H1[jx_ad X a]? = some (vp_cell (X.ty.getD 3 (0, .int)).1 (n, .inr (.inl (vp_updL f i.toNatClampNeg x))))
        rw [jx_ty0 hT, e1]
        show some ((arrV cA n (fun j => .long (f j))).setSlot _ _) = some (arrV cA n (fun j => .long (vp_updL f i.toNatClampNeg x j)))
        rw [arrV_store]
        congr 2
        funext q
        by_cases hq : q = i.toNatClampNeg
        · subst hq
          simp [updV, vp_updL]
        · simp [updV, vp_updL, hq]
      · cases h
    · cases h
  · cases h
theorem s_aast {ci : Nat} {C : String} {T : u_T} {N : Nat} {ty : Nat → FieldType} {cA : ClassId} (hk : jx_k X ci C T N ty) (hT : X.ty[4]? = some (cA, .object C)) (hd : decode md.2.1 pc = .ok (.aastore, 1)) : jx_S X mt md pc (o_aast ci) := by
  intro p l e R s m args below meth c d B L st M N h H ls locs cells slots I
  obtain ⟨hx, -, hts, hK, hG, hown, -, hb, -⟩ := B
  unfold o_aast at h
  split at h
  · split at h
    · rename_i v i a r _ _ t n f c0 fs hcell hcv
      split at h
      · rename_i hc
        cases h
        intro Q kk
        obtain ⟨e0, e1, hin⟩ := hc
        subst e0
        subst e1
        obtain ⟨hcl, hci, -⟩ := hk
        obtain ⟨g1, g2, hP⟩ := I.1.arr hG hcell (by decide)
        obtain ⟨-, -, r', hr', cellV, v1, v2, v3, -⟩ := I.1.obj hG hcv hci
        rw [jx_ty0 hT] at hP
        have hin := jx_ix_in hin
        have hcls := (hK.1 c0 _ hcl).2
        obtain ⟨kA, comp, k1, k2, k3, -⟩ := (hK.2 4 _ hT).2
        have hcomp : comp = X.D.1 c0 := Option.some.inj (k3.symm.trans hcls.1)
        subst hcomp
        obtain ⟨kC, hkC, -⟩ := id hcls.2
        refine W.aast hx hb hP (fun q h => by cases h) (fun h => by cases h) k1 k2 rfl hkC ⟨fun q => hin (Or.inl q), by show _ < (arrV _ _ _).slots.size; rw [arrV_size]; exact Nat.not_le.mp fun q => hin (Or.inr q)⟩ v1 (fun q h => by rw [v3] at h; cases h) (by rw [v2]; exact hkC) (by rw [v2]; exact va_assign hcls) rfl rfl hd fun H1 e1 z oq => ?_
        refine kk _ _ _ _ _ ⟨I.1.set g1 g2 rfl z oq ?_, I.2.1, jx_locs I.2.2.1 g1, I.2.2.2.1, I.2.2.2.2⟩
        show H1[jx_ad X a]? = some (vp_cell (X.ty.getD 4 (0, .int)).1 (n, .inr (.inr (.inr (.inr fun j => jx_q X (va_up f i.toNatClampNeg (some v) j))))))
        rw [jx_ty0 hT, e1]
        show some ((arrV cA n (fun j => va_rf (jx_q X (f j)))).setSlot _ _) = some (arrV cA n (fun j => va_rf (jx_q X (va_up f i.toNatClampNeg (some v) j))))
        rw [arrV_store]
        congr 2
        funext q
        by_cases hq : q = i.toNatClampNeg
        · subst hq
          simp [updV, va_up, va_rf, jx_q]
        · simp [updV, va_up, hq]
      · cases h
    · cases h
  · cases h
end JM
end
section
/-! NEW CELLS, LENGTHS, ANSWERS, SWITCHES -/
theorem jx_mono {p : Program} {l : Launch} {e : Env} {R : Room} {s : State} {m : MethodId} {args : Array Value} {below : List Frame} {meth : Method} {c : Code} {H : Heap} {locs : List Loc} {cells slots : Nat} {Q Q' : State → Prop} {g : JFrame} (h : W p l e R s m args below meth c H locs cells slots Q g) (hq : ∀ t, Q t → Q' t) : W p l e R s m args below meth c H locs cells slots Q' g := by
  intro T hT X
  obtain ⟨t, a, b⟩ := h T hT X
  exact ⟨t, a, hq t b⟩
theorem jx_end {X : jx_X} {R : Room} {args : Array Value} {s t : State} {below : List Frame} {M : jx_M} {H : Heap} {v : Option Value} {locs : List Loc} {cells slots : Nat} {ls : Array Slot} {L : jx_L} {nl : Nat} (I : jx_I X R nl M H ls L locs cells slots)
    (h : MQ below (fun _ _ o t => o = .returned (v.map (jx_v X)) ∧ t.heap = H) args s cells slots (fun q => X.H.size ≤ q) t) : jx_Q X R below s (.inl v) M t := by
  obtain ⟨o, h1, h2, ⟨h3, h4⟩, L', hF, hL⟩ := h
  exact ⟨o, L', cells, slots, h1, h2, h3, by rw [h4]; exact I.1, hF.2.1, hF.2.2, hL, I.2.2.2.1, I.2.2.2.2.1⟩
section JM2
variable {X : jx_X} {mt : Nat → jx_D} {md : jx_D} {pc : Nat}
theorem s_ret (hr0 : md.2.2.2.1 = none) (hd : decode md.2.1 pc = .ok (.return_, 1)) : jx_S X mt md pc o_ret := by
  intro p l e R s m args below meth c d B L st M N h H ls locs cells slots I
  obtain ⟨hx, -, hts, hK, hG, hown, -, hb, hml, hr, hlk, -⟩ := B
  unfold o_ret at h
  split at h
  · cases h
    exact jx_mono (W.vret (free := fun q => X.H.size ≤ q) hx hb (hr.trans hr0) (fun t ht hW => ⟨rfl, ht⟩) I.2.2.1 hd hlk) fun t ht => jx_end I ht
  · cases h
theorem s_iret (hr0 : md.2.2.2.1 = some .int) (hd : decode md.2.1 pc = .ok (.ireturn, 1)) : jx_S X mt md pc o_iret := by
  intro p l e R s m args below meth c d B L st M N h H ls locs cells slots I
  obtain ⟨hx, -, hts, hK, hG, hown, -, hb, hml, hr, hlk, -⟩ := B
  unfold o_iret at h
  split at h
  · cases h
    exact jx_mono (W.zret (free := fun q => X.H.size ≤ q) hx hb (hr.trans hr0) rfl (fun t ht hW => ⟨rfl, ht⟩) I.2.2.1 hd hlk) fun t ht => jx_end I ht
  · cases h
theorem s_zret (hr0 : md.2.2.2.1 = some .boolean) (hd : decode md.2.1 pc = .ok (.ireturn, 1)) : jx_S X mt md pc o_zret := by
  intro p l e R s m args below meth c d B L st M N h H ls locs cells slots I
  obtain ⟨hx, -, hts, hK, hG, hown, -, hb, hml, hr, hlk, -⟩ := B
  unfold o_zret at h
  split at h
  · split at h
    · rename_i x hx01
      cases h
      have hn : narrow .boolean (.int x) = .int x := by
        rcases hx01 with rfl | rfl
        · rfl
        · rfl
      exact jx_mono (W.zret (free := fun q => X.H.size ≤ q) hx hb (hr.trans hr0) hn (fun t ht hW => ⟨rfl, ht⟩) I.2.2.1 hd hlk) fun t ht => jx_end I ht
    · cases h
  · cases h
theorem s_cret (hr0 : md.2.2.2.1 = some .char) (hd : decode md.2.1 pc = .ok (.ireturn, 1)) : jx_S X mt md pc o_cret := by
  intro p l e R s m args below meth c d B L st M N h H ls locs cells slots I
  obtain ⟨hx, -, hts, hK, hG, hown, -, hb, hml, hr, hlk, -⟩ := B
  unfold o_cret at h
  split at h
  · split at h
    · rename_i x hx01
      cases h
      have hn : narrow .char (.int x) = .int x := by
        rw [show narrow .char (.int x) = .int (vp_nar .char x) from rfl, hx01]
      exact jx_mono (W.zret (free := fun q => X.H.size ≤ q) hx hb (hr.trans hr0) hn (fun t ht hW => ⟨rfl, ht⟩) I.2.2.1 hd hlk) fun t ht => jx_end I ht
    · cases h
  · cases h
theorem s_aret {rt : FieldType} (hr0 : md.2.2.2.1 = some rt) (hrt : (∃ n, rt = .object n) ∨ ∃ t, rt = .array t) (hd : decode md.2.1 pc = .ok (.areturn, 1)) : jx_S X mt md pc o_aret := by
  intro p l e R s m args below meth c d B L st M N h H ls locs cells slots I
  obtain ⟨hx, -, hts, hK, hG, hown, -, hb, hml, hr, hlk, -⟩ := B
  unfold o_aret at h
  split at h
  · cases h
    exact jx_mono (W.aret (free := fun q => X.H.size ≤ q) hx hb (hr.trans hr0) hrt (Or.inr ⟨_, rfl⟩) (fun t ht hW => ⟨rfl, ht⟩) I.2.2.1 hd hlk) fun t ht => jx_end I ht
  · cases h
    exact jx_mono (W.aret (free := fun q => X.H.size ≤ q) hx hb (hr.trans hr0) hrt (Or.inl rfl) (fun t ht hW => ⟨rfl, ht⟩) I.2.2.1 hd hlk) fun t ht => jx_end I ht
  · cases h
theorem s_table {dflt lo hi : Int} {offs : Array Int} {len dn : Nat} {ts : List Nat} (hd : decode md.2.1 pc = .ok (.tableswitch dflt lo hi offs, len)) (hlo : lo = 0) (hhi : hi + 1 = (ts.length : Int)) (hdf : (pc : Int) + dflt = (dn : Int)) (hof : offs.toList.map (fun o => (pc : Int) + o) = ts.map (fun (t : Nat) => (t : Int))) : jx_S X mt md pc (o_table dn ts) := by
  intro p l e R s m args below meth c d B L st M N h H ls locs cells slots I
  obtain ⟨hx, -, hts, hK, hG, hown, -, hb, -⟩ := B
  unfold o_table at h
  split at h
  · rename_i x r
    cases h
    intro Q kk
    have k2 := kk _ _ _ _ _ I
    subst hlo
    by_cases hneg : x < 0
    · rw [if_pos hneg] at k2
      exact lv_tableOut hx hb hd (Or.inl (by simpa using Int32.lt_iff_toInt_lt.mp hneg)) hdf k2
    · rw [if_neg hneg] at k2
      have h0 : (0 : Int) ≤ x.toInt := by simpa using Int32.le_iff_toInt_le.mp (Int32.not_lt.mp hneg)
      have hcl : x.toNatClampNeg = x.toInt.toNat := rfl
      by_cases hge : ts.length ≤ x.toNatClampNeg
      · rw [List.getD_eq_getElem?_getD, List.getElem?_eq_none hge] at k2
        exact lv_tableOut hx hb hd (Or.inr (by omega)) hdf k2
      · have hlt : x.toNatClampNeg < ts.length := Nat.lt_of_not_le hge
        rw [List.getD_eq_getElem?_getD, List.getElem?_eq_getElem hlt] at k2
        have hlen : offs.toList.length = ts.length := by
          have := congrArg List.length hof
          simpa using this
        have ho : offs.toList[x.toNatClampNeg]? = some (offs.toList[x.toNatClampNeg]'(by omega)) := List.getElem?_eq_getElem _
        have hv : (pc : Int) + offs.toList[x.toNatClampNeg]'(by omega) = ((ts[x.toNatClampNeg]'hlt : Nat) : Int) := by
          have h1 := congrArg (fun z => z[x.toNatClampNeg]?) hof
          simp only [List.getElem?_map, ho, List.getElem?_eq_getElem hlt, Option.map_some] at h1
          exact Option.some.inj h1
        refine lv_tableIn hx hb hd (by omega) (by omega) (off := offs.toList[x.toNatClampNeg]'(by omega)) ?_ hv k2
        rw [show (x.toInt - 0).toNat = x.toNatClampNeg by rw [hcl]; omega, ← Array.getElem?_toList]
        exact ho
  · cases h
theorem s_alen (hT : ∀ t, t < 5 → ∃ q, X.ty[t]? = some q) (hd : decode md.2.1 pc = .ok (.arraylength, 1)) : jx_S X mt md pc o_alen := by
  intro p l e R s m args below meth c d B L st M N h H ls locs cells slots I
  obtain ⟨hx, -, hts, hK, hG, hown, -, hb, -⟩ := B
  unfold o_alen at h
  split at h
  · split at h
    · rename_i a r _ t n f hcell
      split at h
      · rename_i hc
        cases h
        intro Q kk
        by_cases h9 : t < 5
        · obtain ⟨⟨cA, ty⟩, hty⟩ := hT t h9
          obtain ⟨-, -, hP⟩ := I.1.arr hG hcell (by omega)
          rw [jx_ty0 hty] at hP
          exact va_alen hx hb hK (jx_P1 hP) 0 t rfl hty (v := Int32.ofNat n) (by cases f with | inl f => rfl | inr f => cases f with | inl f => rfl | inr f => cases f with | inl f => rfl | inr f => cases f with | inl f => rfl | inr f => rfl) hd (kk _ _ _ _ _ I)
        · cases f with
          | inl f =>
            obtain ⟨cell, q1, q2, q3, q4, -⟩ := I.1.con hG hcell (by omega)
            exact W.alen hx hb q1 q2 (by rw [q4]) rfl rfl hd (kk _ _ _ _ _ I)
          | inr f =>
            exfalso
            obtain ⟨h1, h2, h3, h4, h5, h6⟩ := I.1
            by_cases hge : jx_g ≤ a
            · by_cases hlt : a < M.2.1
              · have h7 := (h3 a hge hlt).1
                rw [hcell] at h7
                rcases (show t = 9 ∨ t = 10 by omega) with rfl | rfl <;> cases h7
              · have h7 := h4 a (Nat.le_of_not_lt hlt)
                rw [hcell] at h7
                cases h7
            · have h7 := hG a (Nat.lt_of_not_le hge)
              rw [← h6 a (Nat.lt_of_not_le hge), hcell] at h7
              exact h7
      · cases h
    · cases h
  · cases h
theorem jx_v_def (X : jx_X) (t : FieldType) : jx_v X (defaultValue t) = defaultValue t := by cases t <;> rfl
theorem s_new {ci : Nat} {C : String} {T : u_T} {N i : Nat} {ty : Nat → FieldType} {fs : List Value} (hk : jx_k X ci C T N ty) (hd : decode md.2.1 pc = .ok (.new i, 3)) (hw1 : (Cond.classLink md.1.cls i C : Cond) ∈ X.W) (hw2 : (Cond.instantiable C N : Cond) ∈ X.W) (hw3 : (Cond.initialized C : Cond) ∈ X.W) (hfs : fs = (List.range N).map fun j => defaultValue (ty j)) : jx_S X mt md pc (o_new ci fs) := by
  intro p l e R s m args below meth c d B L st M N' h H ls locs cells slots I
  obtain ⟨hx, -, hts, hK, hG, hown, -, hb, -⟩ := B
  unfold o_new at h
  obtain ⟨M', h1, h2⟩ := Option.map_eq_some_iff.mp h
  cases h2
  intro Q kk
  obtain ⟨hc, hci, hin, hty, hnm⟩ := hk
  have hKn := hK.1 ci _ hc
  have hlen : fs.length = N := by rw [hfs]; simp
  have hroom : 1 ≤ M.2.2.1 ∧ N ≤ M.2.2.2 := by
    unfold jx_pu at h1
    split at h1
    · rename_i hr; rw [hlen] at hr; exact hr
    · cases h1
  have hI := I.2.2.2
  refine W.newcK hx hb hown (hts _ hw1) (hts _ hw2) (hts _ hw3) rfl hd (by omega) (by omega) hKn.2.1 rfl fun H1 kC hkC e1 z1 o1 => ?_
  have hmap : fs.map (jx_v X) = fs := by
    rw [hfs, List.map_map]
    exact List.map_congr_left fun j _ => jx_v_def X _
  obtain ⟨p1, p2, p3, p4, p5, p6⟩ := I.1.push h1 rfl z1 o1 (by
    show va_at X.D X.cl (H.size, .inr (ci, fs.map (jx_v X))) H1
    rw [hmap]
    refine ⟨_, hc, (u_born ty hts hin hKn hkC e1 hty).to fun j hj => ?_⟩
    rw [hfs]
    simp [vp_V, hj])
  have k2 := kk H1 ls locs (cells + 1) (slots + N) ⟨p1, I.2.1, I.2.2.1, by omega, by omega, I.2.2.2.2.2⟩
  rw [List.map_cons, jx_v_ref, p2] at k2
  exact k2
theorem s_newa {t : Nat} {atype : ArrayType} {ty : FieldType} {cA : ClassId} {z : Nat → vp_A} (hT : X.ty[t]? = some (cA, ty)) (hat : newarray.typeOf atype = ty) (ht : t < 4) (hd : decode md.2.1 pc = .ok (.newarray atype, 2)) (hw : (Cond.arrayClass ty : Cond) ∈ X.W) (hz : ∀ (n : Nat) (cA : ClassId), vp_cell cA (z n) = arrV cA n (fun _ => defaultValue ty)) (hzx : ∀ n, jx_a X (z n) = z n) (hby : componentBytes ty ≤ 8) (hRA : ∀ (s : State) (cA : ClassId), va_RA s cA ty → s.vm.findClass ("[" ++ ty.toString) = some cA) : jx_S X mt md pc (o_newa t z) := by
  intro p l e R s m args below meth c d B L st M N' h H ls locs cells slots I
  obtain ⟨hx, -, hts, hK, hG, hown, -, hb, -⟩ := B
  unfold o_newa at h
  split at h
  · rename_i n r
    split at h
    · rename_i hn
      obtain ⟨M', h1, h2⟩ := Option.map_eq_some_iff.mp h
      cases h2
      intro Q kk
      have hroom : 1 ≤ M.2.2.1 ∧ n.toNatClampNeg ≤ M.2.2.2 := by
        unfold jx_pu at h1
        split at h1
        · rename_i hr; exact hr
        · cases h1
      have hI := I.2.2.2
      subst hat
      have hmul : n.toNatClampNeg * componentBytes (newarray.typeOf atype) ≤ 100000 * 8 := Nat.mul_le_mul hn.2 hby
      refine va_newaK hx hb (hts _ hw) rfl hd rfl hn.1 rfl (by omega) (by omega) (by omega) rfl fun H1 cA' e1 z1 o1 hAr hNm => ?_
      have hcA : cA' = cA := Option.some.inj (hNm.symm.trans (hRA s cA (hK.2 t _ hT).2))
      subst hcA
      obtain ⟨p1, p2, p3, p4, p5, p6⟩ := I.1.push h1 (by show (t == 9 || t == 10) = false; simp; omega) z1 o1 (by
        show H1[H.size]? = some (vp_cell (X.ty.getD t (0, .int)).1 (jx_a X (z n.toNatClampNeg)))
        rw [jx_ty0 hT, hzx, hz]
        exact e1)
      have k2 := kk H1 ls locs (cells + 1) (slots + n.toNatClampNeg) ⟨p1, I.2.1, I.2.2.1, by omega, by omega, I.2.2.2.2.2⟩
      rw [List.map_cons, jx_v_ref, p2, if_neg (by omega)] at k2
      exact k2
    · cases h
  · cases h
theorem s_newq {i : Nat} {C : String} {cA : ClassId} (hT : X.ty[4]? = some (cA, .object C)) (hd : decode md.2.1 pc = .ok (.anewarray i, 3)) (hw : (Cond.classLink md.1.cls i C : Cond) ∈ X.W) : jx_S X mt md pc (o_newa 4 jx_zq) := by
  intro p l e R s m args below meth c d B L st M N' h H ls locs cells slots I
  obtain ⟨hx, -, hts, hK, hG, hown, -, hb, -, -, -, -, -, -, -, hao, -⟩ := B
  unfold o_newa at h
  split at h
  · rename_i n r
    split at h
    · rename_i hn
      obtain ⟨M', h1, h2⟩ := Option.map_eq_some_iff.mp h
      cases h2
      intro Q kk
      have hroom : 1 ≤ M.2.2.1 ∧ n.toNatClampNeg ≤ M.2.2.2 := by
        unfold jx_pu at h1
        split at h1
        · rename_i hr; exact hr
        · cases h1
      have hI := I.2.2.2
      refine W.anew hx hb hown (hts _ hw) (va_AO.use (hao C cA hT)) rfl hd rfl hn.1 (by omega) (by omega) (by omega) fun cA' kA comp f1 f2 f3 f4 => ?_
      obtain ⟨kA', comp', -, -, -, hnm⟩ := (hK.2 4 _ hT).2
      have hcA : cA' = cA := Option.some.inj (f1.symm.trans hnm)
      subst hcA
      generalize hH1 : H.push ({ cls := cA', slots := Array.replicate n.toNatClampNeg .null, vm := .none } : Cell) = H1
      have z1 : H1.size = H.size + 1 := by rw [← hH1, Array.size_push]
      have e1 : H1[H.size]? = some (arrV cA' n.toNatClampNeg (fun _ => .null)) := by rw [← hH1, Array.getElem?_push_size, ← arrV_new]
      have o1 : ∀ q : Nat, q < H.size → H1[q]? = H[q]? := fun q hq => by rw [← hH1, Array.getElem?_push, if_neg (Nat.ne_of_lt hq)]
      obtain ⟨p1, p2, p3, p4, p5, p6⟩ := I.1.push h1 rfl z1 o1 (by
        show H1[H.size]? = some (vp_cell (X.ty.getD 4 (0, .int)).1 (n.toNatClampNeg, .inr (.inr (.inr (.inr fun j => jx_q X none)))))
        rw [jx_ty0 hT]
        exact e1)
      have k2 := kk H1 ls locs (cells + 1) (slots + n.toNatClampNeg) ⟨p1, I.2.1, I.2.2.1, by omega, by omega, I.2.2.2.2.2⟩
      rw [List.map_cons, jx_v_ref, p2, if_pos rfl] at k2
      exact k2
    · cases h
  · cases h
end JM2
section JM3
variable {X : jx_X} {mt : Nat → jx_D} {md : jx_D} {pc : Nat}
theorem s_bret (hr0 : md.2.2.2.1 = some .byte) (hd : decode md.2.1 pc = .ok (.ireturn, 1)) : jx_S X mt md pc o_bret := by
  intro p l e R s m args below meth c d B L st M N h H ls locs cells slots I
  obtain ⟨hx, -, hts, hK, hG, hown, -, hb, hml, hr, hlk, -⟩ := B
  unfold o_bret at h
  split at h
  · split at h
    · rename_i x hx01
      cases h
      have hn : narrow .byte (.int x) = .int x := by
        rw [show narrow .byte (.int x) = .int (vp_nar .byte x) from rfl, hx01]
      exact jx_mono (W.zret (free := fun q => X.H.size ≤ q) hx hb (hr.trans hr0) hn (fun t ht hW => ⟨rfl, ht⟩) I.2.2.1 hd hlk) fun t ht => jx_end I ht
    · cases h
  · cases h
theorem s_bald (hd : decode md.2.1 pc = .ok (.baload, 1)) : jx_S X mt md pc o_bald := by
  intro p l e R s m args below meth c d B L st M N h H ls locs cells slots I
  obtain ⟨hx, -, hts, hK, hG, hown, -, hb, -⟩ := B
  unfold o_bald at h
  split at h
  · split at h
    · rename_i i a r _ t n f hcell
      split at h
      · rename_i hc
        cases h
        intro Q kk
        obtain ⟨e0, hin⟩ := hc
        subst e0
        obtain ⟨cell, q1, q2, q3, q4, q5⟩ := I.1.con hG hcell (Or.inr rfl)
        have hin := jx_ix_in hin
        exact W.bald hx hb q1 q2 q3 (by rw [q4]; exact hin) (q5 _ (Nat.not_le.mp fun q => hin (Or.inr q))) rfl rfl hd (kk _ _ _ _ _ I)
      · cases h
    · cases h
  · cases h
theorem s_i2b (hd : decode md.2.1 pc = .ok (.i2b, 1)) : jx_S X mt md pc (o_un fun x => x.toInt8.toInt32) := by
  intro p l e R s m args below meth c d B L st M N h H ls locs cells slots I
  obtain ⟨hx, -, -, -, -, -, -, hb, -⟩ := B
  unfold o_un at h
  split at h
  · cases h
    intro Q k
    exact lv_i2b hx hb hd rfl (k _ _ _ _ _ I)
  · cases h
theorem s_ldc_w {i : Nat} {v : Int32} (hd : decode md.2.1 pc = .ok (.ldc_w i, 3)) (hw : (Cond.constant md.1.cls i v : Cond) ∈ X.W) : jx_S X mt md pc (o_push (.int v) 3) := by
  intro p l e R s m args below meth c d B L st M N h H ls locs cells slots I
  cases h
  intro Q k
  obtain ⟨hx, -, hts, -, -, hown, -, hb, -⟩ := B
  exact lv_ldcw hx hb hown (hts _ hw) hd (k _ _ _ _ _ I)
end JM3
end
section
/-! CALLS, AND THE WHOLE -/
theorem jx_c.spec {X : jx_X} {md : jx_D} {args : Array Value} {s : State} (h : jx_c X md) (hts : ∀ w ∈ X.W, w.before args s = true) :
    ∃ mk meth c, s.methodNamed? md.1 = some mk ∧ s.vm.method? mk = some meth ∧ meth.code = some c ∧ c.code = md.2.1 ∧ c.maxLocals = md.2.2.1 ∧ meth.sig.returnType = md.2.2.2.1 ∧ meth.locks = false ∧
      c.exceptionTable.toList.map (fun x => (x.startPc, x.endPc, x.handlerPc, x.catchType)) = md.2.2.2.2.map (fun h => h.1) ∧ parseMethodDescriptor md.1.desc = some meth.sig := by
  rcases h.1 with ⟨hw, he⟩ | hw
  · have h1 := hts _ hw
    obtain ⟨mk, hn⟩ := Cond.code_named h1
    obtain ⟨meth, c, q1, q2, q3, q4, q5, q6, q7, q8⟩ := Cond.code_spec hn h1
    refine ⟨mk, meth, c, hn, q1, q2, q3, q4, q5, q6, ?_, q8⟩
    rw [he, Array.isEmpty_iff.mp q7]
    rfl
  · obtain ⟨mk, meth, c, q0, q1, q2, q3, q4, q5, q6, q7, q8⟩ := Cond.codeWith_spec (hts _ hw)
    exact ⟨mk, meth, c, q0, q1, q2, q3, q4, q6, q7, q5, q8⟩
theorem jx_cut {X : jx_X} {st : List Value} {n : Nat} : st.map (jx_v X) = (((st.take n).reverse).map (jx_v X)).reverse ++ (st.drop n).map (jx_v X) := by
  rw [List.map_reverse, List.reverse_reverse, ← List.map_append, List.take_append_drop]
theorem jx_cut1 {st : List Value} {n a : Nat} (h : n < st.length) (ha : st.getD n .null = .ref a) : (st.take (n + 1)).reverse = .ref a :: (st.take n).reverse ∧ st = st.take n ++ .ref a :: st.drop (n + 1) := by
  have h1 : st[n] = .ref a := by
    rw [List.getD_eq_getElem?_getD, List.getElem?_eq_getElem h] at ha
    exact ha
  refine ⟨?_, ?_⟩
  · rw [List.take_succ_eq_append_getElem h, List.reverse_append, h1]
    rfl
  · conv => lhs; rw [← List.take_append_drop n st, List.drop_eq_getElem_cons h, h1]
section JC
variable {X : jx_X} {mt : Nat → jx_D} {md : jx_D} {pc : Nat}
theorem jx_fcS {ce n i : Nat} (hc : jx_c X (mt ce)) (hd : decode md.2.1 pc = .ok (.invokestatic i, 3))  (hw2 : (Cond.static (mt ce).1 : Cond) ∈ X.W) (hw3 : (Cond.initialized (mt ce).1.cls : Cond) ∈ X.W)
    (hm : (mt ce).1.cls ≠ "java/lang/invoke/MethodHandle" ∧ (mt ce).1.cls ≠ "java/lang/invoke/VarHandle") (hn : (parseMethodDescriptor (mt ce).1.desc).map (fun d => d.parameters.length) = some n)
    (hl : ∀ (args : Array Value) (s : State), (∀ w ∈ X.W, w.before args s = true) → (Cond.methodLink md.1.cls i (mt ce).1).before args s = true ∨ ∃ host, (Cond.methodLinkNest md.1.cls i (mt ce).1 host).before args s = true) : jx_S X mt md pc (o_call ce n) := by
  intro p l e R s m args below meth c d B L st M N h H ls locs cells slots I
  obtain ⟨hx, -, hts, hK, hG, hown, -, hb, -⟩ := B
  unfold o_call at h
  split at h
  · rename_i hlen
    cases h
    intro T hT St
    obtain ⟨mk, methM, cM, hnamed, hmethM, -, -, -, -, -, -, hsigM⟩ := hc.spec hts
    have hstatic : methM.isStatic = true := Cond.static_spec hnamed hmethM (hts _ hw2)
    obtain ⟨kP, hkP, -⟩ := className_of_methodNamed hnamed
    have hinitP : kP.init = .initialized := Cond.initialized_spec (findClass_of_methodNamed hnamed) hkP (hts _ hw3)
    have hln : (((st.take n).reverse).map (jx_v X)).length = methM.sig.parameters.length := by
      rw [hsigM] at hn
      have h2 : methM.sig.parameters.length = n := Option.some.inj hn
      rw [h2, List.length_map, List.length_reverse, List.length_take]
      omega
    rcases hl args s hts with hlink | ⟨host, hlink⟩
    · obtain ⟨vm₁, X₁, st₁⟩ := St.invokestatic hx hown hlink hnamed hmethM hstatic hkP hinitP hm (g := F0 m pc ls (st.map (jx_v X))) rfl hln jx_cut (by rw [hb]; exact hd)
      exact ⟨vm₁, mk, _, X₁, hnamed, by rw [hb]; exact hd, rfl, by rw [List.length_drop]; omega, hc, st₁⟩
    · obtain ⟨vm₁, X₁, st₁⟩ := St.invokestaticNest hx hown hlink hnamed hmethM hstatic hkP hinitP hm (g := F0 m pc ls (st.map (jx_v X))) rfl hln jx_cut (by rw [hb]; exact hd)
      exact ⟨vm₁, mk, _, X₁, hnamed, by rw [hb]; exact hd, rfl, by rw [List.length_drop]; omega, hc, st₁⟩
  · cases h
theorem s_calls {ce n i : Nat} (hc : jx_c X (mt ce)) (hd : decode md.2.1 pc = .ok (.invokestatic i, 3)) (hw1 : (Cond.methodLink md.1.cls i (mt ce).1 : Cond) ∈ X.W) (hw2 : (Cond.static (mt ce).1 : Cond) ∈ X.W) (hw3 : (Cond.initialized (mt ce).1.cls : Cond) ∈ X.W)
    (hm : (mt ce).1.cls ≠ "java/lang/invoke/MethodHandle" ∧ (mt ce).1.cls ≠ "java/lang/invoke/VarHandle") (hn : (parseMethodDescriptor (mt ce).1.desc).map (fun d => d.parameters.length) = some n) : jx_S X mt md pc (o_call ce n) :=
  jx_fcS hc hd hw2 hw3 hm hn fun _ _ h => Or.inl (h _ hw1)
theorem s_callsN {ce n i : Nat} {host : String} (hc : jx_c X (mt ce)) (hd : decode md.2.1 pc = .ok (.invokestatic i, 3)) (hw1 : (Cond.methodLinkNest md.1.cls i (mt ce).1 host : Cond) ∈ X.W) (hw2 : (Cond.static (mt ce).1 : Cond) ∈ X.W) (hw3 : (Cond.initialized (mt ce).1.cls : Cond) ∈ X.W)
    (hm : (mt ce).1.cls ≠ "java/lang/invoke/MethodHandle" ∧ (mt ce).1.cls ≠ "java/lang/invoke/VarHandle") (hn : (parseMethodDescriptor (mt ce).1.desc).map (fun d => d.parameters.length) = some n) : jx_S X mt md pc (o_call ce n) :=
  jx_fcS hc hd hw2 hw3 hm hn fun _ _ h => Or.inr ⟨host, h _ hw1⟩
/-- the receiver's object -/
theorem jx_recv {s : State} {H : Heap} {M : jx_M} {a ci : Nat} {fs : List Value} {C : String} {T : u_T} {N : Nat} {ty : Nat → FieldType} (hk : jx_k X ci C T N ty) (hK : va_K X.D X.cl X.ty s) (hG : jx_GL X s) (hH : jx_H X M H) (ha : M.1 a = .inr (ci, fs)) : ∃ cell : Cell, H[jx_ad X a]? = some cell ∧ cell.vm.isStatics = false ∧ s.vm.findClass C = some cell.cls := by
  obtain ⟨-, -, hP⟩ := hH.obj hG ha hk.2.1
  exact va_recv hK (jx_P1 hP) hk.1 (q0 := 0) rfl
theorem jx_fcV {ce n i ci : Nat} {C : String} {T : u_T} {N : Nat} {ty : Nat → FieldType} (hk : jx_k X ci C T N ty) (hc : jx_c X (mt ce)) (hd : decode md.2.1 pc = .ok (.invokevirtual i, 3))  (hw2 : (Cond.instanceMethod (mt ce).1 : Cond) ∈ X.W) (hw3 : (Cond.selects C (mt ce).1 (mt ce).1 : Cond) ∈ X.W)
    (hm : (mt ce).1.cls ≠ "java/lang/invoke/MethodHandle" ∧ (mt ce).1.cls ≠ "java/lang/invoke/VarHandle") (hn : (parseMethodDescriptor (mt ce).1.desc).map (fun d => d.parameters.length) = some n)
    (hl : ∀ (args : Array Value) (s : State), (∀ w ∈ X.W, w.before args s = true) → (Cond.methodLink md.1.cls i (mt ce).1).before args s = true ∨ ∃ host, (Cond.methodLinkNest md.1.cls i (mt ce).1 host).before args s = true) : jx_S X mt md pc (o_callv ci ce n) := by
  intro p l e R s m args below meth c d B L st M N0 h H ls locs cells slots I
  obtain ⟨hx, -, hts, hK, hG, hown, -, hb, -⟩ := B
  unfold o_callv at h
  split at h
  · rename_i hlen
    split at h
    · rename_i a ha
      split at h
      · rename_i c0 fs hcell
        split at h
        · rename_i e0
          subst e0
          cases h
          intro T hT St
          obtain ⟨cellB, hcB, hoB, hclB⟩ := jx_recv hk hK hG I.1 hcell
          obtain ⟨q1, q2⟩ := jx_cut1 hlen.1 ha
          obtain ⟨mk, methM, cM, hnamed, hmethM, -, -, -, -, -, -, hsigM⟩ := hc.spec hts
          obtain ⟨mk', methM', hnamed', hmethM', hstM, habM⟩ := Cond.instanceMethod_spec (hts _ hw2)
          cases hnamed.symm.trans hnamed'
          cases hmethM.symm.trans hmethM'
          obtain ⟨c2, r2, m2, z1, z2, z3, z4, kP, hkP, hkPi⟩ := Cond.selects_spec (hts _ hw3)
          cases hclB.symm.trans z1
          cases (State.methodFound?_of_named hnamed hm).symm.trans z2
          cases hnamed.symm.trans z3
          have hselP : selectMethod e.platform s.vm cellB.cls mk = .method mk := by rw [Launch.admits_selectMethod St.admits]; exact z4
          have hln : (((st.take n).reverse).map (jx_v X)).length = methM.sig.parameters.length := by
            rw [hsigM] at hn
            have h2 : methM.sig.parameters.length = n := Option.some.inj hn
            rw [h2, List.length_map, List.length_reverse, List.length_take]
            omega
          have hst : (F0 m pc ls (st.map (jx_v X))).stack = (((st.take n).reverse).map (jx_v X)).reverse ++ .ref (jx_ad X a) :: (st.drop (n + 1)).map (jx_v X) := by
            show st.map (jx_v X) = _
            rw [List.map_reverse, List.reverse_reverse]
            conv => lhs; rw [q2]
            rw [List.map_append]
            rfl
          rcases hl args s hts with hlink | ⟨host, hlink⟩
          · obtain ⟨vm₁, X₁, st₁⟩ := St.invokevirtual hx hown hlink hnamed hmethM hstM hkP hkPi hm (a := jx_ad X a) (cell := cellB) (by rw [hT]; exact hcB) (fun z h => by rw [h] at hoB; cases hoB) hselP hmethM habM hkP hkPi (g := F0 m pc ls (st.map (jx_v X))) rfl hln hst (by rw [hb]; exact hd)
            refine ⟨vm₁, mk, _, X₁, hnamed, by rw [hb]; exact hd, rfl, by rw [List.length_drop]; omega, hc, fun tg ht => st₁ tg fun acts => ?_⟩
            have h9 := ht acts
            rw [q1] at h9
            exact h9
          · obtain ⟨vm₁, X₁, st₁⟩ := St.invokevirtualNest hx hown hlink hnamed hmethM hstM hkP hkPi hm (a := jx_ad X a) (cell := cellB) (by rw [hT]; exact hcB) (fun z h => by rw [h] at hoB; cases hoB) hselP hmethM habM hkP hkPi (g := F0 m pc ls (st.map (jx_v X))) rfl hln hst (by rw [hb]; exact hd)
            refine ⟨vm₁, mk, _, X₁, hnamed, by rw [hb]; exact hd, rfl, by rw [List.length_drop]; omega, hc, fun tg ht => st₁ tg fun acts => ?_⟩
            have h9 := ht acts
            rw [q1] at h9
            exact h9
        · cases h
      · cases h
    · cases h
  · cases h
theorem s_callv {ce n i ci : Nat} {C : String} {T : u_T} {N : Nat} {ty : Nat → FieldType} (hk : jx_k X ci C T N ty) (hc : jx_c X (mt ce)) (hd : decode md.2.1 pc = .ok (.invokevirtual i, 3)) (hw1 : (Cond.methodLink md.1.cls i (mt ce).1 : Cond) ∈ X.W) (hw2 : (Cond.instanceMethod (mt ce).1 : Cond) ∈ X.W) (hw3 : (Cond.selects C (mt ce).1 (mt ce).1 : Cond) ∈ X.W)
    (hm : (mt ce).1.cls ≠ "java/lang/invoke/MethodHandle" ∧ (mt ce).1.cls ≠ "java/lang/invoke/VarHandle") (hn : (parseMethodDescriptor (mt ce).1.desc).map (fun d => d.parameters.length) = some n) : jx_S X mt md pc (o_callv ci ce n) :=
  jx_fcV hk hc hd hw2 hw3 hm hn fun _ _ h => Or.inl (h _ hw1)
theorem s_callvN {ce n i ci : Nat} {C host : String} {T : u_T} {N : Nat} {ty : Nat → FieldType} (hk : jx_k X ci C T N ty) (hc : jx_c X (mt ce)) (hd : decode md.2.1 pc = .ok (.invokevirtual i, 3)) (hw1 : (Cond.methodLinkNest md.1.cls i (mt ce).1 host : Cond) ∈ X.W) (hw2 : (Cond.instanceMethod (mt ce).1 : Cond) ∈ X.W) (hw3 : (Cond.selects C (mt ce).1 (mt ce).1 : Cond) ∈ X.W)
    (hm : (mt ce).1.cls ≠ "java/lang/invoke/MethodHandle" ∧ (mt ce).1.cls ≠ "java/lang/invoke/VarHandle") (hn : (parseMethodDescriptor (mt ce).1.desc).map (fun d => d.parameters.length) = some n) : jx_S X mt md pc (o_callv ci ce n) :=
  jx_fcV hk hc hd hw2 hw3 hm hn fun _ _ h => Or.inr ⟨host, h _ hw1⟩
/-- a constructor -/
theorem jx_fcI {ce n i ci : Nat} (hc : jx_c X (mt ce)) (hwc : (Cond.code (mt ce).1 (mt ce).2.1 (mt ce).2.2.1 none : Cond) ∈ X.W) (hd : decode md.2.1 pc = .ok (.invokespecial i, 3)) (hw2 : (Cond.instanceMethod (mt ce).1 : Cond) ∈ X.W) (hni : (mt ce).1.name = "<init>")
    (hm : (mt ce).1.cls ≠ "java/lang/invoke/MethodHandle" ∧ (mt ce).1.cls ≠ "java/lang/invoke/VarHandle") (hn : (parseMethodDescriptor (mt ce).1.desc).map (fun d => d.parameters.length) = some n)
    (hl : ∀ (args : Array Value) (s : State), (∀ w ∈ X.W, w.before args s = true) → (Cond.methodLink md.1.cls i (mt ce).1).before args s = true ∨ ∃ host, (Cond.methodLinkNest md.1.cls i (mt ce).1 host).before args s = true) : jx_S X mt md pc (o_callv ci ce n) := by
  intro p l e R s m args below meth c d B L st M N0 h H ls locs cells slots I
  obtain ⟨hx, -, hts, hK, hG, hown, -, hb, -⟩ := B
  unfold o_callv at h
  split at h
  · rename_i hlen
    split at h
    · rename_i a ha
      split at h
      · rename_i c0 fs hcell
        split at h
        · rename_i e0
          subst e0
          cases h
          intro T hT St
          obtain ⟨q1, q2⟩ := jx_cut1 hlen.1 ha
          have hpl : e.platform.magicAccessors = ({} : Platform).magicAccessors := by rw [St.admits.platform]
          have hln : ∀ sig, parseMethodDescriptor (mt ce).1.desc = some sig → (((st.take n).reverse).map (jx_v X)).length = sig.parameters.length := by
            intro sig hsig
            rw [hsig] at hn
            have h2 : sig.parameters.length = n := Option.some.inj hn
            rw [h2, List.length_map, List.length_reverse, List.length_take]
            omega
          have hst : (F0 m pc ls (st.map (jx_v X))).stack = (((st.take n).reverse).map (jx_v X)).reverse ++ .ref (jx_ad X a) :: (st.drop (n + 1)).map (jx_v X) := by
            show st.map (jx_v X) = _
            rw [List.map_reverse, List.reverse_reverse]
            conv => lhs; rw [q2]
            rw [List.map_append]
            rfl
          rcases hl args s hts with hlink | ⟨host, hlink⟩
          · obtain ⟨mk, methM, cM, kP, vm₁, hnamed, -, -, -, -, -, -, -, hW₁, hstep₁⟩ := Steps.initColdArgs (e := e) St.here hx St.warmed hpl hown hni hm hlink (hts _ hw2) (hts _ hwc) (f := F0 m pc ls (st.map (jx_v X))) rfl hln hst (by rw [hb]; exact hd)
            refine ⟨vm₁, mk, _, St.noted hW₁, hnamed, by rw [hb]; exact hd, rfl, by rw [List.length_drop]; omega, hc, fun tg ht => hstep₁ tg fun acts => ?_⟩
            have h9 := ht acts
            rw [q1] at h9
            exact h9
          · obtain ⟨mk, methM, cM, kP, vm₁, hnamed, -, -, -, -, -, -, -, hW₁, hstep₁⟩ := Steps.initColdArgsNest (e := e) St.here hx St.warmed hpl hown hni hm hlink (hts _ hw2) (hts _ hwc) (f := F0 m pc ls (st.map (jx_v X))) rfl hln hst (by rw [hb]; exact hd)
            refine ⟨vm₁, mk, _, St.noted hW₁, hnamed, by rw [hb]; exact hd, rfl, by rw [List.length_drop]; omega, hc, fun tg ht => hstep₁ tg fun acts => ?_⟩
            have h9 := ht acts
            rw [q1] at h9
            exact h9
        · cases h
      · cases h
    · cases h
  · cases h
theorem s_calli {ce n i ci : Nat} (hc : jx_c X (mt ce)) (hwc : (Cond.code (mt ce).1 (mt ce).2.1 (mt ce).2.2.1 none : Cond) ∈ X.W) (hd : decode md.2.1 pc = .ok (.invokespecial i, 3)) (hw1 : (Cond.methodLink md.1.cls i (mt ce).1 : Cond) ∈ X.W) (hw2 : (Cond.instanceMethod (mt ce).1 : Cond) ∈ X.W) (hni : (mt ce).1.name = "<init>")
    (hm : (mt ce).1.cls ≠ "java/lang/invoke/MethodHandle" ∧ (mt ce).1.cls ≠ "java/lang/invoke/VarHandle") (hn : (parseMethodDescriptor (mt ce).1.desc).map (fun d => d.parameters.length) = some n) : jx_S X mt md pc (o_callv ci ce n) :=
  jx_fcI hc hwc hd hw2 hni hm hn fun _ _ h => Or.inl (h _ hw1)
theorem s_calliN {ce n i ci : Nat} {host : String} (hc : jx_c X (mt ce)) (hwc : (Cond.code (mt ce).1 (mt ce).2.1 (mt ce).2.2.1 none : Cond) ∈ X.W) (hd : decode md.2.1 pc = .ok (.invokespecial i, 3)) (hw1 : (Cond.methodLinkNest md.1.cls i (mt ce).1 host : Cond) ∈ X.W) (hw2 : (Cond.instanceMethod (mt ce).1 : Cond) ∈ X.W) (hni : (mt ce).1.name = "<init>")
    (hm : (mt ce).1.cls ≠ "java/lang/invoke/MethodHandle" ∧ (mt ce).1.cls ≠ "java/lang/invoke/VarHandle") (hn : (parseMethodDescriptor (mt ce).1.desc).map (fun d => d.parameters.length) = some n) : jx_S X mt md pc (o_callv ci ce n) :=
  jx_fcI hc hwc hd hw2 hni hm hn fun _ _ h => Or.inr ⟨host, h _ hw1⟩
theorem jx_cats {st : List Value} (h : st.length ≤ 4) : (st.map fun v => v.category).sum ≤ 8 := by
  have h1 : ∀ l : List Value, (l.map fun v => v.category).sum ≤ 2 * l.length := by
    intro l
    induction l with
    | nil => simp
    | cons a r ih =>
      have h2 : a.category ≤ 2 := by cases a <;> simp [Value.category]
      simp only [List.map_cons, List.sum_cons, List.length_cons]
      omega
  have := h1 st
  omega
theorem s_oinit {i : Nat} (hd : decode md.2.1 pc = .ok (.invokespecial i, 3)) (hw1 : (Cond.methodLink md.1.cls i Lib.objectInit : Cond) ∈ X.W) (hw2 : (Cond.instanceMethod Lib.objectInit : Cond) ∈ X.W) (hw3 : (Cond.code Lib.objectInit ⟨#[0xb1]⟩ 1 none : Cond) ∈ X.W) : jx_S X mt md pc o_oinit := by
  intro p l e R s m args below meth c d B L st M N h H ls locs cells slots I
  obtain ⟨hx, -, hts, hK, hG, hown, -, hb, hml, -, -, -, hRf, hRl, -⟩ := B
  unfold o_oinit at h
  split at h
  · split at h
    · rename_i a r hr
      cases h
      intro Q kk
      have hsum : ((r.map (jx_v X)).map fun v => v.category).sum ≤ 8 := jx_cats (by rw [List.length_map]; exact hr)
      refine W.objInit hx hb hown (hts _ hw1) (hts _ hw2) (hts _ hw3) rfl ?_ rfl hd (by omega) (by show 2 * 0 + _ + 12 ≤ _; omega) (kk _ _ _ _ _ I)
      show ls.size = c.maxLocals
      rw [I.2.1.1, I.2.2.2.2.2, hml]
    · cases h
  · cases h
end JC
theorem jx_steps {tb : Tables} {e : Env} {mid below : List Frame} {a b : State} (h : Steps tb e (mid ++ below) a b) : Steps tb e below a b := by
  obtain ⟨n, hn, w⟩ := h
  exact ⟨n, hn, fun k hk => (w k hk).weaken⟩
theorem jx_H.ns {X : jx_X} {M : jx_M} {H : Heap} (h : jx_H X M H) {q : Nat} {cell : Cell} (hq : X.H.size ≤ q) (hc : H[q]? = some cell) : cell.vm.isStatics = false := by
  obtain ⟨h1, h2, h3, h4, h5, h6⟩ := h
  have hlt : q < H.size := (Array.getElem?_eq_some_iff.mp hc).1
  have hk := (h3 (q - X.H.size + jx_g) (by omega) (by omega)).2
  have ha : jx_ad X (q - X.H.size + jx_g) = q := by rw [jx_ad_ge (by omega)]; omega
  rw [ha] at hk
  cases hm : jx_e X (M.1 (q - X.H.size + jx_g)) with
  | inl z =>
    rw [hm] at hk
    have hk : H[q]? = some (vp_cell z.1 z.2) := hk
    rw [hc] at hk
    cases hk
    obtain ⟨cA, n, f⟩ := z
    cases f with
    | inl f => rfl
    | inr f => cases f with
      | inl f => rfl
      | inr f => cases f with
        | inl f => rfl
        | inr f => cases f with
          | inl f => rfl
          | inr f => rfl
  | inr z =>
    rw [hm] at hk
    obtain ⟨r, -, cell', g1, -, g3, -⟩ := hk
    have g1 : H[q]? = some cell' := g1
    rw [hc] at g1
    cases g1
    rw [g3]
    rfl
theorem jx_GL.moved {X : jx_X} {s U : State} (hvm : s.vm.Alike U.vm) (h : jx_GL X s) : jx_GL X U := by
  intro k hk
  have h1 := h k hk
  cases hg : X.gl k with
  | inr z => rw [hg] at h1; exact h1
  | inl z =>
    rw [hg] at h1
    obtain ⟨t, n, f⟩ := z
    cases f with
    | inr f => exact h1
    | inl f =>
      obtain ⟨e0, cell, q1, q2, q3⟩ := h1
      exact ⟨e0, cell, q1, State.isArrayOf_alike hvm q2, q3⟩
theorem jx_en_sl (X : jx_X) (as : List Value) : (as.flatMap fun v => if jx_v1 v = true then [some v] else [some v, none]).length = (lg_sl (as.map (jx_v X))).length ∧
    ∀ (i : Nat) (v : Value), (as.flatMap fun v => if jx_v1 v = true then [some v] else [some v, none]).getD i none = some v → (lg_sl (as.map (jx_v X)))[i]? = some (.val (jx_v X v)) := by
  induction as with
  | nil => exact ⟨rfl, fun i v h => by simp at h⟩
  | cons a r ih =>
    have hsl : lg_sl ((a :: r).map (jx_v X)) = (if (jx_v X a).category = 2 then [Slot.val (jx_v X a), .second] else [.val (jx_v X a)]) ++ lg_sl (r.map (jx_v X)) := by
      simp [lg_sl]
    rw [hsl, List.flatMap_cons]
    by_cases h1 : jx_v1 a = true
    · rw [if_pos h1, if_neg (by rw [jx_v_cat, jx_v1_cat h1]; decide)]
      refine ⟨by simp [ih.1], fun i v h => ?_⟩
      cases i with
      | zero => simp at h; subst h; rfl
      | succ j => exact ih.2 j v (by simpa using h)
    · rw [if_neg h1, if_pos (by rw [jx_v_cat, jx_v1_ncat h1])]
      refine ⟨by simp [ih.1], fun i v h => ?_⟩
      cases i with
      | zero => simp at h; subst h; rfl
      | succ j =>
        cases j with
        | zero => simp at h
        | succ k => exact ih.2 k v (by simpa using h)
theorem jx_lo.entry {X : jx_X} {as : List Value} {n : Nat} (h : (jx_en as n).length = n) : jx_lo X ((lg_sl (as.map (jx_v X)) ++ List.replicate (n - (lg_sl (as.map (jx_v X))).length) Slot.unset).toArray) (jx_en as n) := by
  obtain ⟨e1, e2⟩ := jx_en_sl X as
  have hle : (lg_sl (as.map (jx_v X))).length ≤ n := by
    unfold jx_en at h
    rw [List.length_append, List.length_replicate, e1] at h
    omega
  obtain ⟨a1, a2, -⟩ := lv_entry (as.map (jx_v X)) hle
  refine ⟨by rw [a1, h], a2, fun i v hv => ?_⟩
  unfold jx_en at hv
  rw [List.getD_eq_getElem?_getD] at hv
  by_cases hi : i < (as.flatMap fun v => if jx_v1 v = true then [some v] else [some v, none]).length
  · rw [List.getElem?_append_left hi, ← List.getD_eq_getElem?_getD] at hv
    have h2 := e2 i v hv
    rw [List.getElem?_toArray, List.getElem?_append_left (by rw [← e1]; exact hi)]
    exact h2
  · rw [List.getElem?_append_right (by omega)] at hv
    rw [List.getElem?_replicate] at hv
    split at hv <;> cases hv
/-- a handler takes an exception -/
def jx_ct (X : jx_X) (md : jx_D) (hs : List (Nat × Nat × Nat × Nat)) : Prop :=
  ∀ (p : Program) (l : Launch) (e : Env) (R : Room) (s : State) (m : MethodId) (args : Array Value) (below : List Frame) (meth : Method) (c : Code) (d : Nat), jx_B X md p l e R s m args meth c d →
  ∀ (pc k hp : Nat) (M : jx_M), jx_hf pc (jx_cl (M.1 k)) hs = some hp → ∀ (T : State) (locs : List Loc) (cells slots : Nat) (ls : Array Slot) (st : List Value), Stand p l e R s m args below meth c T locs cells slots → jx_H X M T.heap →
  ∃ vm₁ : Vm, Stand p l e R s m args below meth c (T.setVm vm₁) locs cells slots ∧ ∀ target, Steps p.tables e below ((T.setVm vm₁).setTop (F0 m hp ls [.ref (jx_ad X k)])) target → Steps p.tables e below ((T.setTop (F0 m pc ls st)).pushFrame (.throwing (jx_ad X k))) target
theorem jx_ho_out {pc : Nat} : ∀ {hs : List (Nat × Nat × Nat × Nat)}, jx_ho pc hs = true → ∀ h ∈ hs, ¬ (h.1 ≤ pc ∧ pc < h.2.1)
  | [], _, h, hm => by cases hm
  | a :: t, hh, h, hm => by
    unfold jx_ho at hh
    split at hh
    · cases hh
    · rename_i hn
      rcases List.mem_cons.mp hm with rfl | hm
      · exact hn
      · exact jx_ho_out hh h hm
/-- a word that stays when the tables are warmer -/
def jx_mv (w : Cond) : Prop := ∀ (s U : State) (a a' : Array Value), s.WarmedH U.vm → w.before a s = true → w.before a' U = true
def jx_gw (w : Cond) : Bool := match w with
  | .fieldLinkNest .. => true
  | .methodLinkNest .. => true
  | w => goodWord w
theorem jx_gw_mv {w : Cond} (h : jx_gw w = true) : jx_mv w := by
  intro s U a a' hW hb
  by_cases hg : goodWord w = true
  · exact word_at hW (good_of_word hg) hb
  · cases w with
    | fieldLinkNest x i b n d y => exact va_Nw.use rfl (va_Nw.warmF hW (va_Nw.of rfl hb))
    | methodLinkNest x i b y => exact va_Nw.use rfl (va_Nw.warmM hW (va_Nw.of rfl hb))
    | _ => exact absurd h hg
end
section
/-! RUNS OF THE ABSTRACT MACHINE, GOAL FIRST -/
abbrev jx_P : Type := (Nat → Nat) × (Nat → List (Nat × Nat × Nat × Nat)) × (Nat → Nat → Option jx_O)
theorem jx_mf {ml : Nat → Nat} {hs : Nat → List (Nat × Nat × Nat × Nat)} {cd : Nat → Nat → Option jx_O} : ∀ (f d mi pc : Nat) (L : jx_L) (st : List Value) (M : jx_M) (x : jx_R × jx_M), jx_run ml hs cd f d mi pc L st M = some x → jx_run ml hs cd (f + 1) d mi pc L st M = some x := by
  intro f
  induction f with
  | zero => intro d mi pc L st M x h; cases h
  | succ f ih =>
    intro d mi pc L st M x h
    rw [jx_run] at h
    rw [jx_run]
    cases hc : cd mi pc with
    | none => rw [hc] at h; cases h
    | some op =>
      rw [hc] at h
      dsimp only at h ⊢
      cases ho : op pc L st M with
      | none => rw [ho] at h; cases h
      | some N =>
        rw [ho] at h
        rcases N with ⟨pc', L', st', M1⟩ | ⟨r, M1⟩ | ⟨ce, as, rest, pc'⟩
        · exact ih _ _ _ _ _ _ _ h
        · exact h
        · cases d with
          | zero => cases h
          | succ d' =>
            dsimp only at h ⊢
            by_cases hen : (jx_en as (ml ce)).length = ml ce
            · rw [if_pos hen] at h ⊢
              cases hr : jx_run ml hs cd f d' ce 0 (jx_en as (ml ce)) [] M with
              | none => rw [hr] at h; cases h
              | some y =>
                rw [hr] at h
                rw [ih _ _ _ _ _ _ _ hr]
                rcases y with ⟨v | k, M1⟩
                · exact ih _ _ _ _ _ _ _ h
                · dsimp only at h ⊢
                  cases hh : jx_hd pc (jx_cl (M1.1 k)) (hs mi) with
                  | none => rw [hh] at h; cases h
                  | some z =>
                    rw [hh] at h
                    cases z with
                    | none => exact h
                    | some hp => exact ih _ _ _ _ _ _ _ h
            · rw [if_neg hen] at h; cases h
theorem jx_mfs {ml : Nat → Nat} {hs : Nat → List (Nat × Nat × Nat × Nat)} {cd : Nat → Nat → Option jx_O} {f d mi pc : Nat} {L : jx_L} {st : List Value} {M : jx_M} {x : jx_R × jx_M} (g : Nat) (h : jx_run ml hs cd f d mi pc L st M = some x) : jx_run ml hs cd (f + g) d mi pc L st M = some x := by
  induction g with
  | zero => exact h
  | succ g ih => exact jx_mf _ _ _ _ _ _ _ _ ih
/-- the machine, at this place, comes to an end with 'post' -/
def jx_Z (P : jx_P) (d mi pc : Nat) (L : jx_L) (st : List Value) (M : jx_M) (post : jx_R → jx_M → Prop) : Prop := ∃ (f : Nat) (r : jx_R) (M' : jx_M), jx_run P.1 P.2.1 P.2.2 f d mi pc L st M = some (r, M') ∧ post r M'
section JZ
variable {P : jx_P} {d mi pc : Nat} {L : jx_L} {st : List Value} {M : jx_M} {post : jx_R → jx_M → Prop}
theorem jx_Z.mono {post' : jx_R → jx_M → Prop} (h : jx_Z P d mi pc L st M post) (k : ∀ r M', post r M' → post' r M') : jx_Z P d mi pc L st M post' := by
  obtain ⟨f, r, M', h1, h2⟩ := h
  exact ⟨f, r, M', h1, k r M' h2⟩
theorem jx_go (pc' : Nat) (L' : jx_L) (st' : List Value) (M1 : jx_M) {op : jx_O} (hc : P.2.2 mi pc = some op) (ho : op pc L st M = some (.inl (pc', L', st', M1))) (k : jx_Z P d mi pc' L' st' M1 post) : jx_Z P d mi pc L st M post := by
  obtain ⟨f, r, M', h1, h2⟩ := k
  refine ⟨f + 1, r, M', ?_, h2⟩
  rw [jx_run, hc]
  dsimp only
  rw [ho]
  exact h1
theorem jx_fin {r : jx_R} {M1 : jx_M} {op : jx_O} (hc : P.2.2 mi pc = some op) (ho : op pc L st M = some (.inr (.inl (r, M1)))) (k : post r M1) : jx_Z P d mi pc L st M post := by
  refine ⟨1, r, M1, ?_, k⟩
  rw [jx_run, hc]
  dsimp only
  rw [ho]
theorem jx_do {ce pc' : Nat} {as rest : List Value} {op : jx_O} (hc : P.2.2 mi pc = some op) (ho : op pc L st M = some (.inr (.inr (ce, as, rest, pc')))) (hen : (jx_en as (P.1 ce)).length = P.1 ce)
    (k : jx_Z P d ce 0 (jx_en as (P.1 ce)) [] M fun r M1 => match r with
      | .inl v => jx_Z P (d + 1) mi pc' L (v.toList ++ rest) M1 post
      | .inr x => match jx_hd pc (jx_cl (M1.1 x)) (P.2.1 mi) with
        | none => False
        | some none => post (.inr x) M1
        | some (some hp) => jx_Z P (d + 1) mi hp L [.ref x] M1 post) : jx_Z P (d + 1) mi pc L st M post := by
  obtain ⟨f, r, M1, h1, h2⟩ := k
  cases r with
  | inl v =>
    obtain ⟨g, r', M', h3, h4⟩ := h2
    refine ⟨f + g + 1, r', M', ?_, h4⟩
    rw [jx_run, hc]
    dsimp only
    rw [ho]
    dsimp only
    rw [if_pos hen, jx_mfs g h1]
    dsimp only
    rw [Nat.add_comm f g]
    exact jx_mfs f h3
  | inr x =>
    dsimp only at h2
    cases hh : jx_hd pc (jx_cl (M1.1 x)) (P.2.1 mi) with
    | none => rw [hh] at h2; exact absurd h2 id
    | some z =>
      rw [hh] at h2
      cases z with
      | none =>
        refine ⟨f + 1, .inr x, M1, ?_, h2⟩
        rw [jx_run, hc]
        dsimp only
        rw [ho]
        dsimp only
        rw [if_pos hen, h1]
        dsimp only
        rw [hh]
      | some hp =>
        obtain ⟨g, r', M', h3, h4⟩ := h2
        refine ⟨f + g + 1, r', M', ?_, h4⟩
        rw [jx_run, hc]
        dsimp only
        rw [ho]
        dsimp only
        rw [if_pos hen, jx_mfs g h1]
        dsimp only
        rw [hh]
        dsimp only
        rw [Nat.add_comm f g]
        exact jx_mfs f h3
end JZ
end
section
set_option maxHeartbeats 4000000 in
theorem jx_sound {X : jx_X} {mt : Nat → jx_D} {ml : Nat → Nat} {hs : Nat → List (Nat × Nat × Nat × Nat)} {cd : Nat → Nat → Option jx_O} {l : Launch} (hml : ∀ mi, ml mi = (mt mi).2.2.1) (hhs : ∀ mi, (hs mi).map (fun h => (h.1, h.2.1)) = (mt mi).2.2.2.2.map (fun h => (h.1.1, h.1.2.1)))
    (hS : ∀ mi pc op, cd mi pc = some op → jx_S X mt (mt mi) pc op) (hWd : ∀ w ∈ X.W, jx_mv w) (hGm : ∀ (s U : State), s.WarmedH U.vm → (∀ q : Nat, q < X.H.size → U.heap[q]? = X.H[q]?) → X.G s → X.G U) (hct : ∀ mi, jx_ct X (mt mi) (hs mi)) :
    ∀ (f d mi pc : Nat) (L : jx_L) (st : List Value) (M : jx_M) (r : jx_R) (M' : jx_M), jx_run ml hs cd f d mi pc L st M = some (r, M') →
    ∀ (p : Program) (e : Env) (R : Room) (s : State) (m : MethodId) (args : Array Value) (below : List Frame) (meth : Method) (c : Code), jx_B X (mt mi) p l e R s m args meth c d →
    ∀ (H : Heap) (ls : Array Slot) (locs : List Loc) (cells slots : Nat), jx_I X R (mt mi).2.2.1 M H ls L locs cells slots → W p l e R s m args below meth c H locs cells slots (jx_Q X R below s r M') (F0 m pc ls (st.map (jx_v X))) := by
  intro f
  induction f with
  | zero => intro d mi pc L st M r M' h; cases h
  | succ f ih =>
    intro d mi pc L st M r M' h p e R s m args below meth c B H ls locs cells slots I
    unfold jx_run at h
    split at h
    · cases h
    · rename_i op hop
      have hSop := hS mi pc op hop p l e R s m args below meth c d B L st M
      split at h
      · cases h
      · rename_i pc' L' st' M1 hN
        exact hSop _ hN H ls locs cells slots I _ fun H' ls' locs' cells' slots' I' => ih _ _ _ _ _ _ _ _ h _ _ _ _ _ _ _ _ _ B _ _ _ _ _ I'
      · rename_i r1 M1 hN
        cases h
        exact hSop _ hN H ls locs cells slots I
      · rename_i ce as rest pc' hN
        have hcall := hSop _ hN H ls locs cells slots I
        split at h
        · cases h
        · rename_i d'
          split at h
          · rename_i hen
            intro T hT St
            obtain ⟨vm₁, mk, ig, St1, hnamed, hdec, hpc', hrl, hcc, hgo⟩ := hcall T hT St
            have B0 := B
            obtain ⟨hx, htr, hts, hK, hG, hown, hnm, hb, hmxl, hr, hlk, hex, hRf, hRl, hns, hao, hGs⟩ := B
            obtain ⟨mk', methk, ck, hnamed', hmk, hck, hbk, hlck, hrk, hlkk, hexk, hsigk⟩ := hcc.spec hts
            cases hnamed.symm.trans hnamed'
            have hal : s.vm.Alike vm₁ := St1.warmed.alike
            have hmk1 : (T.setVm vm₁).vm.method? mk = some methk := by
              show vm₁.method? mk = some methk
              rw [hal.method?]
              exact hmk
            have hnamed1 : (T.setVm vm₁).methodNamed? (mt ce).1 = some mk := by
              show (s.setVm vm₁).methodNamed? (mt ce).1 = some mk
              rw [State.methodNamed?_setVm hal]
              exact hnamed
            have hsum : ((rest.map (jx_v X)).map fun v => v.category).sum ≤ 8 := jx_cats (by rw [List.length_map]; exact hrl)
            have hsz : (F0 m pc ls (rest.map (jx_v X))).locals.size = c.maxLocals := by
              show ls.size = c.maxLocals
              rw [I.2.1.1, I.2.2.2.2.2, hmxl]
            have hml30 := hcc.2.2
            have hIr := I.2.2.2
            obtain ⟨Sk, hdo⟩ := St1.into (g := F0 m pc ls (rest.map (jx_v X))) rfl hsz hdec (as.map (jx_v X)).toArray (R' := { frames := R.frames - 1, cells := M.2.2.1, slots := M.2.2.2, locals := R.locals - 50 }) hmk1 hck hlkk (State.plainMethod.of_named hcc.2.1 hnamed1 hmk1) (by show R.frames - 1 + 1 ≤ R.frames; omega) (by show 2 * 0 + ((rest.map (jx_v X)).map fun v => v.category).sum + (ck.maxLocals + 11) + (R.locals - 50) ≤ R.locals; rw [hlck]; omega) (by show cells + M.2.2.1 ≤ R.cells; omega) (by show slots + M.2.2.2 ≤ R.slots; omega)
            generalize hT2 : ((T.setVm vm₁).setTop (F0 m pc ls (rest.map (jx_v X)))).pushFrame (.java (entryFrame mk (as.map (jx_v X)).toArray ck.maxLocals)) = T2 at Sk hdo
            have hT2h : T2.heap = H := by rw [← hT2]; exact hT
            generalize hs' : (T.setVm vm₁).calling (F0 m pc ls (rest.map (jx_v X))) mk (as.map (jx_v X)).toArray = s' at Sk
            have hvm' : s'.vm = vm₁ := by rw [← hs']; rfl
            have hhp' : s'.heap = H := by rw [← hs']; exact hT
            have Bk : jx_B X (mt ce) p l e { frames := R.frames - 1, cells := M.2.2.1, slots := M.2.2.2, locals := R.locals - 50 } s' mk (as.map (jx_v X)).toArray methk ck d' := by
              refine ⟨hx, htr, fun w hw => hWd w hw s s' _ _ (by rw [hvm']; exact St1.warmed) (hts w hw), va_K.moved (by rw [hvm']; exact hal) hK, jx_GL.moved (by rw [hvm']; exact hal) hG, ?_, (name_of_methodNamed hnamed hmk).1, hbk, hlck, hrk, hlkk, hexk, by show d' + 10 ≤ R.frames - 1; omega, by show 50 * d' + 300 ≤ R.locals - 50; omega, fun q cell hq hc => ?_, fun C cA h4 => va_AO.moved (by rw [hvm']; exact hal) (hao C cA h4), hGm s s' (by rw [hvm']; exact St1.warmed) (fun q hq => by rw [hhp']; exact I.1.2.2.2.2.1 q hq) hGs⟩
              · rw [hvm', hal.findClass]
                exact findClass_of_methodNamed hnamed
              · rw [hhp'] at hc
                exact I.1.ns hq hc
            have run : ∀ (rk : jx_R) (Mk : jx_M), jx_run ml hs cd f d' ce 0 (jx_en as (ml ce)) [] M = some (rk, Mk) → ∃ t, Steps p.tables e below (T.setTop (F0 m pc ls (st.map (jx_v X)))) t ∧ jx_Q X { frames := R.frames - 1, cells := M.2.2.1, slots := M.2.2.2, locals := R.locals - 50 } (.java (F0 m pc ls (rest.map (jx_v X))) :: below) s' rk Mk t := by
              intro rk Mk hk
              rw [hml ce] at hk hen
              have hw := ih _ _ _ _ _ _ _ _ hk p e _ s' mk _ (.java (F0 m pc ls (rest.map (jx_v X))) :: below) methk ck Bk H _ [] 0 0 ⟨I.1, jx_lo.entry hen, (fun x hx => by cases hx), by show 0 + M.2.2.1 ≤ M.2.2.1; omega, by show 0 + M.2.2.2 ≤ M.2.2.2; omega, hen⟩
              obtain ⟨t, t1, t2⟩ := hw T2 hT2h Sk
              refine ⟨t, hgo t fun acts => ?_, t2⟩
              rw [hdo acts, hlck, lg_entry_eq]
              exact jx_steps (mid := [.java (F0 m pc ls (rest.map (jx_v X)))]) t1
            subst hpc'
            split at h
            · cases h
            · rename_i v Mk hk
              obtain ⟨t, t1, o, locs', kc, ks, q1, q2, q3, q4, q5, q6, q7, q8, q9⟩ := run _ _ hk
              have q3 : o = .returned (v.map (jx_v X)) := q3
              subst q3
              rw [← hs'] at q5 q6
              obtain ⟨T', St', -, -, ht⟩ := St1.outOf (g := F0 m pc ls (rest.map (jx_v X))) (mk := mk) (a := (as.map (jx_v X)).toArray) (t := t) (v := v.map (jx_v X)) (L := locs') (k := kc) (n := ks) rfl hdec q2 q5 q6
              have hheap : t.heap = T'.heap := by rw [ht]; rfl
              rw [hheap] at q4
              have q8 : kc + Mk.2.2.1 ≤ M.2.2.1 := q8
              have q9 : ks + Mk.2.2.2 ≤ M.2.2.2 := q9
              have hlocs : ∀ x ∈ locs ++ locs', X.H.size ≤ x.base := fun x hx => by
                rcases List.mem_append.mp hx with z | z
                · exact I.2.2.1 x z
                · exact q7 x z
              have hw := ih _ _ _ _ _ _ _ _ h p e R s m args below meth c B0 T'.heap ls (locs ++ locs') (cells + kc) (slots + ks) ⟨q4, I.2.1, hlocs, by omega, by omega, I.2.2.2.2.2⟩
              obtain ⟨t2, z1, z2⟩ := hw T' rfl St'
              refine ⟨t2, t1.trans ?_, z2⟩
              rw [ht]
              have hmap : (v.toList ++ rest).map (jx_v X) = (v.map (jx_v X)).toList ++ rest.map (jx_v X) := by cases v <;> rfl
              rw [hmap] at z1
              exact z1
            · rename_i k Mk hk
              obtain ⟨t, t1, o, locs', kc, ks, q1, q2, q3, q4, q5, q6, q7, q8, q9⟩ := run _ _ hk
              have q3 : o = .threw (jx_ad X k) := q3
              subst q3
              rw [← hs'] at q5 q6
              obtain ⟨T', St', -, -, ht⟩ := St1.outOfThrown (g := F0 m pc ls (rest.map (jx_v X))) (mk := mk) (a := (as.map (jx_v X)).toArray) (t := t) (x := jx_ad X k) (L := locs') (k := kc) (n := ks) rfl q2 q5 q6
              have hheap : t.heap = T'.heap := by rw [ht]; rfl
              rw [hheap] at q4
              have q8 : kc + Mk.2.2.1 ≤ M.2.2.1 := q8
              have q9 : ks + Mk.2.2.2 ≤ M.2.2.2 := q9
              have hlocs : ∀ x ∈ locs ++ locs', X.H.size ≤ x.base := fun x hx => by
                rcases List.mem_append.mp hx with z | z
                · exact I.2.2.1 x z
                · exact q7 x z
              split at h
              · cases h
              · rename_i hp hh
                have hhf : jx_hf pc (jx_cl (Mk.1 k)) (hs mi) = some hp := by
                  unfold jx_hd at hh
                  split at hh
                  · cases hh
                  · obtain ⟨z, z1, z2⟩ := Option.map_eq_some_iff.mp hh
                    cases z2
                    exact z1
                obtain ⟨vm₂, St2, hgo2⟩ := hct mi p l e R s m args below meth c (d' + 1) B0 pc k hp Mk hhf T' _ _ _ ls (rest.map (jx_v X)) St' q4
                have hw := ih _ _ _ _ _ _ _ _ h p e R s m args below meth c B0 T'.heap ls (locs ++ locs') (cells + kc) (slots + ks) ⟨q4, I.2.1, hlocs, by omega, by omega, I.2.2.2.2.2⟩
                obtain ⟨t2, z1, z2⟩ := hw (T'.setVm vm₂) rfl St2
                refine ⟨t2, t1.trans ?_, z2⟩
                rw [ht]
                exact hgo2 _ z1
              · rename_i hh
                cases h
                have hho : jx_ho pc (hs mi) = true := by
                  unfold jx_hd at hh
                  split at hh
                  · rename_i z; exact z
                  · obtain ⟨z, z1, z2⟩ := Option.map_eq_some_iff.mp hh
                    cases z2
                have hout : ∀ x ∈ c.exceptionTable.toList, covers x pc = false := by
                  intro x hx0
                  have z1 : (x.startPc, x.endPc) ∈ (c.exceptionTable.toList.map fun x => (x.startPc, x.endPc, x.handlerPc, x.catchType)).map fun z => (z.1, z.2.1) := by
                    rw [List.map_map]
                    exact List.mem_map.mpr ⟨x, hx0, rfl⟩
                  rw [hex, List.map_map] at z1
                  have z2 : (x.startPc, x.endPc) ∈ (hs mi).map fun h => (h.1, h.2.1) := by
                    rw [hhs mi]
                    exact z1
                  obtain ⟨hd0, z3, z4⟩ := List.mem_map.mp z2
                  have z5 := jx_ho_out hho hd0 z3
                  have z6 : hd0.1 = x.startPc := congrArg Prod.fst z4
                  have z7 : hd0.2.1 = x.endPc := congrArg Prod.snd z4
                  rw [z6, z7] at z5
                  simp only [covers, Bool.and_eq_false_iff, decide_eq_false_iff_not]
                  by_cases z8 : x.startPc ≤ pc
                  · exact Or.inr fun z9 => z5 ⟨z8, z9⟩
                  · exact Or.inl z8
                obtain ⟨hwalk, e1, e2, e3, e4⟩ := St'.leaveThrown (jx_ad X k) (g := F0 m pc ls (rest.map (jx_v X))) rfl rfl rfl hout hlk
                refine ⟨_, t1.trans ?_, .threw (jx_ad X k), locs ++ locs', cells + kc, slots + ks, e1, e2, rfl, q4, e3, e4, hlocs, by omega, by omega⟩
                rw [ht]
                exact hwalk
          · cases h
end
section
/-! printed by wip/whole/gen.py out of the Statement: classes, words, methods -/
def TX_0 : u_T := fun k => match k with
  | 0 => ("MoleculeRegistry$Graph", "codes", "[I", true)
  | 1 => ("MoleculeRegistry$Graph", "kinds", "[I", true)
  | 2 => ("MoleculeRegistry$Graph", "near", "[I", true)
  | 3 => ("MoleculeRegistry$Graph", "size", "I", false)
  | _ => ("MoleculeRegistry$Graph", "bondCount", "I", false)
def ty_0 : Nat → FieldType := fun k => match k with
  | 0 => .array .int
  | 1 => .array .int
  | 2 => .array .int
  | 3 => .int
  | _ => .int
theorem nm_0 : ∀ a, a < 5 → ∀ b, b < 5 → a ≠ b → (TX_0 a).2.1 ≠ (TX_0 b).2.1 := by decide +kernel
theorem tk_0 : ∀ k, k < 5 → parseFieldDescriptor (TX_0 k).2.2.1 = some (ty_0 k) := by decide +kernel
def TX_1 : u_T := fun k => match k with
  | 0 => ("MoleculeRegistry$Log", "marked", "Z", false)
  | 1 => ("MoleculeRegistry$Log", "removing", "Z", false)
  | 2 => ("MoleculeRegistry$Log", "id", "I", false)
  | _ => ("MoleculeRegistry$Log", "molecule", "LMoleculeRegistry$Graph;", true)
def ty_1 : Nat → FieldType := fun k => match k with
  | 0 => .boolean
  | 1 => .boolean
  | 2 => .int
  | _ => .object "MoleculeRegistry$Graph"
theorem nm_1 : ∀ a, a < 4 → ∀ b, b < 4 → a ≠ b → (TX_1 a).2.1 ≠ (TX_1 b).2.1 := by decide +kernel
theorem tk_1 : ∀ k, k < 4 → parseFieldDescriptor (TX_1 k).2.2.1 = some (ty_1 k) := by decide +kernel
def TX_2 : u_T := fun k => match k with
  | 0 => ("MoleculeRegistry$Matcher", "choices", "[I", true)
  | _ => ("MoleculeRegistry$Matcher", "places", "[I", true)
def ty_2 : Nat → FieldType := fun k => match k with
  | 0 => .array .int
  | _ => .array .int
theorem nm_2 : ∀ a, a < 2 → ∀ b, b < 2 → a ≠ b → (TX_2 a).2.1 ≠ (TX_2 b).2.1 := by decide +kernel
theorem tk_2 : ∀ k, k < 2 → parseFieldDescriptor (TX_2 k).2.2.1 = some (ty_2 k) := by decide +kernel
def TX_3 : u_T := fun k => match k with
  | 0 => ("MoleculeRegistry$Reader", "text", "[C", true)
  | 1 => ("MoleculeRegistry$Reader", "length", "I", false)
  | 2 => ("MoleculeRegistry$Reader", "position", "I", false)
  | 3 => ("MoleculeRegistry$Reader", "asPattern", "Z", false)
  | 4 => ("MoleculeRegistry$Reader", "codes", "[I", true)
  | 5 => ("MoleculeRegistry$Reader", "written", "[I", true)
  | 6 => ("MoleculeRegistry$Reader", "size", "I", false)
  | 7 => ("MoleculeRegistry$Reader", "bondFirst", "[I", true)
  | 8 => ("MoleculeRegistry$Reader", "bondSecond", "[I", true)
  | 9 => ("MoleculeRegistry$Reader", "bondKind", "[I", true)
  | 10 => ("MoleculeRegistry$Reader", "bondCount", "I", false)
  | 11 => ("MoleculeRegistry$Reader", "openAtom", "[I", true)
  | 12 => ("MoleculeRegistry$Reader", "openLink", "[I", true)
  | 13 => ("MoleculeRegistry$Reader", "branches", "[I", true)
  | _ => ("MoleculeRegistry$Reader", "depth", "I", false)
def ty_3 : Nat → FieldType := fun k => match k with
  | 0 => .array .char
  | 1 => .int
  | 2 => .int
  | 3 => .boolean
  | 4 => .array .int
  | 5 => .array .int
  | 6 => .int
  | 7 => .array .int
  | 8 => .array .int
  | 9 => .array .int
  | 10 => .int
  | 11 => .array .int
  | 12 => .array .int
  | 13 => .array .int
  | _ => .int
theorem nm_3 : ∀ a, a < 15 → ∀ b, b < 15 → a ≠ b → (TX_3 a).2.1 ≠ (TX_3 b).2.1 := by decide +kernel
theorem tk_3 : ∀ k, k < 15 → parseFieldDescriptor (TX_3 k).2.2.1 = some (ty_3 k) := by decide +kernel
def TX_4 : u_T := fun k => match k with
  | 0 => ("MoleculeRegistry$Shelf", "molecules", "[LMoleculeRegistry$Graph;", true)
  | 1 => ("MoleculeRegistry$Shelf", "ids", "[I", true)
  | 2 => ("MoleculeRegistry$Shelf", "size", "I", false)
  | _ => ("MoleculeRegistry$Shelf", "lastId", "I", false)
def ty_4 : Nat → FieldType := fun k => match k with
  | 0 => .array (.object "MoleculeRegistry$Graph")
  | 1 => .array .int
  | 2 => .int
  | _ => .int
theorem nm_4 : ∀ a, a < 4 → ∀ b, b < 4 → a ≠ b → (TX_4 a).2.1 ≠ (TX_4 b).2.1 := by decide +kernel
theorem tk_4 : ∀ k, k < 4 → parseFieldDescriptor (TX_4 k).2.2.1 = some (ty_4 k) := by decide +kernel
def TX_5 : u_T := fun k => match k with
  | 0 => ("MoleculeRegistry", "buffer", "[C", true)
  | 1 => ("MoleculeRegistry", "typed", "I", false)
  | 2 => ("MoleculeRegistry", "reader", "LMoleculeRegistry$Reader;", true)
  | 3 => ("MoleculeRegistry", "read", "LMoleculeRegistry$Graph;", true)
  | 4 => ("MoleculeRegistry", "matcher", "LMoleculeRegistry$Matcher;", true)
  | 5 => ("MoleculeRegistry", "shelf", "LMoleculeRegistry$Shelf;", true)
  | 6 => ("MoleculeRegistry", "log", "LMoleculeRegistry$Log;", true)
  | 7 => ("MoleculeRegistry", "hits", "[I", true)
  | 8 => ("MoleculeRegistry", "hitCount", "I", false)
  | 9 => ("MoleculeRegistry", "toldFailure", "I", false)
  | _ => ("MoleculeRegistry", "down", "Z", false)
def ty_5 : Nat → FieldType := fun k => match k with
  | 0 => .array .char
  | 1 => .int
  | 2 => .object "MoleculeRegistry$Reader"
  | 3 => .object "MoleculeRegistry$Graph"
  | 4 => .object "MoleculeRegistry$Matcher"
  | 5 => .object "MoleculeRegistry$Shelf"
  | 6 => .object "MoleculeRegistry$Log"
  | 7 => .array .int
  | 8 => .int
  | 9 => .int
  | _ => .boolean
theorem nm_5 : ∀ a, a < 11 → ∀ b, b < 11 → a ≠ b → (TX_5 a).2.1 ≠ (TX_5 b).2.1 := by decide +kernel
theorem tk_5 : ∀ k, k < 11 → parseFieldDescriptor (TX_5 k).2.2.1 = some (ty_5 k) := by decide +kernel
def TX_6 : u_T := fun k => match k with
  | 0 => ("MoleculeRegistryModel", "thrown", "I", false)
  | 1 => ("MoleculeRegistryModel", "size", "I", false)
  | 2 => ("MoleculeRegistryModel", "buf", "[I", true)
  | 3 => ("MoleculeRegistryModel", "at", "I", false)
  | 4 => ("MoleculeRegistryModel", "many", "I", false)
  | 5 => ("MoleculeRegistryModel", "element", "[I", true)
  | 6 => ("MoleculeRegistryModel", "aromatic", "[Z", true)
  | 7 => ("MoleculeRegistryModel", "hydrogens", "[I", true)
  | 8 => ("MoleculeRegistryModel", "charge", "[I", true)
  | 9 => ("MoleculeRegistryModel", "bracket", "[Z", true)
  | 10 => ("MoleculeRegistryModel", "list", "[I", true)
  | 11 => ("MoleculeRegistryModel", "bonds", "[I", true)
  | 12 => ("MoleculeRegistryModel", "back", "[I", true)
  | 13 => ("MoleculeRegistryModel", "opener", "[I", true)
  | 14 => ("MoleculeRegistryModel", "openLink", "[I", true)
  | 15 => ("MoleculeRegistryModel", "good", "Z", false)
  | 16 => ("MoleculeRegistryModel", "count", "I", false)
  | 17 => ("MoleculeRegistryModel", "lastId", "I", false)
  | 18 => ("MoleculeRegistryModel", "ids", "[I", true)
  | 19 => ("MoleculeRegistryModel", "sizes", "[I", true)
  | 20 => ("MoleculeRegistryModel", "elements", "[I", true)
  | 21 => ("MoleculeRegistryModel", "aromatics", "[Z", true)
  | 22 => ("MoleculeRegistryModel", "hydrogenCounts", "[I", true)
  | 23 => ("MoleculeRegistryModel", "charges", "[I", true)
  | 24 => ("MoleculeRegistryModel", "allBonds", "[I", true)
  | 25 => ("MoleculeRegistryModel", "put", "[I", true)
  | 26 => ("MoleculeRegistryModel", "taken", "[Z", true)
  | 27 => ("MoleculeRegistryModel", "failure", "I", false)
  | 28 => ("MoleculeRegistryModel", "down", "Z", false)
  | 29 => ("MoleculeRegistryModel", "logged", "I", false)
  | 30 => ("MoleculeRegistryModel", "loggedId", "I", false)
  | 31 => ("MoleculeRegistryModel", "done", "Z", false)
  | 32 => ("MoleculeRegistryModel", "storeSize", "I", false)
  | 33 => ("MoleculeRegistryModel", "storeElement", "[I", true)
  | 34 => ("MoleculeRegistryModel", "storeAromatic", "[Z", true)
  | 35 => ("MoleculeRegistryModel", "storeHydrogens", "[I", true)
  | 36 => ("MoleculeRegistryModel", "storeCharge", "[I", true)
  | 37 => ("MoleculeRegistryModel", "storeBonds", "[I", true)
  | 38 => ("MoleculeRegistryModel", "finds", "I", false)
  | _ => ("MoleculeRegistryModel", "foundIds", "[I", true)
def ty_6 : Nat → FieldType := fun k => match k with
  | 0 => .int
  | 1 => .int
  | 2 => .array .int
  | 3 => .int
  | 4 => .int
  | 5 => .array .int
  | 6 => .array .boolean
  | 7 => .array .int
  | 8 => .array .int
  | 9 => .array .boolean
  | 10 => .array .int
  | 11 => .array .int
  | 12 => .array .int
  | 13 => .array .int
  | 14 => .array .int
  | 15 => .boolean
  | 16 => .int
  | 17 => .int
  | 18 => .array .int
  | 19 => .array .int
  | 20 => .array .int
  | 21 => .array .boolean
  | 22 => .array .int
  | 23 => .array .int
  | 24 => .array .int
  | 25 => .array .int
  | 26 => .array .boolean
  | 27 => .int
  | 28 => .boolean
  | 29 => .int
  | 30 => .int
  | 31 => .boolean
  | 32 => .int
  | 33 => .array .int
  | 34 => .array .boolean
  | 35 => .array .int
  | 36 => .array .int
  | 37 => .array .int
  | 38 => .int
  | _ => .array .int
theorem nm_6 : ∀ a, a < 40 → ∀ b, b < 40 → a ≠ b → (TX_6 a).2.1 ≠ (TX_6 b).2.1 := by decide +kernel
theorem tk_6 : ∀ k, k < 40 → parseFieldDescriptor (TX_6 k).2.2.1 = some (ty_6 k) := by decide +kernel
def TX_7 : u_T := fun k => match k with
  | _ => ("", "", "", false)
def ty_7 : Nat → FieldType := fun k => match k with
  | _ => .int
theorem nm_7 : ∀ a, a < 0 → ∀ b, b < 0 → a ≠ b → (TX_7 a).2.1 ≠ (TX_7 b).2.1 := by decide +kernel
theorem tk_7 : ∀ k, k < 0 → parseFieldDescriptor (TX_7 k).2.2.1 = some (ty_7 k) := by decide +kernel
def TX_8 : u_T := fun k => match k with
  | _ => ("", "", "", false)
def ty_8 : Nat → FieldType := fun k => match k with
  | _ => .int
theorem nm_8 : ∀ a, a < 0 → ∀ b, b < 0 → a ≠ b → (TX_8 a).2.1 ≠ (TX_8 b).2.1 := by decide +kernel
theorem tk_8 : ∀ k, k < 0 → parseFieldDescriptor (TX_8 k).2.2.1 = some (ty_8 k) := by decide +kernel
def TX_9 : u_T := fun k => match k with
  | _ => ("", "", "", false)
def ty_9 : Nat → FieldType := fun k => match k with
  | _ => .int
theorem nm_9 : ∀ a, a < 0 → ∀ b, b < 0 → a ≠ b → (TX_9 a).2.1 ≠ (TX_9 b).2.1 := by decide +kernel
theorem tk_9 : ∀ k, k < 0 → parseFieldDescriptor (TX_9 k).2.2.1 = some (ty_9 k) := by decide +kernel
def TX_10 : u_T := fun k => match k with
  | _ => ("", "", "", false)
def ty_10 : Nat → FieldType := fun k => match k with
  | _ => .int
theorem nm_10 : ∀ a, a < 0 → ∀ b, b < 0 → a ≠ b → (TX_10 a).2.1 ≠ (TX_10 b).2.1 := by decide +kernel
theorem tk_10 : ∀ k, k < 0 → parseFieldDescriptor (TX_10 k).2.2.1 = some (ty_10 k) := by decide +kernel
def TX_11 : u_T := fun k => match k with
  | _ => ("", "", "", false)
def ty_11 : Nat → FieldType := fun k => match k with
  | _ => .int
theorem nm_11 : ∀ a, a < 0 → ∀ b, b < 0 → a ≠ b → (TX_11 a).2.1 ≠ (TX_11 b).2.1 := by decide +kernel
theorem tk_11 : ∀ k, k < 0 → parseFieldDescriptor (TX_11 k).2.2.1 = some (ty_11 k) := by decide +kernel
def jx_cls : List vw_C := [("MoleculeRegistry$Graph", TX_0, 5), ("MoleculeRegistry$Log", TX_1, 4), ("MoleculeRegistry$Matcher", TX_2, 2), ("MoleculeRegistry$Reader", TX_3, 15), ("MoleculeRegistry$Shelf", TX_4, 4), ("MoleculeRegistry", TX_5, 11), ("MoleculeRegistryModel", TX_6, 40), ("java/lang/IllegalStateException", TX_7, 0), ("java/lang/IllegalArgumentException", TX_8, 0), ("java/lang/UnsupportedOperationException", TX_9, 0), ("java/lang/ArithmeticException", TX_10, 0), ("java/lang/IndexOutOfBoundsException", TX_11, 0)]
def V_0 : List Cond := [.classLink "MoleculeRegistryLaw" 8 "MoleculeRegistry",
  .instantiable "MoleculeRegistry" 11,
  .initialized "MoleculeRegistry",
  .methodLink "MoleculeRegistryLaw" 33 ⟨"MoleculeRegistry", "<init>", "()V"⟩,
  .code ⟨"MoleculeRegistry", "<init>", "()V"⟩ prog_1_method_1_code 1 none,
  .instanceMethod ⟨"MoleculeRegistry", "<init>", "()V"⟩,
  .classLink "MoleculeRegistryLaw" 34 "MoleculeRegistryModel",
  .instantiable "MoleculeRegistryModel" 40,
  .initialized "MoleculeRegistryModel",
  .methodLink "MoleculeRegistryLaw" 36 ⟨"MoleculeRegistryModel", "<init>", "()V"⟩,
  .code ⟨"MoleculeRegistryModel", "<init>", "()V"⟩ prog_9_method_1_code 1 none,
  .instanceMethod ⟨"MoleculeRegistryModel", "<init>", "()V"⟩,
  .arrayClass .long,
  .constantLong "MoleculeRegistryLaw" 37 4294967295,
  .methodLink "MoleculeRegistryLaw" 39 ⟨"MoleculeRegistry", "type", "(J)Z"⟩,
  .instanceMethod ⟨"MoleculeRegistry", "type", "(J)Z"⟩,
  .selects "MoleculeRegistry" ⟨"MoleculeRegistry", "type", "(J)Z"⟩ ⟨"MoleculeRegistry", "type", "(J)Z"⟩,
  .methodLink "MoleculeRegistryLaw" 43 ⟨"MoleculeRegistryModel", "type", "(J)Z"⟩,
  .instanceMethod ⟨"MoleculeRegistryModel", "type", "(J)Z"⟩,
  .selects "MoleculeRegistryModel" ⟨"MoleculeRegistryModel", "type", "(J)Z"⟩ ⟨"MoleculeRegistryModel", "type", "(J)Z"⟩,
  .methodLink "MoleculeRegistryLaw" 44 ⟨"MoleculeRegistry", "wipe", "()V"⟩,
  .instanceMethod ⟨"MoleculeRegistry", "wipe", "()V"⟩,
  .selects "MoleculeRegistry" ⟨"MoleculeRegistry", "wipe", "()V"⟩ ⟨"MoleculeRegistry", "wipe", "()V"⟩,
  .methodLink "MoleculeRegistryLaw" 47 ⟨"MoleculeRegistryModel", "wipe", "()V"⟩,
  .instanceMethod ⟨"MoleculeRegistryModel", "wipe", "()V"⟩,
  .selects "MoleculeRegistryModel" ⟨"MoleculeRegistryModel", "wipe", "()V"⟩ ⟨"MoleculeRegistryModel", "wipe", "()V"⟩,
  .methodLink "MoleculeRegistryLaw" 48 ⟨"MoleculeRegistryLaw", "register", "(LMoleculeRegistry;[J)I"⟩,
  .static ⟨"MoleculeRegistryLaw", "register", "(LMoleculeRegistry;[J)I"⟩,
  .initialized "MoleculeRegistryLaw",
  .methodLink "MoleculeRegistryLaw" 53 ⟨"MoleculeRegistryModel", "register", "()I"⟩,
  .instanceMethod ⟨"MoleculeRegistryModel", "register", "()I"⟩,
  .selects "MoleculeRegistryModel" ⟨"MoleculeRegistryModel", "register", "()I"⟩ ⟨"MoleculeRegistryModel", "register", "()I"⟩,
  .methodLink "MoleculeRegistryLaw" 54 ⟨"MoleculeRegistryModel", "thrown", "()I"⟩,
  .instanceMethod ⟨"MoleculeRegistryModel", "thrown", "()I"⟩,
  .selects "MoleculeRegistryModel" ⟨"MoleculeRegistryModel", "thrown", "()I"⟩ ⟨"MoleculeRegistryModel", "thrown", "()I"⟩,
  .methodLink "MoleculeRegistryLaw" 57 ⟨"MoleculeRegistryLaw", "lookup", "(LMoleculeRegistry;[J)I"⟩,
  .static ⟨"MoleculeRegistryLaw", "lookup", "(LMoleculeRegistry;[J)I"⟩,
  .methodLink "MoleculeRegistryLaw" 59 ⟨"MoleculeRegistryModel", "lookup", "()I"⟩,
  .instanceMethod ⟨"MoleculeRegistryModel", "lookup", "()I"⟩,
  .selects "MoleculeRegistryModel" ⟨"MoleculeRegistryModel", "lookup", "()I"⟩ ⟨"MoleculeRegistryModel", "lookup", "()I"⟩]
def V_1 : List Cond := [.methodLink "MoleculeRegistryLaw" 60 ⟨"MoleculeRegistryLaw", "search", "(LMoleculeRegistry;[J)I"⟩,
  .static ⟨"MoleculeRegistryLaw", "search", "(LMoleculeRegistry;[J)I"⟩,
  .methodLink "MoleculeRegistryLaw" 62 ⟨"MoleculeRegistryModel", "search", "()I"⟩,
  .instanceMethod ⟨"MoleculeRegistryModel", "search", "()I"⟩,
  .selects "MoleculeRegistryModel" ⟨"MoleculeRegistryModel", "search", "()I"⟩ ⟨"MoleculeRegistryModel", "search", "()I"⟩,
  .methodLink "MoleculeRegistryLaw" 63 ⟨"MoleculeRegistry", "found", "(I)I"⟩,
  .instanceMethod ⟨"MoleculeRegistry", "found", "(I)I"⟩,
  .selects "MoleculeRegistry" ⟨"MoleculeRegistry", "found", "(I)I"⟩ ⟨"MoleculeRegistry", "found", "(I)I"⟩,
  .methodLink "MoleculeRegistryLaw" 66 ⟨"MoleculeRegistryModel", "found", "(I)I"⟩,
  .instanceMethod ⟨"MoleculeRegistryModel", "found", "(I)I"⟩,
  .selects "MoleculeRegistryModel" ⟨"MoleculeRegistryModel", "found", "(I)I"⟩ ⟨"MoleculeRegistryModel", "found", "(I)I"⟩,
  .methodLink "MoleculeRegistryLaw" 67 ⟨"MoleculeRegistryLaw", "remove", "(LMoleculeRegistry;I[J)I"⟩,
  .static ⟨"MoleculeRegistryLaw", "remove", "(LMoleculeRegistry;I[J)I"⟩,
  .methodLink "MoleculeRegistryLaw" 70 ⟨"MoleculeRegistryModel", "remove", "(I)I"⟩,
  .instanceMethod ⟨"MoleculeRegistryModel", "remove", "(I)I"⟩,
  .selects "MoleculeRegistryModel" ⟨"MoleculeRegistryModel", "remove", "(I)I"⟩ ⟨"MoleculeRegistryModel", "remove", "(I)I"⟩,
  .methodLink "MoleculeRegistryLaw" 71 ⟨"MoleculeRegistry", "fail", "(I)Z"⟩,
  .instanceMethod ⟨"MoleculeRegistry", "fail", "(I)Z"⟩,
  .selects "MoleculeRegistry" ⟨"MoleculeRegistry", "fail", "(I)Z"⟩ ⟨"MoleculeRegistry", "fail", "(I)Z"⟩,
  .methodLink "MoleculeRegistryLaw" 75 ⟨"MoleculeRegistryModel", "fail", "(I)Z"⟩,
  .instanceMethod ⟨"MoleculeRegistryModel", "fail", "(I)Z"⟩,
  .selects "MoleculeRegistryModel" ⟨"MoleculeRegistryModel", "fail", "(I)Z"⟩ ⟨"MoleculeRegistryModel", "fail", "(I)Z"⟩,
  .methodLink "MoleculeRegistryLaw" 76 ⟨"MoleculeRegistry", "recover", "()I"⟩,
  .instanceMethod ⟨"MoleculeRegistry", "recover", "()I"⟩,
  .selects "MoleculeRegistry" ⟨"MoleculeRegistry", "recover", "()I"⟩ ⟨"MoleculeRegistry", "recover", "()I"⟩,
  .methodLink "MoleculeRegistryLaw" 79 ⟨"MoleculeRegistryModel", "recover", "()I"⟩,
  .instanceMethod ⟨"MoleculeRegistryModel", "recover", "()I"⟩,
  .selects "MoleculeRegistryModel" ⟨"MoleculeRegistryModel", "recover", "()I"⟩ ⟨"MoleculeRegistryModel", "recover", "()I"⟩,
  .methodLink "MoleculeRegistryLaw" 80 ⟨"MoleculeRegistry", "count", "()I"⟩,
  .instanceMethod ⟨"MoleculeRegistry", "count", "()I"⟩,
  .selects "MoleculeRegistry" ⟨"MoleculeRegistry", "count", "()I"⟩ ⟨"MoleculeRegistry", "count", "()I"⟩,
  .methodLink "MoleculeRegistryLaw" 83 ⟨"MoleculeRegistryModel", "count", "()I"⟩,
  .instanceMethod ⟨"MoleculeRegistryModel", "count", "()I"⟩,
  .selects "MoleculeRegistryModel" ⟨"MoleculeRegistryModel", "count", "()I"⟩ ⟨"MoleculeRegistryModel", "count", "()I"⟩,
  .methodLink "MoleculeRegistryLaw" 84 ⟨"MoleculeRegistry", "atoms", "(I)I"⟩,
  .instanceMethod ⟨"MoleculeRegistry", "atoms", "(I)I"⟩,
  .selects "MoleculeRegistry" ⟨"MoleculeRegistry", "atoms", "(I)I"⟩ ⟨"MoleculeRegistry", "atoms", "(I)I"⟩,
  .methodLink "MoleculeRegistryLaw" 87 ⟨"MoleculeRegistryModel", "atoms", "(I)I"⟩,
  .instanceMethod ⟨"MoleculeRegistryModel", "atoms", "(I)I"⟩,
  .selects "MoleculeRegistryModel" ⟨"MoleculeRegistryModel", "atoms", "(I)I"⟩ ⟨"MoleculeRegistryModel", "atoms", "(I)I"⟩]
def V_2 : List Cond := [.methodLink "MoleculeRegistryLaw" 88 ⟨"MoleculeRegistry", "atom", "(II)I"⟩,
  .instanceMethod ⟨"MoleculeRegistry", "atom", "(II)I"⟩,
  .selects "MoleculeRegistry" ⟨"MoleculeRegistry", "atom", "(II)I"⟩ ⟨"MoleculeRegistry", "atom", "(II)I"⟩,
  .methodLink "MoleculeRegistryLaw" 92 ⟨"MoleculeRegistryModel", "atom", "(II)I"⟩,
  .instanceMethod ⟨"MoleculeRegistryModel", "atom", "(II)I"⟩,
  .selects "MoleculeRegistryModel" ⟨"MoleculeRegistryModel", "atom", "(II)I"⟩ ⟨"MoleculeRegistryModel", "atom", "(II)I"⟩,
  .methodLink "MoleculeRegistryLaw" 93 ⟨"MoleculeRegistry", "bond", "(III)I"⟩,
  .instanceMethod ⟨"MoleculeRegistry", "bond", "(III)I"⟩,
  .selects "MoleculeRegistry" ⟨"MoleculeRegistry", "bond", "(III)I"⟩ ⟨"MoleculeRegistry", "bond", "(III)I"⟩,
  .methodLink "MoleculeRegistryLaw" 97 ⟨"MoleculeRegistryModel", "bond", "(III)I"⟩,
  .instanceMethod ⟨"MoleculeRegistryModel", "bond", "(III)I"⟩,
  .selects "MoleculeRegistryModel" ⟨"MoleculeRegistryModel", "bond", "(III)I"⟩ ⟨"MoleculeRegistryModel", "bond", "(III)I"⟩,
  .methodLink "MoleculeRegistry$Graph" 3 ⟨"java/lang/Object", "<init>", "()V"⟩,
  .instanceMethod ⟨"java/lang/Object", "<init>", "()V"⟩,
  .code ⟨"java/lang/Object", "<init>", "()V"⟩ object_method_1_code 1 none,
  .arrayClass .int,
  .fieldLink "MoleculeRegistry$Graph" 9 "MoleculeRegistry$Graph" "codes" "[I",
  .fieldLink "MoleculeRegistry$Graph" 15 "MoleculeRegistry$Graph" "kinds" "[I",
  .fieldLink "MoleculeRegistry$Graph" 18 "MoleculeRegistry$Graph" "near" "[I",
  .fieldLink "MoleculeRegistry$Graph" 27 "MoleculeRegistry$Graph" "size" "I",
  .fieldLink "MoleculeRegistry$Graph" 31 "MoleculeRegistry$Graph" "bondCount" "I",
  .methodLink "MoleculeRegistry$Graph" 21 ⟨"java/util/Arrays", "fill", "([II)V"⟩,
  .static ⟨"java/util/Arrays", "fill", "([II)V"⟩,
  .initialized "java/util/Arrays",
  .methodLink "MoleculeRegistry$Graph" 40 ⟨"MoleculeRegistry$Graph", "has", "(I)Z"⟩,
  .instanceMethod ⟨"MoleculeRegistry$Graph", "has", "(I)Z"⟩,
  .selects "MoleculeRegistry$Graph" ⟨"MoleculeRegistry$Graph", "has", "(I)Z"⟩ ⟨"MoleculeRegistry$Graph", "has", "(I)Z"⟩,
  .methodLink "MoleculeRegistry$Graph" 44 ⟨"MoleculeRegistry$Graph", "joinOneWay", "(III)V"⟩,
  .instanceMethod ⟨"MoleculeRegistry$Graph", "joinOneWay", "(III)V"⟩,
  .selects "MoleculeRegistry$Graph" ⟨"MoleculeRegistry$Graph", "joinOneWay", "(III)V"⟩ ⟨"MoleculeRegistry$Graph", "joinOneWay", "(III)V"⟩,
  .methodLink "MoleculeRegistry$Graph" 48 ⟨"java/lang/Integer", "bitCount", "(I)I"⟩,
  .static ⟨"java/lang/Integer", "bitCount", "(I)I"⟩,
  .initialized "java/lang/Integer",
  .methodLink "MoleculeRegistry$Log" 1 ⟨"java/lang/Object", "<init>", "()V"⟩,
  .classLink "MoleculeRegistry$Log" 7 "MoleculeRegistry$Graph",
  .instantiable "MoleculeRegistry$Graph" 5,
  .initialized "MoleculeRegistry$Graph",
  .methodLinkNest "MoleculeRegistry$Log" 9 ⟨"MoleculeRegistry$Graph", "<init>", "()V"⟩ "MoleculeRegistry",
  .code ⟨"MoleculeRegistry$Graph", "<init>", "()V"⟩ prog_3_method_1_code 1 none,
  .instanceMethod ⟨"MoleculeRegistry$Graph", "<init>", "()V"⟩]
def V_3 : List Cond := [.fieldLink "MoleculeRegistry$Log" 10 "MoleculeRegistry$Log" "molecule" "LMoleculeRegistry$Graph;",
  .fieldLink "MoleculeRegistry$Log" 28 "MoleculeRegistry$Log" "marked" "Z",
  .fieldLink "MoleculeRegistry$Log" 16 "MoleculeRegistry$Log" "removing" "Z",
  .fieldLink "MoleculeRegistry$Log" 20 "MoleculeRegistry$Log" "id" "I",
  .methodLink "MoleculeRegistry$Log" 24 ⟨"MoleculeRegistry$Graph", "copyFrom", "(LMoleculeRegistry$Graph;)V"⟩,
  .instanceMethod ⟨"MoleculeRegistry$Graph", "copyFrom", "(LMoleculeRegistry$Graph;)V"⟩,
  .selects "MoleculeRegistry$Graph" ⟨"MoleculeRegistry$Graph", "copyFrom", "(LMoleculeRegistry$Graph;)V"⟩ ⟨"MoleculeRegistry$Graph", "copyFrom", "(LMoleculeRegistry$Graph;)V"⟩,
  .methodLink "MoleculeRegistry$Matcher" 3 ⟨"java/lang/Object", "<init>", "()V"⟩,
  .fieldLink "MoleculeRegistry$Matcher" 9 "MoleculeRegistry$Matcher" "choices" "[I",
  .fieldLink "MoleculeRegistry$Matcher" 15 "MoleculeRegistry$Matcher" "places" "[I",
  .fieldLinkNest "MoleculeRegistry$Matcher" 18 "MoleculeRegistry$Graph" "size" "I" "MoleculeRegistry",
  .fieldLinkNest "MoleculeRegistry$Matcher" 24 "MoleculeRegistry$Graph" "bondCount" "I" "MoleculeRegistry",
  .methodLink "MoleculeRegistry$Matcher" 27 ⟨"MoleculeRegistry$Matcher", "findChoices", "(LMoleculeRegistry$Graph;LMoleculeRegistry$Graph;I)Z"⟩,
  .instanceMethod ⟨"MoleculeRegistry$Matcher", "findChoices", "(LMoleculeRegistry$Graph;LMoleculeRegistry$Graph;I)Z"⟩,
  .selects "MoleculeRegistry$Matcher" ⟨"MoleculeRegistry$Matcher", "findChoices", "(LMoleculeRegistry$Graph;LMoleculeRegistry$Graph;I)Z"⟩ ⟨"MoleculeRegistry$Matcher", "findChoices", "(LMoleculeRegistry$Graph;LMoleculeRegistry$Graph;I)Z"⟩,
  .methodLink "MoleculeRegistry$Matcher" 31 ⟨"MoleculeRegistry$Matcher", "everyAtom", "(LMoleculeRegistry$Graph;)I"⟩,
  .static ⟨"MoleculeRegistry$Matcher", "everyAtom", "(LMoleculeRegistry$Graph;)I"⟩,
  .initialized "MoleculeRegistry$Matcher",
  .methodLink "MoleculeRegistry$Matcher" 35 ⟨"MoleculeRegistry$Matcher", "canPlace", "(LMoleculeRegistry$Graph;LMoleculeRegistry$Graph;II)Z"⟩,
  .instanceMethod ⟨"MoleculeRegistry$Matcher", "canPlace", "(LMoleculeRegistry$Graph;LMoleculeRegistry$Graph;II)Z"⟩,
  .selects "MoleculeRegistry$Matcher" ⟨"MoleculeRegistry$Matcher", "canPlace", "(LMoleculeRegistry$Graph;LMoleculeRegistry$Graph;II)Z"⟩ ⟨"MoleculeRegistry$Matcher", "canPlace", "(LMoleculeRegistry$Graph;LMoleculeRegistry$Graph;II)Z"⟩,
  .fieldLinkNest "MoleculeRegistry$Matcher" 39 "MoleculeRegistry$Graph" "codes" "[I" "MoleculeRegistry",
  .methodLink "MoleculeRegistry$Matcher" 42 ⟨"MoleculeRegistry$Matcher", "fits", "(II)Z"⟩,
  .static ⟨"MoleculeRegistry$Matcher", "fits", "(II)Z"⟩,
  .methodLink "MoleculeRegistry$Matcher" 46 ⟨"MoleculeRegistry$Matcher", "hasBondsFor", "(LMoleculeRegistry$Graph;ILMoleculeRegistry$Graph;I)Z"⟩,
  .static ⟨"MoleculeRegistry$Matcher", "hasBondsFor", "(LMoleculeRegistry$Graph;ILMoleculeRegistry$Graph;I)Z"⟩,
  .methodLink "MoleculeRegistry$Matcher" 52 ⟨"java/lang/String", "indexOf", "(I)I"⟩,
  .instanceMethod ⟨"java/lang/String", "indexOf", "(I)I"⟩,
  .selects "java/lang/String" ⟨"java/lang/String", "indexOf", "(I)I"⟩ ⟨"java/lang/String", "indexOf", "(I)I"⟩,
  .methodLink "MoleculeRegistry$Matcher" 58 ⟨"MoleculeRegistry$Graph", "degree", "(II)I"⟩,
  .instanceMethod ⟨"MoleculeRegistry$Graph", "degree", "(II)I"⟩,
  .selects "MoleculeRegistry$Graph" ⟨"MoleculeRegistry$Graph", "degree", "(II)I"⟩ ⟨"MoleculeRegistry$Graph", "degree", "(II)I"⟩,
  .methodLink "MoleculeRegistry$Matcher" 62 ⟨"MoleculeRegistry$Graph", "kindBetween", "(II)I"⟩,
  .instanceMethod ⟨"MoleculeRegistry$Graph", "kindBetween", "(II)I"⟩,
  .selects "MoleculeRegistry$Graph" ⟨"MoleculeRegistry$Graph", "kindBetween", "(II)I"⟩ ⟨"MoleculeRegistry$Graph", "kindBetween", "(II)I"⟩,
  .methodLink "MoleculeRegistry$Matcher" 65 ⟨"MoleculeRegistry$Graph", "boundTo", "(II)I"⟩,
  .instanceMethod ⟨"MoleculeRegistry$Graph", "boundTo", "(II)I"⟩,
  .selects "MoleculeRegistry$Graph" ⟨"MoleculeRegistry$Graph", "boundTo", "(II)I"⟩ ⟨"MoleculeRegistry$Graph", "boundTo", "(II)I"⟩,
  .methodLink "MoleculeRegistry$Reader" 3 ⟨"java/lang/Object", "<init>", "()V"⟩,
  .arrayClass .char]
def V_4 : List Cond := [.fieldLink "MoleculeRegistry$Reader" 9 "MoleculeRegistry$Reader" "text" "[C",
  .fieldLink "MoleculeRegistry$Reader" 15 "MoleculeRegistry$Reader" "codes" "[I",
  .fieldLink "MoleculeRegistry$Reader" 19 "MoleculeRegistry$Reader" "written" "[I",
  .fieldLink "MoleculeRegistry$Reader" 22 "MoleculeRegistry$Reader" "bondFirst" "[I",
  .fieldLink "MoleculeRegistry$Reader" 25 "MoleculeRegistry$Reader" "bondSecond" "[I",
  .fieldLink "MoleculeRegistry$Reader" 28 "MoleculeRegistry$Reader" "bondKind" "[I",
  .fieldLink "MoleculeRegistry$Reader" 31 "MoleculeRegistry$Reader" "openAtom" "[I",
  .fieldLink "MoleculeRegistry$Reader" 34 "MoleculeRegistry$Reader" "openLink" "[I",
  .fieldLink "MoleculeRegistry$Reader" 37 "MoleculeRegistry$Reader" "branches" "[I",
  .methodLink "MoleculeRegistry$Reader" 40 ⟨"java/lang/Math", "min", "(II)I"⟩,
  .static ⟨"java/lang/Math", "min", "(II)I"⟩,
  .initialized "java/lang/Math",
  .fieldLink "MoleculeRegistry$Reader" 46 "MoleculeRegistry$Reader" "length" "I",
  .fieldLink "MoleculeRegistry$Reader" 56 "MoleculeRegistry$Reader" "asPattern" "Z",
  .fieldLink "MoleculeRegistry$Reader" 60 "MoleculeRegistry$Reader" "position" "I",
  .fieldLink "MoleculeRegistry$Reader" 63 "MoleculeRegistry$Reader" "size" "I",
  .fieldLink "MoleculeRegistry$Reader" 66 "MoleculeRegistry$Reader" "bondCount" "I",
  .fieldLink "MoleculeRegistry$Reader" 69 "MoleculeRegistry$Reader" "depth" "I",
  .methodLink "MoleculeRegistry$Reader" 72 ⟨"java/util/Arrays", "fill", "([II)V"⟩,
  .methodLink "MoleculeRegistry$Reader" 91 ⟨"MoleculeRegistry$Reader", "readLink", "()I"⟩,
  .instanceMethod ⟨"MoleculeRegistry$Reader", "readLink", "()I"⟩,
  .selects "MoleculeRegistry$Reader" ⟨"MoleculeRegistry$Reader", "readLink", "()I"⟩ ⟨"MoleculeRegistry$Reader", "readLink", "()I"⟩,
  .methodLink "MoleculeRegistry$Reader" 95 ⟨"MoleculeRegistry$Reader", "readAtom", "()Z"⟩,
  .instanceMethod ⟨"MoleculeRegistry$Reader", "readAtom", "()Z"⟩,
  .selects "MoleculeRegistry$Reader" ⟨"MoleculeRegistry$Reader", "readAtom", "()Z"⟩ ⟨"MoleculeRegistry$Reader", "readAtom", "()Z"⟩,
  .methodLink "MoleculeRegistry$Reader" 99 ⟨"MoleculeRegistry$Reader", "bind", "(III)Z"⟩,
  .instanceMethod ⟨"MoleculeRegistry$Reader", "bind", "(III)Z"⟩,
  .selects "MoleculeRegistry$Reader" ⟨"MoleculeRegistry$Reader", "bind", "(III)Z"⟩ ⟨"MoleculeRegistry$Reader", "bind", "(III)Z"⟩,
  .methodLink "MoleculeRegistry$Reader" 103 ⟨"MoleculeRegistry$Reader", "readClosures", "(I)Z"⟩,
  .instanceMethod ⟨"MoleculeRegistry$Reader", "readClosures", "(I)Z"⟩,
  .selects "MoleculeRegistry$Reader" ⟨"MoleculeRegistry$Reader", "readClosures", "(I)Z"⟩ ⟨"MoleculeRegistry$Reader", "readClosures", "(I)Z"⟩,
  .methodLink "MoleculeRegistry$Reader" 107 ⟨"MoleculeRegistry$Reader", "readPartEnds", "(I)I"⟩,
  .instanceMethod ⟨"MoleculeRegistry$Reader", "readPartEnds", "(I)I"⟩,
  .selects "MoleculeRegistry$Reader" ⟨"MoleculeRegistry$Reader", "readPartEnds", "(I)I"⟩ ⟨"MoleculeRegistry$Reader", "readPartEnds", "(I)I"⟩,
  .methodLink "MoleculeRegistry$Reader" 111 ⟨"MoleculeRegistry$Reader", "readPartStart", "(I)V"⟩,
  .instanceMethod ⟨"MoleculeRegistry$Reader", "readPartStart", "(I)V"⟩,
  .selects "MoleculeRegistry$Reader" ⟨"MoleculeRegistry$Reader", "readPartStart", "(I)V"⟩ ⟨"MoleculeRegistry$Reader", "readPartStart", "(I)V"⟩,
  .methodLink "MoleculeRegistry$Reader" 118 ⟨"MoleculeRegistry$Reader", "takes", "(C)Z"⟩,
  .instanceMethod ⟨"MoleculeRegistry$Reader", "takes", "(C)Z"⟩,
  .selects "MoleculeRegistry$Reader" ⟨"MoleculeRegistry$Reader", "takes", "(C)Z"⟩ ⟨"MoleculeRegistry$Reader", "takes", "(C)Z"⟩]
def V_5 : List Cond := [.methodLink "MoleculeRegistry$Reader" 114 ⟨"MoleculeRegistry$Reader", "here", "()C"⟩,
  .instanceMethod ⟨"MoleculeRegistry$Reader", "here", "()C"⟩,
  .selects "MoleculeRegistry$Reader" ⟨"MoleculeRegistry$Reader", "here", "()C"⟩ ⟨"MoleculeRegistry$Reader", "here", "()C"⟩,
  .methodLink "MoleculeRegistry$Reader" 133 ⟨"MoleculeRegistry$Reader", "readBrackets", "()Z"⟩,
  .instanceMethod ⟨"MoleculeRegistry$Reader", "readBrackets", "()Z"⟩,
  .selects "MoleculeRegistry$Reader" ⟨"MoleculeRegistry$Reader", "readBrackets", "()Z"⟩ ⟨"MoleculeRegistry$Reader", "readBrackets", "()Z"⟩,
  .methodLink "MoleculeRegistry$Reader" 136 ⟨"MoleculeRegistry$Reader", "addAtom", "(II)Z"⟩,
  .instanceMethod ⟨"MoleculeRegistry$Reader", "addAtom", "(II)Z"⟩,
  .selects "MoleculeRegistry$Reader" ⟨"MoleculeRegistry$Reader", "addAtom", "(II)Z"⟩ ⟨"MoleculeRegistry$Reader", "addAtom", "(II)Z"⟩,
  .methodLink "MoleculeRegistry$Reader" 141 ⟨"java/lang/String", "indexOf", "(I)I"⟩,
  .methodLink "MoleculeRegistry$Reader" 148 ⟨"MoleculeRegistry$Reader", "readList", "(C)Z"⟩,
  .instanceMethod ⟨"MoleculeRegistry$Reader", "readList", "(C)Z"⟩,
  .selects "MoleculeRegistry$Reader" ⟨"MoleculeRegistry$Reader", "readList", "(C)Z"⟩ ⟨"MoleculeRegistry$Reader", "readList", "(C)Z"⟩,
  .methodLink "MoleculeRegistry$Reader" 151 ⟨"MoleculeRegistry$Reader", "readHydrogens", "()I"⟩,
  .instanceMethod ⟨"MoleculeRegistry$Reader", "readHydrogens", "()I"⟩,
  .selects "MoleculeRegistry$Reader" ⟨"MoleculeRegistry$Reader", "readHydrogens", "()I"⟩ ⟨"MoleculeRegistry$Reader", "readHydrogens", "()I"⟩,
  .methodLink "MoleculeRegistry$Reader" 154 ⟨"MoleculeRegistry$Reader", "readCharge", "()I"⟩,
  .instanceMethod ⟨"MoleculeRegistry$Reader", "readCharge", "()I"⟩,
  .selects "MoleculeRegistry$Reader" ⟨"MoleculeRegistry$Reader", "readCharge", "()I"⟩ ⟨"MoleculeRegistry$Reader", "readCharge", "()I"⟩,
  .methodLink "MoleculeRegistry$Reader" 125 ⟨"MoleculeRegistry$Reader", "kindFor", "(III)I"⟩,
  .instanceMethod ⟨"MoleculeRegistry$Reader", "kindFor", "(III)I"⟩,
  .selects "MoleculeRegistry$Reader" ⟨"MoleculeRegistry$Reader", "kindFor", "(III)I"⟩ ⟨"MoleculeRegistry$Reader", "kindFor", "(III)I"⟩,
  .methodLink "MoleculeRegistry$Reader" 129 ⟨"MoleculeRegistry$Reader", "areBound", "(II)Z"⟩,
  .instanceMethod ⟨"MoleculeRegistry$Reader", "areBound", "(II)Z"⟩,
  .selects "MoleculeRegistry$Reader" ⟨"MoleculeRegistry$Reader", "areBound", "(II)Z"⟩ ⟨"MoleculeRegistry$Reader", "areBound", "(II)Z"⟩,
  .methodLink "MoleculeRegistry$Reader" 122 ⟨"MoleculeRegistry$Reader", "openOrClose", "(III)Z"⟩,
  .instanceMethod ⟨"MoleculeRegistry$Reader", "openOrClose", "(III)Z"⟩,
  .selects "MoleculeRegistry$Reader" ⟨"MoleculeRegistry$Reader", "openOrClose", "(III)Z"⟩ ⟨"MoleculeRegistry$Reader", "openOrClose", "(III)Z"⟩,
  .methodLink "MoleculeRegistry$Reader" 78 ⟨"MoleculeRegistry$Graph", "clear", "()V"⟩,
  .instanceMethod ⟨"MoleculeRegistry$Graph", "clear", "()V"⟩,
  .selects "MoleculeRegistry$Graph" ⟨"MoleculeRegistry$Graph", "clear", "()V"⟩ ⟨"MoleculeRegistry$Graph", "clear", "()V"⟩,
  .methodLink "MoleculeRegistry$Reader" 83 ⟨"MoleculeRegistry$Graph", "add", "(I)V"⟩,
  .instanceMethod ⟨"MoleculeRegistry$Graph", "add", "(I)V"⟩,
  .selects "MoleculeRegistry$Graph" ⟨"MoleculeRegistry$Graph", "add", "(I)V"⟩ ⟨"MoleculeRegistry$Graph", "add", "(I)V"⟩,
  .methodLink "MoleculeRegistry$Reader" 87 ⟨"MoleculeRegistry$Graph", "join", "(III)V"⟩,
  .instanceMethod ⟨"MoleculeRegistry$Graph", "join", "(III)V"⟩,
  .selects "MoleculeRegistry$Graph" ⟨"MoleculeRegistry$Graph", "join", "(III)V"⟩ ⟨"MoleculeRegistry$Graph", "join", "(III)V"⟩,
  .methodLink "MoleculeRegistry$Shelf" 3 ⟨"java/lang/Object", "<init>", "()V"⟩,
  .classLink "MoleculeRegistry$Shelf" 9 "MoleculeRegistry$Graph",
  .fieldLink "MoleculeRegistry$Shelf" 11 "MoleculeRegistry$Shelf" "molecules" "[LMoleculeRegistry$Graph;"]
def V_6 : List Cond := [.fieldLink "MoleculeRegistry$Shelf" 17 "MoleculeRegistry$Shelf" "ids" "[I",
  .methodLinkNest "MoleculeRegistry$Shelf" 21 ⟨"MoleculeRegistry$Graph", "<init>", "()V"⟩ "MoleculeRegistry",
  .fieldLink "MoleculeRegistry$Shelf" 22 "MoleculeRegistry$Shelf" "size" "I",
  .methodLink "MoleculeRegistry$Shelf" 33 ⟨"MoleculeRegistry$Shelf", "slotOf", "(I)I"⟩,
  .instanceMethod ⟨"MoleculeRegistry$Shelf", "slotOf", "(I)I"⟩,
  .selects "MoleculeRegistry$Shelf" ⟨"MoleculeRegistry$Shelf", "slotOf", "(I)I"⟩ ⟨"MoleculeRegistry$Shelf", "slotOf", "(I)I"⟩,
  .methodLink "MoleculeRegistry$Shelf" 26 ⟨"MoleculeRegistry$Graph", "copyFrom", "(LMoleculeRegistry$Graph;)V"⟩,
  .fieldLink "MoleculeRegistry$Shelf" 30 "MoleculeRegistry$Shelf" "lastId" "I",
  .methodLink "MoleculeRegistry" 3 ⟨"java/lang/Object", "<init>", "()V"⟩,
  .fieldLink "MoleculeRegistry" 9 "MoleculeRegistry" "buffer" "[C",
  .classLink "MoleculeRegistry" 13 "MoleculeRegistry$Reader",
  .instantiable "MoleculeRegistry$Reader" 15,
  .initialized "MoleculeRegistry$Reader",
  .methodLinkNest "MoleculeRegistry" 15 ⟨"MoleculeRegistry$Reader", "<init>", "()V"⟩ "MoleculeRegistry",
  .code ⟨"MoleculeRegistry$Reader", "<init>", "()V"⟩ prog_6_method_1_code 1 none,
  .instanceMethod ⟨"MoleculeRegistry$Reader", "<init>", "()V"⟩,
  .fieldLink "MoleculeRegistry" 16 "MoleculeRegistry" "reader" "LMoleculeRegistry$Reader;",
  .classLink "MoleculeRegistry" 20 "MoleculeRegistry$Graph",
  .methodLinkNest "MoleculeRegistry" 22 ⟨"MoleculeRegistry$Graph", "<init>", "()V"⟩ "MoleculeRegistry",
  .fieldLink "MoleculeRegistry" 23 "MoleculeRegistry" "read" "LMoleculeRegistry$Graph;",
  .classLink "MoleculeRegistry" 27 "MoleculeRegistry$Matcher",
  .instantiable "MoleculeRegistry$Matcher" 2,
  .methodLinkNest "MoleculeRegistry" 29 ⟨"MoleculeRegistry$Matcher", "<init>", "()V"⟩ "MoleculeRegistry",
  .code ⟨"MoleculeRegistry$Matcher", "<init>", "()V"⟩ prog_5_method_1_code 1 none,
  .instanceMethod ⟨"MoleculeRegistry$Matcher", "<init>", "()V"⟩,
  .fieldLink "MoleculeRegistry" 30 "MoleculeRegistry" "matcher" "LMoleculeRegistry$Matcher;",
  .classLink "MoleculeRegistry" 34 "MoleculeRegistry$Shelf",
  .instantiable "MoleculeRegistry$Shelf" 4,
  .initialized "MoleculeRegistry$Shelf",
  .methodLink "MoleculeRegistry" 36 ⟨"MoleculeRegistry$Shelf", "<init>", "()V"⟩,
  .code ⟨"MoleculeRegistry$Shelf", "<init>", "()V"⟩ prog_7_method_1_code 2 none,
  .instanceMethod ⟨"MoleculeRegistry$Shelf", "<init>", "()V"⟩,
  .fieldLink "MoleculeRegistry" 37 "MoleculeRegistry" "shelf" "LMoleculeRegistry$Shelf;",
  .classLink "MoleculeRegistry" 41 "MoleculeRegistry$Log",
  .instantiable "MoleculeRegistry$Log" 4,
  .initialized "MoleculeRegistry$Log",
  .methodLinkNest "MoleculeRegistry" 43 ⟨"MoleculeRegistry$Log", "<init>", "()V"⟩ "MoleculeRegistry",
  .code ⟨"MoleculeRegistry$Log", "<init>", "()V"⟩ prog_4_method_1_code 1 none,
  .instanceMethod ⟨"MoleculeRegistry$Log", "<init>", "()V"⟩,
  .fieldLink "MoleculeRegistry" 44 "MoleculeRegistry" "log" "LMoleculeRegistry$Log;"]
def V_7 : List Cond := [.fieldLink "MoleculeRegistry" 48 "MoleculeRegistry" "hits" "[I",
  .fieldLink "MoleculeRegistry" 52 "MoleculeRegistry" "toldFailure" "I",
  .methodLink "MoleculeRegistry" 56 ⟨"MoleculeRegistry", "byteAt", "(JI)I"⟩,
  .static ⟨"MoleculeRegistry", "byteAt", "(JI)I"⟩,
  .fieldLink "MoleculeRegistry" 60 "MoleculeRegistry" "typed" "I",
  .methodLink "MoleculeRegistry" 63 ⟨"MoleculeRegistry", "append", "(J)V"⟩,
  .instanceMethod ⟨"MoleculeRegistry", "append", "(J)V"⟩,
  .selects "MoleculeRegistry" ⟨"MoleculeRegistry", "append", "(J)V"⟩ ⟨"MoleculeRegistry", "append", "(J)V"⟩,
  .fieldLink "MoleculeRegistry" 92 "MoleculeRegistry" "hitCount" "I",
  .fieldLink "MoleculeRegistry" 113 "MoleculeRegistry" "down" "Z",
  .fieldLinkNest "MoleculeRegistry" 117 "MoleculeRegistry$Log" "marked" "Z" "MoleculeRegistry",
  .methodLink "MoleculeRegistry" 120 ⟨"MoleculeRegistry", "carryOut", "()V"⟩,
  .instanceMethod ⟨"MoleculeRegistry", "carryOut", "()V"⟩,
  .selects "MoleculeRegistry" ⟨"MoleculeRegistry", "carryOut", "()V"⟩ ⟨"MoleculeRegistry", "carryOut", "()V"⟩,
  .methodLink "MoleculeRegistry" 123 ⟨"MoleculeRegistry$Log", "clear", "()V"⟩,
  .instanceMethod ⟨"MoleculeRegistry$Log", "clear", "()V"⟩,
  .selects "MoleculeRegistry$Log" ⟨"MoleculeRegistry$Log", "clear", "()V"⟩ ⟨"MoleculeRegistry$Log", "clear", "()V"⟩,
  .fieldLinkNest "MoleculeRegistry" 194 "MoleculeRegistry$Log" "id" "I" "MoleculeRegistry",
  .methodLink "MoleculeRegistry" 109 ⟨"MoleculeRegistry$Shelf", "slotOf", "(I)I"⟩,
  .fieldLinkNest "MoleculeRegistry" 197 "MoleculeRegistry$Log" "removing" "Z" "MoleculeRegistry",
  .methodLink "MoleculeRegistry" 200 ⟨"MoleculeRegistry$Shelf", "take", "(I)V"⟩,
  .instanceMethod ⟨"MoleculeRegistry$Shelf", "take", "(I)V"⟩,
  .selects "MoleculeRegistry$Shelf" ⟨"MoleculeRegistry$Shelf", "take", "(I)V"⟩ ⟨"MoleculeRegistry$Shelf", "take", "(I)V"⟩,
  .fieldLinkNest "MoleculeRegistry" 204 "MoleculeRegistry$Log" "molecule" "LMoleculeRegistry$Graph;" "MoleculeRegistry",
  .methodLink "MoleculeRegistry" 207 ⟨"MoleculeRegistry$Shelf", "put", "(ILMoleculeRegistry$Graph;)V"⟩,
  .instanceMethod ⟨"MoleculeRegistry$Shelf", "put", "(ILMoleculeRegistry$Graph;)V"⟩,
  .selects "MoleculeRegistry$Shelf" ⟨"MoleculeRegistry$Shelf", "put", "(ILMoleculeRegistry$Graph;)V"⟩ ⟨"MoleculeRegistry$Shelf", "put", "(ILMoleculeRegistry$Graph;)V"⟩,
  .fieldLinkNest "MoleculeRegistry" 75 "MoleculeRegistry$Shelf" "size" "I" "MoleculeRegistry",
  .methodLink "MoleculeRegistry" 126 ⟨"MoleculeRegistry", "visible", "(I)LMoleculeRegistry$Graph;"⟩,
  .instanceMethod ⟨"MoleculeRegistry", "visible", "(I)LMoleculeRegistry$Graph;"⟩,
  .selects "MoleculeRegistry" ⟨"MoleculeRegistry", "visible", "(I)LMoleculeRegistry$Graph;"⟩ ⟨"MoleculeRegistry", "visible", "(I)LMoleculeRegistry$Graph;"⟩,
  .fieldLinkNest "MoleculeRegistry" 130 "MoleculeRegistry$Graph" "size" "I" "MoleculeRegistry",
  .fieldLinkNest "MoleculeRegistry" 95 "MoleculeRegistry$Shelf" "molecules" "[LMoleculeRegistry$Graph;" "MoleculeRegistry",
  .methodLink "MoleculeRegistry" 131 ⟨"MoleculeRegistry$Graph", "has", "(I)Z"⟩,
  .fieldLinkNest "MoleculeRegistry" 135 "MoleculeRegistry$Graph" "codes" "[I" "MoleculeRegistry",
  .methodLink "MoleculeRegistry" 138 ⟨"MoleculeRegistry$Graph", "kindBetween", "(II)I"⟩,
  .methodLink "MoleculeRegistry" 67 ⟨"MoleculeRegistry", "readBuffer", "(Z)V"⟩,
  .instanceMethod ⟨"MoleculeRegistry", "readBuffer", "(Z)V"⟩,
  .selects "MoleculeRegistry" ⟨"MoleculeRegistry", "readBuffer", "(Z)V"⟩ ⟨"MoleculeRegistry", "readBuffer", "(Z)V"⟩,
  .methodLink "MoleculeRegistry" 71 ⟨"MoleculeRegistry", "idOfSame", "()I"⟩]
def V_8 : List Cond := [.instanceMethod ⟨"MoleculeRegistry", "idOfSame", "()I"⟩,
  .selects "MoleculeRegistry" ⟨"MoleculeRegistry", "idOfSame", "()I"⟩ ⟨"MoleculeRegistry", "idOfSame", "()I"⟩,
  .fieldLinkNest "MoleculeRegistry" 85 "MoleculeRegistry$Shelf" "lastId" "I" "MoleculeRegistry",
  .methodLink "MoleculeRegistry" 88 ⟨"MoleculeRegistry", "change", "(ZI)Z"⟩,
  .instanceMethod ⟨"MoleculeRegistry", "change", "(ZI)Z"⟩,
  .selects "MoleculeRegistry" ⟨"MoleculeRegistry", "change", "(ZI)Z"⟩ ⟨"MoleculeRegistry", "change", "(ZI)Z"⟩,
  .methodLink "MoleculeRegistry" 106 ⟨"MoleculeRegistry", "refuseWhenDown", "()V"⟩,
  .instanceMethod ⟨"MoleculeRegistry", "refuseWhenDown", "()V"⟩,
  .selects "MoleculeRegistry" ⟨"MoleculeRegistry", "refuseWhenDown", "()V"⟩ ⟨"MoleculeRegistry", "refuseWhenDown", "()V"⟩,
  .methodLink "MoleculeRegistry" 147 ⟨"MoleculeRegistry$Reader", "start", "([CIZ)V"⟩,
  .instanceMethod ⟨"MoleculeRegistry$Reader", "start", "([CIZ)V"⟩,
  .selects "MoleculeRegistry$Reader" ⟨"MoleculeRegistry$Reader", "start", "([CIZ)V"⟩ ⟨"MoleculeRegistry$Reader", "start", "([CIZ)V"⟩,
  .methodLink "MoleculeRegistry" 151 ⟨"MoleculeRegistry$Reader", "readAtoms", "()Z"⟩,
  .instanceMethod ⟨"MoleculeRegistry$Reader", "readAtoms", "()Z"⟩,
  .selects "MoleculeRegistry$Reader" ⟨"MoleculeRegistry$Reader", "readAtoms", "()Z"⟩ ⟨"MoleculeRegistry$Reader", "readAtoms", "()Z"⟩,
  .methodLink "MoleculeRegistry" 155 ⟨"MoleculeRegistry$Reader", "aDigitIsOpen", "()Z"⟩,
  .instanceMethod ⟨"MoleculeRegistry$Reader", "aDigitIsOpen", "()Z"⟩,
  .selects "MoleculeRegistry$Reader" ⟨"MoleculeRegistry$Reader", "aDigitIsOpen", "()Z"⟩ ⟨"MoleculeRegistry$Reader", "aDigitIsOpen", "()Z"⟩,
  .fieldLinkNest "MoleculeRegistry" 163 "MoleculeRegistry$Reader" "size" "I" "MoleculeRegistry",
  .methodLink "MoleculeRegistry" 169 ⟨"MoleculeRegistry$Reader", "fill", "(LMoleculeRegistry$Graph;)V"⟩,
  .instanceMethod ⟨"MoleculeRegistry$Reader", "fill", "(LMoleculeRegistry$Graph;)V"⟩,
  .selects "MoleculeRegistry$Reader" ⟨"MoleculeRegistry$Reader", "fill", "(LMoleculeRegistry$Graph;)V"⟩ ⟨"MoleculeRegistry$Reader", "fill", "(LMoleculeRegistry$Graph;)V"⟩,
  .fieldLinkNest "MoleculeRegistry" 173 "MoleculeRegistry$Reader" "written" "[I" "MoleculeRegistry",
  .methodLink "MoleculeRegistry" 176 ⟨"MoleculeRegistry$Chemistry", "settle", "(LMoleculeRegistry$Graph;[I)Z"⟩,
  .static ⟨"MoleculeRegistry$Chemistry", "settle", "(LMoleculeRegistry$Graph;[I)Z"⟩,
  .initialized "MoleculeRegistry$Chemistry",
  .methodLink "MoleculeRegistry" 187 ⟨"MoleculeRegistry$Matcher", "areSame", "(LMoleculeRegistry$Graph;LMoleculeRegistry$Graph;)Z"⟩,
  .instanceMethod ⟨"MoleculeRegistry$Matcher", "areSame", "(LMoleculeRegistry$Graph;LMoleculeRegistry$Graph;)Z"⟩,
  .selects "MoleculeRegistry$Matcher" ⟨"MoleculeRegistry$Matcher", "areSame", "(LMoleculeRegistry$Graph;LMoleculeRegistry$Graph;)Z"⟩ ⟨"MoleculeRegistry$Matcher", "areSame", "(LMoleculeRegistry$Graph;LMoleculeRegistry$Graph;)Z"⟩,
  .fieldLinkNest "MoleculeRegistry" 103 "MoleculeRegistry$Shelf" "ids" "[I" "MoleculeRegistry",
  .methodLink "MoleculeRegistry" 190 ⟨"MoleculeRegistry$Log", "write", "(ZILMoleculeRegistry$Graph;)V"⟩,
  .instanceMethod ⟨"MoleculeRegistry$Log", "write", "(ZILMoleculeRegistry$Graph;)V"⟩,
  .selects "MoleculeRegistry$Log" ⟨"MoleculeRegistry$Log", "write", "(ZILMoleculeRegistry$Graph;)V"⟩ ⟨"MoleculeRegistry$Log", "write", "(ZILMoleculeRegistry$Graph;)V"⟩,
  .methodLink "MoleculeRegistry" 99 ⟨"MoleculeRegistry$Matcher", "isIn", "(LMoleculeRegistry$Graph;LMoleculeRegistry$Graph;)Z"⟩,
  .instanceMethod ⟨"MoleculeRegistry$Matcher", "isIn", "(LMoleculeRegistry$Graph;LMoleculeRegistry$Graph;)Z"⟩,
  .selects "MoleculeRegistry$Matcher" ⟨"MoleculeRegistry$Matcher", "isIn", "(LMoleculeRegistry$Graph;LMoleculeRegistry$Graph;)Z"⟩ ⟨"MoleculeRegistry$Matcher", "isIn", "(LMoleculeRegistry$Graph;LMoleculeRegistry$Graph;)Z"⟩,
  .methodLink "MoleculeRegistryModel" 1 ⟨"java/lang/Object", "<init>", "()V"⟩,
  .fieldLink "MoleculeRegistryModel" 7 "MoleculeRegistryModel" "buf" "[I",
  .fieldLink "MoleculeRegistryModel" 13 "MoleculeRegistryModel" "element" "[I",
  .arrayClass .boolean]
def V_9 : List Cond := [.fieldLink "MoleculeRegistryModel" 16 "MoleculeRegistryModel" "aromatic" "[Z",
  .fieldLink "MoleculeRegistryModel" 20 "MoleculeRegistryModel" "hydrogens" "[I",
  .fieldLink "MoleculeRegistryModel" 23 "MoleculeRegistryModel" "charge" "[I",
  .fieldLink "MoleculeRegistryModel" 26 "MoleculeRegistryModel" "bracket" "[Z",
  .fieldLink "MoleculeRegistryModel" 29 "MoleculeRegistryModel" "list" "[I",
  .fieldLink "MoleculeRegistryModel" 32 "MoleculeRegistryModel" "bonds" "[I",
  .fieldLink "MoleculeRegistryModel" 35 "MoleculeRegistryModel" "back" "[I",
  .fieldLink "MoleculeRegistryModel" 38 "MoleculeRegistryModel" "opener" "[I",
  .fieldLink "MoleculeRegistryModel" 41 "MoleculeRegistryModel" "openLink" "[I",
  .fieldLink "MoleculeRegistryModel" 44 "MoleculeRegistryModel" "ids" "[I",
  .fieldLink "MoleculeRegistryModel" 47 "MoleculeRegistryModel" "sizes" "[I",
  .fieldLink "MoleculeRegistryModel" 50 "MoleculeRegistryModel" "elements" "[I",
  .fieldLink "MoleculeRegistryModel" 53 "MoleculeRegistryModel" "aromatics" "[Z",
  .fieldLink "MoleculeRegistryModel" 56 "MoleculeRegistryModel" "hydrogenCounts" "[I",
  .fieldLink "MoleculeRegistryModel" 59 "MoleculeRegistryModel" "charges" "[I",
  .fieldLink "MoleculeRegistryModel" 62 "MoleculeRegistryModel" "allBonds" "[I",
  .fieldLink "MoleculeRegistryModel" 65 "MoleculeRegistryModel" "put" "[I",
  .fieldLink "MoleculeRegistryModel" 68 "MoleculeRegistryModel" "taken" "[Z",
  .fieldLink "MoleculeRegistryModel" 71 "MoleculeRegistryModel" "storeElement" "[I",
  .fieldLink "MoleculeRegistryModel" 74 "MoleculeRegistryModel" "storeAromatic" "[Z",
  .fieldLink "MoleculeRegistryModel" 77 "MoleculeRegistryModel" "storeHydrogens" "[I",
  .fieldLink "MoleculeRegistryModel" 80 "MoleculeRegistryModel" "storeCharge" "[I",
  .fieldLink "MoleculeRegistryModel" 83 "MoleculeRegistryModel" "storeBonds" "[I",
  .fieldLink "MoleculeRegistryModel" 86 "MoleculeRegistryModel" "foundIds" "[I",
  .fieldLink "MoleculeRegistryModel" 89 "MoleculeRegistryModel" "thrown" "I",
  .fieldLink "MoleculeRegistryModel" 93 "MoleculeRegistryModel" "size" "I",
  .fieldLink "MoleculeRegistryModel" 201 "MoleculeRegistryModel" "down" "Z",
  .methodLink "MoleculeRegistryModel" 210 ⟨"MoleculeRegistryModel", "raise", "(I)I"⟩,
  .instanceMethod ⟨"MoleculeRegistryModel", "raise", "(I)I"⟩,
  .selects "MoleculeRegistryModel" ⟨"MoleculeRegistryModel", "raise", "(I)I"⟩ ⟨"MoleculeRegistryModel", "raise", "(I)I"⟩,
  .methodLink "MoleculeRegistryModel" 213 ⟨"MoleculeRegistryModel", "wrongness", "()I"⟩,
  .instanceMethod ⟨"MoleculeRegistryModel", "wrongness", "()I"⟩,
  .selects "MoleculeRegistryModel" ⟨"MoleculeRegistryModel", "wrongness", "()I"⟩ ⟨"MoleculeRegistryModel", "wrongness", "()I"⟩,
  .methodLink "MoleculeRegistryModel" 216 ⟨"MoleculeRegistryModel", "same", "()I"⟩,
  .instanceMethod ⟨"MoleculeRegistryModel", "same", "()I"⟩,
  .selects "MoleculeRegistryModel" ⟨"MoleculeRegistryModel", "same", "()I"⟩ ⟨"MoleculeRegistryModel", "same", "()I"⟩,
  .fieldLink "MoleculeRegistryModel" 169 "MoleculeRegistryModel" "count" "I",
  .methodLink "MoleculeRegistryModel" 219 ⟨"MoleculeRegistryModel", "keepText", "()V"⟩,
  .instanceMethod ⟨"MoleculeRegistryModel", "keepText", "()V"⟩,
  .selects "MoleculeRegistryModel" ⟨"MoleculeRegistryModel", "keepText", "()V"⟩ ⟨"MoleculeRegistryModel", "keepText", "()V"⟩]
def V_10 : List Cond := [.fieldLink "MoleculeRegistryModel" 185 "MoleculeRegistryModel" "lastId" "I",
  .methodLink "MoleculeRegistryModel" 222 ⟨"MoleculeRegistryModel", "change", "(II)Z"⟩,
  .instanceMethod ⟨"MoleculeRegistryModel", "change", "(II)Z"⟩,
  .selects "MoleculeRegistryModel" ⟨"MoleculeRegistryModel", "change", "(II)Z"⟩ ⟨"MoleculeRegistryModel", "change", "(II)Z"⟩,
  .methodLink "MoleculeRegistryModel" 153 ⟨"MoleculeRegistryModel", "read", "(Z)Z"⟩,
  .instanceMethod ⟨"MoleculeRegistryModel", "read", "(Z)Z"⟩,
  .selects "MoleculeRegistryModel" ⟨"MoleculeRegistryModel", "read", "(Z)Z"⟩ ⟨"MoleculeRegistryModel", "read", "(Z)Z"⟩,
  .fieldLink "MoleculeRegistryModel" 96 "MoleculeRegistryModel" "many" "I",
  .methodLink "MoleculeRegistryModel" 156 ⟨"MoleculeRegistryModel", "valences", "()Z"⟩,
  .instanceMethod ⟨"MoleculeRegistryModel", "valences", "()Z"⟩,
  .selects "MoleculeRegistryModel" ⟨"MoleculeRegistryModel", "valences", "()Z"⟩ ⟨"MoleculeRegistryModel", "valences", "()Z"⟩,
  .methodLink "MoleculeRegistryModel" 159 ⟨"MoleculeRegistryModel", "matching", "()Z"⟩,
  .instanceMethod ⟨"MoleculeRegistryModel", "matching", "()Z"⟩,
  .selects "MoleculeRegistryModel" ⟨"MoleculeRegistryModel", "matching", "()Z"⟩ ⟨"MoleculeRegistryModel", "matching", "()Z"⟩,
  .fieldLink "MoleculeRegistryModel" 99 "MoleculeRegistryModel" "at" "I",
  .fieldLink "MoleculeRegistryModel" 120 "MoleculeRegistryModel" "good" "Z",
  .methodLink "MoleculeRegistryModel" 102 ⟨"MoleculeRegistryModel", "ch", "(I)I"⟩,
  .instanceMethod ⟨"MoleculeRegistryModel", "ch", "(I)I"⟩,
  .selects "MoleculeRegistryModel" ⟨"MoleculeRegistryModel", "ch", "(I)I"⟩ ⟨"MoleculeRegistryModel", "ch", "(I)I"⟩,
  .methodLink "MoleculeRegistryModel" 124 ⟨"MoleculeRegistryModel", "linkOf", "(IZ)I"⟩,
  .static ⟨"MoleculeRegistryModel", "linkOf", "(IZ)I"⟩,
  .methodLink "MoleculeRegistryModel" 132 ⟨"MoleculeRegistryModel", "atom", "(Z)Z"⟩,
  .instanceMethod ⟨"MoleculeRegistryModel", "atom", "(Z)Z"⟩,
  .selects "MoleculeRegistryModel" ⟨"MoleculeRegistryModel", "atom", "(Z)Z"⟩ ⟨"MoleculeRegistryModel", "atom", "(Z)Z"⟩,
  .methodLink "MoleculeRegistryModel" 128 ⟨"MoleculeRegistryModel", "bind", "(III)V"⟩,
  .instanceMethod ⟨"MoleculeRegistryModel", "bind", "(III)V"⟩,
  .selects "MoleculeRegistryModel" ⟨"MoleculeRegistryModel", "bind", "(III)V"⟩ ⟨"MoleculeRegistryModel", "bind", "(III)V"⟩,
  .methodLink "MoleculeRegistryModel" 136 ⟨"MoleculeRegistryModel", "closures", "(IZ)V"⟩,
  .instanceMethod ⟨"MoleculeRegistryModel", "closures", "(IZ)V"⟩,
  .selects "MoleculeRegistryModel" ⟨"MoleculeRegistryModel", "closures", "(IZ)V"⟩ ⟨"MoleculeRegistryModel", "closures", "(IZ)V"⟩,
  .methodLink "MoleculeRegistryModel" 106 ⟨"MoleculeRegistryModel", "placeOf", "(I)I"⟩,
  .static ⟨"MoleculeRegistryModel", "placeOf", "(I)I"⟩,
  .methodLink "MoleculeRegistryModel" 109 ⟨"MoleculeRegistryModel", "newAtom", "(IZ)V"⟩,
  .instanceMethod ⟨"MoleculeRegistryModel", "newAtom", "(IZ)V"⟩,
  .selects "MoleculeRegistryModel" ⟨"MoleculeRegistryModel", "newAtom", "(IZ)V"⟩ ⟨"MoleculeRegistryModel", "newAtom", "(IZ)V"⟩,
  .methodLink "MoleculeRegistryModel" 113 ⟨"MoleculeRegistryModel", "several", "()Z"⟩,
  .instanceMethod ⟨"MoleculeRegistryModel", "several", "()Z"⟩,
  .selects "MoleculeRegistryModel" ⟨"MoleculeRegistryModel", "several", "()Z"⟩ ⟨"MoleculeRegistryModel", "several", "()Z"⟩,
  .methodLink "MoleculeRegistryModel" 117 ⟨"MoleculeRegistryModel", "one", "()Z"⟩,
  .instanceMethod ⟨"MoleculeRegistryModel", "one", "()Z"⟩]
def V_11 : List Cond := [.selects "MoleculeRegistryModel" ⟨"MoleculeRegistryModel", "one", "()Z"⟩ ⟨"MoleculeRegistryModel", "one", "()Z"⟩,
  .methodLink "MoleculeRegistryModel" 139 ⟨"MoleculeRegistryModel", "orders", "(I)I"⟩,
  .instanceMethod ⟨"MoleculeRegistryModel", "orders", "(I)I"⟩,
  .selects "MoleculeRegistryModel" ⟨"MoleculeRegistryModel", "orders", "(I)I"⟩ ⟨"MoleculeRegistryModel", "orders", "(I)I"⟩,
  .methodLink "MoleculeRegistryModel" 142 ⟨"MoleculeRegistryModel", "most", "(I)I"⟩,
  .instanceMethod ⟨"MoleculeRegistryModel", "most", "(I)I"⟩,
  .selects "MoleculeRegistryModel" ⟨"MoleculeRegistryModel", "most", "(I)I"⟩ ⟨"MoleculeRegistryModel", "most", "(I)I"⟩,
  .methodLink "MoleculeRegistryModel" 145 ⟨"MoleculeRegistryModel", "pairs", "(I)Z"⟩,
  .instanceMethod ⟨"MoleculeRegistryModel", "pairs", "(I)Z"⟩,
  .selects "MoleculeRegistryModel" ⟨"MoleculeRegistryModel", "pairs", "(I)Z"⟩ ⟨"MoleculeRegistryModel", "pairs", "(I)Z"⟩,
  .methodLink "MoleculeRegistryModel" 149 ⟨"MoleculeRegistryModel", "free", "()I"⟩,
  .instanceMethod ⟨"MoleculeRegistryModel", "free", "()I"⟩,
  .selects "MoleculeRegistryModel" ⟨"MoleculeRegistryModel", "free", "()I"⟩ ⟨"MoleculeRegistryModel", "free", "()I"⟩,
  .methodLink "MoleculeRegistryModel" 172 ⟨"MoleculeRegistryModel", "canBePut", "(IZ)Z"⟩,
  .instanceMethod ⟨"MoleculeRegistryModel", "canBePut", "(IZ)Z"⟩,
  .selects "MoleculeRegistryModel" ⟨"MoleculeRegistryModel", "canBePut", "(IZ)Z"⟩ ⟨"MoleculeRegistryModel", "canBePut", "(IZ)Z"⟩,
  .methodLink "MoleculeRegistryModel" 166 ⟨"MoleculeRegistryModel", "agrees", "(IIIZ)Z"⟩,
  .instanceMethod ⟨"MoleculeRegistryModel", "agrees", "(IIIZ)Z"⟩,
  .selects "MoleculeRegistryModel" ⟨"MoleculeRegistryModel", "agrees", "(IIIZ)Z"⟩ ⟨"MoleculeRegistryModel", "agrees", "(IIIZ)Z"⟩,
  .methodLink "MoleculeRegistryModel" 162 ⟨"MoleculeRegistryModel", "fits", "(IIIZ)Z"⟩,
  .instanceMethod ⟨"MoleculeRegistryModel", "fits", "(IIIZ)Z"⟩,
  .selects "MoleculeRegistryModel" ⟨"MoleculeRegistryModel", "fits", "(IIIZ)Z"⟩ ⟨"MoleculeRegistryModel", "fits", "(IIIZ)Z"⟩,
  .fieldLink "MoleculeRegistryModel" 176 "MoleculeRegistryModel" "storeSize" "I",
  .fieldLink "MoleculeRegistryModel" 195 "MoleculeRegistryModel" "failure" "I",
  .fieldLink "MoleculeRegistryModel" 198 "MoleculeRegistryModel" "finds" "I",
  .fieldLink "MoleculeRegistryModel" 179 "MoleculeRegistryModel" "logged" "I",
  .fieldLink "MoleculeRegistryModel" 182 "MoleculeRegistryModel" "loggedId" "I",
  .fieldLink "MoleculeRegistryModel" 204 "MoleculeRegistryModel" "done" "Z",
  .methodLink "MoleculeRegistryModel" 207 ⟨"MoleculeRegistryModel", "perform", "()V"⟩,
  .instanceMethod ⟨"MoleculeRegistryModel", "perform", "()V"⟩,
  .selects "MoleculeRegistryModel" ⟨"MoleculeRegistryModel", "perform", "()V"⟩ ⟨"MoleculeRegistryModel", "perform", "()V"⟩,
  .methodLink "MoleculeRegistryModel" 188 ⟨"MoleculeRegistryModel", "placeOfId", "(I)I"⟩,
  .instanceMethod ⟨"MoleculeRegistryModel", "placeOfId", "(I)I"⟩,
  .selects "MoleculeRegistryModel" ⟨"MoleculeRegistryModel", "placeOfId", "(I)I"⟩ ⟨"MoleculeRegistryModel", "placeOfId", "(I)I"⟩,
  .methodLink "MoleculeRegistryModel" 191 ⟨"MoleculeRegistryModel", "copyMolecule", "(II)V"⟩,
  .instanceMethod ⟨"MoleculeRegistryModel", "copyMolecule", "(II)V"⟩,
  .selects "MoleculeRegistryModel" ⟨"MoleculeRegistryModel", "copyMolecule", "(II)V"⟩ ⟨"MoleculeRegistryModel", "copyMolecule", "(II)V"⟩,
  .fieldLinkNest "MoleculeRegistry$Chemistry" 9 "MoleculeRegistry$Graph" "size" "I" "MoleculeRegistry",
  .fieldLinkNest "MoleculeRegistry$Chemistry" 15 "MoleculeRegistry$Graph" "codes" "[I" "MoleculeRegistry",
  .methodLink "MoleculeRegistry$Chemistry" 19 ⟨"MoleculeRegistry$Chemistry", "capacity", "(I)I"⟩]
def V_12 : List Cond := [.static ⟨"MoleculeRegistry$Chemistry", "capacity", "(I)I"⟩,
  .methodLink "MoleculeRegistry$Chemistry" 25 ⟨"MoleculeRegistry$Chemistry", "orders", "(LMoleculeRegistry$Graph;I)I"⟩,
  .static ⟨"MoleculeRegistry$Chemistry", "orders", "(LMoleculeRegistry$Graph;I)I"⟩,
  .methodLink "MoleculeRegistry$Chemistry" 31 ⟨"MoleculeRegistry$Chemistry", "pairing", "(LMoleculeRegistry$Graph;)I"⟩,
  .static ⟨"MoleculeRegistry$Chemistry", "pairing", "(LMoleculeRegistry$Graph;)I"⟩,
  .methodLink "MoleculeRegistry$Chemistry" 35 ⟨"MoleculeRegistry$Chemistry", "canPair", "(LMoleculeRegistry$Graph;II)Z"⟩,
  .static ⟨"MoleculeRegistry$Chemistry", "canPair", "(LMoleculeRegistry$Graph;II)Z"⟩,
  .methodLink "MoleculeRegistry$Chemistry" 41 ⟨"java/lang/String", "indexOf", "(I)I"⟩,
  .methodLink "MoleculeRegistry$Chemistry" 49 ⟨"MoleculeRegistry$Graph", "degree", "(II)I"⟩,
  .methodLink "MoleculeRegistry$Chemistry" 53 ⟨"MoleculeRegistry$Chemistry", "pairs", "(I)Z"⟩,
  .static ⟨"MoleculeRegistry$Chemistry", "pairs", "(I)Z"⟩,
  .methodLink "MoleculeRegistry$Chemistry" 57 ⟨"MoleculeRegistry$Graph", "boundTo", "(II)I"⟩,
  .methodLink "MoleculeRegistryLaw" 7 ⟨"MoleculeRegistry", "register", "()I"⟩,
  .instanceMethod ⟨"MoleculeRegistry", "register", "()I"⟩,
  .selects "MoleculeRegistry" ⟨"MoleculeRegistry", "register", "()I"⟩ ⟨"MoleculeRegistry", "register", "()I"⟩,
  .methodLink "MoleculeRegistryLaw" 23 ⟨"MoleculeRegistry", "lookup", "()I"⟩,
  .instanceMethod ⟨"MoleculeRegistry", "lookup", "()I"⟩,
  .selects "MoleculeRegistry" ⟨"MoleculeRegistry", "lookup", "()I"⟩ ⟨"MoleculeRegistry", "lookup", "()I"⟩,
  .methodLink "MoleculeRegistryLaw" 26 ⟨"MoleculeRegistry", "search", "()I"⟩,
  .instanceMethod ⟨"MoleculeRegistry", "search", "()I"⟩,
  .selects "MoleculeRegistry" ⟨"MoleculeRegistry", "search", "()I"⟩ ⟨"MoleculeRegistry", "search", "()I"⟩,
  .methodLink "MoleculeRegistryLaw" 29 ⟨"MoleculeRegistry", "remove", "(I)I"⟩,
  .instanceMethod ⟨"MoleculeRegistry", "remove", "(I)I"⟩,
  .selects "MoleculeRegistry" ⟨"MoleculeRegistry", "remove", "(I)I"⟩ ⟨"MoleculeRegistry", "remove", "(I)I"⟩,
  .constant "java/lang/Integer" 265 1431655765,
  .constant "java/lang/Integer" 266 858993459,
  .constant "java/lang/Integer" 267 252645135,
  .methodLink "java/lang/String" 633 ⟨"java/lang/String", "indexOf", "(II)I"⟩,
  .instanceMethod ⟨"java/lang/String", "indexOf", "(II)I"⟩,
  .selects "java/lang/String" ⟨"java/lang/String", "indexOf", "(II)I"⟩ ⟨"java/lang/String", "indexOf", "(II)I"⟩,
  .methodLink "java/lang/String" 492 ⟨"java/lang/String", "isLatin1", "()Z"⟩,
  .instanceMethod ⟨"java/lang/String", "isLatin1", "()Z"⟩,
  .selects "java/lang/String" ⟨"java/lang/String", "isLatin1", "()Z"⟩ ⟨"java/lang/String", "isLatin1", "()Z"⟩,
  .methodLink "java/lang/String" 505 ⟨"java/lang/String", "length", "()I"⟩,
  .instanceMethod ⟨"java/lang/String", "length", "()I"⟩,
  .selects "java/lang/String" ⟨"java/lang/String", "length", "()I"⟩ ⟨"java/lang/String", "length", "()I"⟩,
  .methodLink "java/lang/String" 637 ⟨"java/lang/StringLatin1", "indexOf", "([BIII)I"⟩,
  .static ⟨"java/lang/StringLatin1", "indexOf", "([BIII)I"⟩,
  .initialized "java/lang/StringLatin1",
  .methodLink "java/lang/String" 335 ⟨"java/lang/String", "coder", "()B"⟩]
def V_13 : List Cond := [.instanceMethod ⟨"java/lang/String", "coder", "()B"⟩,
  .selects "java/lang/String" ⟨"java/lang/String", "coder", "()B"⟩ ⟨"java/lang/String", "coder", "()B"⟩,
  .methodLink "java/lang/StringLatin1" 88 ⟨"java/lang/StringLatin1", "canEncode", "(I)Z"⟩,
  .static ⟨"java/lang/StringLatin1", "canEncode", "(I)Z"⟩,
  .methodLink "java/lang/StringLatin1" 92 ⟨"java/lang/Math", "max", "(II)I"⟩,
  .static ⟨"java/lang/Math", "max", "(II)I"⟩,
  .methodLink "java/lang/StringLatin1" 38 ⟨"java/lang/Math", "min", "(II)I"⟩,
  .methodLink "java/lang/StringLatin1" 95 ⟨"java/lang/StringLatin1", "indexOfChar", "([BIII)I"⟩,
  .static ⟨"java/lang/StringLatin1", "indexOfChar", "([BIII)I"⟩,
  .code ⟨"MoleculeRegistry$Graph", "clear", "()V"⟩ prog_3_method_2_code 1 none,
  .code ⟨"MoleculeRegistry", "idOfSame", "()I"⟩ prog_1_method_20_code 2 (some .int),
  .code ⟨"MoleculeRegistry", "carryOut", "()V"⟩ prog_1_method_22_code 2 none,
  .code ⟨"MoleculeRegistryModel", "agrees", "(IIIZ)Z"⟩ prog_9_method_24_code 9 (some .boolean),
  .code ⟨"MoleculeRegistryModel", "recover", "()I"⟩ prog_9_method_38_code 1 (some .int),
  .code ⟨"MoleculeRegistry$Graph", "boundTo", "(II)I"⟩ prog_3_method_9_code 3 (some .int),
  .code ⟨"MoleculeRegistryModel", "fits", "(IIIZ)Z"⟩ prog_9_method_23_code 7 (some .boolean),
  .code ⟨"MoleculeRegistry$Reader", "readLink", "()I"⟩ prog_6_method_9_code 1 (some .int),
  .code ⟨"MoleculeRegistryModel", "wrongness", "()I"⟩ prog_9_method_22_code 1 (some .int),
  .code ⟨"MoleculeRegistry", "count", "()I"⟩ prog_1_method_13_code 1 (some .int),
  .code ⟨"MoleculeRegistry$Reader", "fill", "(LMoleculeRegistry$Graph;)V"⟩ prog_6_method_3_code 3 none,
  .code ⟨"MoleculeRegistry$Reader", "readBrackets", "()Z"⟩ prog_6_method_18_code 4 (some .boolean),
  .code ⟨"MoleculeRegistryModel", "register", "()I"⟩ prog_9_method_32_code 4 (some .int),
  .code ⟨"java/lang/String", "length", "()I"⟩ prog_19_method_54_code 1 (some .int),
  .code ⟨"MoleculeRegistryModel", "orders", "(I)I"⟩ prog_9_method_17_code 6 (some .int),
  .code ⟨"MoleculeRegistry$Graph", "joinOneWay", "(III)V"⟩ prog_3_method_6_code 4 none,
  .code ⟨"MoleculeRegistry$Shelf", "put", "(ILMoleculeRegistry$Graph;)V"⟩ prog_7_method_3_code 3 none,
  .code ⟨"java/lang/String", "isLatin1", "()Z"⟩ prog_19_method_154_code 1 (some .boolean),
  .code ⟨"MoleculeRegistry$Reader", "openOrClose", "(III)Z"⟩ prog_6_method_11_code 6 (some .boolean),
  .code ⟨"MoleculeRegistryModel", "same", "()I"⟩ prog_9_method_26_code 2 (some .int),
  .code ⟨"MoleculeRegistry$Chemistry", "pairs", "(I)Z"⟩ prog_2_method_5_code 2 (some .boolean),
  .code ⟨"MoleculeRegistry$Chemistry", "canPair", "(LMoleculeRegistry$Graph;II)Z"⟩ prog_2_method_7_code 6 (some .boolean),
  .code ⟨"MoleculeRegistryModel", "change", "(II)Z"⟩ prog_9_method_30_code 4 (some .boolean),
  .code ⟨"MoleculeRegistryModel", "wipe", "()V"⟩ prog_9_method_5_code 1 none,
  .code ⟨"MoleculeRegistry$Reader", "readClosures", "(I)Z"⟩ prog_6_method_10_code 6 (some .boolean),
  .code ⟨"MoleculeRegistryModel", "bind", "(III)V"⟩ prog_9_method_13_code 8 none,
  .code ⟨"java/lang/Integer", "bitCount", "(I)I"⟩ prog_16_method_49_code 1 (some .int),
  .code ⟨"MoleculeRegistry", "bond", "(III)I"⟩ prog_1_method_16_code 5 (some .int),
  .code ⟨"MoleculeRegistry$Chemistry", "pairing", "(LMoleculeRegistry$Graph;)I"⟩ prog_2_method_6_code 3 (some .int),
  .code ⟨"MoleculeRegistry$Matcher", "hasBondsFor", "(LMoleculeRegistry$Graph;ILMoleculeRegistry$Graph;I)Z"⟩ prog_5_method_7_code 5 (some .boolean),
  .code ⟨"MoleculeRegistry$Graph", "degree", "(II)I"⟩ prog_3_method_10_code 3 (some .int)]
def V_14 : List Cond := [.code ⟨"MoleculeRegistry$Matcher", "areSame", "(LMoleculeRegistry$Graph;LMoleculeRegistry$Graph;)Z"⟩ prog_5_method_2_code 3 (some .boolean),
  .code ⟨"java/lang/StringLatin1", "canEncode", "(I)Z"⟩ prog_20_method_4_code 1 (some .boolean),
  .code ⟨"MoleculeRegistry$Reader", "areBound", "(II)Z"⟩ prog_6_method_14_code 5 (some .boolean),
  .code ⟨"MoleculeRegistry$Graph", "has", "(I)Z"⟩ prog_3_method_7_code 2 (some .boolean),
  .code ⟨"MoleculeRegistryModel", "keepText", "()V"⟩ prog_9_method_27_code 3 none,
  .code ⟨"MoleculeRegistryModel", "linkOf", "(IZ)I"⟩ prog_9_method_8_code 2 (some .int),
  .code ⟨"MoleculeRegistryModel", "canBePut", "(IZ)Z"⟩ prog_9_method_25_code 5 (some .boolean),
  .code ⟨"MoleculeRegistry", "search", "()I"⟩ prog_1_method_8_code 2 (some .int),
  .code ⟨"MoleculeRegistryModel", "closures", "(IZ)V"⟩ prog_9_method_14_code 7 none,
  .code ⟨"java/lang/Math", "max", "(II)I"⟩ prog_17_method_65_code 2 (some .int),
  .code ⟨"MoleculeRegistry", "type", "(J)Z"⟩ prog_1_method_2_code 6 (some .boolean),
  .code ⟨"MoleculeRegistry", "atoms", "(I)I"⟩ prog_1_method_14_code 3 (some .int),
  .code ⟨"MoleculeRegistry", "found", "(I)I"⟩ prog_1_method_9_code 2 (some .int),
  .code ⟨"MoleculeRegistryModel", "raise", "(I)I"⟩ prog_9_method_3_code 2 (some .int),
  .code ⟨"MoleculeRegistry", "visible", "(I)LMoleculeRegistry$Graph;"⟩ prog_1_method_17_code 3 (some (.object "MoleculeRegistry$Graph")),
  .code ⟨"MoleculeRegistry$Reader", "bind", "(III)Z"⟩ prog_6_method_13_code 5 (some .boolean),
  .code ⟨"MoleculeRegistry$Chemistry", "capacity", "(I)I"⟩ prog_2_method_3_code 4 (some .int),
  .code ⟨"MoleculeRegistry$Matcher", "findChoices", "(LMoleculeRegistry$Graph;LMoleculeRegistry$Graph;I)Z"⟩ prog_5_method_5_code 6 (some .boolean),
  .code ⟨"java/lang/Math", "min", "(II)I"⟩ prog_17_method_69_code 2 (some .int),
  .code ⟨"MoleculeRegistry", "append", "(J)V"⟩ prog_1_method_4_code 5 none,
  .code ⟨"MoleculeRegistryModel", "perform", "()V"⟩ prog_9_method_28_code 4 none,
  .codeWith ⟨"MoleculeRegistryLaw", "lookup", "(LMoleculeRegistry;[J)I"⟩ method_4_code 3 (some .int) [(0, 8, 11, 13), (0, 8, 14, 15), (0, 8, 17, 17), (0, 8, 20, 19)],
  .code ⟨"MoleculeRegistryModel", "count", "()I"⟩ prog_9_method_39_code 1 (some .int),
  .code ⟨"MoleculeRegistry", "lookup", "()I"⟩ prog_1_method_7_code 1 (some .int),
  .code ⟨"MoleculeRegistryModel", "atoms", "(I)I"⟩ prog_9_method_40_code 3 (some .int),
  .code ⟨"MoleculeRegistry", "byteAt", "(JI)I"⟩ prog_1_method_3_code 3 (some .int),
  .code ⟨"MoleculeRegistry", "change", "(ZI)Z"⟩ prog_1_method_21_code 4 (some .boolean),
  .codeWith ⟨"MoleculeRegistryLaw", "search", "(LMoleculeRegistry;[J)I"⟩ method_5_code 3 (some .int) [(0, 8, 11, 13), (0, 8, 14, 15), (0, 8, 17, 17)],
  .code ⟨"MoleculeRegistry$Reader", "readPartEnds", "(I)I"⟩ prog_6_method_5_code 4 (some .int),
  .code ⟨"MoleculeRegistryModel", "most", "(I)I"⟩ prog_9_method_16_code 3 (some .int),
  .code ⟨"java/util/Arrays", "fill", "([II)V"⟩ prog_25_method_103_code 4 none,
  .code ⟨"MoleculeRegistry", "atom", "(II)I"⟩ prog_1_method_15_code 4 (some .int),
  .code ⟨"java/lang/StringLatin1", "indexOf", "([BIII)I"⟩ prog_20_method_22_code 4 (some .int),
  .code ⟨"MoleculeRegistry$Matcher", "everyAtom", "(LMoleculeRegistry$Graph;)I"⟩ prog_5_method_4_code 1 (some .int),
  .code ⟨"MoleculeRegistryModel", "bond", "(III)I"⟩ prog_9_method_42_code 5 (some .int),
  .code ⟨"MoleculeRegistry$Graph", "add", "(I)V"⟩ prog_3_method_4_code 2 none,
  .code ⟨"MoleculeRegistry$Reader", "start", "([CIZ)V"⟩ prog_6_method_2_code 4 none,
  .code ⟨"MoleculeRegistryModel", "lookup", "()I"⟩ prog_9_method_33_code 3 (some .int),
  .code ⟨"MoleculeRegistry$Reader", "addAtom", "(II)Z"⟩ prog_6_method_17_code 3 (some .boolean),
  .code ⟨"MoleculeRegistry$Reader", "aDigitIsOpen", "()Z"⟩ prog_6_method_12_code 2 (some .boolean)]
def V_15 : List Cond := [.code ⟨"java/lang/String", "indexOf", "(II)I"⟩ prog_19_method_80_code 3 (some .int),
  .code ⟨"MoleculeRegistryModel", "ch", "(I)I"⟩ prog_9_method_6_code 2 (some .int),
  .code ⟨"MoleculeRegistry$Matcher", "canPlace", "(LMoleculeRegistry$Graph;LMoleculeRegistry$Graph;II)Z"⟩ prog_5_method_8_code 8 (some .boolean),
  .code ⟨"MoleculeRegistryModel", "search", "()I"⟩ prog_9_method_34_code 2 (some .int),
  .code ⟨"MoleculeRegistry", "refuseWhenDown", "()V"⟩ prog_1_method_18_code 1 none,
  .code ⟨"MoleculeRegistry$Graph", "copyFrom", "(LMoleculeRegistry$Graph;)V"⟩ prog_3_method_3_code 2 none,
  .code ⟨"MoleculeRegistryModel", "thrown", "()I"⟩ prog_9_method_2_code 1 (some .int),
  .code ⟨"MoleculeRegistry$Matcher", "isIn", "(LMoleculeRegistry$Graph;LMoleculeRegistry$Graph;)Z"⟩ prog_5_method_3_code 3 (some .boolean),
  .code ⟨"MoleculeRegistryModel", "newAtom", "(IZ)V"⟩ prog_9_method_9_code 4 none,
  .code ⟨"MoleculeRegistry", "register", "()I"⟩ prog_1_method_6_code 3 (some .int),
  .code ⟨"MoleculeRegistryModel", "found", "(I)I"⟩ prog_9_method_35_code 2 (some .int),
  .code ⟨"MoleculeRegistryModel", "copyMolecule", "(II)V"⟩ prog_9_method_29_code 4 none,
  .codeWith ⟨"MoleculeRegistryLaw", "remove", "(LMoleculeRegistry;I[J)I"⟩ method_6_code 4 (some .int) [(0, 9, 12, 13)],
  .code ⟨"MoleculeRegistry$Reader", "kindFor", "(III)I"⟩ prog_6_method_15_code 5 (some .int),
  .code ⟨"MoleculeRegistry", "remove", "(I)I"⟩ prog_1_method_10_code 2 (some .int),
  .code ⟨"MoleculeRegistry$Chemistry", "orders", "(LMoleculeRegistry$Graph;I)I"⟩ prog_2_method_4_code 4 (some .int),
  .code ⟨"MoleculeRegistryModel", "one", "()Z"⟩ prog_9_method_12_code 2 (some .boolean),
  .code ⟨"MoleculeRegistry$Graph", "kindBetween", "(II)I"⟩ prog_3_method_8_code 3 (some .int),
  .code ⟨"MoleculeRegistry", "wipe", "()V"⟩ prog_1_method_5_code 1 none,
  .code ⟨"MoleculeRegistryModel", "several", "()Z"⟩ prog_9_method_11_code 4 (some .boolean),
  .code ⟨"MoleculeRegistryModel", "read", "(Z)Z"⟩ prog_9_method_15_code 8 (some .boolean),
  .code ⟨"MoleculeRegistryModel", "fail", "(I)Z"⟩ prog_9_method_37_code 2 (some .boolean),
  .code ⟨"MoleculeRegistry$Reader", "readAtom", "()Z"⟩ prog_6_method_16_code 2 (some .boolean),
  .code ⟨"MoleculeRegistry$Log", "write", "(ZILMoleculeRegistry$Graph;)V"⟩ prog_4_method_2_code 4 none,
  .code ⟨"MoleculeRegistry$Shelf", "slotOf", "(I)I"⟩ prog_7_method_2_code 3 (some .int),
  .code ⟨"MoleculeRegistry", "readBuffer", "(Z)V"⟩ prog_1_method_19_code 2 none,
  .code ⟨"MoleculeRegistry$Graph", "join", "(III)V"⟩ prog_3_method_5_code 4 none,
  .code ⟨"MoleculeRegistry$Log", "clear", "()V"⟩ prog_4_method_3_code 1 none,
  .code ⟨"MoleculeRegistry$Reader", "readCharge", "()I"⟩ prog_6_method_21_code 1 (some .int),
  .code ⟨"MoleculeRegistry$Shelf", "take", "(I)V"⟩ prog_7_method_4_code 5 none,
  .code ⟨"MoleculeRegistryModel", "free", "()I"⟩ prog_9_method_21_code 2 (some .int),
  .code ⟨"MoleculeRegistry$Reader", "takes", "(C)Z"⟩ prog_6_method_8_code 3 (some .boolean),
  .code ⟨"MoleculeRegistry$Reader", "readPartStart", "(I)V"⟩ prog_6_method_6_code 2 none,
  .code ⟨"MoleculeRegistryModel", "pairs", "(I)Z"⟩ prog_9_method_19_code 2 (some .boolean),
  .code ⟨"java/lang/String", "coder", "()B"⟩ prog_19_method_152_code 1 (some .byte),
  .code ⟨"MoleculeRegistryModel", "valences", "()Z"⟩ prog_9_method_18_code 6 (some .boolean),
  .code ⟨"MoleculeRegistry$Reader", "readAtoms", "()Z"⟩ prog_6_method_4_code 5 (some .boolean),
  .code ⟨"MoleculeRegistryModel", "atom", "(Z)Z"⟩ prog_9_method_10_code 3 (some .boolean),
  .code ⟨"MoleculeRegistry", "recover", "()I"⟩ prog_1_method_12_code 2 (some .int),
  .code ⟨"MoleculeRegistryModel", "matching", "()Z"⟩ prog_9_method_20_code 5 (some .boolean)]
def V_16 : List Cond := [.code ⟨"MoleculeRegistry$Chemistry", "settle", "(LMoleculeRegistry$Graph;[I)Z"⟩ prog_2_method_2_code 5 (some .boolean),
  .code ⟨"MoleculeRegistry$Matcher", "fits", "(II)Z"⟩ prog_5_method_6_code 3 (some .boolean),
  .code ⟨"MoleculeRegistry$Reader", "readHydrogens", "()I"⟩ prog_6_method_20_code 2 (some .int),
  .code ⟨"MoleculeRegistryModel", "remove", "(I)I"⟩ prog_9_method_36_code 2 (some .int),
  .code ⟨"java/lang/String", "indexOf", "(I)I"⟩ prog_19_method_79_code 2 (some .int),
  .codeWith ⟨"MoleculeRegistryLaw", "register", "(LMoleculeRegistry;[J)I"⟩ method_3_code 3 (some .int) [(0, 8, 11, 13), (0, 8, 14, 15), (0, 8, 17, 17), (0, 8, 20, 19), (0, 8, 23, 21)],
  .code ⟨"MoleculeRegistry$Reader", "readList", "(C)Z"⟩ prog_6_method_19_code 5 (some .boolean),
  .code ⟨"MoleculeRegistry$Reader", "here", "()C"⟩ prog_6_method_7_code 1 (some .char),
  .code ⟨"MoleculeRegistryModel", "type", "(J)Z"⟩ prog_9_method_4_code 7 (some .boolean),
  .code ⟨"MoleculeRegistryModel", "placeOfId", "(I)I"⟩ prog_9_method_31_code 3 (some .int),
  .code ⟨"java/lang/StringLatin1", "indexOfChar", "([BIII)I"⟩ prog_20_method_23_code 6 (some .int),
  .code ⟨"MoleculeRegistry", "fail", "(I)Z"⟩ prog_1_method_11_code 2 (some .boolean),
  .code ⟨"MoleculeRegistryModel", "atom", "(II)I"⟩ prog_9_method_41_code 5 (some .int),
  .code ⟨"MoleculeRegistryModel", "placeOf", "(I)I"⟩ prog_9_method_7_code 1 (some .int),
  .laysFinal "MoleculeRegistry$Graph" "MoleculeRegistry$Graph" "codes" "[I",
  .laysFinal "MoleculeRegistry$Graph" "MoleculeRegistry$Graph" "kinds" "[I",
  .laysFinal "MoleculeRegistry$Graph" "MoleculeRegistry$Graph" "near" "[I",
  .lays "MoleculeRegistry$Graph" "MoleculeRegistry$Graph" "size" "I",
  .lays "MoleculeRegistry$Graph" "MoleculeRegistry$Graph" "bondCount" "I",
  .lays "MoleculeRegistry$Log" "MoleculeRegistry$Log" "marked" "Z",
  .lays "MoleculeRegistry$Log" "MoleculeRegistry$Log" "removing" "Z",
  .lays "MoleculeRegistry$Log" "MoleculeRegistry$Log" "id" "I",
  .laysFinal "MoleculeRegistry$Log" "MoleculeRegistry$Log" "molecule" "LMoleculeRegistry$Graph;",
  .laysFinal "MoleculeRegistry$Matcher" "MoleculeRegistry$Matcher" "choices" "[I",
  .laysFinal "MoleculeRegistry$Matcher" "MoleculeRegistry$Matcher" "places" "[I",
  .laysFinal "MoleculeRegistry$Reader" "MoleculeRegistry$Reader" "text" "[C",
  .lays "MoleculeRegistry$Reader" "MoleculeRegistry$Reader" "length" "I",
  .lays "MoleculeRegistry$Reader" "MoleculeRegistry$Reader" "position" "I",
  .lays "MoleculeRegistry$Reader" "MoleculeRegistry$Reader" "asPattern" "Z",
  .laysFinal "MoleculeRegistry$Reader" "MoleculeRegistry$Reader" "codes" "[I",
  .laysFinal "MoleculeRegistry$Reader" "MoleculeRegistry$Reader" "written" "[I",
  .lays "MoleculeRegistry$Reader" "MoleculeRegistry$Reader" "size" "I",
  .laysFinal "MoleculeRegistry$Reader" "MoleculeRegistry$Reader" "bondFirst" "[I",
  .laysFinal "MoleculeRegistry$Reader" "MoleculeRegistry$Reader" "bondSecond" "[I",
  .laysFinal "MoleculeRegistry$Reader" "MoleculeRegistry$Reader" "bondKind" "[I",
  .lays "MoleculeRegistry$Reader" "MoleculeRegistry$Reader" "bondCount" "I",
  .laysFinal "MoleculeRegistry$Reader" "MoleculeRegistry$Reader" "openAtom" "[I",
  .laysFinal "MoleculeRegistry$Reader" "MoleculeRegistry$Reader" "openLink" "[I",
  .laysFinal "MoleculeRegistry$Reader" "MoleculeRegistry$Reader" "branches" "[I",
  .lays "MoleculeRegistry$Reader" "MoleculeRegistry$Reader" "depth" "I"]
def V_17 : List Cond := [.laysFinal "MoleculeRegistry$Shelf" "MoleculeRegistry$Shelf" "molecules" "[LMoleculeRegistry$Graph;",
  .laysFinal "MoleculeRegistry$Shelf" "MoleculeRegistry$Shelf" "ids" "[I",
  .lays "MoleculeRegistry$Shelf" "MoleculeRegistry$Shelf" "size" "I",
  .lays "MoleculeRegistry$Shelf" "MoleculeRegistry$Shelf" "lastId" "I",
  .laysFinal "MoleculeRegistry" "MoleculeRegistry" "buffer" "[C",
  .lays "MoleculeRegistry" "MoleculeRegistry" "typed" "I",
  .laysFinal "MoleculeRegistry" "MoleculeRegistry" "reader" "LMoleculeRegistry$Reader;",
  .laysFinal "MoleculeRegistry" "MoleculeRegistry" "read" "LMoleculeRegistry$Graph;",
  .laysFinal "MoleculeRegistry" "MoleculeRegistry" "matcher" "LMoleculeRegistry$Matcher;",
  .laysFinal "MoleculeRegistry" "MoleculeRegistry" "shelf" "LMoleculeRegistry$Shelf;",
  .laysFinal "MoleculeRegistry" "MoleculeRegistry" "log" "LMoleculeRegistry$Log;",
  .laysFinal "MoleculeRegistry" "MoleculeRegistry" "hits" "[I",
  .lays "MoleculeRegistry" "MoleculeRegistry" "hitCount" "I",
  .lays "MoleculeRegistry" "MoleculeRegistry" "toldFailure" "I",
  .lays "MoleculeRegistry" "MoleculeRegistry" "down" "Z",
  .lays "MoleculeRegistryModel" "MoleculeRegistryModel" "thrown" "I",
  .lays "MoleculeRegistryModel" "MoleculeRegistryModel" "size" "I",
  .laysFinal "MoleculeRegistryModel" "MoleculeRegistryModel" "buf" "[I",
  .lays "MoleculeRegistryModel" "MoleculeRegistryModel" "at" "I",
  .lays "MoleculeRegistryModel" "MoleculeRegistryModel" "many" "I",
  .laysFinal "MoleculeRegistryModel" "MoleculeRegistryModel" "element" "[I",
  .laysFinal "MoleculeRegistryModel" "MoleculeRegistryModel" "aromatic" "[Z",
  .laysFinal "MoleculeRegistryModel" "MoleculeRegistryModel" "hydrogens" "[I",
  .laysFinal "MoleculeRegistryModel" "MoleculeRegistryModel" "charge" "[I",
  .laysFinal "MoleculeRegistryModel" "MoleculeRegistryModel" "bracket" "[Z",
  .laysFinal "MoleculeRegistryModel" "MoleculeRegistryModel" "list" "[I",
  .laysFinal "MoleculeRegistryModel" "MoleculeRegistryModel" "bonds" "[I",
  .laysFinal "MoleculeRegistryModel" "MoleculeRegistryModel" "back" "[I",
  .laysFinal "MoleculeRegistryModel" "MoleculeRegistryModel" "opener" "[I",
  .laysFinal "MoleculeRegistryModel" "MoleculeRegistryModel" "openLink" "[I",
  .lays "MoleculeRegistryModel" "MoleculeRegistryModel" "good" "Z",
  .lays "MoleculeRegistryModel" "MoleculeRegistryModel" "count" "I",
  .lays "MoleculeRegistryModel" "MoleculeRegistryModel" "lastId" "I",
  .laysFinal "MoleculeRegistryModel" "MoleculeRegistryModel" "ids" "[I",
  .laysFinal "MoleculeRegistryModel" "MoleculeRegistryModel" "sizes" "[I",
  .laysFinal "MoleculeRegistryModel" "MoleculeRegistryModel" "elements" "[I",
  .laysFinal "MoleculeRegistryModel" "MoleculeRegistryModel" "aromatics" "[Z",
  .laysFinal "MoleculeRegistryModel" "MoleculeRegistryModel" "hydrogenCounts" "[I",
  .laysFinal "MoleculeRegistryModel" "MoleculeRegistryModel" "charges" "[I",
  .laysFinal "MoleculeRegistryModel" "MoleculeRegistryModel" "allBonds" "[I"]
def V_18 : List Cond := [.laysFinal "MoleculeRegistryModel" "MoleculeRegistryModel" "put" "[I",
  .laysFinal "MoleculeRegistryModel" "MoleculeRegistryModel" "taken" "[Z",
  .lays "MoleculeRegistryModel" "MoleculeRegistryModel" "failure" "I",
  .lays "MoleculeRegistryModel" "MoleculeRegistryModel" "down" "Z",
  .lays "MoleculeRegistryModel" "MoleculeRegistryModel" "logged" "I",
  .lays "MoleculeRegistryModel" "MoleculeRegistryModel" "loggedId" "I",
  .lays "MoleculeRegistryModel" "MoleculeRegistryModel" "done" "Z",
  .lays "MoleculeRegistryModel" "MoleculeRegistryModel" "storeSize" "I",
  .laysFinal "MoleculeRegistryModel" "MoleculeRegistryModel" "storeElement" "[I",
  .laysFinal "MoleculeRegistryModel" "MoleculeRegistryModel" "storeAromatic" "[Z",
  .laysFinal "MoleculeRegistryModel" "MoleculeRegistryModel" "storeHydrogens" "[I",
  .laysFinal "MoleculeRegistryModel" "MoleculeRegistryModel" "storeCharge" "[I",
  .laysFinal "MoleculeRegistryModel" "MoleculeRegistryModel" "storeBonds" "[I",
  .lays "MoleculeRegistryModel" "MoleculeRegistryModel" "finds" "I",
  .laysFinal "MoleculeRegistryModel" "MoleculeRegistryModel" "foundIds" "[I"]
def jx_W0 : List Cond := V_0 ++ (V_1 ++ (V_2 ++ (V_3 ++ (V_4 ++ (V_5 ++ (V_6 ++ (V_7 ++ (V_8 ++ (V_9 ++ (V_10 ++ (V_11 ++ (V_12 ++ (V_13 ++ (V_14 ++ (V_15 ++ (V_16 ++ (V_17 ++ (V_18))))))))))))))))))
theorem vm_0 {w : Cond} (h : w ∈ V_0) : w ∈ jx_W0 := List.mem_append_left _ h
theorem vm_1 {w : Cond} (h : w ∈ V_1) : w ∈ jx_W0 := List.mem_append_right _ (List.mem_append_left _ h)
theorem vm_2 {w : Cond} (h : w ∈ V_2) : w ∈ jx_W0 := List.mem_append_right _ (List.mem_append_right _ (List.mem_append_left _ h))
theorem vm_3 {w : Cond} (h : w ∈ V_3) : w ∈ jx_W0 := List.mem_append_right _ (List.mem_append_right _ (List.mem_append_right _ (List.mem_append_left _ h)))
theorem vm_4 {w : Cond} (h : w ∈ V_4) : w ∈ jx_W0 := List.mem_append_right _ (List.mem_append_right _ (List.mem_append_right _ (List.mem_append_right _ (List.mem_append_left _ h))))
theorem vm_5 {w : Cond} (h : w ∈ V_5) : w ∈ jx_W0 := List.mem_append_right _ (List.mem_append_right _ (List.mem_append_right _ (List.mem_append_right _ (List.mem_append_right _ (List.mem_append_left _ h)))))
theorem vm_6 {w : Cond} (h : w ∈ V_6) : w ∈ jx_W0 := List.mem_append_right _ (List.mem_append_right _ (List.mem_append_right _ (List.mem_append_right _ (List.mem_append_right _ (List.mem_append_right _ (List.mem_append_left _ h))))))
theorem vm_7 {w : Cond} (h : w ∈ V_7) : w ∈ jx_W0 := List.mem_append_right _ (List.mem_append_right _ (List.mem_append_right _ (List.mem_append_right _ (List.mem_append_right _ (List.mem_append_right _ (List.mem_append_right _ (List.mem_append_left _ h)))))))
theorem vm_8 {w : Cond} (h : w ∈ V_8) : w ∈ jx_W0 := List.mem_append_right _ (List.mem_append_right _ (List.mem_append_right _ (List.mem_append_right _ (List.mem_append_right _ (List.mem_append_right _ (List.mem_append_right _ (List.mem_append_right _ (List.mem_append_left _ h))))))))
theorem vm_9 {w : Cond} (h : w ∈ V_9) : w ∈ jx_W0 := List.mem_append_right _ (List.mem_append_right _ (List.mem_append_right _ (List.mem_append_right _ (List.mem_append_right _ (List.mem_append_right _ (List.mem_append_right _ (List.mem_append_right _ (List.mem_append_right _ (List.mem_append_left _ h)))))))))
theorem vm_10 {w : Cond} (h : w ∈ V_10) : w ∈ jx_W0 := List.mem_append_right _ (List.mem_append_right _ (List.mem_append_right _ (List.mem_append_right _ (List.mem_append_right _ (List.mem_append_right _ (List.mem_append_right _ (List.mem_append_right _ (List.mem_append_right _ (List.mem_append_right _ (List.mem_append_left _ h))))))))))
theorem vm_11 {w : Cond} (h : w ∈ V_11) : w ∈ jx_W0 := List.mem_append_right _ (List.mem_append_right _ (List.mem_append_right _ (List.mem_append_right _ (List.mem_append_right _ (List.mem_append_right _ (List.mem_append_right _ (List.mem_append_right _ (List.mem_append_right _ (List.mem_append_right _ (List.mem_append_right _ (List.mem_append_left _ h)))))))))))
theorem vm_12 {w : Cond} (h : w ∈ V_12) : w ∈ jx_W0 := List.mem_append_right _ (List.mem_append_right _ (List.mem_append_right _ (List.mem_append_right _ (List.mem_append_right _ (List.mem_append_right _ (List.mem_append_right _ (List.mem_append_right _ (List.mem_append_right _ (List.mem_append_right _ (List.mem_append_right _ (List.mem_append_right _ (List.mem_append_left _ h))))))))))))
theorem vm_13 {w : Cond} (h : w ∈ V_13) : w ∈ jx_W0 := List.mem_append_right _ (List.mem_append_right _ (List.mem_append_right _ (List.mem_append_right _ (List.mem_append_right _ (List.mem_append_right _ (List.mem_append_right _ (List.mem_append_right _ (List.mem_append_right _ (List.mem_append_right _ (List.mem_append_right _ (List.mem_append_right _ (List.mem_append_right _ (List.mem_append_left _ h)))))))))))))
theorem vm_14 {w : Cond} (h : w ∈ V_14) : w ∈ jx_W0 := List.mem_append_right _ (List.mem_append_right _ (List.mem_append_right _ (List.mem_append_right _ (List.mem_append_right _ (List.mem_append_right _ (List.mem_append_right _ (List.mem_append_right _ (List.mem_append_right _ (List.mem_append_right _ (List.mem_append_right _ (List.mem_append_right _ (List.mem_append_right _ (List.mem_append_right _ (List.mem_append_left _ h))))))))))))))
theorem vm_15 {w : Cond} (h : w ∈ V_15) : w ∈ jx_W0 := List.mem_append_right _ (List.mem_append_right _ (List.mem_append_right _ (List.mem_append_right _ (List.mem_append_right _ (List.mem_append_right _ (List.mem_append_right _ (List.mem_append_right _ (List.mem_append_right _ (List.mem_append_right _ (List.mem_append_right _ (List.mem_append_right _ (List.mem_append_right _ (List.mem_append_right _ (List.mem_append_right _ (List.mem_append_left _ h)))))))))))))))
theorem vm_16 {w : Cond} (h : w ∈ V_16) : w ∈ jx_W0 := List.mem_append_right _ (List.mem_append_right _ (List.mem_append_right _ (List.mem_append_right _ (List.mem_append_right _ (List.mem_append_right _ (List.mem_append_right _ (List.mem_append_right _ (List.mem_append_right _ (List.mem_append_right _ (List.mem_append_right _ (List.mem_append_right _ (List.mem_append_right _ (List.mem_append_right _ (List.mem_append_right _ (List.mem_append_right _ (List.mem_append_left _ h))))))))))))))))
theorem vm_17 {w : Cond} (h : w ∈ V_17) : w ∈ jx_W0 := List.mem_append_right _ (List.mem_append_right _ (List.mem_append_right _ (List.mem_append_right _ (List.mem_append_right _ (List.mem_append_right _ (List.mem_append_right _ (List.mem_append_right _ (List.mem_append_right _ (List.mem_append_right _ (List.mem_append_right _ (List.mem_append_right _ (List.mem_append_right _ (List.mem_append_right _ (List.mem_append_right _ (List.mem_append_right _ (List.mem_append_right _ (List.mem_append_left _ h)))))))))))))))))
theorem vm_18 {w : Cond} (h : w ∈ V_18) : w ∈ jx_W0 := List.mem_append_right _ (List.mem_append_right _ (List.mem_append_right _ (List.mem_append_right _ (List.mem_append_right _ (List.mem_append_right _ (List.mem_append_right _ (List.mem_append_right _ (List.mem_append_right _ (List.mem_append_right _ (List.mem_append_right _ (List.mem_append_right _ (List.mem_append_right _ (List.mem_append_right _ (List.mem_append_right _ (List.mem_append_right _ (List.mem_append_right _ (List.mem_append_right _ (h))))))))))))))))))
theorem w_0 : (.classLink "MoleculeRegistryLaw" 8 "MoleculeRegistry" : Cond) ∈ jx_W0 := vm_0 (List.mem_of_getElem? (i := 0) rfl)
theorem w_1 : (.instantiable "MoleculeRegistry" 11 : Cond) ∈ jx_W0 := vm_0 (List.mem_of_getElem? (i := 1) rfl)
theorem w_2 : (.initialized "MoleculeRegistry" : Cond) ∈ jx_W0 := vm_0 (List.mem_of_getElem? (i := 2) rfl)
theorem w_3 : (.methodLink "MoleculeRegistryLaw" 33 ⟨"MoleculeRegistry", "<init>", "()V"⟩ : Cond) ∈ jx_W0 := vm_0 (List.mem_of_getElem? (i := 3) rfl)
theorem w_4 : (.code ⟨"MoleculeRegistry", "<init>", "()V"⟩ prog_1_method_1_code 1 none : Cond) ∈ jx_W0 := vm_0 (List.mem_of_getElem? (i := 4) rfl)
theorem w_5 : (.instanceMethod ⟨"MoleculeRegistry", "<init>", "()V"⟩ : Cond) ∈ jx_W0 := vm_0 (List.mem_of_getElem? (i := 5) rfl)
theorem w_6 : (.classLink "MoleculeRegistryLaw" 34 "MoleculeRegistryModel" : Cond) ∈ jx_W0 := vm_0 (List.mem_of_getElem? (i := 6) rfl)
theorem w_7 : (.instantiable "MoleculeRegistryModel" 40 : Cond) ∈ jx_W0 := vm_0 (List.mem_of_getElem? (i := 7) rfl)
theorem w_8 : (.initialized "MoleculeRegistryModel" : Cond) ∈ jx_W0 := vm_0 (List.mem_of_getElem? (i := 8) rfl)
theorem w_9 : (.methodLink "MoleculeRegistryLaw" 36 ⟨"MoleculeRegistryModel", "<init>", "()V"⟩ : Cond) ∈ jx_W0 := vm_0 (List.mem_of_getElem? (i := 9) rfl)
theorem w_10 : (.code ⟨"MoleculeRegistryModel", "<init>", "()V"⟩ prog_9_method_1_code 1 none : Cond) ∈ jx_W0 := vm_0 (List.mem_of_getElem? (i := 10) rfl)
theorem w_11 : (.instanceMethod ⟨"MoleculeRegistryModel", "<init>", "()V"⟩ : Cond) ∈ jx_W0 := vm_0 (List.mem_of_getElem? (i := 11) rfl)
theorem w_12 : (.arrayClass .long : Cond) ∈ jx_W0 := vm_0 (List.mem_of_getElem? (i := 12) rfl)
theorem w_13 : (.constantLong "MoleculeRegistryLaw" 37 4294967295 : Cond) ∈ jx_W0 := vm_0 (List.mem_of_getElem? (i := 13) rfl)
theorem w_14 : (.methodLink "MoleculeRegistryLaw" 39 ⟨"MoleculeRegistry", "type", "(J)Z"⟩ : Cond) ∈ jx_W0 := vm_0 (List.mem_of_getElem? (i := 14) rfl)
theorem w_15 : (.instanceMethod ⟨"MoleculeRegistry", "type", "(J)Z"⟩ : Cond) ∈ jx_W0 := vm_0 (List.mem_of_getElem? (i := 15) rfl)
theorem w_16 : (.selects "MoleculeRegistry" ⟨"MoleculeRegistry", "type", "(J)Z"⟩ ⟨"MoleculeRegistry", "type", "(J)Z"⟩ : Cond) ∈ jx_W0 := vm_0 (List.mem_of_getElem? (i := 16) rfl)
theorem w_17 : (.methodLink "MoleculeRegistryLaw" 43 ⟨"MoleculeRegistryModel", "type", "(J)Z"⟩ : Cond) ∈ jx_W0 := vm_0 (List.mem_of_getElem? (i := 17) rfl)
theorem w_18 : (.instanceMethod ⟨"MoleculeRegistryModel", "type", "(J)Z"⟩ : Cond) ∈ jx_W0 := vm_0 (List.mem_of_getElem? (i := 18) rfl)
theorem w_19 : (.selects "MoleculeRegistryModel" ⟨"MoleculeRegistryModel", "type", "(J)Z"⟩ ⟨"MoleculeRegistryModel", "type", "(J)Z"⟩ : Cond) ∈ jx_W0 := vm_0 (List.mem_of_getElem? (i := 19) rfl)
theorem w_20 : (.methodLink "MoleculeRegistryLaw" 44 ⟨"MoleculeRegistry", "wipe", "()V"⟩ : Cond) ∈ jx_W0 := vm_0 (List.mem_of_getElem? (i := 20) rfl)
theorem w_21 : (.instanceMethod ⟨"MoleculeRegistry", "wipe", "()V"⟩ : Cond) ∈ jx_W0 := vm_0 (List.mem_of_getElem? (i := 21) rfl)
theorem w_22 : (.selects "MoleculeRegistry" ⟨"MoleculeRegistry", "wipe", "()V"⟩ ⟨"MoleculeRegistry", "wipe", "()V"⟩ : Cond) ∈ jx_W0 := vm_0 (List.mem_of_getElem? (i := 22) rfl)
theorem w_23 : (.methodLink "MoleculeRegistryLaw" 47 ⟨"MoleculeRegistryModel", "wipe", "()V"⟩ : Cond) ∈ jx_W0 := vm_0 (List.mem_of_getElem? (i := 23) rfl)
theorem w_24 : (.instanceMethod ⟨"MoleculeRegistryModel", "wipe", "()V"⟩ : Cond) ∈ jx_W0 := vm_0 (List.mem_of_getElem? (i := 24) rfl)
theorem w_25 : (.selects "MoleculeRegistryModel" ⟨"MoleculeRegistryModel", "wipe", "()V"⟩ ⟨"MoleculeRegistryModel", "wipe", "()V"⟩ : Cond) ∈ jx_W0 := vm_0 (List.mem_of_getElem? (i := 25) rfl)
theorem w_26 : (.methodLink "MoleculeRegistryLaw" 48 ⟨"MoleculeRegistryLaw", "register", "(LMoleculeRegistry;[J)I"⟩ : Cond) ∈ jx_W0 := vm_0 (List.mem_of_getElem? (i := 26) rfl)
theorem w_27 : (.static ⟨"MoleculeRegistryLaw", "register", "(LMoleculeRegistry;[J)I"⟩ : Cond) ∈ jx_W0 := vm_0 (List.mem_of_getElem? (i := 27) rfl)
theorem w_28 : (.initialized "MoleculeRegistryLaw" : Cond) ∈ jx_W0 := vm_0 (List.mem_of_getElem? (i := 28) rfl)
theorem w_29 : (.methodLink "MoleculeRegistryLaw" 53 ⟨"MoleculeRegistryModel", "register", "()I"⟩ : Cond) ∈ jx_W0 := vm_0 (List.mem_of_getElem? (i := 29) rfl)
theorem w_30 : (.instanceMethod ⟨"MoleculeRegistryModel", "register", "()I"⟩ : Cond) ∈ jx_W0 := vm_0 (List.mem_of_getElem? (i := 30) rfl)
theorem w_31 : (.selects "MoleculeRegistryModel" ⟨"MoleculeRegistryModel", "register", "()I"⟩ ⟨"MoleculeRegistryModel", "register", "()I"⟩ : Cond) ∈ jx_W0 := vm_0 (List.mem_of_getElem? (i := 31) rfl)
theorem w_32 : (.methodLink "MoleculeRegistryLaw" 54 ⟨"MoleculeRegistryModel", "thrown", "()I"⟩ : Cond) ∈ jx_W0 := vm_0 (List.mem_of_getElem? (i := 32) rfl)
theorem w_33 : (.instanceMethod ⟨"MoleculeRegistryModel", "thrown", "()I"⟩ : Cond) ∈ jx_W0 := vm_0 (List.mem_of_getElem? (i := 33) rfl)
theorem w_34 : (.selects "MoleculeRegistryModel" ⟨"MoleculeRegistryModel", "thrown", "()I"⟩ ⟨"MoleculeRegistryModel", "thrown", "()I"⟩ : Cond) ∈ jx_W0 := vm_0 (List.mem_of_getElem? (i := 34) rfl)
theorem w_35 : (.methodLink "MoleculeRegistryLaw" 57 ⟨"MoleculeRegistryLaw", "lookup", "(LMoleculeRegistry;[J)I"⟩ : Cond) ∈ jx_W0 := vm_0 (List.mem_of_getElem? (i := 35) rfl)
theorem w_36 : (.static ⟨"MoleculeRegistryLaw", "lookup", "(LMoleculeRegistry;[J)I"⟩ : Cond) ∈ jx_W0 := vm_0 (List.mem_of_getElem? (i := 36) rfl)
theorem w_37 : (.methodLink "MoleculeRegistryLaw" 59 ⟨"MoleculeRegistryModel", "lookup", "()I"⟩ : Cond) ∈ jx_W0 := vm_0 (List.mem_of_getElem? (i := 37) rfl)
theorem w_38 : (.instanceMethod ⟨"MoleculeRegistryModel", "lookup", "()I"⟩ : Cond) ∈ jx_W0 := vm_0 (List.mem_of_getElem? (i := 38) rfl)
theorem w_39 : (.selects "MoleculeRegistryModel" ⟨"MoleculeRegistryModel", "lookup", "()I"⟩ ⟨"MoleculeRegistryModel", "lookup", "()I"⟩ : Cond) ∈ jx_W0 := vm_0 (List.mem_of_getElem? (i := 39) rfl)
theorem w_40 : (.methodLink "MoleculeRegistryLaw" 60 ⟨"MoleculeRegistryLaw", "search", "(LMoleculeRegistry;[J)I"⟩ : Cond) ∈ jx_W0 := vm_1 (List.mem_of_getElem? (i := 0) rfl)
theorem w_41 : (.static ⟨"MoleculeRegistryLaw", "search", "(LMoleculeRegistry;[J)I"⟩ : Cond) ∈ jx_W0 := vm_1 (List.mem_of_getElem? (i := 1) rfl)
theorem w_42 : (.methodLink "MoleculeRegistryLaw" 62 ⟨"MoleculeRegistryModel", "search", "()I"⟩ : Cond) ∈ jx_W0 := vm_1 (List.mem_of_getElem? (i := 2) rfl)
theorem w_43 : (.instanceMethod ⟨"MoleculeRegistryModel", "search", "()I"⟩ : Cond) ∈ jx_W0 := vm_1 (List.mem_of_getElem? (i := 3) rfl)
theorem w_44 : (.selects "MoleculeRegistryModel" ⟨"MoleculeRegistryModel", "search", "()I"⟩ ⟨"MoleculeRegistryModel", "search", "()I"⟩ : Cond) ∈ jx_W0 := vm_1 (List.mem_of_getElem? (i := 4) rfl)
theorem w_45 : (.methodLink "MoleculeRegistryLaw" 63 ⟨"MoleculeRegistry", "found", "(I)I"⟩ : Cond) ∈ jx_W0 := vm_1 (List.mem_of_getElem? (i := 5) rfl)
theorem w_46 : (.instanceMethod ⟨"MoleculeRegistry", "found", "(I)I"⟩ : Cond) ∈ jx_W0 := vm_1 (List.mem_of_getElem? (i := 6) rfl)
theorem w_47 : (.selects "MoleculeRegistry" ⟨"MoleculeRegistry", "found", "(I)I"⟩ ⟨"MoleculeRegistry", "found", "(I)I"⟩ : Cond) ∈ jx_W0 := vm_1 (List.mem_of_getElem? (i := 7) rfl)
theorem w_48 : (.methodLink "MoleculeRegistryLaw" 66 ⟨"MoleculeRegistryModel", "found", "(I)I"⟩ : Cond) ∈ jx_W0 := vm_1 (List.mem_of_getElem? (i := 8) rfl)
theorem w_49 : (.instanceMethod ⟨"MoleculeRegistryModel", "found", "(I)I"⟩ : Cond) ∈ jx_W0 := vm_1 (List.mem_of_getElem? (i := 9) rfl)
theorem w_50 : (.selects "MoleculeRegistryModel" ⟨"MoleculeRegistryModel", "found", "(I)I"⟩ ⟨"MoleculeRegistryModel", "found", "(I)I"⟩ : Cond) ∈ jx_W0 := vm_1 (List.mem_of_getElem? (i := 10) rfl)
theorem w_51 : (.methodLink "MoleculeRegistryLaw" 67 ⟨"MoleculeRegistryLaw", "remove", "(LMoleculeRegistry;I[J)I"⟩ : Cond) ∈ jx_W0 := vm_1 (List.mem_of_getElem? (i := 11) rfl)
theorem w_52 : (.static ⟨"MoleculeRegistryLaw", "remove", "(LMoleculeRegistry;I[J)I"⟩ : Cond) ∈ jx_W0 := vm_1 (List.mem_of_getElem? (i := 12) rfl)
theorem w_53 : (.methodLink "MoleculeRegistryLaw" 70 ⟨"MoleculeRegistryModel", "remove", "(I)I"⟩ : Cond) ∈ jx_W0 := vm_1 (List.mem_of_getElem? (i := 13) rfl)
theorem w_54 : (.instanceMethod ⟨"MoleculeRegistryModel", "remove", "(I)I"⟩ : Cond) ∈ jx_W0 := vm_1 (List.mem_of_getElem? (i := 14) rfl)
theorem w_55 : (.selects "MoleculeRegistryModel" ⟨"MoleculeRegistryModel", "remove", "(I)I"⟩ ⟨"MoleculeRegistryModel", "remove", "(I)I"⟩ : Cond) ∈ jx_W0 := vm_1 (List.mem_of_getElem? (i := 15) rfl)
theorem w_56 : (.methodLink "MoleculeRegistryLaw" 71 ⟨"MoleculeRegistry", "fail", "(I)Z"⟩ : Cond) ∈ jx_W0 := vm_1 (List.mem_of_getElem? (i := 16) rfl)
theorem w_57 : (.instanceMethod ⟨"MoleculeRegistry", "fail", "(I)Z"⟩ : Cond) ∈ jx_W0 := vm_1 (List.mem_of_getElem? (i := 17) rfl)
theorem w_58 : (.selects "MoleculeRegistry" ⟨"MoleculeRegistry", "fail", "(I)Z"⟩ ⟨"MoleculeRegistry", "fail", "(I)Z"⟩ : Cond) ∈ jx_W0 := vm_1 (List.mem_of_getElem? (i := 18) rfl)
theorem w_59 : (.methodLink "MoleculeRegistryLaw" 75 ⟨"MoleculeRegistryModel", "fail", "(I)Z"⟩ : Cond) ∈ jx_W0 := vm_1 (List.mem_of_getElem? (i := 19) rfl)
theorem w_60 : (.instanceMethod ⟨"MoleculeRegistryModel", "fail", "(I)Z"⟩ : Cond) ∈ jx_W0 := vm_1 (List.mem_of_getElem? (i := 20) rfl)
theorem w_61 : (.selects "MoleculeRegistryModel" ⟨"MoleculeRegistryModel", "fail", "(I)Z"⟩ ⟨"MoleculeRegistryModel", "fail", "(I)Z"⟩ : Cond) ∈ jx_W0 := vm_1 (List.mem_of_getElem? (i := 21) rfl)
theorem w_62 : (.methodLink "MoleculeRegistryLaw" 76 ⟨"MoleculeRegistry", "recover", "()I"⟩ : Cond) ∈ jx_W0 := vm_1 (List.mem_of_getElem? (i := 22) rfl)
theorem w_63 : (.instanceMethod ⟨"MoleculeRegistry", "recover", "()I"⟩ : Cond) ∈ jx_W0 := vm_1 (List.mem_of_getElem? (i := 23) rfl)
theorem w_64 : (.selects "MoleculeRegistry" ⟨"MoleculeRegistry", "recover", "()I"⟩ ⟨"MoleculeRegistry", "recover", "()I"⟩ : Cond) ∈ jx_W0 := vm_1 (List.mem_of_getElem? (i := 24) rfl)
theorem w_65 : (.methodLink "MoleculeRegistryLaw" 79 ⟨"MoleculeRegistryModel", "recover", "()I"⟩ : Cond) ∈ jx_W0 := vm_1 (List.mem_of_getElem? (i := 25) rfl)
theorem w_66 : (.instanceMethod ⟨"MoleculeRegistryModel", "recover", "()I"⟩ : Cond) ∈ jx_W0 := vm_1 (List.mem_of_getElem? (i := 26) rfl)
theorem w_67 : (.selects "MoleculeRegistryModel" ⟨"MoleculeRegistryModel", "recover", "()I"⟩ ⟨"MoleculeRegistryModel", "recover", "()I"⟩ : Cond) ∈ jx_W0 := vm_1 (List.mem_of_getElem? (i := 27) rfl)
theorem w_68 : (.methodLink "MoleculeRegistryLaw" 80 ⟨"MoleculeRegistry", "count", "()I"⟩ : Cond) ∈ jx_W0 := vm_1 (List.mem_of_getElem? (i := 28) rfl)
theorem w_69 : (.instanceMethod ⟨"MoleculeRegistry", "count", "()I"⟩ : Cond) ∈ jx_W0 := vm_1 (List.mem_of_getElem? (i := 29) rfl)
theorem w_70 : (.selects "MoleculeRegistry" ⟨"MoleculeRegistry", "count", "()I"⟩ ⟨"MoleculeRegistry", "count", "()I"⟩ : Cond) ∈ jx_W0 := vm_1 (List.mem_of_getElem? (i := 30) rfl)
theorem w_71 : (.methodLink "MoleculeRegistryLaw" 83 ⟨"MoleculeRegistryModel", "count", "()I"⟩ : Cond) ∈ jx_W0 := vm_1 (List.mem_of_getElem? (i := 31) rfl)
theorem w_72 : (.instanceMethod ⟨"MoleculeRegistryModel", "count", "()I"⟩ : Cond) ∈ jx_W0 := vm_1 (List.mem_of_getElem? (i := 32) rfl)
theorem w_73 : (.selects "MoleculeRegistryModel" ⟨"MoleculeRegistryModel", "count", "()I"⟩ ⟨"MoleculeRegistryModel", "count", "()I"⟩ : Cond) ∈ jx_W0 := vm_1 (List.mem_of_getElem? (i := 33) rfl)
theorem w_74 : (.methodLink "MoleculeRegistryLaw" 84 ⟨"MoleculeRegistry", "atoms", "(I)I"⟩ : Cond) ∈ jx_W0 := vm_1 (List.mem_of_getElem? (i := 34) rfl)
theorem w_75 : (.instanceMethod ⟨"MoleculeRegistry", "atoms", "(I)I"⟩ : Cond) ∈ jx_W0 := vm_1 (List.mem_of_getElem? (i := 35) rfl)
theorem w_76 : (.selects "MoleculeRegistry" ⟨"MoleculeRegistry", "atoms", "(I)I"⟩ ⟨"MoleculeRegistry", "atoms", "(I)I"⟩ : Cond) ∈ jx_W0 := vm_1 (List.mem_of_getElem? (i := 36) rfl)
theorem w_77 : (.methodLink "MoleculeRegistryLaw" 87 ⟨"MoleculeRegistryModel", "atoms", "(I)I"⟩ : Cond) ∈ jx_W0 := vm_1 (List.mem_of_getElem? (i := 37) rfl)
theorem w_78 : (.instanceMethod ⟨"MoleculeRegistryModel", "atoms", "(I)I"⟩ : Cond) ∈ jx_W0 := vm_1 (List.mem_of_getElem? (i := 38) rfl)
theorem w_79 : (.selects "MoleculeRegistryModel" ⟨"MoleculeRegistryModel", "atoms", "(I)I"⟩ ⟨"MoleculeRegistryModel", "atoms", "(I)I"⟩ : Cond) ∈ jx_W0 := vm_1 (List.mem_of_getElem? (i := 39) rfl)
theorem w_80 : (.methodLink "MoleculeRegistryLaw" 88 ⟨"MoleculeRegistry", "atom", "(II)I"⟩ : Cond) ∈ jx_W0 := vm_2 (List.mem_of_getElem? (i := 0) rfl)
theorem w_81 : (.instanceMethod ⟨"MoleculeRegistry", "atom", "(II)I"⟩ : Cond) ∈ jx_W0 := vm_2 (List.mem_of_getElem? (i := 1) rfl)
theorem w_82 : (.selects "MoleculeRegistry" ⟨"MoleculeRegistry", "atom", "(II)I"⟩ ⟨"MoleculeRegistry", "atom", "(II)I"⟩ : Cond) ∈ jx_W0 := vm_2 (List.mem_of_getElem? (i := 2) rfl)
theorem w_83 : (.methodLink "MoleculeRegistryLaw" 92 ⟨"MoleculeRegistryModel", "atom", "(II)I"⟩ : Cond) ∈ jx_W0 := vm_2 (List.mem_of_getElem? (i := 3) rfl)
theorem w_84 : (.instanceMethod ⟨"MoleculeRegistryModel", "atom", "(II)I"⟩ : Cond) ∈ jx_W0 := vm_2 (List.mem_of_getElem? (i := 4) rfl)
theorem w_85 : (.selects "MoleculeRegistryModel" ⟨"MoleculeRegistryModel", "atom", "(II)I"⟩ ⟨"MoleculeRegistryModel", "atom", "(II)I"⟩ : Cond) ∈ jx_W0 := vm_2 (List.mem_of_getElem? (i := 5) rfl)
theorem w_86 : (.methodLink "MoleculeRegistryLaw" 93 ⟨"MoleculeRegistry", "bond", "(III)I"⟩ : Cond) ∈ jx_W0 := vm_2 (List.mem_of_getElem? (i := 6) rfl)
theorem w_87 : (.instanceMethod ⟨"MoleculeRegistry", "bond", "(III)I"⟩ : Cond) ∈ jx_W0 := vm_2 (List.mem_of_getElem? (i := 7) rfl)
theorem w_88 : (.selects "MoleculeRegistry" ⟨"MoleculeRegistry", "bond", "(III)I"⟩ ⟨"MoleculeRegistry", "bond", "(III)I"⟩ : Cond) ∈ jx_W0 := vm_2 (List.mem_of_getElem? (i := 8) rfl)
theorem w_89 : (.methodLink "MoleculeRegistryLaw" 97 ⟨"MoleculeRegistryModel", "bond", "(III)I"⟩ : Cond) ∈ jx_W0 := vm_2 (List.mem_of_getElem? (i := 9) rfl)
theorem w_90 : (.instanceMethod ⟨"MoleculeRegistryModel", "bond", "(III)I"⟩ : Cond) ∈ jx_W0 := vm_2 (List.mem_of_getElem? (i := 10) rfl)
theorem w_91 : (.selects "MoleculeRegistryModel" ⟨"MoleculeRegistryModel", "bond", "(III)I"⟩ ⟨"MoleculeRegistryModel", "bond", "(III)I"⟩ : Cond) ∈ jx_W0 := vm_2 (List.mem_of_getElem? (i := 11) rfl)
theorem w_92 : (.methodLink "MoleculeRegistry$Graph" 3 ⟨"java/lang/Object", "<init>", "()V"⟩ : Cond) ∈ jx_W0 := vm_2 (List.mem_of_getElem? (i := 12) rfl)
theorem w_93 : (.instanceMethod ⟨"java/lang/Object", "<init>", "()V"⟩ : Cond) ∈ jx_W0 := vm_2 (List.mem_of_getElem? (i := 13) rfl)
theorem w_94 : (.code ⟨"java/lang/Object", "<init>", "()V"⟩ object_method_1_code 1 none : Cond) ∈ jx_W0 := vm_2 (List.mem_of_getElem? (i := 14) rfl)
theorem w_95 : (.arrayClass .int : Cond) ∈ jx_W0 := vm_2 (List.mem_of_getElem? (i := 15) rfl)
theorem w_96 : (.fieldLink "MoleculeRegistry$Graph" 9 "MoleculeRegistry$Graph" "codes" "[I" : Cond) ∈ jx_W0 := vm_2 (List.mem_of_getElem? (i := 16) rfl)
theorem w_97 : (.fieldLink "MoleculeRegistry$Graph" 15 "MoleculeRegistry$Graph" "kinds" "[I" : Cond) ∈ jx_W0 := vm_2 (List.mem_of_getElem? (i := 17) rfl)
theorem w_98 : (.fieldLink "MoleculeRegistry$Graph" 18 "MoleculeRegistry$Graph" "near" "[I" : Cond) ∈ jx_W0 := vm_2 (List.mem_of_getElem? (i := 18) rfl)
theorem w_99 : (.fieldLink "MoleculeRegistry$Graph" 27 "MoleculeRegistry$Graph" "size" "I" : Cond) ∈ jx_W0 := vm_2 (List.mem_of_getElem? (i := 19) rfl)
theorem w_100 : (.fieldLink "MoleculeRegistry$Graph" 31 "MoleculeRegistry$Graph" "bondCount" "I" : Cond) ∈ jx_W0 := vm_2 (List.mem_of_getElem? (i := 20) rfl)
theorem w_101 : (.methodLink "MoleculeRegistry$Graph" 21 ⟨"java/util/Arrays", "fill", "([II)V"⟩ : Cond) ∈ jx_W0 := vm_2 (List.mem_of_getElem? (i := 21) rfl)
theorem w_102 : (.static ⟨"java/util/Arrays", "fill", "([II)V"⟩ : Cond) ∈ jx_W0 := vm_2 (List.mem_of_getElem? (i := 22) rfl)
theorem w_103 : (.initialized "java/util/Arrays" : Cond) ∈ jx_W0 := vm_2 (List.mem_of_getElem? (i := 23) rfl)
theorem w_104 : (.methodLink "MoleculeRegistry$Graph" 40 ⟨"MoleculeRegistry$Graph", "has", "(I)Z"⟩ : Cond) ∈ jx_W0 := vm_2 (List.mem_of_getElem? (i := 24) rfl)
theorem w_105 : (.instanceMethod ⟨"MoleculeRegistry$Graph", "has", "(I)Z"⟩ : Cond) ∈ jx_W0 := vm_2 (List.mem_of_getElem? (i := 25) rfl)
theorem w_106 : (.selects "MoleculeRegistry$Graph" ⟨"MoleculeRegistry$Graph", "has", "(I)Z"⟩ ⟨"MoleculeRegistry$Graph", "has", "(I)Z"⟩ : Cond) ∈ jx_W0 := vm_2 (List.mem_of_getElem? (i := 26) rfl)
theorem w_107 : (.methodLink "MoleculeRegistry$Graph" 44 ⟨"MoleculeRegistry$Graph", "joinOneWay", "(III)V"⟩ : Cond) ∈ jx_W0 := vm_2 (List.mem_of_getElem? (i := 27) rfl)
theorem w_108 : (.instanceMethod ⟨"MoleculeRegistry$Graph", "joinOneWay", "(III)V"⟩ : Cond) ∈ jx_W0 := vm_2 (List.mem_of_getElem? (i := 28) rfl)
theorem w_109 : (.selects "MoleculeRegistry$Graph" ⟨"MoleculeRegistry$Graph", "joinOneWay", "(III)V"⟩ ⟨"MoleculeRegistry$Graph", "joinOneWay", "(III)V"⟩ : Cond) ∈ jx_W0 := vm_2 (List.mem_of_getElem? (i := 29) rfl)
theorem w_110 : (.methodLink "MoleculeRegistry$Graph" 48 ⟨"java/lang/Integer", "bitCount", "(I)I"⟩ : Cond) ∈ jx_W0 := vm_2 (List.mem_of_getElem? (i := 30) rfl)
theorem w_111 : (.static ⟨"java/lang/Integer", "bitCount", "(I)I"⟩ : Cond) ∈ jx_W0 := vm_2 (List.mem_of_getElem? (i := 31) rfl)
theorem w_112 : (.initialized "java/lang/Integer" : Cond) ∈ jx_W0 := vm_2 (List.mem_of_getElem? (i := 32) rfl)
theorem w_113 : (.methodLink "MoleculeRegistry$Log" 1 ⟨"java/lang/Object", "<init>", "()V"⟩ : Cond) ∈ jx_W0 := vm_2 (List.mem_of_getElem? (i := 33) rfl)
theorem w_114 : (.classLink "MoleculeRegistry$Log" 7 "MoleculeRegistry$Graph" : Cond) ∈ jx_W0 := vm_2 (List.mem_of_getElem? (i := 34) rfl)
theorem w_115 : (.instantiable "MoleculeRegistry$Graph" 5 : Cond) ∈ jx_W0 := vm_2 (List.mem_of_getElem? (i := 35) rfl)
theorem w_116 : (.initialized "MoleculeRegistry$Graph" : Cond) ∈ jx_W0 := vm_2 (List.mem_of_getElem? (i := 36) rfl)
theorem w_117 : (.methodLinkNest "MoleculeRegistry$Log" 9 ⟨"MoleculeRegistry$Graph", "<init>", "()V"⟩ "MoleculeRegistry" : Cond) ∈ jx_W0 := vm_2 (List.mem_of_getElem? (i := 37) rfl)
theorem w_118 : (.code ⟨"MoleculeRegistry$Graph", "<init>", "()V"⟩ prog_3_method_1_code 1 none : Cond) ∈ jx_W0 := vm_2 (List.mem_of_getElem? (i := 38) rfl)
theorem w_119 : (.instanceMethod ⟨"MoleculeRegistry$Graph", "<init>", "()V"⟩ : Cond) ∈ jx_W0 := vm_2 (List.mem_of_getElem? (i := 39) rfl)
theorem w_120 : (.fieldLink "MoleculeRegistry$Log" 10 "MoleculeRegistry$Log" "molecule" "LMoleculeRegistry$Graph;" : Cond) ∈ jx_W0 := vm_3 (List.mem_of_getElem? (i := 0) rfl)
theorem w_121 : (.fieldLink "MoleculeRegistry$Log" 28 "MoleculeRegistry$Log" "marked" "Z" : Cond) ∈ jx_W0 := vm_3 (List.mem_of_getElem? (i := 1) rfl)
theorem w_122 : (.fieldLink "MoleculeRegistry$Log" 16 "MoleculeRegistry$Log" "removing" "Z" : Cond) ∈ jx_W0 := vm_3 (List.mem_of_getElem? (i := 2) rfl)
theorem w_123 : (.fieldLink "MoleculeRegistry$Log" 20 "MoleculeRegistry$Log" "id" "I" : Cond) ∈ jx_W0 := vm_3 (List.mem_of_getElem? (i := 3) rfl)
theorem w_124 : (.methodLink "MoleculeRegistry$Log" 24 ⟨"MoleculeRegistry$Graph", "copyFrom", "(LMoleculeRegistry$Graph;)V"⟩ : Cond) ∈ jx_W0 := vm_3 (List.mem_of_getElem? (i := 4) rfl)
theorem w_125 : (.instanceMethod ⟨"MoleculeRegistry$Graph", "copyFrom", "(LMoleculeRegistry$Graph;)V"⟩ : Cond) ∈ jx_W0 := vm_3 (List.mem_of_getElem? (i := 5) rfl)
theorem w_126 : (.selects "MoleculeRegistry$Graph" ⟨"MoleculeRegistry$Graph", "copyFrom", "(LMoleculeRegistry$Graph;)V"⟩ ⟨"MoleculeRegistry$Graph", "copyFrom", "(LMoleculeRegistry$Graph;)V"⟩ : Cond) ∈ jx_W0 := vm_3 (List.mem_of_getElem? (i := 6) rfl)
theorem w_127 : (.methodLink "MoleculeRegistry$Matcher" 3 ⟨"java/lang/Object", "<init>", "()V"⟩ : Cond) ∈ jx_W0 := vm_3 (List.mem_of_getElem? (i := 7) rfl)
theorem w_128 : (.fieldLink "MoleculeRegistry$Matcher" 9 "MoleculeRegistry$Matcher" "choices" "[I" : Cond) ∈ jx_W0 := vm_3 (List.mem_of_getElem? (i := 8) rfl)
theorem w_129 : (.fieldLink "MoleculeRegistry$Matcher" 15 "MoleculeRegistry$Matcher" "places" "[I" : Cond) ∈ jx_W0 := vm_3 (List.mem_of_getElem? (i := 9) rfl)
theorem w_130 : (.fieldLinkNest "MoleculeRegistry$Matcher" 18 "MoleculeRegistry$Graph" "size" "I" "MoleculeRegistry" : Cond) ∈ jx_W0 := vm_3 (List.mem_of_getElem? (i := 10) rfl)
theorem w_131 : (.fieldLinkNest "MoleculeRegistry$Matcher" 24 "MoleculeRegistry$Graph" "bondCount" "I" "MoleculeRegistry" : Cond) ∈ jx_W0 := vm_3 (List.mem_of_getElem? (i := 11) rfl)
theorem w_132 : (.methodLink "MoleculeRegistry$Matcher" 27 ⟨"MoleculeRegistry$Matcher", "findChoices", "(LMoleculeRegistry$Graph;LMoleculeRegistry$Graph;I)Z"⟩ : Cond) ∈ jx_W0 := vm_3 (List.mem_of_getElem? (i := 12) rfl)
theorem w_133 : (.instanceMethod ⟨"MoleculeRegistry$Matcher", "findChoices", "(LMoleculeRegistry$Graph;LMoleculeRegistry$Graph;I)Z"⟩ : Cond) ∈ jx_W0 := vm_3 (List.mem_of_getElem? (i := 13) rfl)
theorem w_134 : (.selects "MoleculeRegistry$Matcher" ⟨"MoleculeRegistry$Matcher", "findChoices", "(LMoleculeRegistry$Graph;LMoleculeRegistry$Graph;I)Z"⟩ ⟨"MoleculeRegistry$Matcher", "findChoices", "(LMoleculeRegistry$Graph;LMoleculeRegistry$Graph;I)Z"⟩ : Cond) ∈ jx_W0 := vm_3 (List.mem_of_getElem? (i := 14) rfl)
theorem w_135 : (.methodLink "MoleculeRegistry$Matcher" 31 ⟨"MoleculeRegistry$Matcher", "everyAtom", "(LMoleculeRegistry$Graph;)I"⟩ : Cond) ∈ jx_W0 := vm_3 (List.mem_of_getElem? (i := 15) rfl)
theorem w_136 : (.static ⟨"MoleculeRegistry$Matcher", "everyAtom", "(LMoleculeRegistry$Graph;)I"⟩ : Cond) ∈ jx_W0 := vm_3 (List.mem_of_getElem? (i := 16) rfl)
theorem w_137 : (.initialized "MoleculeRegistry$Matcher" : Cond) ∈ jx_W0 := vm_3 (List.mem_of_getElem? (i := 17) rfl)
theorem w_138 : (.methodLink "MoleculeRegistry$Matcher" 35 ⟨"MoleculeRegistry$Matcher", "canPlace", "(LMoleculeRegistry$Graph;LMoleculeRegistry$Graph;II)Z"⟩ : Cond) ∈ jx_W0 := vm_3 (List.mem_of_getElem? (i := 18) rfl)
theorem w_139 : (.instanceMethod ⟨"MoleculeRegistry$Matcher", "canPlace", "(LMoleculeRegistry$Graph;LMoleculeRegistry$Graph;II)Z"⟩ : Cond) ∈ jx_W0 := vm_3 (List.mem_of_getElem? (i := 19) rfl)
theorem w_140 : (.selects "MoleculeRegistry$Matcher" ⟨"MoleculeRegistry$Matcher", "canPlace", "(LMoleculeRegistry$Graph;LMoleculeRegistry$Graph;II)Z"⟩ ⟨"MoleculeRegistry$Matcher", "canPlace", "(LMoleculeRegistry$Graph;LMoleculeRegistry$Graph;II)Z"⟩ : Cond) ∈ jx_W0 := vm_3 (List.mem_of_getElem? (i := 20) rfl)
theorem w_141 : (.fieldLinkNest "MoleculeRegistry$Matcher" 39 "MoleculeRegistry$Graph" "codes" "[I" "MoleculeRegistry" : Cond) ∈ jx_W0 := vm_3 (List.mem_of_getElem? (i := 21) rfl)
theorem w_142 : (.methodLink "MoleculeRegistry$Matcher" 42 ⟨"MoleculeRegistry$Matcher", "fits", "(II)Z"⟩ : Cond) ∈ jx_W0 := vm_3 (List.mem_of_getElem? (i := 22) rfl)
theorem w_143 : (.static ⟨"MoleculeRegistry$Matcher", "fits", "(II)Z"⟩ : Cond) ∈ jx_W0 := vm_3 (List.mem_of_getElem? (i := 23) rfl)
theorem w_144 : (.methodLink "MoleculeRegistry$Matcher" 46 ⟨"MoleculeRegistry$Matcher", "hasBondsFor", "(LMoleculeRegistry$Graph;ILMoleculeRegistry$Graph;I)Z"⟩ : Cond) ∈ jx_W0 := vm_3 (List.mem_of_getElem? (i := 24) rfl)
theorem w_145 : (.static ⟨"MoleculeRegistry$Matcher", "hasBondsFor", "(LMoleculeRegistry$Graph;ILMoleculeRegistry$Graph;I)Z"⟩ : Cond) ∈ jx_W0 := vm_3 (List.mem_of_getElem? (i := 25) rfl)
theorem w_146 : (.methodLink "MoleculeRegistry$Matcher" 52 ⟨"java/lang/String", "indexOf", "(I)I"⟩ : Cond) ∈ jx_W0 := vm_3 (List.mem_of_getElem? (i := 26) rfl)
theorem w_147 : (.instanceMethod ⟨"java/lang/String", "indexOf", "(I)I"⟩ : Cond) ∈ jx_W0 := vm_3 (List.mem_of_getElem? (i := 27) rfl)
theorem w_148 : (.selects "java/lang/String" ⟨"java/lang/String", "indexOf", "(I)I"⟩ ⟨"java/lang/String", "indexOf", "(I)I"⟩ : Cond) ∈ jx_W0 := vm_3 (List.mem_of_getElem? (i := 28) rfl)
theorem w_149 : (.methodLink "MoleculeRegistry$Matcher" 58 ⟨"MoleculeRegistry$Graph", "degree", "(II)I"⟩ : Cond) ∈ jx_W0 := vm_3 (List.mem_of_getElem? (i := 29) rfl)
theorem w_150 : (.instanceMethod ⟨"MoleculeRegistry$Graph", "degree", "(II)I"⟩ : Cond) ∈ jx_W0 := vm_3 (List.mem_of_getElem? (i := 30) rfl)
theorem w_151 : (.selects "MoleculeRegistry$Graph" ⟨"MoleculeRegistry$Graph", "degree", "(II)I"⟩ ⟨"MoleculeRegistry$Graph", "degree", "(II)I"⟩ : Cond) ∈ jx_W0 := vm_3 (List.mem_of_getElem? (i := 31) rfl)
theorem w_152 : (.methodLink "MoleculeRegistry$Matcher" 62 ⟨"MoleculeRegistry$Graph", "kindBetween", "(II)I"⟩ : Cond) ∈ jx_W0 := vm_3 (List.mem_of_getElem? (i := 32) rfl)
theorem w_153 : (.instanceMethod ⟨"MoleculeRegistry$Graph", "kindBetween", "(II)I"⟩ : Cond) ∈ jx_W0 := vm_3 (List.mem_of_getElem? (i := 33) rfl)
theorem w_154 : (.selects "MoleculeRegistry$Graph" ⟨"MoleculeRegistry$Graph", "kindBetween", "(II)I"⟩ ⟨"MoleculeRegistry$Graph", "kindBetween", "(II)I"⟩ : Cond) ∈ jx_W0 := vm_3 (List.mem_of_getElem? (i := 34) rfl)
theorem w_155 : (.methodLink "MoleculeRegistry$Matcher" 65 ⟨"MoleculeRegistry$Graph", "boundTo", "(II)I"⟩ : Cond) ∈ jx_W0 := vm_3 (List.mem_of_getElem? (i := 35) rfl)
theorem w_156 : (.instanceMethod ⟨"MoleculeRegistry$Graph", "boundTo", "(II)I"⟩ : Cond) ∈ jx_W0 := vm_3 (List.mem_of_getElem? (i := 36) rfl)
theorem w_157 : (.selects "MoleculeRegistry$Graph" ⟨"MoleculeRegistry$Graph", "boundTo", "(II)I"⟩ ⟨"MoleculeRegistry$Graph", "boundTo", "(II)I"⟩ : Cond) ∈ jx_W0 := vm_3 (List.mem_of_getElem? (i := 37) rfl)
theorem w_158 : (.methodLink "MoleculeRegistry$Reader" 3 ⟨"java/lang/Object", "<init>", "()V"⟩ : Cond) ∈ jx_W0 := vm_3 (List.mem_of_getElem? (i := 38) rfl)
theorem w_159 : (.arrayClass .char : Cond) ∈ jx_W0 := vm_3 (List.mem_of_getElem? (i := 39) rfl)
theorem w_160 : (.fieldLink "MoleculeRegistry$Reader" 9 "MoleculeRegistry$Reader" "text" "[C" : Cond) ∈ jx_W0 := vm_4 (List.mem_of_getElem? (i := 0) rfl)
theorem w_161 : (.fieldLink "MoleculeRegistry$Reader" 15 "MoleculeRegistry$Reader" "codes" "[I" : Cond) ∈ jx_W0 := vm_4 (List.mem_of_getElem? (i := 1) rfl)
theorem w_162 : (.fieldLink "MoleculeRegistry$Reader" 19 "MoleculeRegistry$Reader" "written" "[I" : Cond) ∈ jx_W0 := vm_4 (List.mem_of_getElem? (i := 2) rfl)
theorem w_163 : (.fieldLink "MoleculeRegistry$Reader" 22 "MoleculeRegistry$Reader" "bondFirst" "[I" : Cond) ∈ jx_W0 := vm_4 (List.mem_of_getElem? (i := 3) rfl)
theorem w_164 : (.fieldLink "MoleculeRegistry$Reader" 25 "MoleculeRegistry$Reader" "bondSecond" "[I" : Cond) ∈ jx_W0 := vm_4 (List.mem_of_getElem? (i := 4) rfl)
theorem w_165 : (.fieldLink "MoleculeRegistry$Reader" 28 "MoleculeRegistry$Reader" "bondKind" "[I" : Cond) ∈ jx_W0 := vm_4 (List.mem_of_getElem? (i := 5) rfl)
theorem w_166 : (.fieldLink "MoleculeRegistry$Reader" 31 "MoleculeRegistry$Reader" "openAtom" "[I" : Cond) ∈ jx_W0 := vm_4 (List.mem_of_getElem? (i := 6) rfl)
theorem w_167 : (.fieldLink "MoleculeRegistry$Reader" 34 "MoleculeRegistry$Reader" "openLink" "[I" : Cond) ∈ jx_W0 := vm_4 (List.mem_of_getElem? (i := 7) rfl)
theorem w_168 : (.fieldLink "MoleculeRegistry$Reader" 37 "MoleculeRegistry$Reader" "branches" "[I" : Cond) ∈ jx_W0 := vm_4 (List.mem_of_getElem? (i := 8) rfl)
theorem w_169 : (.methodLink "MoleculeRegistry$Reader" 40 ⟨"java/lang/Math", "min", "(II)I"⟩ : Cond) ∈ jx_W0 := vm_4 (List.mem_of_getElem? (i := 9) rfl)
theorem w_170 : (.static ⟨"java/lang/Math", "min", "(II)I"⟩ : Cond) ∈ jx_W0 := vm_4 (List.mem_of_getElem? (i := 10) rfl)
theorem w_171 : (.initialized "java/lang/Math" : Cond) ∈ jx_W0 := vm_4 (List.mem_of_getElem? (i := 11) rfl)
theorem w_172 : (.fieldLink "MoleculeRegistry$Reader" 46 "MoleculeRegistry$Reader" "length" "I" : Cond) ∈ jx_W0 := vm_4 (List.mem_of_getElem? (i := 12) rfl)
theorem w_173 : (.fieldLink "MoleculeRegistry$Reader" 56 "MoleculeRegistry$Reader" "asPattern" "Z" : Cond) ∈ jx_W0 := vm_4 (List.mem_of_getElem? (i := 13) rfl)
theorem w_174 : (.fieldLink "MoleculeRegistry$Reader" 60 "MoleculeRegistry$Reader" "position" "I" : Cond) ∈ jx_W0 := vm_4 (List.mem_of_getElem? (i := 14) rfl)
theorem w_175 : (.fieldLink "MoleculeRegistry$Reader" 63 "MoleculeRegistry$Reader" "size" "I" : Cond) ∈ jx_W0 := vm_4 (List.mem_of_getElem? (i := 15) rfl)
theorem w_176 : (.fieldLink "MoleculeRegistry$Reader" 66 "MoleculeRegistry$Reader" "bondCount" "I" : Cond) ∈ jx_W0 := vm_4 (List.mem_of_getElem? (i := 16) rfl)
theorem w_177 : (.fieldLink "MoleculeRegistry$Reader" 69 "MoleculeRegistry$Reader" "depth" "I" : Cond) ∈ jx_W0 := vm_4 (List.mem_of_getElem? (i := 17) rfl)
theorem w_178 : (.methodLink "MoleculeRegistry$Reader" 72 ⟨"java/util/Arrays", "fill", "([II)V"⟩ : Cond) ∈ jx_W0 := vm_4 (List.mem_of_getElem? (i := 18) rfl)
theorem w_179 : (.methodLink "MoleculeRegistry$Reader" 91 ⟨"MoleculeRegistry$Reader", "readLink", "()I"⟩ : Cond) ∈ jx_W0 := vm_4 (List.mem_of_getElem? (i := 19) rfl)
theorem w_180 : (.instanceMethod ⟨"MoleculeRegistry$Reader", "readLink", "()I"⟩ : Cond) ∈ jx_W0 := vm_4 (List.mem_of_getElem? (i := 20) rfl)
theorem w_181 : (.selects "MoleculeRegistry$Reader" ⟨"MoleculeRegistry$Reader", "readLink", "()I"⟩ ⟨"MoleculeRegistry$Reader", "readLink", "()I"⟩ : Cond) ∈ jx_W0 := vm_4 (List.mem_of_getElem? (i := 21) rfl)
theorem w_182 : (.methodLink "MoleculeRegistry$Reader" 95 ⟨"MoleculeRegistry$Reader", "readAtom", "()Z"⟩ : Cond) ∈ jx_W0 := vm_4 (List.mem_of_getElem? (i := 22) rfl)
theorem w_183 : (.instanceMethod ⟨"MoleculeRegistry$Reader", "readAtom", "()Z"⟩ : Cond) ∈ jx_W0 := vm_4 (List.mem_of_getElem? (i := 23) rfl)
theorem w_184 : (.selects "MoleculeRegistry$Reader" ⟨"MoleculeRegistry$Reader", "readAtom", "()Z"⟩ ⟨"MoleculeRegistry$Reader", "readAtom", "()Z"⟩ : Cond) ∈ jx_W0 := vm_4 (List.mem_of_getElem? (i := 24) rfl)
theorem w_185 : (.methodLink "MoleculeRegistry$Reader" 99 ⟨"MoleculeRegistry$Reader", "bind", "(III)Z"⟩ : Cond) ∈ jx_W0 := vm_4 (List.mem_of_getElem? (i := 25) rfl)
theorem w_186 : (.instanceMethod ⟨"MoleculeRegistry$Reader", "bind", "(III)Z"⟩ : Cond) ∈ jx_W0 := vm_4 (List.mem_of_getElem? (i := 26) rfl)
theorem w_187 : (.selects "MoleculeRegistry$Reader" ⟨"MoleculeRegistry$Reader", "bind", "(III)Z"⟩ ⟨"MoleculeRegistry$Reader", "bind", "(III)Z"⟩ : Cond) ∈ jx_W0 := vm_4 (List.mem_of_getElem? (i := 27) rfl)
theorem w_188 : (.methodLink "MoleculeRegistry$Reader" 103 ⟨"MoleculeRegistry$Reader", "readClosures", "(I)Z"⟩ : Cond) ∈ jx_W0 := vm_4 (List.mem_of_getElem? (i := 28) rfl)
theorem w_189 : (.instanceMethod ⟨"MoleculeRegistry$Reader", "readClosures", "(I)Z"⟩ : Cond) ∈ jx_W0 := vm_4 (List.mem_of_getElem? (i := 29) rfl)
theorem w_190 : (.selects "MoleculeRegistry$Reader" ⟨"MoleculeRegistry$Reader", "readClosures", "(I)Z"⟩ ⟨"MoleculeRegistry$Reader", "readClosures", "(I)Z"⟩ : Cond) ∈ jx_W0 := vm_4 (List.mem_of_getElem? (i := 30) rfl)
theorem w_191 : (.methodLink "MoleculeRegistry$Reader" 107 ⟨"MoleculeRegistry$Reader", "readPartEnds", "(I)I"⟩ : Cond) ∈ jx_W0 := vm_4 (List.mem_of_getElem? (i := 31) rfl)
theorem w_192 : (.instanceMethod ⟨"MoleculeRegistry$Reader", "readPartEnds", "(I)I"⟩ : Cond) ∈ jx_W0 := vm_4 (List.mem_of_getElem? (i := 32) rfl)
theorem w_193 : (.selects "MoleculeRegistry$Reader" ⟨"MoleculeRegistry$Reader", "readPartEnds", "(I)I"⟩ ⟨"MoleculeRegistry$Reader", "readPartEnds", "(I)I"⟩ : Cond) ∈ jx_W0 := vm_4 (List.mem_of_getElem? (i := 33) rfl)
theorem w_194 : (.methodLink "MoleculeRegistry$Reader" 111 ⟨"MoleculeRegistry$Reader", "readPartStart", "(I)V"⟩ : Cond) ∈ jx_W0 := vm_4 (List.mem_of_getElem? (i := 34) rfl)
theorem w_195 : (.instanceMethod ⟨"MoleculeRegistry$Reader", "readPartStart", "(I)V"⟩ : Cond) ∈ jx_W0 := vm_4 (List.mem_of_getElem? (i := 35) rfl)
theorem w_196 : (.selects "MoleculeRegistry$Reader" ⟨"MoleculeRegistry$Reader", "readPartStart", "(I)V"⟩ ⟨"MoleculeRegistry$Reader", "readPartStart", "(I)V"⟩ : Cond) ∈ jx_W0 := vm_4 (List.mem_of_getElem? (i := 36) rfl)
theorem w_197 : (.methodLink "MoleculeRegistry$Reader" 118 ⟨"MoleculeRegistry$Reader", "takes", "(C)Z"⟩ : Cond) ∈ jx_W0 := vm_4 (List.mem_of_getElem? (i := 37) rfl)
theorem w_198 : (.instanceMethod ⟨"MoleculeRegistry$Reader", "takes", "(C)Z"⟩ : Cond) ∈ jx_W0 := vm_4 (List.mem_of_getElem? (i := 38) rfl)
theorem w_199 : (.selects "MoleculeRegistry$Reader" ⟨"MoleculeRegistry$Reader", "takes", "(C)Z"⟩ ⟨"MoleculeRegistry$Reader", "takes", "(C)Z"⟩ : Cond) ∈ jx_W0 := vm_4 (List.mem_of_getElem? (i := 39) rfl)
theorem w_200 : (.methodLink "MoleculeRegistry$Reader" 114 ⟨"MoleculeRegistry$Reader", "here", "()C"⟩ : Cond) ∈ jx_W0 := vm_5 (List.mem_of_getElem? (i := 0) rfl)
theorem w_201 : (.instanceMethod ⟨"MoleculeRegistry$Reader", "here", "()C"⟩ : Cond) ∈ jx_W0 := vm_5 (List.mem_of_getElem? (i := 1) rfl)
theorem w_202 : (.selects "MoleculeRegistry$Reader" ⟨"MoleculeRegistry$Reader", "here", "()C"⟩ ⟨"MoleculeRegistry$Reader", "here", "()C"⟩ : Cond) ∈ jx_W0 := vm_5 (List.mem_of_getElem? (i := 2) rfl)
theorem w_203 : (.methodLink "MoleculeRegistry$Reader" 133 ⟨"MoleculeRegistry$Reader", "readBrackets", "()Z"⟩ : Cond) ∈ jx_W0 := vm_5 (List.mem_of_getElem? (i := 3) rfl)
theorem w_204 : (.instanceMethod ⟨"MoleculeRegistry$Reader", "readBrackets", "()Z"⟩ : Cond) ∈ jx_W0 := vm_5 (List.mem_of_getElem? (i := 4) rfl)
theorem w_205 : (.selects "MoleculeRegistry$Reader" ⟨"MoleculeRegistry$Reader", "readBrackets", "()Z"⟩ ⟨"MoleculeRegistry$Reader", "readBrackets", "()Z"⟩ : Cond) ∈ jx_W0 := vm_5 (List.mem_of_getElem? (i := 5) rfl)
theorem w_206 : (.methodLink "MoleculeRegistry$Reader" 136 ⟨"MoleculeRegistry$Reader", "addAtom", "(II)Z"⟩ : Cond) ∈ jx_W0 := vm_5 (List.mem_of_getElem? (i := 6) rfl)
theorem w_207 : (.instanceMethod ⟨"MoleculeRegistry$Reader", "addAtom", "(II)Z"⟩ : Cond) ∈ jx_W0 := vm_5 (List.mem_of_getElem? (i := 7) rfl)
theorem w_208 : (.selects "MoleculeRegistry$Reader" ⟨"MoleculeRegistry$Reader", "addAtom", "(II)Z"⟩ ⟨"MoleculeRegistry$Reader", "addAtom", "(II)Z"⟩ : Cond) ∈ jx_W0 := vm_5 (List.mem_of_getElem? (i := 8) rfl)
theorem w_209 : (.methodLink "MoleculeRegistry$Reader" 141 ⟨"java/lang/String", "indexOf", "(I)I"⟩ : Cond) ∈ jx_W0 := vm_5 (List.mem_of_getElem? (i := 9) rfl)
theorem w_210 : (.methodLink "MoleculeRegistry$Reader" 148 ⟨"MoleculeRegistry$Reader", "readList", "(C)Z"⟩ : Cond) ∈ jx_W0 := vm_5 (List.mem_of_getElem? (i := 10) rfl)
theorem w_211 : (.instanceMethod ⟨"MoleculeRegistry$Reader", "readList", "(C)Z"⟩ : Cond) ∈ jx_W0 := vm_5 (List.mem_of_getElem? (i := 11) rfl)
theorem w_212 : (.selects "MoleculeRegistry$Reader" ⟨"MoleculeRegistry$Reader", "readList", "(C)Z"⟩ ⟨"MoleculeRegistry$Reader", "readList", "(C)Z"⟩ : Cond) ∈ jx_W0 := vm_5 (List.mem_of_getElem? (i := 12) rfl)
theorem w_213 : (.methodLink "MoleculeRegistry$Reader" 151 ⟨"MoleculeRegistry$Reader", "readHydrogens", "()I"⟩ : Cond) ∈ jx_W0 := vm_5 (List.mem_of_getElem? (i := 13) rfl)
theorem w_214 : (.instanceMethod ⟨"MoleculeRegistry$Reader", "readHydrogens", "()I"⟩ : Cond) ∈ jx_W0 := vm_5 (List.mem_of_getElem? (i := 14) rfl)
theorem w_215 : (.selects "MoleculeRegistry$Reader" ⟨"MoleculeRegistry$Reader", "readHydrogens", "()I"⟩ ⟨"MoleculeRegistry$Reader", "readHydrogens", "()I"⟩ : Cond) ∈ jx_W0 := vm_5 (List.mem_of_getElem? (i := 15) rfl)
theorem w_216 : (.methodLink "MoleculeRegistry$Reader" 154 ⟨"MoleculeRegistry$Reader", "readCharge", "()I"⟩ : Cond) ∈ jx_W0 := vm_5 (List.mem_of_getElem? (i := 16) rfl)
theorem w_217 : (.instanceMethod ⟨"MoleculeRegistry$Reader", "readCharge", "()I"⟩ : Cond) ∈ jx_W0 := vm_5 (List.mem_of_getElem? (i := 17) rfl)
theorem w_218 : (.selects "MoleculeRegistry$Reader" ⟨"MoleculeRegistry$Reader", "readCharge", "()I"⟩ ⟨"MoleculeRegistry$Reader", "readCharge", "()I"⟩ : Cond) ∈ jx_W0 := vm_5 (List.mem_of_getElem? (i := 18) rfl)
theorem w_219 : (.methodLink "MoleculeRegistry$Reader" 125 ⟨"MoleculeRegistry$Reader", "kindFor", "(III)I"⟩ : Cond) ∈ jx_W0 := vm_5 (List.mem_of_getElem? (i := 19) rfl)
theorem w_220 : (.instanceMethod ⟨"MoleculeRegistry$Reader", "kindFor", "(III)I"⟩ : Cond) ∈ jx_W0 := vm_5 (List.mem_of_getElem? (i := 20) rfl)
theorem w_221 : (.selects "MoleculeRegistry$Reader" ⟨"MoleculeRegistry$Reader", "kindFor", "(III)I"⟩ ⟨"MoleculeRegistry$Reader", "kindFor", "(III)I"⟩ : Cond) ∈ jx_W0 := vm_5 (List.mem_of_getElem? (i := 21) rfl)
theorem w_222 : (.methodLink "MoleculeRegistry$Reader" 129 ⟨"MoleculeRegistry$Reader", "areBound", "(II)Z"⟩ : Cond) ∈ jx_W0 := vm_5 (List.mem_of_getElem? (i := 22) rfl)
theorem w_223 : (.instanceMethod ⟨"MoleculeRegistry$Reader", "areBound", "(II)Z"⟩ : Cond) ∈ jx_W0 := vm_5 (List.mem_of_getElem? (i := 23) rfl)
theorem w_224 : (.selects "MoleculeRegistry$Reader" ⟨"MoleculeRegistry$Reader", "areBound", "(II)Z"⟩ ⟨"MoleculeRegistry$Reader", "areBound", "(II)Z"⟩ : Cond) ∈ jx_W0 := vm_5 (List.mem_of_getElem? (i := 24) rfl)
theorem w_225 : (.methodLink "MoleculeRegistry$Reader" 122 ⟨"MoleculeRegistry$Reader", "openOrClose", "(III)Z"⟩ : Cond) ∈ jx_W0 := vm_5 (List.mem_of_getElem? (i := 25) rfl)
theorem w_226 : (.instanceMethod ⟨"MoleculeRegistry$Reader", "openOrClose", "(III)Z"⟩ : Cond) ∈ jx_W0 := vm_5 (List.mem_of_getElem? (i := 26) rfl)
theorem w_227 : (.selects "MoleculeRegistry$Reader" ⟨"MoleculeRegistry$Reader", "openOrClose", "(III)Z"⟩ ⟨"MoleculeRegistry$Reader", "openOrClose", "(III)Z"⟩ : Cond) ∈ jx_W0 := vm_5 (List.mem_of_getElem? (i := 27) rfl)
theorem w_228 : (.methodLink "MoleculeRegistry$Reader" 78 ⟨"MoleculeRegistry$Graph", "clear", "()V"⟩ : Cond) ∈ jx_W0 := vm_5 (List.mem_of_getElem? (i := 28) rfl)
theorem w_229 : (.instanceMethod ⟨"MoleculeRegistry$Graph", "clear", "()V"⟩ : Cond) ∈ jx_W0 := vm_5 (List.mem_of_getElem? (i := 29) rfl)
theorem w_230 : (.selects "MoleculeRegistry$Graph" ⟨"MoleculeRegistry$Graph", "clear", "()V"⟩ ⟨"MoleculeRegistry$Graph", "clear", "()V"⟩ : Cond) ∈ jx_W0 := vm_5 (List.mem_of_getElem? (i := 30) rfl)
theorem w_231 : (.methodLink "MoleculeRegistry$Reader" 83 ⟨"MoleculeRegistry$Graph", "add", "(I)V"⟩ : Cond) ∈ jx_W0 := vm_5 (List.mem_of_getElem? (i := 31) rfl)
theorem w_232 : (.instanceMethod ⟨"MoleculeRegistry$Graph", "add", "(I)V"⟩ : Cond) ∈ jx_W0 := vm_5 (List.mem_of_getElem? (i := 32) rfl)
theorem w_233 : (.selects "MoleculeRegistry$Graph" ⟨"MoleculeRegistry$Graph", "add", "(I)V"⟩ ⟨"MoleculeRegistry$Graph", "add", "(I)V"⟩ : Cond) ∈ jx_W0 := vm_5 (List.mem_of_getElem? (i := 33) rfl)
theorem w_234 : (.methodLink "MoleculeRegistry$Reader" 87 ⟨"MoleculeRegistry$Graph", "join", "(III)V"⟩ : Cond) ∈ jx_W0 := vm_5 (List.mem_of_getElem? (i := 34) rfl)
theorem w_235 : (.instanceMethod ⟨"MoleculeRegistry$Graph", "join", "(III)V"⟩ : Cond) ∈ jx_W0 := vm_5 (List.mem_of_getElem? (i := 35) rfl)
theorem w_236 : (.selects "MoleculeRegistry$Graph" ⟨"MoleculeRegistry$Graph", "join", "(III)V"⟩ ⟨"MoleculeRegistry$Graph", "join", "(III)V"⟩ : Cond) ∈ jx_W0 := vm_5 (List.mem_of_getElem? (i := 36) rfl)
theorem w_237 : (.methodLink "MoleculeRegistry$Shelf" 3 ⟨"java/lang/Object", "<init>", "()V"⟩ : Cond) ∈ jx_W0 := vm_5 (List.mem_of_getElem? (i := 37) rfl)
theorem w_238 : (.classLink "MoleculeRegistry$Shelf" 9 "MoleculeRegistry$Graph" : Cond) ∈ jx_W0 := vm_5 (List.mem_of_getElem? (i := 38) rfl)
theorem w_239 : (.fieldLink "MoleculeRegistry$Shelf" 11 "MoleculeRegistry$Shelf" "molecules" "[LMoleculeRegistry$Graph;" : Cond) ∈ jx_W0 := vm_5 (List.mem_of_getElem? (i := 39) rfl)
theorem w_240 : (.fieldLink "MoleculeRegistry$Shelf" 17 "MoleculeRegistry$Shelf" "ids" "[I" : Cond) ∈ jx_W0 := vm_6 (List.mem_of_getElem? (i := 0) rfl)
theorem w_241 : (.methodLinkNest "MoleculeRegistry$Shelf" 21 ⟨"MoleculeRegistry$Graph", "<init>", "()V"⟩ "MoleculeRegistry" : Cond) ∈ jx_W0 := vm_6 (List.mem_of_getElem? (i := 1) rfl)
theorem w_242 : (.fieldLink "MoleculeRegistry$Shelf" 22 "MoleculeRegistry$Shelf" "size" "I" : Cond) ∈ jx_W0 := vm_6 (List.mem_of_getElem? (i := 2) rfl)
theorem w_243 : (.methodLink "MoleculeRegistry$Shelf" 33 ⟨"MoleculeRegistry$Shelf", "slotOf", "(I)I"⟩ : Cond) ∈ jx_W0 := vm_6 (List.mem_of_getElem? (i := 3) rfl)
theorem w_244 : (.instanceMethod ⟨"MoleculeRegistry$Shelf", "slotOf", "(I)I"⟩ : Cond) ∈ jx_W0 := vm_6 (List.mem_of_getElem? (i := 4) rfl)
theorem w_245 : (.selects "MoleculeRegistry$Shelf" ⟨"MoleculeRegistry$Shelf", "slotOf", "(I)I"⟩ ⟨"MoleculeRegistry$Shelf", "slotOf", "(I)I"⟩ : Cond) ∈ jx_W0 := vm_6 (List.mem_of_getElem? (i := 5) rfl)
theorem w_246 : (.methodLink "MoleculeRegistry$Shelf" 26 ⟨"MoleculeRegistry$Graph", "copyFrom", "(LMoleculeRegistry$Graph;)V"⟩ : Cond) ∈ jx_W0 := vm_6 (List.mem_of_getElem? (i := 6) rfl)
theorem w_247 : (.fieldLink "MoleculeRegistry$Shelf" 30 "MoleculeRegistry$Shelf" "lastId" "I" : Cond) ∈ jx_W0 := vm_6 (List.mem_of_getElem? (i := 7) rfl)
theorem w_248 : (.methodLink "MoleculeRegistry" 3 ⟨"java/lang/Object", "<init>", "()V"⟩ : Cond) ∈ jx_W0 := vm_6 (List.mem_of_getElem? (i := 8) rfl)
theorem w_249 : (.fieldLink "MoleculeRegistry" 9 "MoleculeRegistry" "buffer" "[C" : Cond) ∈ jx_W0 := vm_6 (List.mem_of_getElem? (i := 9) rfl)
theorem w_250 : (.classLink "MoleculeRegistry" 13 "MoleculeRegistry$Reader" : Cond) ∈ jx_W0 := vm_6 (List.mem_of_getElem? (i := 10) rfl)
theorem w_251 : (.instantiable "MoleculeRegistry$Reader" 15 : Cond) ∈ jx_W0 := vm_6 (List.mem_of_getElem? (i := 11) rfl)
theorem w_252 : (.initialized "MoleculeRegistry$Reader" : Cond) ∈ jx_W0 := vm_6 (List.mem_of_getElem? (i := 12) rfl)
theorem w_253 : (.methodLinkNest "MoleculeRegistry" 15 ⟨"MoleculeRegistry$Reader", "<init>", "()V"⟩ "MoleculeRegistry" : Cond) ∈ jx_W0 := vm_6 (List.mem_of_getElem? (i := 13) rfl)
theorem w_254 : (.code ⟨"MoleculeRegistry$Reader", "<init>", "()V"⟩ prog_6_method_1_code 1 none : Cond) ∈ jx_W0 := vm_6 (List.mem_of_getElem? (i := 14) rfl)
theorem w_255 : (.instanceMethod ⟨"MoleculeRegistry$Reader", "<init>", "()V"⟩ : Cond) ∈ jx_W0 := vm_6 (List.mem_of_getElem? (i := 15) rfl)
theorem w_256 : (.fieldLink "MoleculeRegistry" 16 "MoleculeRegistry" "reader" "LMoleculeRegistry$Reader;" : Cond) ∈ jx_W0 := vm_6 (List.mem_of_getElem? (i := 16) rfl)
theorem w_257 : (.classLink "MoleculeRegistry" 20 "MoleculeRegistry$Graph" : Cond) ∈ jx_W0 := vm_6 (List.mem_of_getElem? (i := 17) rfl)
theorem w_258 : (.methodLinkNest "MoleculeRegistry" 22 ⟨"MoleculeRegistry$Graph", "<init>", "()V"⟩ "MoleculeRegistry" : Cond) ∈ jx_W0 := vm_6 (List.mem_of_getElem? (i := 18) rfl)
theorem w_259 : (.fieldLink "MoleculeRegistry" 23 "MoleculeRegistry" "read" "LMoleculeRegistry$Graph;" : Cond) ∈ jx_W0 := vm_6 (List.mem_of_getElem? (i := 19) rfl)
theorem w_260 : (.classLink "MoleculeRegistry" 27 "MoleculeRegistry$Matcher" : Cond) ∈ jx_W0 := vm_6 (List.mem_of_getElem? (i := 20) rfl)
theorem w_261 : (.instantiable "MoleculeRegistry$Matcher" 2 : Cond) ∈ jx_W0 := vm_6 (List.mem_of_getElem? (i := 21) rfl)
theorem w_262 : (.methodLinkNest "MoleculeRegistry" 29 ⟨"MoleculeRegistry$Matcher", "<init>", "()V"⟩ "MoleculeRegistry" : Cond) ∈ jx_W0 := vm_6 (List.mem_of_getElem? (i := 22) rfl)
theorem w_263 : (.code ⟨"MoleculeRegistry$Matcher", "<init>", "()V"⟩ prog_5_method_1_code 1 none : Cond) ∈ jx_W0 := vm_6 (List.mem_of_getElem? (i := 23) rfl)
theorem w_264 : (.instanceMethod ⟨"MoleculeRegistry$Matcher", "<init>", "()V"⟩ : Cond) ∈ jx_W0 := vm_6 (List.mem_of_getElem? (i := 24) rfl)
theorem w_265 : (.fieldLink "MoleculeRegistry" 30 "MoleculeRegistry" "matcher" "LMoleculeRegistry$Matcher;" : Cond) ∈ jx_W0 := vm_6 (List.mem_of_getElem? (i := 25) rfl)
theorem w_266 : (.classLink "MoleculeRegistry" 34 "MoleculeRegistry$Shelf" : Cond) ∈ jx_W0 := vm_6 (List.mem_of_getElem? (i := 26) rfl)
theorem w_267 : (.instantiable "MoleculeRegistry$Shelf" 4 : Cond) ∈ jx_W0 := vm_6 (List.mem_of_getElem? (i := 27) rfl)
theorem w_268 : (.initialized "MoleculeRegistry$Shelf" : Cond) ∈ jx_W0 := vm_6 (List.mem_of_getElem? (i := 28) rfl)
theorem w_269 : (.methodLink "MoleculeRegistry" 36 ⟨"MoleculeRegistry$Shelf", "<init>", "()V"⟩ : Cond) ∈ jx_W0 := vm_6 (List.mem_of_getElem? (i := 29) rfl)
theorem w_270 : (.code ⟨"MoleculeRegistry$Shelf", "<init>", "()V"⟩ prog_7_method_1_code 2 none : Cond) ∈ jx_W0 := vm_6 (List.mem_of_getElem? (i := 30) rfl)
theorem w_271 : (.instanceMethod ⟨"MoleculeRegistry$Shelf", "<init>", "()V"⟩ : Cond) ∈ jx_W0 := vm_6 (List.mem_of_getElem? (i := 31) rfl)
theorem w_272 : (.fieldLink "MoleculeRegistry" 37 "MoleculeRegistry" "shelf" "LMoleculeRegistry$Shelf;" : Cond) ∈ jx_W0 := vm_6 (List.mem_of_getElem? (i := 32) rfl)
theorem w_273 : (.classLink "MoleculeRegistry" 41 "MoleculeRegistry$Log" : Cond) ∈ jx_W0 := vm_6 (List.mem_of_getElem? (i := 33) rfl)
theorem w_274 : (.instantiable "MoleculeRegistry$Log" 4 : Cond) ∈ jx_W0 := vm_6 (List.mem_of_getElem? (i := 34) rfl)
theorem w_275 : (.initialized "MoleculeRegistry$Log" : Cond) ∈ jx_W0 := vm_6 (List.mem_of_getElem? (i := 35) rfl)
theorem w_276 : (.methodLinkNest "MoleculeRegistry" 43 ⟨"MoleculeRegistry$Log", "<init>", "()V"⟩ "MoleculeRegistry" : Cond) ∈ jx_W0 := vm_6 (List.mem_of_getElem? (i := 36) rfl)
theorem w_277 : (.code ⟨"MoleculeRegistry$Log", "<init>", "()V"⟩ prog_4_method_1_code 1 none : Cond) ∈ jx_W0 := vm_6 (List.mem_of_getElem? (i := 37) rfl)
theorem w_278 : (.instanceMethod ⟨"MoleculeRegistry$Log", "<init>", "()V"⟩ : Cond) ∈ jx_W0 := vm_6 (List.mem_of_getElem? (i := 38) rfl)
theorem w_279 : (.fieldLink "MoleculeRegistry" 44 "MoleculeRegistry" "log" "LMoleculeRegistry$Log;" : Cond) ∈ jx_W0 := vm_6 (List.mem_of_getElem? (i := 39) rfl)
theorem w_280 : (.fieldLink "MoleculeRegistry" 48 "MoleculeRegistry" "hits" "[I" : Cond) ∈ jx_W0 := vm_7 (List.mem_of_getElem? (i := 0) rfl)
theorem w_281 : (.fieldLink "MoleculeRegistry" 52 "MoleculeRegistry" "toldFailure" "I" : Cond) ∈ jx_W0 := vm_7 (List.mem_of_getElem? (i := 1) rfl)
theorem w_282 : (.methodLink "MoleculeRegistry" 56 ⟨"MoleculeRegistry", "byteAt", "(JI)I"⟩ : Cond) ∈ jx_W0 := vm_7 (List.mem_of_getElem? (i := 2) rfl)
theorem w_283 : (.static ⟨"MoleculeRegistry", "byteAt", "(JI)I"⟩ : Cond) ∈ jx_W0 := vm_7 (List.mem_of_getElem? (i := 3) rfl)
theorem w_284 : (.fieldLink "MoleculeRegistry" 60 "MoleculeRegistry" "typed" "I" : Cond) ∈ jx_W0 := vm_7 (List.mem_of_getElem? (i := 4) rfl)
theorem w_285 : (.methodLink "MoleculeRegistry" 63 ⟨"MoleculeRegistry", "append", "(J)V"⟩ : Cond) ∈ jx_W0 := vm_7 (List.mem_of_getElem? (i := 5) rfl)
theorem w_286 : (.instanceMethod ⟨"MoleculeRegistry", "append", "(J)V"⟩ : Cond) ∈ jx_W0 := vm_7 (List.mem_of_getElem? (i := 6) rfl)
theorem w_287 : (.selects "MoleculeRegistry" ⟨"MoleculeRegistry", "append", "(J)V"⟩ ⟨"MoleculeRegistry", "append", "(J)V"⟩ : Cond) ∈ jx_W0 := vm_7 (List.mem_of_getElem? (i := 7) rfl)
theorem w_288 : (.fieldLink "MoleculeRegistry" 92 "MoleculeRegistry" "hitCount" "I" : Cond) ∈ jx_W0 := vm_7 (List.mem_of_getElem? (i := 8) rfl)
theorem w_289 : (.fieldLink "MoleculeRegistry" 113 "MoleculeRegistry" "down" "Z" : Cond) ∈ jx_W0 := vm_7 (List.mem_of_getElem? (i := 9) rfl)
theorem w_290 : (.fieldLinkNest "MoleculeRegistry" 117 "MoleculeRegistry$Log" "marked" "Z" "MoleculeRegistry" : Cond) ∈ jx_W0 := vm_7 (List.mem_of_getElem? (i := 10) rfl)
theorem w_291 : (.methodLink "MoleculeRegistry" 120 ⟨"MoleculeRegistry", "carryOut", "()V"⟩ : Cond) ∈ jx_W0 := vm_7 (List.mem_of_getElem? (i := 11) rfl)
theorem w_292 : (.instanceMethod ⟨"MoleculeRegistry", "carryOut", "()V"⟩ : Cond) ∈ jx_W0 := vm_7 (List.mem_of_getElem? (i := 12) rfl)
theorem w_293 : (.selects "MoleculeRegistry" ⟨"MoleculeRegistry", "carryOut", "()V"⟩ ⟨"MoleculeRegistry", "carryOut", "()V"⟩ : Cond) ∈ jx_W0 := vm_7 (List.mem_of_getElem? (i := 13) rfl)
theorem w_294 : (.methodLink "MoleculeRegistry" 123 ⟨"MoleculeRegistry$Log", "clear", "()V"⟩ : Cond) ∈ jx_W0 := vm_7 (List.mem_of_getElem? (i := 14) rfl)
theorem w_295 : (.instanceMethod ⟨"MoleculeRegistry$Log", "clear", "()V"⟩ : Cond) ∈ jx_W0 := vm_7 (List.mem_of_getElem? (i := 15) rfl)
theorem w_296 : (.selects "MoleculeRegistry$Log" ⟨"MoleculeRegistry$Log", "clear", "()V"⟩ ⟨"MoleculeRegistry$Log", "clear", "()V"⟩ : Cond) ∈ jx_W0 := vm_7 (List.mem_of_getElem? (i := 16) rfl)
theorem w_297 : (.fieldLinkNest "MoleculeRegistry" 194 "MoleculeRegistry$Log" "id" "I" "MoleculeRegistry" : Cond) ∈ jx_W0 := vm_7 (List.mem_of_getElem? (i := 17) rfl)
theorem w_298 : (.methodLink "MoleculeRegistry" 109 ⟨"MoleculeRegistry$Shelf", "slotOf", "(I)I"⟩ : Cond) ∈ jx_W0 := vm_7 (List.mem_of_getElem? (i := 18) rfl)
theorem w_299 : (.fieldLinkNest "MoleculeRegistry" 197 "MoleculeRegistry$Log" "removing" "Z" "MoleculeRegistry" : Cond) ∈ jx_W0 := vm_7 (List.mem_of_getElem? (i := 19) rfl)
theorem w_300 : (.methodLink "MoleculeRegistry" 200 ⟨"MoleculeRegistry$Shelf", "take", "(I)V"⟩ : Cond) ∈ jx_W0 := vm_7 (List.mem_of_getElem? (i := 20) rfl)
theorem w_301 : (.instanceMethod ⟨"MoleculeRegistry$Shelf", "take", "(I)V"⟩ : Cond) ∈ jx_W0 := vm_7 (List.mem_of_getElem? (i := 21) rfl)
theorem w_302 : (.selects "MoleculeRegistry$Shelf" ⟨"MoleculeRegistry$Shelf", "take", "(I)V"⟩ ⟨"MoleculeRegistry$Shelf", "take", "(I)V"⟩ : Cond) ∈ jx_W0 := vm_7 (List.mem_of_getElem? (i := 22) rfl)
theorem w_303 : (.fieldLinkNest "MoleculeRegistry" 204 "MoleculeRegistry$Log" "molecule" "LMoleculeRegistry$Graph;" "MoleculeRegistry" : Cond) ∈ jx_W0 := vm_7 (List.mem_of_getElem? (i := 23) rfl)
theorem w_304 : (.methodLink "MoleculeRegistry" 207 ⟨"MoleculeRegistry$Shelf", "put", "(ILMoleculeRegistry$Graph;)V"⟩ : Cond) ∈ jx_W0 := vm_7 (List.mem_of_getElem? (i := 24) rfl)
theorem w_305 : (.instanceMethod ⟨"MoleculeRegistry$Shelf", "put", "(ILMoleculeRegistry$Graph;)V"⟩ : Cond) ∈ jx_W0 := vm_7 (List.mem_of_getElem? (i := 25) rfl)
theorem w_306 : (.selects "MoleculeRegistry$Shelf" ⟨"MoleculeRegistry$Shelf", "put", "(ILMoleculeRegistry$Graph;)V"⟩ ⟨"MoleculeRegistry$Shelf", "put", "(ILMoleculeRegistry$Graph;)V"⟩ : Cond) ∈ jx_W0 := vm_7 (List.mem_of_getElem? (i := 26) rfl)
theorem w_307 : (.fieldLinkNest "MoleculeRegistry" 75 "MoleculeRegistry$Shelf" "size" "I" "MoleculeRegistry" : Cond) ∈ jx_W0 := vm_7 (List.mem_of_getElem? (i := 27) rfl)
theorem w_308 : (.methodLink "MoleculeRegistry" 126 ⟨"MoleculeRegistry", "visible", "(I)LMoleculeRegistry$Graph;"⟩ : Cond) ∈ jx_W0 := vm_7 (List.mem_of_getElem? (i := 28) rfl)
theorem w_309 : (.instanceMethod ⟨"MoleculeRegistry", "visible", "(I)LMoleculeRegistry$Graph;"⟩ : Cond) ∈ jx_W0 := vm_7 (List.mem_of_getElem? (i := 29) rfl)
theorem w_310 : (.selects "MoleculeRegistry" ⟨"MoleculeRegistry", "visible", "(I)LMoleculeRegistry$Graph;"⟩ ⟨"MoleculeRegistry", "visible", "(I)LMoleculeRegistry$Graph;"⟩ : Cond) ∈ jx_W0 := vm_7 (List.mem_of_getElem? (i := 30) rfl)
theorem w_311 : (.fieldLinkNest "MoleculeRegistry" 130 "MoleculeRegistry$Graph" "size" "I" "MoleculeRegistry" : Cond) ∈ jx_W0 := vm_7 (List.mem_of_getElem? (i := 31) rfl)
theorem w_312 : (.fieldLinkNest "MoleculeRegistry" 95 "MoleculeRegistry$Shelf" "molecules" "[LMoleculeRegistry$Graph;" "MoleculeRegistry" : Cond) ∈ jx_W0 := vm_7 (List.mem_of_getElem? (i := 32) rfl)
theorem w_313 : (.methodLink "MoleculeRegistry" 131 ⟨"MoleculeRegistry$Graph", "has", "(I)Z"⟩ : Cond) ∈ jx_W0 := vm_7 (List.mem_of_getElem? (i := 33) rfl)
theorem w_314 : (.fieldLinkNest "MoleculeRegistry" 135 "MoleculeRegistry$Graph" "codes" "[I" "MoleculeRegistry" : Cond) ∈ jx_W0 := vm_7 (List.mem_of_getElem? (i := 34) rfl)
theorem w_315 : (.methodLink "MoleculeRegistry" 138 ⟨"MoleculeRegistry$Graph", "kindBetween", "(II)I"⟩ : Cond) ∈ jx_W0 := vm_7 (List.mem_of_getElem? (i := 35) rfl)
theorem w_316 : (.methodLink "MoleculeRegistry" 67 ⟨"MoleculeRegistry", "readBuffer", "(Z)V"⟩ : Cond) ∈ jx_W0 := vm_7 (List.mem_of_getElem? (i := 36) rfl)
theorem w_317 : (.instanceMethod ⟨"MoleculeRegistry", "readBuffer", "(Z)V"⟩ : Cond) ∈ jx_W0 := vm_7 (List.mem_of_getElem? (i := 37) rfl)
theorem w_318 : (.selects "MoleculeRegistry" ⟨"MoleculeRegistry", "readBuffer", "(Z)V"⟩ ⟨"MoleculeRegistry", "readBuffer", "(Z)V"⟩ : Cond) ∈ jx_W0 := vm_7 (List.mem_of_getElem? (i := 38) rfl)
theorem w_319 : (.methodLink "MoleculeRegistry" 71 ⟨"MoleculeRegistry", "idOfSame", "()I"⟩ : Cond) ∈ jx_W0 := vm_7 (List.mem_of_getElem? (i := 39) rfl)
theorem w_320 : (.instanceMethod ⟨"MoleculeRegistry", "idOfSame", "()I"⟩ : Cond) ∈ jx_W0 := vm_8 (List.mem_of_getElem? (i := 0) rfl)
theorem w_321 : (.selects "MoleculeRegistry" ⟨"MoleculeRegistry", "idOfSame", "()I"⟩ ⟨"MoleculeRegistry", "idOfSame", "()I"⟩ : Cond) ∈ jx_W0 := vm_8 (List.mem_of_getElem? (i := 1) rfl)
theorem w_322 : (.fieldLinkNest "MoleculeRegistry" 85 "MoleculeRegistry$Shelf" "lastId" "I" "MoleculeRegistry" : Cond) ∈ jx_W0 := vm_8 (List.mem_of_getElem? (i := 2) rfl)
theorem w_323 : (.methodLink "MoleculeRegistry" 88 ⟨"MoleculeRegistry", "change", "(ZI)Z"⟩ : Cond) ∈ jx_W0 := vm_8 (List.mem_of_getElem? (i := 3) rfl)
theorem w_324 : (.instanceMethod ⟨"MoleculeRegistry", "change", "(ZI)Z"⟩ : Cond) ∈ jx_W0 := vm_8 (List.mem_of_getElem? (i := 4) rfl)
theorem w_325 : (.selects "MoleculeRegistry" ⟨"MoleculeRegistry", "change", "(ZI)Z"⟩ ⟨"MoleculeRegistry", "change", "(ZI)Z"⟩ : Cond) ∈ jx_W0 := vm_8 (List.mem_of_getElem? (i := 5) rfl)
theorem w_326 : (.methodLink "MoleculeRegistry" 106 ⟨"MoleculeRegistry", "refuseWhenDown", "()V"⟩ : Cond) ∈ jx_W0 := vm_8 (List.mem_of_getElem? (i := 6) rfl)
theorem w_327 : (.instanceMethod ⟨"MoleculeRegistry", "refuseWhenDown", "()V"⟩ : Cond) ∈ jx_W0 := vm_8 (List.mem_of_getElem? (i := 7) rfl)
theorem w_328 : (.selects "MoleculeRegistry" ⟨"MoleculeRegistry", "refuseWhenDown", "()V"⟩ ⟨"MoleculeRegistry", "refuseWhenDown", "()V"⟩ : Cond) ∈ jx_W0 := vm_8 (List.mem_of_getElem? (i := 8) rfl)
theorem w_329 : (.methodLink "MoleculeRegistry" 147 ⟨"MoleculeRegistry$Reader", "start", "([CIZ)V"⟩ : Cond) ∈ jx_W0 := vm_8 (List.mem_of_getElem? (i := 9) rfl)
theorem w_330 : (.instanceMethod ⟨"MoleculeRegistry$Reader", "start", "([CIZ)V"⟩ : Cond) ∈ jx_W0 := vm_8 (List.mem_of_getElem? (i := 10) rfl)
theorem w_331 : (.selects "MoleculeRegistry$Reader" ⟨"MoleculeRegistry$Reader", "start", "([CIZ)V"⟩ ⟨"MoleculeRegistry$Reader", "start", "([CIZ)V"⟩ : Cond) ∈ jx_W0 := vm_8 (List.mem_of_getElem? (i := 11) rfl)
theorem w_332 : (.methodLink "MoleculeRegistry" 151 ⟨"MoleculeRegistry$Reader", "readAtoms", "()Z"⟩ : Cond) ∈ jx_W0 := vm_8 (List.mem_of_getElem? (i := 12) rfl)
theorem w_333 : (.instanceMethod ⟨"MoleculeRegistry$Reader", "readAtoms", "()Z"⟩ : Cond) ∈ jx_W0 := vm_8 (List.mem_of_getElem? (i := 13) rfl)
theorem w_334 : (.selects "MoleculeRegistry$Reader" ⟨"MoleculeRegistry$Reader", "readAtoms", "()Z"⟩ ⟨"MoleculeRegistry$Reader", "readAtoms", "()Z"⟩ : Cond) ∈ jx_W0 := vm_8 (List.mem_of_getElem? (i := 14) rfl)
theorem w_335 : (.methodLink "MoleculeRegistry" 155 ⟨"MoleculeRegistry$Reader", "aDigitIsOpen", "()Z"⟩ : Cond) ∈ jx_W0 := vm_8 (List.mem_of_getElem? (i := 15) rfl)
theorem w_336 : (.instanceMethod ⟨"MoleculeRegistry$Reader", "aDigitIsOpen", "()Z"⟩ : Cond) ∈ jx_W0 := vm_8 (List.mem_of_getElem? (i := 16) rfl)
theorem w_337 : (.selects "MoleculeRegistry$Reader" ⟨"MoleculeRegistry$Reader", "aDigitIsOpen", "()Z"⟩ ⟨"MoleculeRegistry$Reader", "aDigitIsOpen", "()Z"⟩ : Cond) ∈ jx_W0 := vm_8 (List.mem_of_getElem? (i := 17) rfl)
theorem w_338 : (.fieldLinkNest "MoleculeRegistry" 163 "MoleculeRegistry$Reader" "size" "I" "MoleculeRegistry" : Cond) ∈ jx_W0 := vm_8 (List.mem_of_getElem? (i := 18) rfl)
theorem w_339 : (.methodLink "MoleculeRegistry" 169 ⟨"MoleculeRegistry$Reader", "fill", "(LMoleculeRegistry$Graph;)V"⟩ : Cond) ∈ jx_W0 := vm_8 (List.mem_of_getElem? (i := 19) rfl)
theorem w_340 : (.instanceMethod ⟨"MoleculeRegistry$Reader", "fill", "(LMoleculeRegistry$Graph;)V"⟩ : Cond) ∈ jx_W0 := vm_8 (List.mem_of_getElem? (i := 20) rfl)
theorem w_341 : (.selects "MoleculeRegistry$Reader" ⟨"MoleculeRegistry$Reader", "fill", "(LMoleculeRegistry$Graph;)V"⟩ ⟨"MoleculeRegistry$Reader", "fill", "(LMoleculeRegistry$Graph;)V"⟩ : Cond) ∈ jx_W0 := vm_8 (List.mem_of_getElem? (i := 21) rfl)
theorem w_342 : (.fieldLinkNest "MoleculeRegistry" 173 "MoleculeRegistry$Reader" "written" "[I" "MoleculeRegistry" : Cond) ∈ jx_W0 := vm_8 (List.mem_of_getElem? (i := 22) rfl)
theorem w_343 : (.methodLink "MoleculeRegistry" 176 ⟨"MoleculeRegistry$Chemistry", "settle", "(LMoleculeRegistry$Graph;[I)Z"⟩ : Cond) ∈ jx_W0 := vm_8 (List.mem_of_getElem? (i := 23) rfl)
theorem w_344 : (.static ⟨"MoleculeRegistry$Chemistry", "settle", "(LMoleculeRegistry$Graph;[I)Z"⟩ : Cond) ∈ jx_W0 := vm_8 (List.mem_of_getElem? (i := 24) rfl)
theorem w_345 : (.initialized "MoleculeRegistry$Chemistry" : Cond) ∈ jx_W0 := vm_8 (List.mem_of_getElem? (i := 25) rfl)
theorem w_346 : (.methodLink "MoleculeRegistry" 187 ⟨"MoleculeRegistry$Matcher", "areSame", "(LMoleculeRegistry$Graph;LMoleculeRegistry$Graph;)Z"⟩ : Cond) ∈ jx_W0 := vm_8 (List.mem_of_getElem? (i := 26) rfl)
theorem w_347 : (.instanceMethod ⟨"MoleculeRegistry$Matcher", "areSame", "(LMoleculeRegistry$Graph;LMoleculeRegistry$Graph;)Z"⟩ : Cond) ∈ jx_W0 := vm_8 (List.mem_of_getElem? (i := 27) rfl)
theorem w_348 : (.selects "MoleculeRegistry$Matcher" ⟨"MoleculeRegistry$Matcher", "areSame", "(LMoleculeRegistry$Graph;LMoleculeRegistry$Graph;)Z"⟩ ⟨"MoleculeRegistry$Matcher", "areSame", "(LMoleculeRegistry$Graph;LMoleculeRegistry$Graph;)Z"⟩ : Cond) ∈ jx_W0 := vm_8 (List.mem_of_getElem? (i := 28) rfl)
theorem w_349 : (.fieldLinkNest "MoleculeRegistry" 103 "MoleculeRegistry$Shelf" "ids" "[I" "MoleculeRegistry" : Cond) ∈ jx_W0 := vm_8 (List.mem_of_getElem? (i := 29) rfl)
theorem w_350 : (.methodLink "MoleculeRegistry" 190 ⟨"MoleculeRegistry$Log", "write", "(ZILMoleculeRegistry$Graph;)V"⟩ : Cond) ∈ jx_W0 := vm_8 (List.mem_of_getElem? (i := 30) rfl)
theorem w_351 : (.instanceMethod ⟨"MoleculeRegistry$Log", "write", "(ZILMoleculeRegistry$Graph;)V"⟩ : Cond) ∈ jx_W0 := vm_8 (List.mem_of_getElem? (i := 31) rfl)
theorem w_352 : (.selects "MoleculeRegistry$Log" ⟨"MoleculeRegistry$Log", "write", "(ZILMoleculeRegistry$Graph;)V"⟩ ⟨"MoleculeRegistry$Log", "write", "(ZILMoleculeRegistry$Graph;)V"⟩ : Cond) ∈ jx_W0 := vm_8 (List.mem_of_getElem? (i := 32) rfl)
theorem w_353 : (.methodLink "MoleculeRegistry" 99 ⟨"MoleculeRegistry$Matcher", "isIn", "(LMoleculeRegistry$Graph;LMoleculeRegistry$Graph;)Z"⟩ : Cond) ∈ jx_W0 := vm_8 (List.mem_of_getElem? (i := 33) rfl)
theorem w_354 : (.instanceMethod ⟨"MoleculeRegistry$Matcher", "isIn", "(LMoleculeRegistry$Graph;LMoleculeRegistry$Graph;)Z"⟩ : Cond) ∈ jx_W0 := vm_8 (List.mem_of_getElem? (i := 34) rfl)
theorem w_355 : (.selects "MoleculeRegistry$Matcher" ⟨"MoleculeRegistry$Matcher", "isIn", "(LMoleculeRegistry$Graph;LMoleculeRegistry$Graph;)Z"⟩ ⟨"MoleculeRegistry$Matcher", "isIn", "(LMoleculeRegistry$Graph;LMoleculeRegistry$Graph;)Z"⟩ : Cond) ∈ jx_W0 := vm_8 (List.mem_of_getElem? (i := 35) rfl)
theorem w_356 : (.methodLink "MoleculeRegistryModel" 1 ⟨"java/lang/Object", "<init>", "()V"⟩ : Cond) ∈ jx_W0 := vm_8 (List.mem_of_getElem? (i := 36) rfl)
theorem w_357 : (.fieldLink "MoleculeRegistryModel" 7 "MoleculeRegistryModel" "buf" "[I" : Cond) ∈ jx_W0 := vm_8 (List.mem_of_getElem? (i := 37) rfl)
theorem w_358 : (.fieldLink "MoleculeRegistryModel" 13 "MoleculeRegistryModel" "element" "[I" : Cond) ∈ jx_W0 := vm_8 (List.mem_of_getElem? (i := 38) rfl)
theorem w_359 : (.arrayClass .boolean : Cond) ∈ jx_W0 := vm_8 (List.mem_of_getElem? (i := 39) rfl)
theorem w_360 : (.fieldLink "MoleculeRegistryModel" 16 "MoleculeRegistryModel" "aromatic" "[Z" : Cond) ∈ jx_W0 := vm_9 (List.mem_of_getElem? (i := 0) rfl)
theorem w_361 : (.fieldLink "MoleculeRegistryModel" 20 "MoleculeRegistryModel" "hydrogens" "[I" : Cond) ∈ jx_W0 := vm_9 (List.mem_of_getElem? (i := 1) rfl)
theorem w_362 : (.fieldLink "MoleculeRegistryModel" 23 "MoleculeRegistryModel" "charge" "[I" : Cond) ∈ jx_W0 := vm_9 (List.mem_of_getElem? (i := 2) rfl)
theorem w_363 : (.fieldLink "MoleculeRegistryModel" 26 "MoleculeRegistryModel" "bracket" "[Z" : Cond) ∈ jx_W0 := vm_9 (List.mem_of_getElem? (i := 3) rfl)
theorem w_364 : (.fieldLink "MoleculeRegistryModel" 29 "MoleculeRegistryModel" "list" "[I" : Cond) ∈ jx_W0 := vm_9 (List.mem_of_getElem? (i := 4) rfl)
theorem w_365 : (.fieldLink "MoleculeRegistryModel" 32 "MoleculeRegistryModel" "bonds" "[I" : Cond) ∈ jx_W0 := vm_9 (List.mem_of_getElem? (i := 5) rfl)
theorem w_366 : (.fieldLink "MoleculeRegistryModel" 35 "MoleculeRegistryModel" "back" "[I" : Cond) ∈ jx_W0 := vm_9 (List.mem_of_getElem? (i := 6) rfl)
theorem w_367 : (.fieldLink "MoleculeRegistryModel" 38 "MoleculeRegistryModel" "opener" "[I" : Cond) ∈ jx_W0 := vm_9 (List.mem_of_getElem? (i := 7) rfl)
theorem w_368 : (.fieldLink "MoleculeRegistryModel" 41 "MoleculeRegistryModel" "openLink" "[I" : Cond) ∈ jx_W0 := vm_9 (List.mem_of_getElem? (i := 8) rfl)
theorem w_369 : (.fieldLink "MoleculeRegistryModel" 44 "MoleculeRegistryModel" "ids" "[I" : Cond) ∈ jx_W0 := vm_9 (List.mem_of_getElem? (i := 9) rfl)
theorem w_370 : (.fieldLink "MoleculeRegistryModel" 47 "MoleculeRegistryModel" "sizes" "[I" : Cond) ∈ jx_W0 := vm_9 (List.mem_of_getElem? (i := 10) rfl)
theorem w_371 : (.fieldLink "MoleculeRegistryModel" 50 "MoleculeRegistryModel" "elements" "[I" : Cond) ∈ jx_W0 := vm_9 (List.mem_of_getElem? (i := 11) rfl)
theorem w_372 : (.fieldLink "MoleculeRegistryModel" 53 "MoleculeRegistryModel" "aromatics" "[Z" : Cond) ∈ jx_W0 := vm_9 (List.mem_of_getElem? (i := 12) rfl)
theorem w_373 : (.fieldLink "MoleculeRegistryModel" 56 "MoleculeRegistryModel" "hydrogenCounts" "[I" : Cond) ∈ jx_W0 := vm_9 (List.mem_of_getElem? (i := 13) rfl)
theorem w_374 : (.fieldLink "MoleculeRegistryModel" 59 "MoleculeRegistryModel" "charges" "[I" : Cond) ∈ jx_W0 := vm_9 (List.mem_of_getElem? (i := 14) rfl)
theorem w_375 : (.fieldLink "MoleculeRegistryModel" 62 "MoleculeRegistryModel" "allBonds" "[I" : Cond) ∈ jx_W0 := vm_9 (List.mem_of_getElem? (i := 15) rfl)
theorem w_376 : (.fieldLink "MoleculeRegistryModel" 65 "MoleculeRegistryModel" "put" "[I" : Cond) ∈ jx_W0 := vm_9 (List.mem_of_getElem? (i := 16) rfl)
theorem w_377 : (.fieldLink "MoleculeRegistryModel" 68 "MoleculeRegistryModel" "taken" "[Z" : Cond) ∈ jx_W0 := vm_9 (List.mem_of_getElem? (i := 17) rfl)
theorem w_378 : (.fieldLink "MoleculeRegistryModel" 71 "MoleculeRegistryModel" "storeElement" "[I" : Cond) ∈ jx_W0 := vm_9 (List.mem_of_getElem? (i := 18) rfl)
theorem w_379 : (.fieldLink "MoleculeRegistryModel" 74 "MoleculeRegistryModel" "storeAromatic" "[Z" : Cond) ∈ jx_W0 := vm_9 (List.mem_of_getElem? (i := 19) rfl)
theorem w_380 : (.fieldLink "MoleculeRegistryModel" 77 "MoleculeRegistryModel" "storeHydrogens" "[I" : Cond) ∈ jx_W0 := vm_9 (List.mem_of_getElem? (i := 20) rfl)
theorem w_381 : (.fieldLink "MoleculeRegistryModel" 80 "MoleculeRegistryModel" "storeCharge" "[I" : Cond) ∈ jx_W0 := vm_9 (List.mem_of_getElem? (i := 21) rfl)
theorem w_382 : (.fieldLink "MoleculeRegistryModel" 83 "MoleculeRegistryModel" "storeBonds" "[I" : Cond) ∈ jx_W0 := vm_9 (List.mem_of_getElem? (i := 22) rfl)
theorem w_383 : (.fieldLink "MoleculeRegistryModel" 86 "MoleculeRegistryModel" "foundIds" "[I" : Cond) ∈ jx_W0 := vm_9 (List.mem_of_getElem? (i := 23) rfl)
theorem w_384 : (.fieldLink "MoleculeRegistryModel" 89 "MoleculeRegistryModel" "thrown" "I" : Cond) ∈ jx_W0 := vm_9 (List.mem_of_getElem? (i := 24) rfl)
theorem w_385 : (.fieldLink "MoleculeRegistryModel" 93 "MoleculeRegistryModel" "size" "I" : Cond) ∈ jx_W0 := vm_9 (List.mem_of_getElem? (i := 25) rfl)
theorem w_386 : (.fieldLink "MoleculeRegistryModel" 201 "MoleculeRegistryModel" "down" "Z" : Cond) ∈ jx_W0 := vm_9 (List.mem_of_getElem? (i := 26) rfl)
theorem w_387 : (.methodLink "MoleculeRegistryModel" 210 ⟨"MoleculeRegistryModel", "raise", "(I)I"⟩ : Cond) ∈ jx_W0 := vm_9 (List.mem_of_getElem? (i := 27) rfl)
theorem w_388 : (.instanceMethod ⟨"MoleculeRegistryModel", "raise", "(I)I"⟩ : Cond) ∈ jx_W0 := vm_9 (List.mem_of_getElem? (i := 28) rfl)
theorem w_389 : (.selects "MoleculeRegistryModel" ⟨"MoleculeRegistryModel", "raise", "(I)I"⟩ ⟨"MoleculeRegistryModel", "raise", "(I)I"⟩ : Cond) ∈ jx_W0 := vm_9 (List.mem_of_getElem? (i := 29) rfl)
theorem w_390 : (.methodLink "MoleculeRegistryModel" 213 ⟨"MoleculeRegistryModel", "wrongness", "()I"⟩ : Cond) ∈ jx_W0 := vm_9 (List.mem_of_getElem? (i := 30) rfl)
theorem w_391 : (.instanceMethod ⟨"MoleculeRegistryModel", "wrongness", "()I"⟩ : Cond) ∈ jx_W0 := vm_9 (List.mem_of_getElem? (i := 31) rfl)
theorem w_392 : (.selects "MoleculeRegistryModel" ⟨"MoleculeRegistryModel", "wrongness", "()I"⟩ ⟨"MoleculeRegistryModel", "wrongness", "()I"⟩ : Cond) ∈ jx_W0 := vm_9 (List.mem_of_getElem? (i := 32) rfl)
theorem w_393 : (.methodLink "MoleculeRegistryModel" 216 ⟨"MoleculeRegistryModel", "same", "()I"⟩ : Cond) ∈ jx_W0 := vm_9 (List.mem_of_getElem? (i := 33) rfl)
theorem w_394 : (.instanceMethod ⟨"MoleculeRegistryModel", "same", "()I"⟩ : Cond) ∈ jx_W0 := vm_9 (List.mem_of_getElem? (i := 34) rfl)
theorem w_395 : (.selects "MoleculeRegistryModel" ⟨"MoleculeRegistryModel", "same", "()I"⟩ ⟨"MoleculeRegistryModel", "same", "()I"⟩ : Cond) ∈ jx_W0 := vm_9 (List.mem_of_getElem? (i := 35) rfl)
theorem w_396 : (.fieldLink "MoleculeRegistryModel" 169 "MoleculeRegistryModel" "count" "I" : Cond) ∈ jx_W0 := vm_9 (List.mem_of_getElem? (i := 36) rfl)
theorem w_397 : (.methodLink "MoleculeRegistryModel" 219 ⟨"MoleculeRegistryModel", "keepText", "()V"⟩ : Cond) ∈ jx_W0 := vm_9 (List.mem_of_getElem? (i := 37) rfl)
theorem w_398 : (.instanceMethod ⟨"MoleculeRegistryModel", "keepText", "()V"⟩ : Cond) ∈ jx_W0 := vm_9 (List.mem_of_getElem? (i := 38) rfl)
theorem w_399 : (.selects "MoleculeRegistryModel" ⟨"MoleculeRegistryModel", "keepText", "()V"⟩ ⟨"MoleculeRegistryModel", "keepText", "()V"⟩ : Cond) ∈ jx_W0 := vm_9 (List.mem_of_getElem? (i := 39) rfl)
theorem w_400 : (.fieldLink "MoleculeRegistryModel" 185 "MoleculeRegistryModel" "lastId" "I" : Cond) ∈ jx_W0 := vm_10 (List.mem_of_getElem? (i := 0) rfl)
theorem w_401 : (.methodLink "MoleculeRegistryModel" 222 ⟨"MoleculeRegistryModel", "change", "(II)Z"⟩ : Cond) ∈ jx_W0 := vm_10 (List.mem_of_getElem? (i := 1) rfl)
theorem w_402 : (.instanceMethod ⟨"MoleculeRegistryModel", "change", "(II)Z"⟩ : Cond) ∈ jx_W0 := vm_10 (List.mem_of_getElem? (i := 2) rfl)
theorem w_403 : (.selects "MoleculeRegistryModel" ⟨"MoleculeRegistryModel", "change", "(II)Z"⟩ ⟨"MoleculeRegistryModel", "change", "(II)Z"⟩ : Cond) ∈ jx_W0 := vm_10 (List.mem_of_getElem? (i := 3) rfl)
theorem w_404 : (.methodLink "MoleculeRegistryModel" 153 ⟨"MoleculeRegistryModel", "read", "(Z)Z"⟩ : Cond) ∈ jx_W0 := vm_10 (List.mem_of_getElem? (i := 4) rfl)
theorem w_405 : (.instanceMethod ⟨"MoleculeRegistryModel", "read", "(Z)Z"⟩ : Cond) ∈ jx_W0 := vm_10 (List.mem_of_getElem? (i := 5) rfl)
theorem w_406 : (.selects "MoleculeRegistryModel" ⟨"MoleculeRegistryModel", "read", "(Z)Z"⟩ ⟨"MoleculeRegistryModel", "read", "(Z)Z"⟩ : Cond) ∈ jx_W0 := vm_10 (List.mem_of_getElem? (i := 6) rfl)
theorem w_407 : (.fieldLink "MoleculeRegistryModel" 96 "MoleculeRegistryModel" "many" "I" : Cond) ∈ jx_W0 := vm_10 (List.mem_of_getElem? (i := 7) rfl)
theorem w_408 : (.methodLink "MoleculeRegistryModel" 156 ⟨"MoleculeRegistryModel", "valences", "()Z"⟩ : Cond) ∈ jx_W0 := vm_10 (List.mem_of_getElem? (i := 8) rfl)
theorem w_409 : (.instanceMethod ⟨"MoleculeRegistryModel", "valences", "()Z"⟩ : Cond) ∈ jx_W0 := vm_10 (List.mem_of_getElem? (i := 9) rfl)
theorem w_410 : (.selects "MoleculeRegistryModel" ⟨"MoleculeRegistryModel", "valences", "()Z"⟩ ⟨"MoleculeRegistryModel", "valences", "()Z"⟩ : Cond) ∈ jx_W0 := vm_10 (List.mem_of_getElem? (i := 10) rfl)
theorem w_411 : (.methodLink "MoleculeRegistryModel" 159 ⟨"MoleculeRegistryModel", "matching", "()Z"⟩ : Cond) ∈ jx_W0 := vm_10 (List.mem_of_getElem? (i := 11) rfl)
theorem w_412 : (.instanceMethod ⟨"MoleculeRegistryModel", "matching", "()Z"⟩ : Cond) ∈ jx_W0 := vm_10 (List.mem_of_getElem? (i := 12) rfl)
theorem w_413 : (.selects "MoleculeRegistryModel" ⟨"MoleculeRegistryModel", "matching", "()Z"⟩ ⟨"MoleculeRegistryModel", "matching", "()Z"⟩ : Cond) ∈ jx_W0 := vm_10 (List.mem_of_getElem? (i := 13) rfl)
theorem w_414 : (.fieldLink "MoleculeRegistryModel" 99 "MoleculeRegistryModel" "at" "I" : Cond) ∈ jx_W0 := vm_10 (List.mem_of_getElem? (i := 14) rfl)
theorem w_415 : (.fieldLink "MoleculeRegistryModel" 120 "MoleculeRegistryModel" "good" "Z" : Cond) ∈ jx_W0 := vm_10 (List.mem_of_getElem? (i := 15) rfl)
theorem w_416 : (.methodLink "MoleculeRegistryModel" 102 ⟨"MoleculeRegistryModel", "ch", "(I)I"⟩ : Cond) ∈ jx_W0 := vm_10 (List.mem_of_getElem? (i := 16) rfl)
theorem w_417 : (.instanceMethod ⟨"MoleculeRegistryModel", "ch", "(I)I"⟩ : Cond) ∈ jx_W0 := vm_10 (List.mem_of_getElem? (i := 17) rfl)
theorem w_418 : (.selects "MoleculeRegistryModel" ⟨"MoleculeRegistryModel", "ch", "(I)I"⟩ ⟨"MoleculeRegistryModel", "ch", "(I)I"⟩ : Cond) ∈ jx_W0 := vm_10 (List.mem_of_getElem? (i := 18) rfl)
theorem w_419 : (.methodLink "MoleculeRegistryModel" 124 ⟨"MoleculeRegistryModel", "linkOf", "(IZ)I"⟩ : Cond) ∈ jx_W0 := vm_10 (List.mem_of_getElem? (i := 19) rfl)
theorem w_420 : (.static ⟨"MoleculeRegistryModel", "linkOf", "(IZ)I"⟩ : Cond) ∈ jx_W0 := vm_10 (List.mem_of_getElem? (i := 20) rfl)
theorem w_421 : (.methodLink "MoleculeRegistryModel" 132 ⟨"MoleculeRegistryModel", "atom", "(Z)Z"⟩ : Cond) ∈ jx_W0 := vm_10 (List.mem_of_getElem? (i := 21) rfl)
theorem w_422 : (.instanceMethod ⟨"MoleculeRegistryModel", "atom", "(Z)Z"⟩ : Cond) ∈ jx_W0 := vm_10 (List.mem_of_getElem? (i := 22) rfl)
theorem w_423 : (.selects "MoleculeRegistryModel" ⟨"MoleculeRegistryModel", "atom", "(Z)Z"⟩ ⟨"MoleculeRegistryModel", "atom", "(Z)Z"⟩ : Cond) ∈ jx_W0 := vm_10 (List.mem_of_getElem? (i := 23) rfl)
theorem w_424 : (.methodLink "MoleculeRegistryModel" 128 ⟨"MoleculeRegistryModel", "bind", "(III)V"⟩ : Cond) ∈ jx_W0 := vm_10 (List.mem_of_getElem? (i := 24) rfl)
theorem w_425 : (.instanceMethod ⟨"MoleculeRegistryModel", "bind", "(III)V"⟩ : Cond) ∈ jx_W0 := vm_10 (List.mem_of_getElem? (i := 25) rfl)
theorem w_426 : (.selects "MoleculeRegistryModel" ⟨"MoleculeRegistryModel", "bind", "(III)V"⟩ ⟨"MoleculeRegistryModel", "bind", "(III)V"⟩ : Cond) ∈ jx_W0 := vm_10 (List.mem_of_getElem? (i := 26) rfl)
theorem w_427 : (.methodLink "MoleculeRegistryModel" 136 ⟨"MoleculeRegistryModel", "closures", "(IZ)V"⟩ : Cond) ∈ jx_W0 := vm_10 (List.mem_of_getElem? (i := 27) rfl)
theorem w_428 : (.instanceMethod ⟨"MoleculeRegistryModel", "closures", "(IZ)V"⟩ : Cond) ∈ jx_W0 := vm_10 (List.mem_of_getElem? (i := 28) rfl)
theorem w_429 : (.selects "MoleculeRegistryModel" ⟨"MoleculeRegistryModel", "closures", "(IZ)V"⟩ ⟨"MoleculeRegistryModel", "closures", "(IZ)V"⟩ : Cond) ∈ jx_W0 := vm_10 (List.mem_of_getElem? (i := 29) rfl)
theorem w_430 : (.methodLink "MoleculeRegistryModel" 106 ⟨"MoleculeRegistryModel", "placeOf", "(I)I"⟩ : Cond) ∈ jx_W0 := vm_10 (List.mem_of_getElem? (i := 30) rfl)
theorem w_431 : (.static ⟨"MoleculeRegistryModel", "placeOf", "(I)I"⟩ : Cond) ∈ jx_W0 := vm_10 (List.mem_of_getElem? (i := 31) rfl)
theorem w_432 : (.methodLink "MoleculeRegistryModel" 109 ⟨"MoleculeRegistryModel", "newAtom", "(IZ)V"⟩ : Cond) ∈ jx_W0 := vm_10 (List.mem_of_getElem? (i := 32) rfl)
theorem w_433 : (.instanceMethod ⟨"MoleculeRegistryModel", "newAtom", "(IZ)V"⟩ : Cond) ∈ jx_W0 := vm_10 (List.mem_of_getElem? (i := 33) rfl)
theorem w_434 : (.selects "MoleculeRegistryModel" ⟨"MoleculeRegistryModel", "newAtom", "(IZ)V"⟩ ⟨"MoleculeRegistryModel", "newAtom", "(IZ)V"⟩ : Cond) ∈ jx_W0 := vm_10 (List.mem_of_getElem? (i := 34) rfl)
theorem w_435 : (.methodLink "MoleculeRegistryModel" 113 ⟨"MoleculeRegistryModel", "several", "()Z"⟩ : Cond) ∈ jx_W0 := vm_10 (List.mem_of_getElem? (i := 35) rfl)
theorem w_436 : (.instanceMethod ⟨"MoleculeRegistryModel", "several", "()Z"⟩ : Cond) ∈ jx_W0 := vm_10 (List.mem_of_getElem? (i := 36) rfl)
theorem w_437 : (.selects "MoleculeRegistryModel" ⟨"MoleculeRegistryModel", "several", "()Z"⟩ ⟨"MoleculeRegistryModel", "several", "()Z"⟩ : Cond) ∈ jx_W0 := vm_10 (List.mem_of_getElem? (i := 37) rfl)
theorem w_438 : (.methodLink "MoleculeRegistryModel" 117 ⟨"MoleculeRegistryModel", "one", "()Z"⟩ : Cond) ∈ jx_W0 := vm_10 (List.mem_of_getElem? (i := 38) rfl)
theorem w_439 : (.instanceMethod ⟨"MoleculeRegistryModel", "one", "()Z"⟩ : Cond) ∈ jx_W0 := vm_10 (List.mem_of_getElem? (i := 39) rfl)
theorem w_440 : (.selects "MoleculeRegistryModel" ⟨"MoleculeRegistryModel", "one", "()Z"⟩ ⟨"MoleculeRegistryModel", "one", "()Z"⟩ : Cond) ∈ jx_W0 := vm_11 (List.mem_of_getElem? (i := 0) rfl)
theorem w_441 : (.methodLink "MoleculeRegistryModel" 139 ⟨"MoleculeRegistryModel", "orders", "(I)I"⟩ : Cond) ∈ jx_W0 := vm_11 (List.mem_of_getElem? (i := 1) rfl)
theorem w_442 : (.instanceMethod ⟨"MoleculeRegistryModel", "orders", "(I)I"⟩ : Cond) ∈ jx_W0 := vm_11 (List.mem_of_getElem? (i := 2) rfl)
theorem w_443 : (.selects "MoleculeRegistryModel" ⟨"MoleculeRegistryModel", "orders", "(I)I"⟩ ⟨"MoleculeRegistryModel", "orders", "(I)I"⟩ : Cond) ∈ jx_W0 := vm_11 (List.mem_of_getElem? (i := 3) rfl)
theorem w_444 : (.methodLink "MoleculeRegistryModel" 142 ⟨"MoleculeRegistryModel", "most", "(I)I"⟩ : Cond) ∈ jx_W0 := vm_11 (List.mem_of_getElem? (i := 4) rfl)
theorem w_445 : (.instanceMethod ⟨"MoleculeRegistryModel", "most", "(I)I"⟩ : Cond) ∈ jx_W0 := vm_11 (List.mem_of_getElem? (i := 5) rfl)
theorem w_446 : (.selects "MoleculeRegistryModel" ⟨"MoleculeRegistryModel", "most", "(I)I"⟩ ⟨"MoleculeRegistryModel", "most", "(I)I"⟩ : Cond) ∈ jx_W0 := vm_11 (List.mem_of_getElem? (i := 6) rfl)
theorem w_447 : (.methodLink "MoleculeRegistryModel" 145 ⟨"MoleculeRegistryModel", "pairs", "(I)Z"⟩ : Cond) ∈ jx_W0 := vm_11 (List.mem_of_getElem? (i := 7) rfl)
theorem w_448 : (.instanceMethod ⟨"MoleculeRegistryModel", "pairs", "(I)Z"⟩ : Cond) ∈ jx_W0 := vm_11 (List.mem_of_getElem? (i := 8) rfl)
theorem w_449 : (.selects "MoleculeRegistryModel" ⟨"MoleculeRegistryModel", "pairs", "(I)Z"⟩ ⟨"MoleculeRegistryModel", "pairs", "(I)Z"⟩ : Cond) ∈ jx_W0 := vm_11 (List.mem_of_getElem? (i := 9) rfl)
theorem w_450 : (.methodLink "MoleculeRegistryModel" 149 ⟨"MoleculeRegistryModel", "free", "()I"⟩ : Cond) ∈ jx_W0 := vm_11 (List.mem_of_getElem? (i := 10) rfl)
theorem w_451 : (.instanceMethod ⟨"MoleculeRegistryModel", "free", "()I"⟩ : Cond) ∈ jx_W0 := vm_11 (List.mem_of_getElem? (i := 11) rfl)
theorem w_452 : (.selects "MoleculeRegistryModel" ⟨"MoleculeRegistryModel", "free", "()I"⟩ ⟨"MoleculeRegistryModel", "free", "()I"⟩ : Cond) ∈ jx_W0 := vm_11 (List.mem_of_getElem? (i := 12) rfl)
theorem w_453 : (.methodLink "MoleculeRegistryModel" 172 ⟨"MoleculeRegistryModel", "canBePut", "(IZ)Z"⟩ : Cond) ∈ jx_W0 := vm_11 (List.mem_of_getElem? (i := 13) rfl)
theorem w_454 : (.instanceMethod ⟨"MoleculeRegistryModel", "canBePut", "(IZ)Z"⟩ : Cond) ∈ jx_W0 := vm_11 (List.mem_of_getElem? (i := 14) rfl)
theorem w_455 : (.selects "MoleculeRegistryModel" ⟨"MoleculeRegistryModel", "canBePut", "(IZ)Z"⟩ ⟨"MoleculeRegistryModel", "canBePut", "(IZ)Z"⟩ : Cond) ∈ jx_W0 := vm_11 (List.mem_of_getElem? (i := 15) rfl)
theorem w_456 : (.methodLink "MoleculeRegistryModel" 166 ⟨"MoleculeRegistryModel", "agrees", "(IIIZ)Z"⟩ : Cond) ∈ jx_W0 := vm_11 (List.mem_of_getElem? (i := 16) rfl)
theorem w_457 : (.instanceMethod ⟨"MoleculeRegistryModel", "agrees", "(IIIZ)Z"⟩ : Cond) ∈ jx_W0 := vm_11 (List.mem_of_getElem? (i := 17) rfl)
theorem w_458 : (.selects "MoleculeRegistryModel" ⟨"MoleculeRegistryModel", "agrees", "(IIIZ)Z"⟩ ⟨"MoleculeRegistryModel", "agrees", "(IIIZ)Z"⟩ : Cond) ∈ jx_W0 := vm_11 (List.mem_of_getElem? (i := 18) rfl)
theorem w_459 : (.methodLink "MoleculeRegistryModel" 162 ⟨"MoleculeRegistryModel", "fits", "(IIIZ)Z"⟩ : Cond) ∈ jx_W0 := vm_11 (List.mem_of_getElem? (i := 19) rfl)
theorem w_460 : (.instanceMethod ⟨"MoleculeRegistryModel", "fits", "(IIIZ)Z"⟩ : Cond) ∈ jx_W0 := vm_11 (List.mem_of_getElem? (i := 20) rfl)
theorem w_461 : (.selects "MoleculeRegistryModel" ⟨"MoleculeRegistryModel", "fits", "(IIIZ)Z"⟩ ⟨"MoleculeRegistryModel", "fits", "(IIIZ)Z"⟩ : Cond) ∈ jx_W0 := vm_11 (List.mem_of_getElem? (i := 21) rfl)
theorem w_462 : (.fieldLink "MoleculeRegistryModel" 176 "MoleculeRegistryModel" "storeSize" "I" : Cond) ∈ jx_W0 := vm_11 (List.mem_of_getElem? (i := 22) rfl)
theorem w_463 : (.fieldLink "MoleculeRegistryModel" 195 "MoleculeRegistryModel" "failure" "I" : Cond) ∈ jx_W0 := vm_11 (List.mem_of_getElem? (i := 23) rfl)
theorem w_464 : (.fieldLink "MoleculeRegistryModel" 198 "MoleculeRegistryModel" "finds" "I" : Cond) ∈ jx_W0 := vm_11 (List.mem_of_getElem? (i := 24) rfl)
theorem w_465 : (.fieldLink "MoleculeRegistryModel" 179 "MoleculeRegistryModel" "logged" "I" : Cond) ∈ jx_W0 := vm_11 (List.mem_of_getElem? (i := 25) rfl)
theorem w_466 : (.fieldLink "MoleculeRegistryModel" 182 "MoleculeRegistryModel" "loggedId" "I" : Cond) ∈ jx_W0 := vm_11 (List.mem_of_getElem? (i := 26) rfl)
theorem w_467 : (.fieldLink "MoleculeRegistryModel" 204 "MoleculeRegistryModel" "done" "Z" : Cond) ∈ jx_W0 := vm_11 (List.mem_of_getElem? (i := 27) rfl)
theorem w_468 : (.methodLink "MoleculeRegistryModel" 207 ⟨"MoleculeRegistryModel", "perform", "()V"⟩ : Cond) ∈ jx_W0 := vm_11 (List.mem_of_getElem? (i := 28) rfl)
theorem w_469 : (.instanceMethod ⟨"MoleculeRegistryModel", "perform", "()V"⟩ : Cond) ∈ jx_W0 := vm_11 (List.mem_of_getElem? (i := 29) rfl)
theorem w_470 : (.selects "MoleculeRegistryModel" ⟨"MoleculeRegistryModel", "perform", "()V"⟩ ⟨"MoleculeRegistryModel", "perform", "()V"⟩ : Cond) ∈ jx_W0 := vm_11 (List.mem_of_getElem? (i := 30) rfl)
theorem w_471 : (.methodLink "MoleculeRegistryModel" 188 ⟨"MoleculeRegistryModel", "placeOfId", "(I)I"⟩ : Cond) ∈ jx_W0 := vm_11 (List.mem_of_getElem? (i := 31) rfl)
theorem w_472 : (.instanceMethod ⟨"MoleculeRegistryModel", "placeOfId", "(I)I"⟩ : Cond) ∈ jx_W0 := vm_11 (List.mem_of_getElem? (i := 32) rfl)
theorem w_473 : (.selects "MoleculeRegistryModel" ⟨"MoleculeRegistryModel", "placeOfId", "(I)I"⟩ ⟨"MoleculeRegistryModel", "placeOfId", "(I)I"⟩ : Cond) ∈ jx_W0 := vm_11 (List.mem_of_getElem? (i := 33) rfl)
theorem w_474 : (.methodLink "MoleculeRegistryModel" 191 ⟨"MoleculeRegistryModel", "copyMolecule", "(II)V"⟩ : Cond) ∈ jx_W0 := vm_11 (List.mem_of_getElem? (i := 34) rfl)
theorem w_475 : (.instanceMethod ⟨"MoleculeRegistryModel", "copyMolecule", "(II)V"⟩ : Cond) ∈ jx_W0 := vm_11 (List.mem_of_getElem? (i := 35) rfl)
theorem w_476 : (.selects "MoleculeRegistryModel" ⟨"MoleculeRegistryModel", "copyMolecule", "(II)V"⟩ ⟨"MoleculeRegistryModel", "copyMolecule", "(II)V"⟩ : Cond) ∈ jx_W0 := vm_11 (List.mem_of_getElem? (i := 36) rfl)
theorem w_477 : (.fieldLinkNest "MoleculeRegistry$Chemistry" 9 "MoleculeRegistry$Graph" "size" "I" "MoleculeRegistry" : Cond) ∈ jx_W0 := vm_11 (List.mem_of_getElem? (i := 37) rfl)
theorem w_478 : (.fieldLinkNest "MoleculeRegistry$Chemistry" 15 "MoleculeRegistry$Graph" "codes" "[I" "MoleculeRegistry" : Cond) ∈ jx_W0 := vm_11 (List.mem_of_getElem? (i := 38) rfl)
theorem w_479 : (.methodLink "MoleculeRegistry$Chemistry" 19 ⟨"MoleculeRegistry$Chemistry", "capacity", "(I)I"⟩ : Cond) ∈ jx_W0 := vm_11 (List.mem_of_getElem? (i := 39) rfl)
theorem w_480 : (.static ⟨"MoleculeRegistry$Chemistry", "capacity", "(I)I"⟩ : Cond) ∈ jx_W0 := vm_12 (List.mem_of_getElem? (i := 0) rfl)
theorem w_481 : (.methodLink "MoleculeRegistry$Chemistry" 25 ⟨"MoleculeRegistry$Chemistry", "orders", "(LMoleculeRegistry$Graph;I)I"⟩ : Cond) ∈ jx_W0 := vm_12 (List.mem_of_getElem? (i := 1) rfl)
theorem w_482 : (.static ⟨"MoleculeRegistry$Chemistry", "orders", "(LMoleculeRegistry$Graph;I)I"⟩ : Cond) ∈ jx_W0 := vm_12 (List.mem_of_getElem? (i := 2) rfl)
theorem w_483 : (.methodLink "MoleculeRegistry$Chemistry" 31 ⟨"MoleculeRegistry$Chemistry", "pairing", "(LMoleculeRegistry$Graph;)I"⟩ : Cond) ∈ jx_W0 := vm_12 (List.mem_of_getElem? (i := 3) rfl)
theorem w_484 : (.static ⟨"MoleculeRegistry$Chemistry", "pairing", "(LMoleculeRegistry$Graph;)I"⟩ : Cond) ∈ jx_W0 := vm_12 (List.mem_of_getElem? (i := 4) rfl)
theorem w_485 : (.methodLink "MoleculeRegistry$Chemistry" 35 ⟨"MoleculeRegistry$Chemistry", "canPair", "(LMoleculeRegistry$Graph;II)Z"⟩ : Cond) ∈ jx_W0 := vm_12 (List.mem_of_getElem? (i := 5) rfl)
theorem w_486 : (.static ⟨"MoleculeRegistry$Chemistry", "canPair", "(LMoleculeRegistry$Graph;II)Z"⟩ : Cond) ∈ jx_W0 := vm_12 (List.mem_of_getElem? (i := 6) rfl)
theorem w_487 : (.methodLink "MoleculeRegistry$Chemistry" 41 ⟨"java/lang/String", "indexOf", "(I)I"⟩ : Cond) ∈ jx_W0 := vm_12 (List.mem_of_getElem? (i := 7) rfl)
theorem w_488 : (.methodLink "MoleculeRegistry$Chemistry" 49 ⟨"MoleculeRegistry$Graph", "degree", "(II)I"⟩ : Cond) ∈ jx_W0 := vm_12 (List.mem_of_getElem? (i := 8) rfl)
theorem w_489 : (.methodLink "MoleculeRegistry$Chemistry" 53 ⟨"MoleculeRegistry$Chemistry", "pairs", "(I)Z"⟩ : Cond) ∈ jx_W0 := vm_12 (List.mem_of_getElem? (i := 9) rfl)
theorem w_490 : (.static ⟨"MoleculeRegistry$Chemistry", "pairs", "(I)Z"⟩ : Cond) ∈ jx_W0 := vm_12 (List.mem_of_getElem? (i := 10) rfl)
theorem w_491 : (.methodLink "MoleculeRegistry$Chemistry" 57 ⟨"MoleculeRegistry$Graph", "boundTo", "(II)I"⟩ : Cond) ∈ jx_W0 := vm_12 (List.mem_of_getElem? (i := 11) rfl)
theorem w_492 : (.methodLink "MoleculeRegistryLaw" 7 ⟨"MoleculeRegistry", "register", "()I"⟩ : Cond) ∈ jx_W0 := vm_12 (List.mem_of_getElem? (i := 12) rfl)
theorem w_493 : (.instanceMethod ⟨"MoleculeRegistry", "register", "()I"⟩ : Cond) ∈ jx_W0 := vm_12 (List.mem_of_getElem? (i := 13) rfl)
theorem w_494 : (.selects "MoleculeRegistry" ⟨"MoleculeRegistry", "register", "()I"⟩ ⟨"MoleculeRegistry", "register", "()I"⟩ : Cond) ∈ jx_W0 := vm_12 (List.mem_of_getElem? (i := 14) rfl)
theorem w_495 : (.methodLink "MoleculeRegistryLaw" 23 ⟨"MoleculeRegistry", "lookup", "()I"⟩ : Cond) ∈ jx_W0 := vm_12 (List.mem_of_getElem? (i := 15) rfl)
theorem w_496 : (.instanceMethod ⟨"MoleculeRegistry", "lookup", "()I"⟩ : Cond) ∈ jx_W0 := vm_12 (List.mem_of_getElem? (i := 16) rfl)
theorem w_497 : (.selects "MoleculeRegistry" ⟨"MoleculeRegistry", "lookup", "()I"⟩ ⟨"MoleculeRegistry", "lookup", "()I"⟩ : Cond) ∈ jx_W0 := vm_12 (List.mem_of_getElem? (i := 17) rfl)
theorem w_498 : (.methodLink "MoleculeRegistryLaw" 26 ⟨"MoleculeRegistry", "search", "()I"⟩ : Cond) ∈ jx_W0 := vm_12 (List.mem_of_getElem? (i := 18) rfl)
theorem w_499 : (.instanceMethod ⟨"MoleculeRegistry", "search", "()I"⟩ : Cond) ∈ jx_W0 := vm_12 (List.mem_of_getElem? (i := 19) rfl)
theorem w_500 : (.selects "MoleculeRegistry" ⟨"MoleculeRegistry", "search", "()I"⟩ ⟨"MoleculeRegistry", "search", "()I"⟩ : Cond) ∈ jx_W0 := vm_12 (List.mem_of_getElem? (i := 20) rfl)
theorem w_501 : (.methodLink "MoleculeRegistryLaw" 29 ⟨"MoleculeRegistry", "remove", "(I)I"⟩ : Cond) ∈ jx_W0 := vm_12 (List.mem_of_getElem? (i := 21) rfl)
theorem w_502 : (.instanceMethod ⟨"MoleculeRegistry", "remove", "(I)I"⟩ : Cond) ∈ jx_W0 := vm_12 (List.mem_of_getElem? (i := 22) rfl)
theorem w_503 : (.selects "MoleculeRegistry" ⟨"MoleculeRegistry", "remove", "(I)I"⟩ ⟨"MoleculeRegistry", "remove", "(I)I"⟩ : Cond) ∈ jx_W0 := vm_12 (List.mem_of_getElem? (i := 23) rfl)
theorem w_504 : (.constant "java/lang/Integer" 265 1431655765 : Cond) ∈ jx_W0 := vm_12 (List.mem_of_getElem? (i := 24) rfl)
theorem w_505 : (.constant "java/lang/Integer" 266 858993459 : Cond) ∈ jx_W0 := vm_12 (List.mem_of_getElem? (i := 25) rfl)
theorem w_506 : (.constant "java/lang/Integer" 267 252645135 : Cond) ∈ jx_W0 := vm_12 (List.mem_of_getElem? (i := 26) rfl)
theorem w_507 : (.methodLink "java/lang/String" 633 ⟨"java/lang/String", "indexOf", "(II)I"⟩ : Cond) ∈ jx_W0 := vm_12 (List.mem_of_getElem? (i := 27) rfl)
theorem w_508 : (.instanceMethod ⟨"java/lang/String", "indexOf", "(II)I"⟩ : Cond) ∈ jx_W0 := vm_12 (List.mem_of_getElem? (i := 28) rfl)
theorem w_509 : (.selects "java/lang/String" ⟨"java/lang/String", "indexOf", "(II)I"⟩ ⟨"java/lang/String", "indexOf", "(II)I"⟩ : Cond) ∈ jx_W0 := vm_12 (List.mem_of_getElem? (i := 29) rfl)
theorem w_510 : (.methodLink "java/lang/String" 492 ⟨"java/lang/String", "isLatin1", "()Z"⟩ : Cond) ∈ jx_W0 := vm_12 (List.mem_of_getElem? (i := 30) rfl)
theorem w_511 : (.instanceMethod ⟨"java/lang/String", "isLatin1", "()Z"⟩ : Cond) ∈ jx_W0 := vm_12 (List.mem_of_getElem? (i := 31) rfl)
theorem w_512 : (.selects "java/lang/String" ⟨"java/lang/String", "isLatin1", "()Z"⟩ ⟨"java/lang/String", "isLatin1", "()Z"⟩ : Cond) ∈ jx_W0 := vm_12 (List.mem_of_getElem? (i := 32) rfl)
theorem w_513 : (.methodLink "java/lang/String" 505 ⟨"java/lang/String", "length", "()I"⟩ : Cond) ∈ jx_W0 := vm_12 (List.mem_of_getElem? (i := 33) rfl)
theorem w_514 : (.instanceMethod ⟨"java/lang/String", "length", "()I"⟩ : Cond) ∈ jx_W0 := vm_12 (List.mem_of_getElem? (i := 34) rfl)
theorem w_515 : (.selects "java/lang/String" ⟨"java/lang/String", "length", "()I"⟩ ⟨"java/lang/String", "length", "()I"⟩ : Cond) ∈ jx_W0 := vm_12 (List.mem_of_getElem? (i := 35) rfl)
theorem w_516 : (.methodLink "java/lang/String" 637 ⟨"java/lang/StringLatin1", "indexOf", "([BIII)I"⟩ : Cond) ∈ jx_W0 := vm_12 (List.mem_of_getElem? (i := 36) rfl)
theorem w_517 : (.static ⟨"java/lang/StringLatin1", "indexOf", "([BIII)I"⟩ : Cond) ∈ jx_W0 := vm_12 (List.mem_of_getElem? (i := 37) rfl)
theorem w_518 : (.initialized "java/lang/StringLatin1" : Cond) ∈ jx_W0 := vm_12 (List.mem_of_getElem? (i := 38) rfl)
theorem w_519 : (.methodLink "java/lang/String" 335 ⟨"java/lang/String", "coder", "()B"⟩ : Cond) ∈ jx_W0 := vm_12 (List.mem_of_getElem? (i := 39) rfl)
theorem w_520 : (.instanceMethod ⟨"java/lang/String", "coder", "()B"⟩ : Cond) ∈ jx_W0 := vm_13 (List.mem_of_getElem? (i := 0) rfl)
theorem w_521 : (.selects "java/lang/String" ⟨"java/lang/String", "coder", "()B"⟩ ⟨"java/lang/String", "coder", "()B"⟩ : Cond) ∈ jx_W0 := vm_13 (List.mem_of_getElem? (i := 1) rfl)
theorem w_522 : (.methodLink "java/lang/StringLatin1" 88 ⟨"java/lang/StringLatin1", "canEncode", "(I)Z"⟩ : Cond) ∈ jx_W0 := vm_13 (List.mem_of_getElem? (i := 2) rfl)
theorem w_523 : (.static ⟨"java/lang/StringLatin1", "canEncode", "(I)Z"⟩ : Cond) ∈ jx_W0 := vm_13 (List.mem_of_getElem? (i := 3) rfl)
theorem w_524 : (.methodLink "java/lang/StringLatin1" 92 ⟨"java/lang/Math", "max", "(II)I"⟩ : Cond) ∈ jx_W0 := vm_13 (List.mem_of_getElem? (i := 4) rfl)
theorem w_525 : (.static ⟨"java/lang/Math", "max", "(II)I"⟩ : Cond) ∈ jx_W0 := vm_13 (List.mem_of_getElem? (i := 5) rfl)
theorem w_526 : (.methodLink "java/lang/StringLatin1" 38 ⟨"java/lang/Math", "min", "(II)I"⟩ : Cond) ∈ jx_W0 := vm_13 (List.mem_of_getElem? (i := 6) rfl)
theorem w_527 : (.methodLink "java/lang/StringLatin1" 95 ⟨"java/lang/StringLatin1", "indexOfChar", "([BIII)I"⟩ : Cond) ∈ jx_W0 := vm_13 (List.mem_of_getElem? (i := 7) rfl)
theorem w_528 : (.static ⟨"java/lang/StringLatin1", "indexOfChar", "([BIII)I"⟩ : Cond) ∈ jx_W0 := vm_13 (List.mem_of_getElem? (i := 8) rfl)
theorem w_529 : (.code ⟨"MoleculeRegistry$Graph", "clear", "()V"⟩ prog_3_method_2_code 1 none : Cond) ∈ jx_W0 := vm_13 (List.mem_of_getElem? (i := 9) rfl)
theorem w_530 : (.code ⟨"MoleculeRegistry", "idOfSame", "()I"⟩ prog_1_method_20_code 2 (some .int) : Cond) ∈ jx_W0 := vm_13 (List.mem_of_getElem? (i := 10) rfl)
theorem w_531 : (.code ⟨"MoleculeRegistry", "carryOut", "()V"⟩ prog_1_method_22_code 2 none : Cond) ∈ jx_W0 := vm_13 (List.mem_of_getElem? (i := 11) rfl)
theorem w_532 : (.code ⟨"MoleculeRegistryModel", "agrees", "(IIIZ)Z"⟩ prog_9_method_24_code 9 (some .boolean) : Cond) ∈ jx_W0 := vm_13 (List.mem_of_getElem? (i := 12) rfl)
theorem w_533 : (.code ⟨"MoleculeRegistryModel", "recover", "()I"⟩ prog_9_method_38_code 1 (some .int) : Cond) ∈ jx_W0 := vm_13 (List.mem_of_getElem? (i := 13) rfl)
theorem w_534 : (.code ⟨"MoleculeRegistry$Graph", "boundTo", "(II)I"⟩ prog_3_method_9_code 3 (some .int) : Cond) ∈ jx_W0 := vm_13 (List.mem_of_getElem? (i := 14) rfl)
theorem w_535 : (.code ⟨"MoleculeRegistryModel", "fits", "(IIIZ)Z"⟩ prog_9_method_23_code 7 (some .boolean) : Cond) ∈ jx_W0 := vm_13 (List.mem_of_getElem? (i := 15) rfl)
theorem w_536 : (.code ⟨"MoleculeRegistry$Reader", "readLink", "()I"⟩ prog_6_method_9_code 1 (some .int) : Cond) ∈ jx_W0 := vm_13 (List.mem_of_getElem? (i := 16) rfl)
theorem w_537 : (.code ⟨"MoleculeRegistryModel", "wrongness", "()I"⟩ prog_9_method_22_code 1 (some .int) : Cond) ∈ jx_W0 := vm_13 (List.mem_of_getElem? (i := 17) rfl)
theorem w_538 : (.code ⟨"MoleculeRegistry", "count", "()I"⟩ prog_1_method_13_code 1 (some .int) : Cond) ∈ jx_W0 := vm_13 (List.mem_of_getElem? (i := 18) rfl)
theorem w_539 : (.code ⟨"MoleculeRegistry$Reader", "fill", "(LMoleculeRegistry$Graph;)V"⟩ prog_6_method_3_code 3 none : Cond) ∈ jx_W0 := vm_13 (List.mem_of_getElem? (i := 19) rfl)
theorem w_540 : (.code ⟨"MoleculeRegistry$Reader", "readBrackets", "()Z"⟩ prog_6_method_18_code 4 (some .boolean) : Cond) ∈ jx_W0 := vm_13 (List.mem_of_getElem? (i := 20) rfl)
theorem w_541 : (.code ⟨"MoleculeRegistryModel", "register", "()I"⟩ prog_9_method_32_code 4 (some .int) : Cond) ∈ jx_W0 := vm_13 (List.mem_of_getElem? (i := 21) rfl)
theorem w_542 : (.code ⟨"java/lang/String", "length", "()I"⟩ prog_19_method_54_code 1 (some .int) : Cond) ∈ jx_W0 := vm_13 (List.mem_of_getElem? (i := 22) rfl)
theorem w_543 : (.code ⟨"MoleculeRegistryModel", "orders", "(I)I"⟩ prog_9_method_17_code 6 (some .int) : Cond) ∈ jx_W0 := vm_13 (List.mem_of_getElem? (i := 23) rfl)
theorem w_544 : (.code ⟨"MoleculeRegistry$Graph", "joinOneWay", "(III)V"⟩ prog_3_method_6_code 4 none : Cond) ∈ jx_W0 := vm_13 (List.mem_of_getElem? (i := 24) rfl)
theorem w_545 : (.code ⟨"MoleculeRegistry$Shelf", "put", "(ILMoleculeRegistry$Graph;)V"⟩ prog_7_method_3_code 3 none : Cond) ∈ jx_W0 := vm_13 (List.mem_of_getElem? (i := 25) rfl)
theorem w_546 : (.code ⟨"java/lang/String", "isLatin1", "()Z"⟩ prog_19_method_154_code 1 (some .boolean) : Cond) ∈ jx_W0 := vm_13 (List.mem_of_getElem? (i := 26) rfl)
theorem w_547 : (.code ⟨"MoleculeRegistry$Reader", "openOrClose", "(III)Z"⟩ prog_6_method_11_code 6 (some .boolean) : Cond) ∈ jx_W0 := vm_13 (List.mem_of_getElem? (i := 27) rfl)
theorem w_548 : (.code ⟨"MoleculeRegistryModel", "same", "()I"⟩ prog_9_method_26_code 2 (some .int) : Cond) ∈ jx_W0 := vm_13 (List.mem_of_getElem? (i := 28) rfl)
theorem w_549 : (.code ⟨"MoleculeRegistry$Chemistry", "pairs", "(I)Z"⟩ prog_2_method_5_code 2 (some .boolean) : Cond) ∈ jx_W0 := vm_13 (List.mem_of_getElem? (i := 29) rfl)
theorem w_550 : (.code ⟨"MoleculeRegistry$Chemistry", "canPair", "(LMoleculeRegistry$Graph;II)Z"⟩ prog_2_method_7_code 6 (some .boolean) : Cond) ∈ jx_W0 := vm_13 (List.mem_of_getElem? (i := 30) rfl)
theorem w_551 : (.code ⟨"MoleculeRegistryModel", "change", "(II)Z"⟩ prog_9_method_30_code 4 (some .boolean) : Cond) ∈ jx_W0 := vm_13 (List.mem_of_getElem? (i := 31) rfl)
theorem w_552 : (.code ⟨"MoleculeRegistryModel", "wipe", "()V"⟩ prog_9_method_5_code 1 none : Cond) ∈ jx_W0 := vm_13 (List.mem_of_getElem? (i := 32) rfl)
theorem w_553 : (.code ⟨"MoleculeRegistry$Reader", "readClosures", "(I)Z"⟩ prog_6_method_10_code 6 (some .boolean) : Cond) ∈ jx_W0 := vm_13 (List.mem_of_getElem? (i := 33) rfl)
theorem w_554 : (.code ⟨"MoleculeRegistryModel", "bind", "(III)V"⟩ prog_9_method_13_code 8 none : Cond) ∈ jx_W0 := vm_13 (List.mem_of_getElem? (i := 34) rfl)
theorem w_555 : (.code ⟨"java/lang/Integer", "bitCount", "(I)I"⟩ prog_16_method_49_code 1 (some .int) : Cond) ∈ jx_W0 := vm_13 (List.mem_of_getElem? (i := 35) rfl)
theorem w_556 : (.code ⟨"MoleculeRegistry", "bond", "(III)I"⟩ prog_1_method_16_code 5 (some .int) : Cond) ∈ jx_W0 := vm_13 (List.mem_of_getElem? (i := 36) rfl)
theorem w_557 : (.code ⟨"MoleculeRegistry$Chemistry", "pairing", "(LMoleculeRegistry$Graph;)I"⟩ prog_2_method_6_code 3 (some .int) : Cond) ∈ jx_W0 := vm_13 (List.mem_of_getElem? (i := 37) rfl)
theorem w_558 : (.code ⟨"MoleculeRegistry$Matcher", "hasBondsFor", "(LMoleculeRegistry$Graph;ILMoleculeRegistry$Graph;I)Z"⟩ prog_5_method_7_code 5 (some .boolean) : Cond) ∈ jx_W0 := vm_13 (List.mem_of_getElem? (i := 38) rfl)
theorem w_559 : (.code ⟨"MoleculeRegistry$Graph", "degree", "(II)I"⟩ prog_3_method_10_code 3 (some .int) : Cond) ∈ jx_W0 := vm_13 (List.mem_of_getElem? (i := 39) rfl)
theorem w_560 : (.code ⟨"MoleculeRegistry$Matcher", "areSame", "(LMoleculeRegistry$Graph;LMoleculeRegistry$Graph;)Z"⟩ prog_5_method_2_code 3 (some .boolean) : Cond) ∈ jx_W0 := vm_14 (List.mem_of_getElem? (i := 0) rfl)
theorem w_561 : (.code ⟨"java/lang/StringLatin1", "canEncode", "(I)Z"⟩ prog_20_method_4_code 1 (some .boolean) : Cond) ∈ jx_W0 := vm_14 (List.mem_of_getElem? (i := 1) rfl)
theorem w_562 : (.code ⟨"MoleculeRegistry$Reader", "areBound", "(II)Z"⟩ prog_6_method_14_code 5 (some .boolean) : Cond) ∈ jx_W0 := vm_14 (List.mem_of_getElem? (i := 2) rfl)
theorem w_563 : (.code ⟨"MoleculeRegistry$Graph", "has", "(I)Z"⟩ prog_3_method_7_code 2 (some .boolean) : Cond) ∈ jx_W0 := vm_14 (List.mem_of_getElem? (i := 3) rfl)
theorem w_564 : (.code ⟨"MoleculeRegistryModel", "keepText", "()V"⟩ prog_9_method_27_code 3 none : Cond) ∈ jx_W0 := vm_14 (List.mem_of_getElem? (i := 4) rfl)
theorem w_565 : (.code ⟨"MoleculeRegistryModel", "linkOf", "(IZ)I"⟩ prog_9_method_8_code 2 (some .int) : Cond) ∈ jx_W0 := vm_14 (List.mem_of_getElem? (i := 5) rfl)
theorem w_566 : (.code ⟨"MoleculeRegistryModel", "canBePut", "(IZ)Z"⟩ prog_9_method_25_code 5 (some .boolean) : Cond) ∈ jx_W0 := vm_14 (List.mem_of_getElem? (i := 6) rfl)
theorem w_567 : (.code ⟨"MoleculeRegistry", "search", "()I"⟩ prog_1_method_8_code 2 (some .int) : Cond) ∈ jx_W0 := vm_14 (List.mem_of_getElem? (i := 7) rfl)
theorem w_568 : (.code ⟨"MoleculeRegistryModel", "closures", "(IZ)V"⟩ prog_9_method_14_code 7 none : Cond) ∈ jx_W0 := vm_14 (List.mem_of_getElem? (i := 8) rfl)
theorem w_569 : (.code ⟨"java/lang/Math", "max", "(II)I"⟩ prog_17_method_65_code 2 (some .int) : Cond) ∈ jx_W0 := vm_14 (List.mem_of_getElem? (i := 9) rfl)
theorem w_570 : (.code ⟨"MoleculeRegistry", "type", "(J)Z"⟩ prog_1_method_2_code 6 (some .boolean) : Cond) ∈ jx_W0 := vm_14 (List.mem_of_getElem? (i := 10) rfl)
theorem w_571 : (.code ⟨"MoleculeRegistry", "atoms", "(I)I"⟩ prog_1_method_14_code 3 (some .int) : Cond) ∈ jx_W0 := vm_14 (List.mem_of_getElem? (i := 11) rfl)
theorem w_572 : (.code ⟨"MoleculeRegistry", "found", "(I)I"⟩ prog_1_method_9_code 2 (some .int) : Cond) ∈ jx_W0 := vm_14 (List.mem_of_getElem? (i := 12) rfl)
theorem w_573 : (.code ⟨"MoleculeRegistryModel", "raise", "(I)I"⟩ prog_9_method_3_code 2 (some .int) : Cond) ∈ jx_W0 := vm_14 (List.mem_of_getElem? (i := 13) rfl)
theorem w_574 : (.code ⟨"MoleculeRegistry", "visible", "(I)LMoleculeRegistry$Graph;"⟩ prog_1_method_17_code 3 (some (.object "MoleculeRegistry$Graph")) : Cond) ∈ jx_W0 := vm_14 (List.mem_of_getElem? (i := 14) rfl)
theorem w_575 : (.code ⟨"MoleculeRegistry$Reader", "bind", "(III)Z"⟩ prog_6_method_13_code 5 (some .boolean) : Cond) ∈ jx_W0 := vm_14 (List.mem_of_getElem? (i := 15) rfl)
theorem w_576 : (.code ⟨"MoleculeRegistry$Chemistry", "capacity", "(I)I"⟩ prog_2_method_3_code 4 (some .int) : Cond) ∈ jx_W0 := vm_14 (List.mem_of_getElem? (i := 16) rfl)
theorem w_577 : (.code ⟨"MoleculeRegistry$Matcher", "findChoices", "(LMoleculeRegistry$Graph;LMoleculeRegistry$Graph;I)Z"⟩ prog_5_method_5_code 6 (some .boolean) : Cond) ∈ jx_W0 := vm_14 (List.mem_of_getElem? (i := 17) rfl)
theorem w_578 : (.code ⟨"java/lang/Math", "min", "(II)I"⟩ prog_17_method_69_code 2 (some .int) : Cond) ∈ jx_W0 := vm_14 (List.mem_of_getElem? (i := 18) rfl)
theorem w_579 : (.code ⟨"MoleculeRegistry", "append", "(J)V"⟩ prog_1_method_4_code 5 none : Cond) ∈ jx_W0 := vm_14 (List.mem_of_getElem? (i := 19) rfl)
theorem w_580 : (.code ⟨"MoleculeRegistryModel", "perform", "()V"⟩ prog_9_method_28_code 4 none : Cond) ∈ jx_W0 := vm_14 (List.mem_of_getElem? (i := 20) rfl)
theorem w_581 : (.codeWith ⟨"MoleculeRegistryLaw", "lookup", "(LMoleculeRegistry;[J)I"⟩ method_4_code 3 (some .int) [(0, 8, 11, 13), (0, 8, 14, 15), (0, 8, 17, 17), (0, 8, 20, 19)] : Cond) ∈ jx_W0 := vm_14 (List.mem_of_getElem? (i := 21) rfl)
theorem w_582 : (.code ⟨"MoleculeRegistryModel", "count", "()I"⟩ prog_9_method_39_code 1 (some .int) : Cond) ∈ jx_W0 := vm_14 (List.mem_of_getElem? (i := 22) rfl)
theorem w_583 : (.code ⟨"MoleculeRegistry", "lookup", "()I"⟩ prog_1_method_7_code 1 (some .int) : Cond) ∈ jx_W0 := vm_14 (List.mem_of_getElem? (i := 23) rfl)
theorem w_584 : (.code ⟨"MoleculeRegistryModel", "atoms", "(I)I"⟩ prog_9_method_40_code 3 (some .int) : Cond) ∈ jx_W0 := vm_14 (List.mem_of_getElem? (i := 24) rfl)
theorem w_585 : (.code ⟨"MoleculeRegistry", "byteAt", "(JI)I"⟩ prog_1_method_3_code 3 (some .int) : Cond) ∈ jx_W0 := vm_14 (List.mem_of_getElem? (i := 25) rfl)
theorem w_586 : (.code ⟨"MoleculeRegistry", "change", "(ZI)Z"⟩ prog_1_method_21_code 4 (some .boolean) : Cond) ∈ jx_W0 := vm_14 (List.mem_of_getElem? (i := 26) rfl)
theorem w_587 : (.codeWith ⟨"MoleculeRegistryLaw", "search", "(LMoleculeRegistry;[J)I"⟩ method_5_code 3 (some .int) [(0, 8, 11, 13), (0, 8, 14, 15), (0, 8, 17, 17)] : Cond) ∈ jx_W0 := vm_14 (List.mem_of_getElem? (i := 27) rfl)
theorem w_588 : (.code ⟨"MoleculeRegistry$Reader", "readPartEnds", "(I)I"⟩ prog_6_method_5_code 4 (some .int) : Cond) ∈ jx_W0 := vm_14 (List.mem_of_getElem? (i := 28) rfl)
theorem w_589 : (.code ⟨"MoleculeRegistryModel", "most", "(I)I"⟩ prog_9_method_16_code 3 (some .int) : Cond) ∈ jx_W0 := vm_14 (List.mem_of_getElem? (i := 29) rfl)
theorem w_590 : (.code ⟨"java/util/Arrays", "fill", "([II)V"⟩ prog_25_method_103_code 4 none : Cond) ∈ jx_W0 := vm_14 (List.mem_of_getElem? (i := 30) rfl)
theorem w_591 : (.code ⟨"MoleculeRegistry", "atom", "(II)I"⟩ prog_1_method_15_code 4 (some .int) : Cond) ∈ jx_W0 := vm_14 (List.mem_of_getElem? (i := 31) rfl)
theorem w_592 : (.code ⟨"java/lang/StringLatin1", "indexOf", "([BIII)I"⟩ prog_20_method_22_code 4 (some .int) : Cond) ∈ jx_W0 := vm_14 (List.mem_of_getElem? (i := 32) rfl)
theorem w_593 : (.code ⟨"MoleculeRegistry$Matcher", "everyAtom", "(LMoleculeRegistry$Graph;)I"⟩ prog_5_method_4_code 1 (some .int) : Cond) ∈ jx_W0 := vm_14 (List.mem_of_getElem? (i := 33) rfl)
theorem w_594 : (.code ⟨"MoleculeRegistryModel", "bond", "(III)I"⟩ prog_9_method_42_code 5 (some .int) : Cond) ∈ jx_W0 := vm_14 (List.mem_of_getElem? (i := 34) rfl)
theorem w_595 : (.code ⟨"MoleculeRegistry$Graph", "add", "(I)V"⟩ prog_3_method_4_code 2 none : Cond) ∈ jx_W0 := vm_14 (List.mem_of_getElem? (i := 35) rfl)
theorem w_596 : (.code ⟨"MoleculeRegistry$Reader", "start", "([CIZ)V"⟩ prog_6_method_2_code 4 none : Cond) ∈ jx_W0 := vm_14 (List.mem_of_getElem? (i := 36) rfl)
theorem w_597 : (.code ⟨"MoleculeRegistryModel", "lookup", "()I"⟩ prog_9_method_33_code 3 (some .int) : Cond) ∈ jx_W0 := vm_14 (List.mem_of_getElem? (i := 37) rfl)
theorem w_598 : (.code ⟨"MoleculeRegistry$Reader", "addAtom", "(II)Z"⟩ prog_6_method_17_code 3 (some .boolean) : Cond) ∈ jx_W0 := vm_14 (List.mem_of_getElem? (i := 38) rfl)
theorem w_599 : (.code ⟨"MoleculeRegistry$Reader", "aDigitIsOpen", "()Z"⟩ prog_6_method_12_code 2 (some .boolean) : Cond) ∈ jx_W0 := vm_14 (List.mem_of_getElem? (i := 39) rfl)
theorem w_600 : (.code ⟨"java/lang/String", "indexOf", "(II)I"⟩ prog_19_method_80_code 3 (some .int) : Cond) ∈ jx_W0 := vm_15 (List.mem_of_getElem? (i := 0) rfl)
theorem w_601 : (.code ⟨"MoleculeRegistryModel", "ch", "(I)I"⟩ prog_9_method_6_code 2 (some .int) : Cond) ∈ jx_W0 := vm_15 (List.mem_of_getElem? (i := 1) rfl)
theorem w_602 : (.code ⟨"MoleculeRegistry$Matcher", "canPlace", "(LMoleculeRegistry$Graph;LMoleculeRegistry$Graph;II)Z"⟩ prog_5_method_8_code 8 (some .boolean) : Cond) ∈ jx_W0 := vm_15 (List.mem_of_getElem? (i := 2) rfl)
theorem w_603 : (.code ⟨"MoleculeRegistryModel", "search", "()I"⟩ prog_9_method_34_code 2 (some .int) : Cond) ∈ jx_W0 := vm_15 (List.mem_of_getElem? (i := 3) rfl)
theorem w_604 : (.code ⟨"MoleculeRegistry", "refuseWhenDown", "()V"⟩ prog_1_method_18_code 1 none : Cond) ∈ jx_W0 := vm_15 (List.mem_of_getElem? (i := 4) rfl)
theorem w_605 : (.code ⟨"MoleculeRegistry$Graph", "copyFrom", "(LMoleculeRegistry$Graph;)V"⟩ prog_3_method_3_code 2 none : Cond) ∈ jx_W0 := vm_15 (List.mem_of_getElem? (i := 5) rfl)
theorem w_606 : (.code ⟨"MoleculeRegistryModel", "thrown", "()I"⟩ prog_9_method_2_code 1 (some .int) : Cond) ∈ jx_W0 := vm_15 (List.mem_of_getElem? (i := 6) rfl)
theorem w_607 : (.code ⟨"MoleculeRegistry$Matcher", "isIn", "(LMoleculeRegistry$Graph;LMoleculeRegistry$Graph;)Z"⟩ prog_5_method_3_code 3 (some .boolean) : Cond) ∈ jx_W0 := vm_15 (List.mem_of_getElem? (i := 7) rfl)
theorem w_608 : (.code ⟨"MoleculeRegistryModel", "newAtom", "(IZ)V"⟩ prog_9_method_9_code 4 none : Cond) ∈ jx_W0 := vm_15 (List.mem_of_getElem? (i := 8) rfl)
theorem w_609 : (.code ⟨"MoleculeRegistry", "register", "()I"⟩ prog_1_method_6_code 3 (some .int) : Cond) ∈ jx_W0 := vm_15 (List.mem_of_getElem? (i := 9) rfl)
theorem w_610 : (.code ⟨"MoleculeRegistryModel", "found", "(I)I"⟩ prog_9_method_35_code 2 (some .int) : Cond) ∈ jx_W0 := vm_15 (List.mem_of_getElem? (i := 10) rfl)
theorem w_611 : (.code ⟨"MoleculeRegistryModel", "copyMolecule", "(II)V"⟩ prog_9_method_29_code 4 none : Cond) ∈ jx_W0 := vm_15 (List.mem_of_getElem? (i := 11) rfl)
theorem w_612 : (.codeWith ⟨"MoleculeRegistryLaw", "remove", "(LMoleculeRegistry;I[J)I"⟩ method_6_code 4 (some .int) [(0, 9, 12, 13)] : Cond) ∈ jx_W0 := vm_15 (List.mem_of_getElem? (i := 12) rfl)
theorem w_613 : (.code ⟨"MoleculeRegistry$Reader", "kindFor", "(III)I"⟩ prog_6_method_15_code 5 (some .int) : Cond) ∈ jx_W0 := vm_15 (List.mem_of_getElem? (i := 13) rfl)
theorem w_614 : (.code ⟨"MoleculeRegistry", "remove", "(I)I"⟩ prog_1_method_10_code 2 (some .int) : Cond) ∈ jx_W0 := vm_15 (List.mem_of_getElem? (i := 14) rfl)
theorem w_615 : (.code ⟨"MoleculeRegistry$Chemistry", "orders", "(LMoleculeRegistry$Graph;I)I"⟩ prog_2_method_4_code 4 (some .int) : Cond) ∈ jx_W0 := vm_15 (List.mem_of_getElem? (i := 15) rfl)
theorem w_616 : (.code ⟨"MoleculeRegistryModel", "one", "()Z"⟩ prog_9_method_12_code 2 (some .boolean) : Cond) ∈ jx_W0 := vm_15 (List.mem_of_getElem? (i := 16) rfl)
theorem w_617 : (.code ⟨"MoleculeRegistry$Graph", "kindBetween", "(II)I"⟩ prog_3_method_8_code 3 (some .int) : Cond) ∈ jx_W0 := vm_15 (List.mem_of_getElem? (i := 17) rfl)
theorem w_618 : (.code ⟨"MoleculeRegistry", "wipe", "()V"⟩ prog_1_method_5_code 1 none : Cond) ∈ jx_W0 := vm_15 (List.mem_of_getElem? (i := 18) rfl)
theorem w_619 : (.code ⟨"MoleculeRegistryModel", "several", "()Z"⟩ prog_9_method_11_code 4 (some .boolean) : Cond) ∈ jx_W0 := vm_15 (List.mem_of_getElem? (i := 19) rfl)
theorem w_620 : (.code ⟨"MoleculeRegistryModel", "read", "(Z)Z"⟩ prog_9_method_15_code 8 (some .boolean) : Cond) ∈ jx_W0 := vm_15 (List.mem_of_getElem? (i := 20) rfl)
theorem w_621 : (.code ⟨"MoleculeRegistryModel", "fail", "(I)Z"⟩ prog_9_method_37_code 2 (some .boolean) : Cond) ∈ jx_W0 := vm_15 (List.mem_of_getElem? (i := 21) rfl)
theorem w_622 : (.code ⟨"MoleculeRegistry$Reader", "readAtom", "()Z"⟩ prog_6_method_16_code 2 (some .boolean) : Cond) ∈ jx_W0 := vm_15 (List.mem_of_getElem? (i := 22) rfl)
theorem w_623 : (.code ⟨"MoleculeRegistry$Log", "write", "(ZILMoleculeRegistry$Graph;)V"⟩ prog_4_method_2_code 4 none : Cond) ∈ jx_W0 := vm_15 (List.mem_of_getElem? (i := 23) rfl)
theorem w_624 : (.code ⟨"MoleculeRegistry$Shelf", "slotOf", "(I)I"⟩ prog_7_method_2_code 3 (some .int) : Cond) ∈ jx_W0 := vm_15 (List.mem_of_getElem? (i := 24) rfl)
theorem w_625 : (.code ⟨"MoleculeRegistry", "readBuffer", "(Z)V"⟩ prog_1_method_19_code 2 none : Cond) ∈ jx_W0 := vm_15 (List.mem_of_getElem? (i := 25) rfl)
theorem w_626 : (.code ⟨"MoleculeRegistry$Graph", "join", "(III)V"⟩ prog_3_method_5_code 4 none : Cond) ∈ jx_W0 := vm_15 (List.mem_of_getElem? (i := 26) rfl)
theorem w_627 : (.code ⟨"MoleculeRegistry$Log", "clear", "()V"⟩ prog_4_method_3_code 1 none : Cond) ∈ jx_W0 := vm_15 (List.mem_of_getElem? (i := 27) rfl)
theorem w_628 : (.code ⟨"MoleculeRegistry$Reader", "readCharge", "()I"⟩ prog_6_method_21_code 1 (some .int) : Cond) ∈ jx_W0 := vm_15 (List.mem_of_getElem? (i := 28) rfl)
theorem w_629 : (.code ⟨"MoleculeRegistry$Shelf", "take", "(I)V"⟩ prog_7_method_4_code 5 none : Cond) ∈ jx_W0 := vm_15 (List.mem_of_getElem? (i := 29) rfl)
theorem w_630 : (.code ⟨"MoleculeRegistryModel", "free", "()I"⟩ prog_9_method_21_code 2 (some .int) : Cond) ∈ jx_W0 := vm_15 (List.mem_of_getElem? (i := 30) rfl)
theorem w_631 : (.code ⟨"MoleculeRegistry$Reader", "takes", "(C)Z"⟩ prog_6_method_8_code 3 (some .boolean) : Cond) ∈ jx_W0 := vm_15 (List.mem_of_getElem? (i := 31) rfl)
theorem w_632 : (.code ⟨"MoleculeRegistry$Reader", "readPartStart", "(I)V"⟩ prog_6_method_6_code 2 none : Cond) ∈ jx_W0 := vm_15 (List.mem_of_getElem? (i := 32) rfl)
theorem w_633 : (.code ⟨"MoleculeRegistryModel", "pairs", "(I)Z"⟩ prog_9_method_19_code 2 (some .boolean) : Cond) ∈ jx_W0 := vm_15 (List.mem_of_getElem? (i := 33) rfl)
theorem w_634 : (.code ⟨"java/lang/String", "coder", "()B"⟩ prog_19_method_152_code 1 (some .byte) : Cond) ∈ jx_W0 := vm_15 (List.mem_of_getElem? (i := 34) rfl)
theorem w_635 : (.code ⟨"MoleculeRegistryModel", "valences", "()Z"⟩ prog_9_method_18_code 6 (some .boolean) : Cond) ∈ jx_W0 := vm_15 (List.mem_of_getElem? (i := 35) rfl)
theorem w_636 : (.code ⟨"MoleculeRegistry$Reader", "readAtoms", "()Z"⟩ prog_6_method_4_code 5 (some .boolean) : Cond) ∈ jx_W0 := vm_15 (List.mem_of_getElem? (i := 36) rfl)
theorem w_637 : (.code ⟨"MoleculeRegistryModel", "atom", "(Z)Z"⟩ prog_9_method_10_code 3 (some .boolean) : Cond) ∈ jx_W0 := vm_15 (List.mem_of_getElem? (i := 37) rfl)
theorem w_638 : (.code ⟨"MoleculeRegistry", "recover", "()I"⟩ prog_1_method_12_code 2 (some .int) : Cond) ∈ jx_W0 := vm_15 (List.mem_of_getElem? (i := 38) rfl)
theorem w_639 : (.code ⟨"MoleculeRegistryModel", "matching", "()Z"⟩ prog_9_method_20_code 5 (some .boolean) : Cond) ∈ jx_W0 := vm_15 (List.mem_of_getElem? (i := 39) rfl)
theorem w_640 : (.code ⟨"MoleculeRegistry$Chemistry", "settle", "(LMoleculeRegistry$Graph;[I)Z"⟩ prog_2_method_2_code 5 (some .boolean) : Cond) ∈ jx_W0 := vm_16 (List.mem_of_getElem? (i := 0) rfl)
theorem w_641 : (.code ⟨"MoleculeRegistry$Matcher", "fits", "(II)Z"⟩ prog_5_method_6_code 3 (some .boolean) : Cond) ∈ jx_W0 := vm_16 (List.mem_of_getElem? (i := 1) rfl)
theorem w_642 : (.code ⟨"MoleculeRegistry$Reader", "readHydrogens", "()I"⟩ prog_6_method_20_code 2 (some .int) : Cond) ∈ jx_W0 := vm_16 (List.mem_of_getElem? (i := 2) rfl)
theorem w_643 : (.code ⟨"MoleculeRegistryModel", "remove", "(I)I"⟩ prog_9_method_36_code 2 (some .int) : Cond) ∈ jx_W0 := vm_16 (List.mem_of_getElem? (i := 3) rfl)
theorem w_644 : (.code ⟨"java/lang/String", "indexOf", "(I)I"⟩ prog_19_method_79_code 2 (some .int) : Cond) ∈ jx_W0 := vm_16 (List.mem_of_getElem? (i := 4) rfl)
theorem w_645 : (.codeWith ⟨"MoleculeRegistryLaw", "register", "(LMoleculeRegistry;[J)I"⟩ method_3_code 3 (some .int) [(0, 8, 11, 13), (0, 8, 14, 15), (0, 8, 17, 17), (0, 8, 20, 19), (0, 8, 23, 21)] : Cond) ∈ jx_W0 := vm_16 (List.mem_of_getElem? (i := 5) rfl)
theorem w_646 : (.code ⟨"MoleculeRegistry$Reader", "readList", "(C)Z"⟩ prog_6_method_19_code 5 (some .boolean) : Cond) ∈ jx_W0 := vm_16 (List.mem_of_getElem? (i := 6) rfl)
theorem w_647 : (.code ⟨"MoleculeRegistry$Reader", "here", "()C"⟩ prog_6_method_7_code 1 (some .char) : Cond) ∈ jx_W0 := vm_16 (List.mem_of_getElem? (i := 7) rfl)
theorem w_648 : (.code ⟨"MoleculeRegistryModel", "type", "(J)Z"⟩ prog_9_method_4_code 7 (some .boolean) : Cond) ∈ jx_W0 := vm_16 (List.mem_of_getElem? (i := 8) rfl)
theorem w_649 : (.code ⟨"MoleculeRegistryModel", "placeOfId", "(I)I"⟩ prog_9_method_31_code 3 (some .int) : Cond) ∈ jx_W0 := vm_16 (List.mem_of_getElem? (i := 9) rfl)
theorem w_650 : (.code ⟨"java/lang/StringLatin1", "indexOfChar", "([BIII)I"⟩ prog_20_method_23_code 6 (some .int) : Cond) ∈ jx_W0 := vm_16 (List.mem_of_getElem? (i := 10) rfl)
theorem w_651 : (.code ⟨"MoleculeRegistry", "fail", "(I)Z"⟩ prog_1_method_11_code 2 (some .boolean) : Cond) ∈ jx_W0 := vm_16 (List.mem_of_getElem? (i := 11) rfl)
theorem w_652 : (.code ⟨"MoleculeRegistryModel", "atom", "(II)I"⟩ prog_9_method_41_code 5 (some .int) : Cond) ∈ jx_W0 := vm_16 (List.mem_of_getElem? (i := 12) rfl)
theorem w_653 : (.code ⟨"MoleculeRegistryModel", "placeOf", "(I)I"⟩ prog_9_method_7_code 1 (some .int) : Cond) ∈ jx_W0 := vm_16 (List.mem_of_getElem? (i := 13) rfl)
theorem w_654 : (.laysFinal "MoleculeRegistry$Graph" "MoleculeRegistry$Graph" "codes" "[I" : Cond) ∈ jx_W0 := vm_16 (List.mem_of_getElem? (i := 14) rfl)
theorem w_655 : (.laysFinal "MoleculeRegistry$Graph" "MoleculeRegistry$Graph" "kinds" "[I" : Cond) ∈ jx_W0 := vm_16 (List.mem_of_getElem? (i := 15) rfl)
theorem w_656 : (.laysFinal "MoleculeRegistry$Graph" "MoleculeRegistry$Graph" "near" "[I" : Cond) ∈ jx_W0 := vm_16 (List.mem_of_getElem? (i := 16) rfl)
theorem w_657 : (.lays "MoleculeRegistry$Graph" "MoleculeRegistry$Graph" "size" "I" : Cond) ∈ jx_W0 := vm_16 (List.mem_of_getElem? (i := 17) rfl)
theorem w_658 : (.lays "MoleculeRegistry$Graph" "MoleculeRegistry$Graph" "bondCount" "I" : Cond) ∈ jx_W0 := vm_16 (List.mem_of_getElem? (i := 18) rfl)
theorem w_659 : (.lays "MoleculeRegistry$Log" "MoleculeRegistry$Log" "marked" "Z" : Cond) ∈ jx_W0 := vm_16 (List.mem_of_getElem? (i := 19) rfl)
theorem w_660 : (.lays "MoleculeRegistry$Log" "MoleculeRegistry$Log" "removing" "Z" : Cond) ∈ jx_W0 := vm_16 (List.mem_of_getElem? (i := 20) rfl)
theorem w_661 : (.lays "MoleculeRegistry$Log" "MoleculeRegistry$Log" "id" "I" : Cond) ∈ jx_W0 := vm_16 (List.mem_of_getElem? (i := 21) rfl)
theorem w_662 : (.laysFinal "MoleculeRegistry$Log" "MoleculeRegistry$Log" "molecule" "LMoleculeRegistry$Graph;" : Cond) ∈ jx_W0 := vm_16 (List.mem_of_getElem? (i := 22) rfl)
theorem w_663 : (.laysFinal "MoleculeRegistry$Matcher" "MoleculeRegistry$Matcher" "choices" "[I" : Cond) ∈ jx_W0 := vm_16 (List.mem_of_getElem? (i := 23) rfl)
theorem w_664 : (.laysFinal "MoleculeRegistry$Matcher" "MoleculeRegistry$Matcher" "places" "[I" : Cond) ∈ jx_W0 := vm_16 (List.mem_of_getElem? (i := 24) rfl)
theorem w_665 : (.laysFinal "MoleculeRegistry$Reader" "MoleculeRegistry$Reader" "text" "[C" : Cond) ∈ jx_W0 := vm_16 (List.mem_of_getElem? (i := 25) rfl)
theorem w_666 : (.lays "MoleculeRegistry$Reader" "MoleculeRegistry$Reader" "length" "I" : Cond) ∈ jx_W0 := vm_16 (List.mem_of_getElem? (i := 26) rfl)
theorem w_667 : (.lays "MoleculeRegistry$Reader" "MoleculeRegistry$Reader" "position" "I" : Cond) ∈ jx_W0 := vm_16 (List.mem_of_getElem? (i := 27) rfl)
theorem w_668 : (.lays "MoleculeRegistry$Reader" "MoleculeRegistry$Reader" "asPattern" "Z" : Cond) ∈ jx_W0 := vm_16 (List.mem_of_getElem? (i := 28) rfl)
theorem w_669 : (.laysFinal "MoleculeRegistry$Reader" "MoleculeRegistry$Reader" "codes" "[I" : Cond) ∈ jx_W0 := vm_16 (List.mem_of_getElem? (i := 29) rfl)
theorem w_670 : (.laysFinal "MoleculeRegistry$Reader" "MoleculeRegistry$Reader" "written" "[I" : Cond) ∈ jx_W0 := vm_16 (List.mem_of_getElem? (i := 30) rfl)
theorem w_671 : (.lays "MoleculeRegistry$Reader" "MoleculeRegistry$Reader" "size" "I" : Cond) ∈ jx_W0 := vm_16 (List.mem_of_getElem? (i := 31) rfl)
theorem w_672 : (.laysFinal "MoleculeRegistry$Reader" "MoleculeRegistry$Reader" "bondFirst" "[I" : Cond) ∈ jx_W0 := vm_16 (List.mem_of_getElem? (i := 32) rfl)
theorem w_673 : (.laysFinal "MoleculeRegistry$Reader" "MoleculeRegistry$Reader" "bondSecond" "[I" : Cond) ∈ jx_W0 := vm_16 (List.mem_of_getElem? (i := 33) rfl)
theorem w_674 : (.laysFinal "MoleculeRegistry$Reader" "MoleculeRegistry$Reader" "bondKind" "[I" : Cond) ∈ jx_W0 := vm_16 (List.mem_of_getElem? (i := 34) rfl)
theorem w_675 : (.lays "MoleculeRegistry$Reader" "MoleculeRegistry$Reader" "bondCount" "I" : Cond) ∈ jx_W0 := vm_16 (List.mem_of_getElem? (i := 35) rfl)
theorem w_676 : (.laysFinal "MoleculeRegistry$Reader" "MoleculeRegistry$Reader" "openAtom" "[I" : Cond) ∈ jx_W0 := vm_16 (List.mem_of_getElem? (i := 36) rfl)
theorem w_677 : (.laysFinal "MoleculeRegistry$Reader" "MoleculeRegistry$Reader" "openLink" "[I" : Cond) ∈ jx_W0 := vm_16 (List.mem_of_getElem? (i := 37) rfl)
theorem w_678 : (.laysFinal "MoleculeRegistry$Reader" "MoleculeRegistry$Reader" "branches" "[I" : Cond) ∈ jx_W0 := vm_16 (List.mem_of_getElem? (i := 38) rfl)
theorem w_679 : (.lays "MoleculeRegistry$Reader" "MoleculeRegistry$Reader" "depth" "I" : Cond) ∈ jx_W0 := vm_16 (List.mem_of_getElem? (i := 39) rfl)
theorem w_680 : (.laysFinal "MoleculeRegistry$Shelf" "MoleculeRegistry$Shelf" "molecules" "[LMoleculeRegistry$Graph;" : Cond) ∈ jx_W0 := vm_17 (List.mem_of_getElem? (i := 0) rfl)
theorem w_681 : (.laysFinal "MoleculeRegistry$Shelf" "MoleculeRegistry$Shelf" "ids" "[I" : Cond) ∈ jx_W0 := vm_17 (List.mem_of_getElem? (i := 1) rfl)
theorem w_682 : (.lays "MoleculeRegistry$Shelf" "MoleculeRegistry$Shelf" "size" "I" : Cond) ∈ jx_W0 := vm_17 (List.mem_of_getElem? (i := 2) rfl)
theorem w_683 : (.lays "MoleculeRegistry$Shelf" "MoleculeRegistry$Shelf" "lastId" "I" : Cond) ∈ jx_W0 := vm_17 (List.mem_of_getElem? (i := 3) rfl)
theorem w_684 : (.laysFinal "MoleculeRegistry" "MoleculeRegistry" "buffer" "[C" : Cond) ∈ jx_W0 := vm_17 (List.mem_of_getElem? (i := 4) rfl)
theorem w_685 : (.lays "MoleculeRegistry" "MoleculeRegistry" "typed" "I" : Cond) ∈ jx_W0 := vm_17 (List.mem_of_getElem? (i := 5) rfl)
theorem w_686 : (.laysFinal "MoleculeRegistry" "MoleculeRegistry" "reader" "LMoleculeRegistry$Reader;" : Cond) ∈ jx_W0 := vm_17 (List.mem_of_getElem? (i := 6) rfl)
theorem w_687 : (.laysFinal "MoleculeRegistry" "MoleculeRegistry" "read" "LMoleculeRegistry$Graph;" : Cond) ∈ jx_W0 := vm_17 (List.mem_of_getElem? (i := 7) rfl)
theorem w_688 : (.laysFinal "MoleculeRegistry" "MoleculeRegistry" "matcher" "LMoleculeRegistry$Matcher;" : Cond) ∈ jx_W0 := vm_17 (List.mem_of_getElem? (i := 8) rfl)
theorem w_689 : (.laysFinal "MoleculeRegistry" "MoleculeRegistry" "shelf" "LMoleculeRegistry$Shelf;" : Cond) ∈ jx_W0 := vm_17 (List.mem_of_getElem? (i := 9) rfl)
theorem w_690 : (.laysFinal "MoleculeRegistry" "MoleculeRegistry" "log" "LMoleculeRegistry$Log;" : Cond) ∈ jx_W0 := vm_17 (List.mem_of_getElem? (i := 10) rfl)
theorem w_691 : (.laysFinal "MoleculeRegistry" "MoleculeRegistry" "hits" "[I" : Cond) ∈ jx_W0 := vm_17 (List.mem_of_getElem? (i := 11) rfl)
theorem w_692 : (.lays "MoleculeRegistry" "MoleculeRegistry" "hitCount" "I" : Cond) ∈ jx_W0 := vm_17 (List.mem_of_getElem? (i := 12) rfl)
theorem w_693 : (.lays "MoleculeRegistry" "MoleculeRegistry" "toldFailure" "I" : Cond) ∈ jx_W0 := vm_17 (List.mem_of_getElem? (i := 13) rfl)
theorem w_694 : (.lays "MoleculeRegistry" "MoleculeRegistry" "down" "Z" : Cond) ∈ jx_W0 := vm_17 (List.mem_of_getElem? (i := 14) rfl)
theorem w_695 : (.lays "MoleculeRegistryModel" "MoleculeRegistryModel" "thrown" "I" : Cond) ∈ jx_W0 := vm_17 (List.mem_of_getElem? (i := 15) rfl)
theorem w_696 : (.lays "MoleculeRegistryModel" "MoleculeRegistryModel" "size" "I" : Cond) ∈ jx_W0 := vm_17 (List.mem_of_getElem? (i := 16) rfl)
theorem w_697 : (.laysFinal "MoleculeRegistryModel" "MoleculeRegistryModel" "buf" "[I" : Cond) ∈ jx_W0 := vm_17 (List.mem_of_getElem? (i := 17) rfl)
theorem w_698 : (.lays "MoleculeRegistryModel" "MoleculeRegistryModel" "at" "I" : Cond) ∈ jx_W0 := vm_17 (List.mem_of_getElem? (i := 18) rfl)
theorem w_699 : (.lays "MoleculeRegistryModel" "MoleculeRegistryModel" "many" "I" : Cond) ∈ jx_W0 := vm_17 (List.mem_of_getElem? (i := 19) rfl)
theorem w_700 : (.laysFinal "MoleculeRegistryModel" "MoleculeRegistryModel" "element" "[I" : Cond) ∈ jx_W0 := vm_17 (List.mem_of_getElem? (i := 20) rfl)
theorem w_701 : (.laysFinal "MoleculeRegistryModel" "MoleculeRegistryModel" "aromatic" "[Z" : Cond) ∈ jx_W0 := vm_17 (List.mem_of_getElem? (i := 21) rfl)
theorem w_702 : (.laysFinal "MoleculeRegistryModel" "MoleculeRegistryModel" "hydrogens" "[I" : Cond) ∈ jx_W0 := vm_17 (List.mem_of_getElem? (i := 22) rfl)
theorem w_703 : (.laysFinal "MoleculeRegistryModel" "MoleculeRegistryModel" "charge" "[I" : Cond) ∈ jx_W0 := vm_17 (List.mem_of_getElem? (i := 23) rfl)
theorem w_704 : (.laysFinal "MoleculeRegistryModel" "MoleculeRegistryModel" "bracket" "[Z" : Cond) ∈ jx_W0 := vm_17 (List.mem_of_getElem? (i := 24) rfl)
theorem w_705 : (.laysFinal "MoleculeRegistryModel" "MoleculeRegistryModel" "list" "[I" : Cond) ∈ jx_W0 := vm_17 (List.mem_of_getElem? (i := 25) rfl)
theorem w_706 : (.laysFinal "MoleculeRegistryModel" "MoleculeRegistryModel" "bonds" "[I" : Cond) ∈ jx_W0 := vm_17 (List.mem_of_getElem? (i := 26) rfl)
theorem w_707 : (.laysFinal "MoleculeRegistryModel" "MoleculeRegistryModel" "back" "[I" : Cond) ∈ jx_W0 := vm_17 (List.mem_of_getElem? (i := 27) rfl)
theorem w_708 : (.laysFinal "MoleculeRegistryModel" "MoleculeRegistryModel" "opener" "[I" : Cond) ∈ jx_W0 := vm_17 (List.mem_of_getElem? (i := 28) rfl)
theorem w_709 : (.laysFinal "MoleculeRegistryModel" "MoleculeRegistryModel" "openLink" "[I" : Cond) ∈ jx_W0 := vm_17 (List.mem_of_getElem? (i := 29) rfl)
theorem w_710 : (.lays "MoleculeRegistryModel" "MoleculeRegistryModel" "good" "Z" : Cond) ∈ jx_W0 := vm_17 (List.mem_of_getElem? (i := 30) rfl)
theorem w_711 : (.lays "MoleculeRegistryModel" "MoleculeRegistryModel" "count" "I" : Cond) ∈ jx_W0 := vm_17 (List.mem_of_getElem? (i := 31) rfl)
theorem w_712 : (.lays "MoleculeRegistryModel" "MoleculeRegistryModel" "lastId" "I" : Cond) ∈ jx_W0 := vm_17 (List.mem_of_getElem? (i := 32) rfl)
theorem w_713 : (.laysFinal "MoleculeRegistryModel" "MoleculeRegistryModel" "ids" "[I" : Cond) ∈ jx_W0 := vm_17 (List.mem_of_getElem? (i := 33) rfl)
theorem w_714 : (.laysFinal "MoleculeRegistryModel" "MoleculeRegistryModel" "sizes" "[I" : Cond) ∈ jx_W0 := vm_17 (List.mem_of_getElem? (i := 34) rfl)
theorem w_715 : (.laysFinal "MoleculeRegistryModel" "MoleculeRegistryModel" "elements" "[I" : Cond) ∈ jx_W0 := vm_17 (List.mem_of_getElem? (i := 35) rfl)
theorem w_716 : (.laysFinal "MoleculeRegistryModel" "MoleculeRegistryModel" "aromatics" "[Z" : Cond) ∈ jx_W0 := vm_17 (List.mem_of_getElem? (i := 36) rfl)
theorem w_717 : (.laysFinal "MoleculeRegistryModel" "MoleculeRegistryModel" "hydrogenCounts" "[I" : Cond) ∈ jx_W0 := vm_17 (List.mem_of_getElem? (i := 37) rfl)
theorem w_718 : (.laysFinal "MoleculeRegistryModel" "MoleculeRegistryModel" "charges" "[I" : Cond) ∈ jx_W0 := vm_17 (List.mem_of_getElem? (i := 38) rfl)
theorem w_719 : (.laysFinal "MoleculeRegistryModel" "MoleculeRegistryModel" "allBonds" "[I" : Cond) ∈ jx_W0 := vm_17 (List.mem_of_getElem? (i := 39) rfl)
theorem w_720 : (.laysFinal "MoleculeRegistryModel" "MoleculeRegistryModel" "put" "[I" : Cond) ∈ jx_W0 := vm_18 (List.mem_of_getElem? (i := 0) rfl)
theorem w_721 : (.laysFinal "MoleculeRegistryModel" "MoleculeRegistryModel" "taken" "[Z" : Cond) ∈ jx_W0 := vm_18 (List.mem_of_getElem? (i := 1) rfl)
theorem w_722 : (.lays "MoleculeRegistryModel" "MoleculeRegistryModel" "failure" "I" : Cond) ∈ jx_W0 := vm_18 (List.mem_of_getElem? (i := 2) rfl)
theorem w_723 : (.lays "MoleculeRegistryModel" "MoleculeRegistryModel" "down" "Z" : Cond) ∈ jx_W0 := vm_18 (List.mem_of_getElem? (i := 3) rfl)
theorem w_724 : (.lays "MoleculeRegistryModel" "MoleculeRegistryModel" "logged" "I" : Cond) ∈ jx_W0 := vm_18 (List.mem_of_getElem? (i := 4) rfl)
theorem w_725 : (.lays "MoleculeRegistryModel" "MoleculeRegistryModel" "loggedId" "I" : Cond) ∈ jx_W0 := vm_18 (List.mem_of_getElem? (i := 5) rfl)
theorem w_726 : (.lays "MoleculeRegistryModel" "MoleculeRegistryModel" "done" "Z" : Cond) ∈ jx_W0 := vm_18 (List.mem_of_getElem? (i := 6) rfl)
theorem w_727 : (.lays "MoleculeRegistryModel" "MoleculeRegistryModel" "storeSize" "I" : Cond) ∈ jx_W0 := vm_18 (List.mem_of_getElem? (i := 7) rfl)
theorem w_728 : (.laysFinal "MoleculeRegistryModel" "MoleculeRegistryModel" "storeElement" "[I" : Cond) ∈ jx_W0 := vm_18 (List.mem_of_getElem? (i := 8) rfl)
theorem w_729 : (.laysFinal "MoleculeRegistryModel" "MoleculeRegistryModel" "storeAromatic" "[Z" : Cond) ∈ jx_W0 := vm_18 (List.mem_of_getElem? (i := 9) rfl)
theorem w_730 : (.laysFinal "MoleculeRegistryModel" "MoleculeRegistryModel" "storeHydrogens" "[I" : Cond) ∈ jx_W0 := vm_18 (List.mem_of_getElem? (i := 10) rfl)
theorem w_731 : (.laysFinal "MoleculeRegistryModel" "MoleculeRegistryModel" "storeCharge" "[I" : Cond) ∈ jx_W0 := vm_18 (List.mem_of_getElem? (i := 11) rfl)
theorem w_732 : (.laysFinal "MoleculeRegistryModel" "MoleculeRegistryModel" "storeBonds" "[I" : Cond) ∈ jx_W0 := vm_18 (List.mem_of_getElem? (i := 12) rfl)
theorem w_733 : (.lays "MoleculeRegistryModel" "MoleculeRegistryModel" "finds" "I" : Cond) ∈ jx_W0 := vm_18 (List.mem_of_getElem? (i := 13) rfl)
theorem w_734 : (.laysFinal "MoleculeRegistryModel" "MoleculeRegistryModel" "foundIds" "[I" : Cond) ∈ jx_W0 := vm_18 (List.mem_of_getElem? (i := 14) rfl)
abbrev jx_mk (D : va_G) (c0 c1 c2 c3 c4 : ClassId) (H0 : Heap) (ga : Nat → Nat) (gl : Nat → jx_C) (G : State → Prop) : jx_X := (D, jx_cls, [(c0, .int), (c1, .char), (c2, .boolean), (c3, .long), (c4, .object "MoleculeRegistry$Graph")], H0, ga, gl, jx_W0, G)
theorem jx_sub {ws big : List Cond} (is : List Nat) (h : ws = is.filterMap (fun i => big[i]?)) : ∀ w ∈ ws, w ∈ big := by
  intro w hw
  rw [h] at hw
  obtain ⟨i, -, hi⟩ := List.mem_filterMap.mp hw
  exact List.mem_of_getElem? hi
theorem jx_dc {b : ByteArray} {dl : List (Nat × Instr × Nat)} (h : ∀ q ∈ dl, decode b q.1 = .ok q.2) (j : Nat) {pc : Nat} {i : Instr × Nat} (hj : dl[j]? = some (pc, i)) : decode b pc = .ok i := h (pc, i) (List.mem_of_getElem? hj)
def jx_All (X : jx_X) (mt : Nat → jx_D) (md : jx_D) (K : List (Nat × jx_O)) : Prop := ∀ q ∈ K, jx_S X mt md q.1 q.2
theorem jx_an {X : jx_X} {mt : Nat → jx_D} {md : jx_D} : jx_All X mt md [] := fun _ h => by cases h
theorem jx_ac {X : jx_X} {mt : Nat → jx_D} {md : jx_D} {pc : Nat} {op : jx_O} {K : List (Nat × jx_O)} (h : jx_S X mt md pc op) (k : jx_All X mt md K) : jx_All X mt md ((pc, op) :: K) := List.forall_mem_cons.mpr ⟨h, k⟩
theorem jx_aa {X : jx_X} {mt : Nat → jx_D} {md : jx_D} {K K' : List (Nat × jx_O)} (h : jx_All X mt md K) (k : jx_All X mt md K') : jx_All X mt md (K ++ K') := List.forall_mem_append.mpr ⟨h, k⟩
def md_0 : jx_D := (⟨"MoleculeRegistryLaw", "law", "([I)Z"⟩, code, 7, (some .boolean), [])
def md_1 : jx_D := (⟨"MoleculeRegistry$Graph", "<init>", "()V"⟩, prog_3_method_1_code, 1, none, [])
def md_2 : jx_D := (⟨"MoleculeRegistry$Graph", "copyFrom", "(LMoleculeRegistry$Graph;)V"⟩, prog_3_method_3_code, 2, none, [])
def md_3 : jx_D := (⟨"MoleculeRegistry$Graph", "has", "(I)Z"⟩, prog_3_method_7_code, 2, (some .boolean), [])
def md_4 : jx_D := (⟨"MoleculeRegistry$Graph", "kindBetween", "(II)I"⟩, prog_3_method_8_code, 3, (some .int), [])
def md_5 : jx_D := (⟨"MoleculeRegistry$Graph", "clear", "()V"⟩, prog_3_method_2_code, 1, none, [])
def md_6 : jx_D := (⟨"MoleculeRegistry$Graph", "add", "(I)V"⟩, prog_3_method_4_code, 2, none, [])
def md_7 : jx_D := (⟨"MoleculeRegistry$Graph", "join", "(III)V"⟩, prog_3_method_5_code, 4, none, [])
def md_8 : jx_D := (⟨"MoleculeRegistry$Graph", "joinOneWay", "(III)V"⟩, prog_3_method_6_code, 4, none, [])
def md_9 : jx_D := (⟨"MoleculeRegistry$Graph", "degree", "(II)I"⟩, prog_3_method_10_code, 3, (some .int), [])
def md_10 : jx_D := (⟨"MoleculeRegistry$Graph", "boundTo", "(II)I"⟩, prog_3_method_9_code, 3, (some .int), [])
def md_11 : jx_D := (⟨"MoleculeRegistry$Log", "<init>", "()V"⟩, prog_4_method_1_code, 1, none, [])
def md_12 : jx_D := (⟨"MoleculeRegistry$Log", "clear", "()V"⟩, prog_4_method_3_code, 1, none, [])
def md_13 : jx_D := (⟨"MoleculeRegistry$Log", "write", "(ZILMoleculeRegistry$Graph;)V"⟩, prog_4_method_2_code, 4, none, [])
def md_14 : jx_D := (⟨"MoleculeRegistry$Matcher", "<init>", "()V"⟩, prog_5_method_1_code, 1, none, [])
def md_15 : jx_D := (⟨"MoleculeRegistry$Matcher", "areSame", "(LMoleculeRegistry$Graph;LMoleculeRegistry$Graph;)Z"⟩, prog_5_method_2_code, 3, (some .boolean), [])
def md_16 : jx_D := (⟨"MoleculeRegistry$Matcher", "findChoices", "(LMoleculeRegistry$Graph;LMoleculeRegistry$Graph;I)Z"⟩, prog_5_method_5_code, 6, (some .boolean), [])
def md_17 : jx_D := (⟨"MoleculeRegistry$Matcher", "fits", "(II)Z"⟩, prog_5_method_6_code, 3, (some .boolean), [])
def md_18 : jx_D := (⟨"MoleculeRegistry$Matcher", "hasBondsFor", "(LMoleculeRegistry$Graph;ILMoleculeRegistry$Graph;I)Z"⟩, prog_5_method_7_code, 5, (some .boolean), [])
def md_19 : jx_D := (⟨"MoleculeRegistry$Matcher", "everyAtom", "(LMoleculeRegistry$Graph;)I"⟩, prog_5_method_4_code, 1, (some .int), [])
def md_20 : jx_D := (⟨"MoleculeRegistry$Matcher", "canPlace", "(LMoleculeRegistry$Graph;LMoleculeRegistry$Graph;II)Z"⟩, prog_5_method_8_code, 8, (some .boolean), [])
def md_21 : jx_D := (⟨"MoleculeRegistry$Matcher", "isIn", "(LMoleculeRegistry$Graph;LMoleculeRegistry$Graph;)Z"⟩, prog_5_method_3_code, 3, (some .boolean), [])
def md_22 : jx_D := (⟨"MoleculeRegistry$Reader", "<init>", "()V"⟩, prog_6_method_1_code, 1, none, [])
def md_23 : jx_D := (⟨"MoleculeRegistry$Reader", "start", "([CIZ)V"⟩, prog_6_method_2_code, 4, none, [])
def md_24 : jx_D := (⟨"MoleculeRegistry$Reader", "readAtoms", "()Z"⟩, prog_6_method_4_code, 5, (some .boolean), [])
def md_25 : jx_D := (⟨"MoleculeRegistry$Reader", "readLink", "()I"⟩, prog_6_method_9_code, 1, (some .int), [])
def md_26 : jx_D := (⟨"MoleculeRegistry$Reader", "takes", "(C)Z"⟩, prog_6_method_8_code, 3, (some .boolean), [])
def md_27 : jx_D := (⟨"MoleculeRegistry$Reader", "readAtom", "()Z"⟩, prog_6_method_16_code, 2, (some .boolean), [])
def md_28 : jx_D := (⟨"MoleculeRegistry$Reader", "here", "()C"⟩, prog_6_method_7_code, 1, (some .char), [])
def md_29 : jx_D := (⟨"MoleculeRegistry$Reader", "readBrackets", "()Z"⟩, prog_6_method_18_code, 4, (some .boolean), [])
def md_30 : jx_D := (⟨"MoleculeRegistry$Reader", "readList", "(C)Z"⟩, prog_6_method_19_code, 5, (some .boolean), [])
def md_31 : jx_D := (⟨"MoleculeRegistry$Reader", "addAtom", "(II)Z"⟩, prog_6_method_17_code, 3, (some .boolean), [])
def md_32 : jx_D := (⟨"MoleculeRegistry$Reader", "readHydrogens", "()I"⟩, prog_6_method_20_code, 2, (some .int), [])
def md_33 : jx_D := (⟨"MoleculeRegistry$Reader", "readCharge", "()I"⟩, prog_6_method_21_code, 1, (some .int), [])
def md_34 : jx_D := (⟨"MoleculeRegistry$Reader", "bind", "(III)Z"⟩, prog_6_method_13_code, 5, (some .boolean), [])
def md_35 : jx_D := (⟨"MoleculeRegistry$Reader", "kindFor", "(III)I"⟩, prog_6_method_15_code, 5, (some .int), [])
def md_36 : jx_D := (⟨"MoleculeRegistry$Reader", "areBound", "(II)Z"⟩, prog_6_method_14_code, 5, (some .boolean), [])
def md_37 : jx_D := (⟨"MoleculeRegistry$Reader", "readClosures", "(I)Z"⟩, prog_6_method_10_code, 6, (some .boolean), [])
def md_38 : jx_D := (⟨"MoleculeRegistry$Reader", "openOrClose", "(III)Z"⟩, prog_6_method_11_code, 6, (some .boolean), [])
def md_39 : jx_D := (⟨"MoleculeRegistry$Reader", "readPartEnds", "(I)I"⟩, prog_6_method_5_code, 4, (some .int), [])
def md_40 : jx_D := (⟨"MoleculeRegistry$Reader", "readPartStart", "(I)V"⟩, prog_6_method_6_code, 2, none, [])
def md_41 : jx_D := (⟨"MoleculeRegistry$Reader", "aDigitIsOpen", "()Z"⟩, prog_6_method_12_code, 2, (some .boolean), [])
def md_42 : jx_D := (⟨"MoleculeRegistry$Reader", "fill", "(LMoleculeRegistry$Graph;)V"⟩, prog_6_method_3_code, 3, none, [])
def md_43 : jx_D := (⟨"MoleculeRegistry$Shelf", "<init>", "()V"⟩, prog_7_method_1_code, 2, none, [])
def md_44 : jx_D := (⟨"MoleculeRegistry$Shelf", "slotOf", "(I)I"⟩, prog_7_method_2_code, 3, (some .int), [])
def md_45 : jx_D := (⟨"MoleculeRegistry$Shelf", "take", "(I)V"⟩, prog_7_method_4_code, 5, none, [])
def md_46 : jx_D := (⟨"MoleculeRegistry$Shelf", "put", "(ILMoleculeRegistry$Graph;)V"⟩, prog_7_method_3_code, 3, none, [])
def md_47 : jx_D := (⟨"MoleculeRegistry", "<init>", "()V"⟩, prog_1_method_1_code, 1, none, [])
def md_48 : jx_D := (⟨"MoleculeRegistry", "type", "(J)Z"⟩, prog_1_method_2_code, 6, (some .boolean), [])
def md_49 : jx_D := (⟨"MoleculeRegistry", "byteAt", "(JI)I"⟩, prog_1_method_3_code, 3, (some .int), [])
def md_50 : jx_D := (⟨"MoleculeRegistry", "append", "(J)V"⟩, prog_1_method_4_code, 5, none, [])
def md_51 : jx_D := (⟨"MoleculeRegistry", "wipe", "()V"⟩, prog_1_method_5_code, 1, none, [])
def md_52 : jx_D := (⟨"MoleculeRegistry", "found", "(I)I"⟩, prog_1_method_9_code, 2, (some .int), [])
def md_53 : jx_D := (⟨"MoleculeRegistry", "fail", "(I)Z"⟩, prog_1_method_11_code, 2, (some .boolean), [])
def md_54 : jx_D := (⟨"MoleculeRegistry", "recover", "()I"⟩, prog_1_method_12_code, 2, (some .int), [])
def md_55 : jx_D := (⟨"MoleculeRegistry", "carryOut", "()V"⟩, prog_1_method_22_code, 2, none, [])
def md_56 : jx_D := (⟨"MoleculeRegistry", "count", "()I"⟩, prog_1_method_13_code, 1, (some .int), [])
def md_57 : jx_D := (⟨"MoleculeRegistry", "atoms", "(I)I"⟩, prog_1_method_14_code, 3, (some .int), [])
def md_58 : jx_D := (⟨"MoleculeRegistry", "visible", "(I)LMoleculeRegistry$Graph;"⟩, prog_1_method_17_code, 3, (some (.object "MoleculeRegistry$Graph")), [])
def md_59 : jx_D := (⟨"MoleculeRegistry", "atom", "(II)I"⟩, prog_1_method_15_code, 4, (some .int), [])
def md_60 : jx_D := (⟨"MoleculeRegistry", "bond", "(III)I"⟩, prog_1_method_16_code, 5, (some .int), [])
def md_61 : jx_D := (⟨"MoleculeRegistry", "register", "()I"⟩, prog_1_method_6_code, 3, (some .int), [])
def md_62 : jx_D := (⟨"MoleculeRegistry", "readBuffer", "(Z)V"⟩, prog_1_method_19_code, 2, none, [])
def md_63 : jx_D := (⟨"MoleculeRegistry", "refuseWhenDown", "()V"⟩, prog_1_method_18_code, 1, none, [])
def md_64 : jx_D := (⟨"MoleculeRegistry", "idOfSame", "()I"⟩, prog_1_method_20_code, 2, (some .int), [])
def md_65 : jx_D := (⟨"MoleculeRegistry", "change", "(ZI)Z"⟩, prog_1_method_21_code, 4, (some .boolean), [])
def md_66 : jx_D := (⟨"MoleculeRegistry", "lookup", "()I"⟩, prog_1_method_7_code, 1, (some .int), [])
def md_67 : jx_D := (⟨"MoleculeRegistry", "search", "()I"⟩, prog_1_method_8_code, 2, (some .int), [])
def md_68 : jx_D := (⟨"MoleculeRegistry", "remove", "(I)I"⟩, prog_1_method_10_code, 2, (some .int), [])
def md_69 : jx_D := (⟨"MoleculeRegistryModel", "<init>", "()V"⟩, prog_9_method_1_code, 1, none, [])
def md_70 : jx_D := (⟨"MoleculeRegistryModel", "thrown", "()I"⟩, prog_9_method_2_code, 1, (some .int), [])
def md_71 : jx_D := (⟨"MoleculeRegistryModel", "type", "(J)Z"⟩, prog_9_method_4_code, 7, (some .boolean), [])
def md_72 : jx_D := (⟨"MoleculeRegistryModel", "wipe", "()V"⟩, prog_9_method_5_code, 1, none, [])
def md_73 : jx_D := (⟨"MoleculeRegistryModel", "register", "()I"⟩, prog_9_method_32_code, 4, (some .int), [])
def md_74 : jx_D := (⟨"MoleculeRegistryModel", "raise", "(I)I"⟩, prog_9_method_3_code, 2, (some .int), [])
def md_75 : jx_D := (⟨"MoleculeRegistryModel", "wrongness", "()I"⟩, prog_9_method_22_code, 1, (some .int), [])
def md_76 : jx_D := (⟨"MoleculeRegistryModel", "read", "(Z)Z"⟩, prog_9_method_15_code, 8, (some .boolean), [])
def md_77 : jx_D := (⟨"MoleculeRegistryModel", "ch", "(I)I"⟩, prog_9_method_6_code, 2, (some .int), [])
def md_78 : jx_D := (⟨"MoleculeRegistryModel", "linkOf", "(IZ)I"⟩, prog_9_method_8_code, 2, (some .int), [])
def md_79 : jx_D := (⟨"MoleculeRegistryModel", "atom", "(Z)Z"⟩, prog_9_method_10_code, 3, (some .boolean), [])
def md_80 : jx_D := (⟨"MoleculeRegistryModel", "placeOf", "(I)I"⟩, prog_9_method_7_code, 1, (some .int), [])
def md_81 : jx_D := (⟨"MoleculeRegistryModel", "newAtom", "(IZ)V"⟩, prog_9_method_9_code, 4, none, [])
def md_82 : jx_D := (⟨"MoleculeRegistryModel", "several", "()Z"⟩, prog_9_method_11_code, 4, (some .boolean), [])
def md_83 : jx_D := (⟨"MoleculeRegistryModel", "one", "()Z"⟩, prog_9_method_12_code, 2, (some .boolean), [])
def md_84 : jx_D := (⟨"MoleculeRegistryModel", "bind", "(III)V"⟩, prog_9_method_13_code, 8, none, [])
def md_85 : jx_D := (⟨"MoleculeRegistryModel", "closures", "(IZ)V"⟩, prog_9_method_14_code, 7, none, [])
def md_86 : jx_D := (⟨"MoleculeRegistryModel", "valences", "()Z"⟩, prog_9_method_18_code, 6, (some .boolean), [])
def md_87 : jx_D := (⟨"MoleculeRegistryModel", "orders", "(I)I"⟩, prog_9_method_17_code, 6, (some .int), [])
def md_88 : jx_D := (⟨"MoleculeRegistryModel", "most", "(I)I"⟩, prog_9_method_16_code, 3, (some .int), [])
def md_89 : jx_D := (⟨"MoleculeRegistryModel", "matching", "()Z"⟩, prog_9_method_20_code, 5, (some .boolean), [])
def md_90 : jx_D := (⟨"MoleculeRegistryModel", "pairs", "(I)Z"⟩, prog_9_method_19_code, 2, (some .boolean), [])
def md_91 : jx_D := (⟨"MoleculeRegistryModel", "free", "()I"⟩, prog_9_method_21_code, 2, (some .int), [])
def md_92 : jx_D := (⟨"MoleculeRegistryModel", "same", "()I"⟩, prog_9_method_26_code, 2, (some .int), [])
def md_93 : jx_D := (⟨"MoleculeRegistryModel", "canBePut", "(IZ)Z"⟩, prog_9_method_25_code, 5, (some .boolean), [])
def md_94 : jx_D := (⟨"MoleculeRegistryModel", "agrees", "(IIIZ)Z"⟩, prog_9_method_24_code, 9, (some .boolean), [])
def md_95 : jx_D := (⟨"MoleculeRegistryModel", "fits", "(IIIZ)Z"⟩, prog_9_method_23_code, 7, (some .boolean), [])
def md_96 : jx_D := (⟨"MoleculeRegistryModel", "keepText", "()V"⟩, prog_9_method_27_code, 3, none, [])
def md_97 : jx_D := (⟨"MoleculeRegistryModel", "change", "(II)Z"⟩, prog_9_method_30_code, 4, (some .boolean), [])
def md_98 : jx_D := (⟨"MoleculeRegistryModel", "perform", "()V"⟩, prog_9_method_28_code, 4, none, [])
def md_99 : jx_D := (⟨"MoleculeRegistryModel", "placeOfId", "(I)I"⟩, prog_9_method_31_code, 3, (some .int), [])
def md_100 : jx_D := (⟨"MoleculeRegistryModel", "copyMolecule", "(II)V"⟩, prog_9_method_29_code, 4, none, [])
def md_101 : jx_D := (⟨"MoleculeRegistryModel", "lookup", "()I"⟩, prog_9_method_33_code, 3, (some .int), [])
def md_102 : jx_D := (⟨"MoleculeRegistryModel", "search", "()I"⟩, prog_9_method_34_code, 2, (some .int), [])
def md_103 : jx_D := (⟨"MoleculeRegistryModel", "found", "(I)I"⟩, prog_9_method_35_code, 2, (some .int), [])
def md_104 : jx_D := (⟨"MoleculeRegistryModel", "remove", "(I)I"⟩, prog_9_method_36_code, 2, (some .int), [])
def md_105 : jx_D := (⟨"MoleculeRegistryModel", "fail", "(I)Z"⟩, prog_9_method_37_code, 2, (some .boolean), [])
def md_106 : jx_D := (⟨"MoleculeRegistryModel", "recover", "()I"⟩, prog_9_method_38_code, 1, (some .int), [])
def md_107 : jx_D := (⟨"MoleculeRegistryModel", "count", "()I"⟩, prog_9_method_39_code, 1, (some .int), [])
def md_108 : jx_D := (⟨"MoleculeRegistryModel", "atoms", "(I)I"⟩, prog_9_method_40_code, 3, (some .int), [])
def md_109 : jx_D := (⟨"MoleculeRegistryModel", "atom", "(II)I"⟩, prog_9_method_41_code, 5, (some .int), [])
def md_110 : jx_D := (⟨"MoleculeRegistryModel", "bond", "(III)I"⟩, prog_9_method_42_code, 5, (some .int), [])
def md_111 : jx_D := (⟨"MoleculeRegistry$Chemistry", "settle", "(LMoleculeRegistry$Graph;[I)Z"⟩, prog_2_method_2_code, 5, (some .boolean), [])
def md_112 : jx_D := (⟨"MoleculeRegistry$Chemistry", "capacity", "(I)I"⟩, prog_2_method_3_code, 4, (some .int), [])
def md_113 : jx_D := (⟨"MoleculeRegistry$Chemistry", "orders", "(LMoleculeRegistry$Graph;I)I"⟩, prog_2_method_4_code, 4, (some .int), [])
def md_114 : jx_D := (⟨"MoleculeRegistry$Chemistry", "pairs", "(I)Z"⟩, prog_2_method_5_code, 2, (some .boolean), [])
def md_115 : jx_D := (⟨"MoleculeRegistry$Chemistry", "pairing", "(LMoleculeRegistry$Graph;)I"⟩, prog_2_method_6_code, 3, (some .int), [])
def md_116 : jx_D := (⟨"MoleculeRegistry$Chemistry", "canPair", "(LMoleculeRegistry$Graph;II)Z"⟩, prog_2_method_7_code, 6, (some .boolean), [])
def md_117 : jx_D := (⟨"MoleculeRegistryLaw", "register", "(LMoleculeRegistry;[J)I"⟩, method_3_code, 3, (some .int), [((0, 8, 11, 13), "java/lang/IllegalStateException"), ((0, 8, 14, 15), "java/lang/IllegalArgumentException"), ((0, 8, 17, 17), "java/lang/UnsupportedOperationException"), ((0, 8, 20, 19), "java/lang/ArithmeticException"), ((0, 8, 23, 21), "java/lang/IndexOutOfBoundsException")])
def md_118 : jx_D := (⟨"MoleculeRegistryLaw", "lookup", "(LMoleculeRegistry;[J)I"⟩, method_4_code, 3, (some .int), [((0, 8, 11, 13), "java/lang/IllegalStateException"), ((0, 8, 14, 15), "java/lang/IllegalArgumentException"), ((0, 8, 17, 17), "java/lang/UnsupportedOperationException"), ((0, 8, 20, 19), "java/lang/ArithmeticException")])
def md_119 : jx_D := (⟨"MoleculeRegistryLaw", "search", "(LMoleculeRegistry;[J)I"⟩, method_5_code, 3, (some .int), [((0, 8, 11, 13), "java/lang/IllegalStateException"), ((0, 8, 14, 15), "java/lang/IllegalArgumentException"), ((0, 8, 17, 17), "java/lang/UnsupportedOperationException")])
def md_120 : jx_D := (⟨"MoleculeRegistryLaw", "remove", "(LMoleculeRegistry;I[J)I"⟩, method_6_code, 4, (some .int), [((0, 9, 12, 13), "java/lang/IllegalStateException")])
def md_121 : jx_D := (⟨"java/lang/Math", "min", "(II)I"⟩, prog_17_method_69_code, 2, (some .int), [])
def md_122 : jx_D := (⟨"java/lang/Math", "max", "(II)I"⟩, prog_17_method_65_code, 2, (some .int), [])
def md_123 : jx_D := (⟨"java/util/Arrays", "fill", "([II)V"⟩, prog_25_method_103_code, 4, none, [])
def md_124 : jx_D := (⟨"java/lang/Integer", "bitCount", "(I)I"⟩, prog_16_method_49_code, 1, (some .int), [])
def md_125 : jx_D := (⟨"java/lang/String", "indexOf", "(I)I"⟩, prog_19_method_79_code, 2, (some .int), [])
def md_126 : jx_D := (⟨"java/lang/String", "indexOf", "(II)I"⟩, prog_19_method_80_code, 3, (some .int), [])
def md_127 : jx_D := (⟨"java/lang/String", "isLatin1", "()Z"⟩, prog_19_method_154_code, 1, (some .boolean), [])
def md_128 : jx_D := (⟨"java/lang/String", "length", "()I"⟩, prog_19_method_54_code, 1, (some .int), [])
def md_129 : jx_D := (⟨"java/lang/String", "coder", "()B"⟩, prog_19_method_152_code, 1, (some .byte), [])
def md_130 : jx_D := (⟨"java/lang/StringLatin1", "canEncode", "(I)Z"⟩, prog_20_method_4_code, 1, (some .boolean), [])
def md_131 : jx_D := (⟨"java/lang/StringLatin1", "indexOf", "([BIII)I"⟩, prog_20_method_22_code, 4, (some .int), [])
def md_132 : jx_D := (⟨"java/lang/StringLatin1", "indexOfChar", "([BIII)I"⟩, prog_20_method_23_code, 6, (some .int), [])
def jx_mds : List jx_D := [md_0, md_1, md_2, md_3, md_4, md_5, md_6, md_7, md_8, md_9, md_10, md_11, md_12, md_13, md_14, md_15, md_16, md_17, md_18, md_19, md_20, md_21, md_22, md_23, md_24, md_25, md_26, md_27, md_28, md_29, md_30, md_31, md_32, md_33, md_34, md_35, md_36, md_37, md_38, md_39, md_40, md_41, md_42, md_43, md_44, md_45, md_46, md_47, md_48, md_49, md_50, md_51, md_52, md_53, md_54, md_55, md_56, md_57, md_58, md_59, md_60, md_61, md_62, md_63, md_64, md_65, md_66, md_67, md_68, md_69, md_70, md_71, md_72, md_73, md_74, md_75, md_76, md_77, md_78, md_79, md_80, md_81, md_82, md_83, md_84, md_85, md_86, md_87, md_88, md_89, md_90, md_91, md_92, md_93, md_94, md_95, md_96, md_97, md_98, md_99, md_100, md_101, md_102, md_103, md_104, md_105, md_106, md_107, md_108, md_109, md_110, md_111, md_112, md_113, md_114, md_115, md_116, md_117, md_118, md_119, md_120, md_121, md_122, md_123, md_124, md_125, md_126, md_127, md_128, md_129, md_130, md_131, md_132]
def jx_mt (k : Nat) : jx_D := jx_mds.getD k md_0
def jx_ml (k : Nat) : Nat := (jx_mt k).2.2.1
def jx_hs (k : Nat) : List (Nat × Nat × Nat × Nat) := match k with
  | 117 => [(0, 8, 11, 7), (0, 8, 14, 8), (0, 8, 17, 9), (0, 8, 20, 10), (0, 8, 23, 11)]
  | 118 => [(0, 8, 11, 7), (0, 8, 14, 8), (0, 8, 17, 9), (0, 8, 20, 10)]
  | 119 => [(0, 8, 11, 7), (0, 8, 14, 8), (0, 8, 17, 9)]
  | 120 => [(0, 9, 12, 7)]
  | _ => []
section JN
variable {D : va_G} {c0 c1 c2 c3 c4 : ClassId} {H0 : Heap} {ga : Nat → Nat} {gl : Nat → jx_C} {G : State → Prop}
theorem in_0 : ∀ w ∈ u_ws "MoleculeRegistry$Graph" TX_0 5, w ∈ jx_W0 := by
  show ∀ w ∈ [(.laysFinal "MoleculeRegistry$Graph" "MoleculeRegistry$Graph" "codes" "[I" : Cond), (.laysFinal "MoleculeRegistry$Graph" "MoleculeRegistry$Graph" "kinds" "[I" : Cond), (.laysFinal "MoleculeRegistry$Graph" "MoleculeRegistry$Graph" "near" "[I" : Cond), (.lays "MoleculeRegistry$Graph" "MoleculeRegistry$Graph" "size" "I" : Cond), (.lays "MoleculeRegistry$Graph" "MoleculeRegistry$Graph" "bondCount" "I" : Cond)], w ∈ jx_W0
  exact List.forall_mem_cons.mpr ⟨w_654, List.forall_mem_cons.mpr ⟨w_655, List.forall_mem_cons.mpr ⟨w_656, List.forall_mem_cons.mpr ⟨w_657, List.forall_mem_cons.mpr ⟨w_658, fun _ h => by cases h⟩⟩⟩⟩⟩
theorem kk_0 : jx_k (jx_mk D c0 c1 c2 c3 c4 H0 ga gl G) 0 "MoleculeRegistry$Graph" TX_0 5 ty_0 := ⟨rfl, by decide, in_0, tk_0, nm_0⟩
theorem in_1 : ∀ w ∈ u_ws "MoleculeRegistry$Log" TX_1 4, w ∈ jx_W0 := by
  show ∀ w ∈ [(.lays "MoleculeRegistry$Log" "MoleculeRegistry$Log" "marked" "Z" : Cond), (.lays "MoleculeRegistry$Log" "MoleculeRegistry$Log" "removing" "Z" : Cond), (.lays "MoleculeRegistry$Log" "MoleculeRegistry$Log" "id" "I" : Cond), (.laysFinal "MoleculeRegistry$Log" "MoleculeRegistry$Log" "molecule" "LMoleculeRegistry$Graph;" : Cond)], w ∈ jx_W0
  exact List.forall_mem_cons.mpr ⟨w_659, List.forall_mem_cons.mpr ⟨w_660, List.forall_mem_cons.mpr ⟨w_661, List.forall_mem_cons.mpr ⟨w_662, fun _ h => by cases h⟩⟩⟩⟩
theorem kk_1 : jx_k (jx_mk D c0 c1 c2 c3 c4 H0 ga gl G) 1 "MoleculeRegistry$Log" TX_1 4 ty_1 := ⟨rfl, by decide, in_1, tk_1, nm_1⟩
theorem in_2 : ∀ w ∈ u_ws "MoleculeRegistry$Matcher" TX_2 2, w ∈ jx_W0 := by
  show ∀ w ∈ [(.laysFinal "MoleculeRegistry$Matcher" "MoleculeRegistry$Matcher" "choices" "[I" : Cond), (.laysFinal "MoleculeRegistry$Matcher" "MoleculeRegistry$Matcher" "places" "[I" : Cond)], w ∈ jx_W0
  exact List.forall_mem_cons.mpr ⟨w_663, List.forall_mem_cons.mpr ⟨w_664, fun _ h => by cases h⟩⟩
theorem kk_2 : jx_k (jx_mk D c0 c1 c2 c3 c4 H0 ga gl G) 2 "MoleculeRegistry$Matcher" TX_2 2 ty_2 := ⟨rfl, by decide, in_2, tk_2, nm_2⟩
theorem in_3 : ∀ w ∈ u_ws "MoleculeRegistry$Reader" TX_3 15, w ∈ jx_W0 := by
  show ∀ w ∈ [(.laysFinal "MoleculeRegistry$Reader" "MoleculeRegistry$Reader" "text" "[C" : Cond), (.lays "MoleculeRegistry$Reader" "MoleculeRegistry$Reader" "length" "I" : Cond), (.lays "MoleculeRegistry$Reader" "MoleculeRegistry$Reader" "position" "I" : Cond), (.lays "MoleculeRegistry$Reader" "MoleculeRegistry$Reader" "asPattern" "Z" : Cond), (.laysFinal "MoleculeRegistry$Reader" "MoleculeRegistry$Reader" "codes" "[I" : Cond), (.laysFinal "MoleculeRegistry$Reader" "MoleculeRegistry$Reader" "written" "[I" : Cond), (.lays "MoleculeRegistry$Reader" "MoleculeRegistry$Reader" "size" "I" : Cond), (.laysFinal "MoleculeRegistry$Reader" "MoleculeRegistry$Reader" "bondFirst" "[I" : Cond), (.laysFinal "MoleculeRegistry$Reader" "MoleculeRegistry$Reader" "bondSecond" "[I" : Cond), (.laysFinal "MoleculeRegistry$Reader" "MoleculeRegistry$Reader" "bondKind" "[I" : Cond), (.lays "MoleculeRegistry$Reader" "MoleculeRegistry$Reader" "bondCount" "I" : Cond), (.laysFinal "MoleculeRegistry$Reader" "MoleculeRegistry$Reader" "openAtom" "[I" : Cond), (.laysFinal "MoleculeRegistry$Reader" "MoleculeRegistry$Reader" "openLink" "[I" : Cond), (.laysFinal "MoleculeRegistry$Reader" "MoleculeRegistry$Reader" "branches" "[I" : Cond), (.lays "MoleculeRegistry$Reader" "MoleculeRegistry$Reader" "depth" "I" : Cond)], w ∈ jx_W0
  exact List.forall_mem_cons.mpr ⟨w_665, List.forall_mem_cons.mpr ⟨w_666, List.forall_mem_cons.mpr ⟨w_667, List.forall_mem_cons.mpr ⟨w_668, List.forall_mem_cons.mpr ⟨w_669, List.forall_mem_cons.mpr ⟨w_670, List.forall_mem_cons.mpr ⟨w_671, List.forall_mem_cons.mpr ⟨w_672, List.forall_mem_cons.mpr ⟨w_673, List.forall_mem_cons.mpr ⟨w_674, List.forall_mem_cons.mpr ⟨w_675, List.forall_mem_cons.mpr ⟨w_676, List.forall_mem_cons.mpr ⟨w_677, List.forall_mem_cons.mpr ⟨w_678, List.forall_mem_cons.mpr ⟨w_679, fun _ h => by cases h⟩⟩⟩⟩⟩⟩⟩⟩⟩⟩⟩⟩⟩⟩⟩
theorem kk_3 : jx_k (jx_mk D c0 c1 c2 c3 c4 H0 ga gl G) 3 "MoleculeRegistry$Reader" TX_3 15 ty_3 := ⟨rfl, by decide, in_3, tk_3, nm_3⟩
theorem in_4 : ∀ w ∈ u_ws "MoleculeRegistry$Shelf" TX_4 4, w ∈ jx_W0 := by
  show ∀ w ∈ [(.laysFinal "MoleculeRegistry$Shelf" "MoleculeRegistry$Shelf" "molecules" "[LMoleculeRegistry$Graph;" : Cond), (.laysFinal "MoleculeRegistry$Shelf" "MoleculeRegistry$Shelf" "ids" "[I" : Cond), (.lays "MoleculeRegistry$Shelf" "MoleculeRegistry$Shelf" "size" "I" : Cond), (.lays "MoleculeRegistry$Shelf" "MoleculeRegistry$Shelf" "lastId" "I" : Cond)], w ∈ jx_W0
  exact List.forall_mem_cons.mpr ⟨w_680, List.forall_mem_cons.mpr ⟨w_681, List.forall_mem_cons.mpr ⟨w_682, List.forall_mem_cons.mpr ⟨w_683, fun _ h => by cases h⟩⟩⟩⟩
theorem kk_4 : jx_k (jx_mk D c0 c1 c2 c3 c4 H0 ga gl G) 4 "MoleculeRegistry$Shelf" TX_4 4 ty_4 := ⟨rfl, by decide, in_4, tk_4, nm_4⟩
theorem in_5 : ∀ w ∈ u_ws "MoleculeRegistry" TX_5 11, w ∈ jx_W0 := by
  show ∀ w ∈ [(.laysFinal "MoleculeRegistry" "MoleculeRegistry" "buffer" "[C" : Cond), (.lays "MoleculeRegistry" "MoleculeRegistry" "typed" "I" : Cond), (.laysFinal "MoleculeRegistry" "MoleculeRegistry" "reader" "LMoleculeRegistry$Reader;" : Cond), (.laysFinal "MoleculeRegistry" "MoleculeRegistry" "read" "LMoleculeRegistry$Graph;" : Cond), (.laysFinal "MoleculeRegistry" "MoleculeRegistry" "matcher" "LMoleculeRegistry$Matcher;" : Cond), (.laysFinal "MoleculeRegistry" "MoleculeRegistry" "shelf" "LMoleculeRegistry$Shelf;" : Cond), (.laysFinal "MoleculeRegistry" "MoleculeRegistry" "log" "LMoleculeRegistry$Log;" : Cond), (.laysFinal "MoleculeRegistry" "MoleculeRegistry" "hits" "[I" : Cond), (.lays "MoleculeRegistry" "MoleculeRegistry" "hitCount" "I" : Cond), (.lays "MoleculeRegistry" "MoleculeRegistry" "toldFailure" "I" : Cond), (.lays "MoleculeRegistry" "MoleculeRegistry" "down" "Z" : Cond)], w ∈ jx_W0
  exact List.forall_mem_cons.mpr ⟨w_684, List.forall_mem_cons.mpr ⟨w_685, List.forall_mem_cons.mpr ⟨w_686, List.forall_mem_cons.mpr ⟨w_687, List.forall_mem_cons.mpr ⟨w_688, List.forall_mem_cons.mpr ⟨w_689, List.forall_mem_cons.mpr ⟨w_690, List.forall_mem_cons.mpr ⟨w_691, List.forall_mem_cons.mpr ⟨w_692, List.forall_mem_cons.mpr ⟨w_693, List.forall_mem_cons.mpr ⟨w_694, fun _ h => by cases h⟩⟩⟩⟩⟩⟩⟩⟩⟩⟩⟩
theorem kk_5 : jx_k (jx_mk D c0 c1 c2 c3 c4 H0 ga gl G) 5 "MoleculeRegistry" TX_5 11 ty_5 := ⟨rfl, by decide, in_5, tk_5, nm_5⟩
theorem in_6 : ∀ w ∈ u_ws "MoleculeRegistryModel" TX_6 40, w ∈ jx_W0 := by
  show ∀ w ∈ [(.lays "MoleculeRegistryModel" "MoleculeRegistryModel" "thrown" "I" : Cond), (.lays "MoleculeRegistryModel" "MoleculeRegistryModel" "size" "I" : Cond), (.laysFinal "MoleculeRegistryModel" "MoleculeRegistryModel" "buf" "[I" : Cond), (.lays "MoleculeRegistryModel" "MoleculeRegistryModel" "at" "I" : Cond), (.lays "MoleculeRegistryModel" "MoleculeRegistryModel" "many" "I" : Cond), (.laysFinal "MoleculeRegistryModel" "MoleculeRegistryModel" "element" "[I" : Cond), (.laysFinal "MoleculeRegistryModel" "MoleculeRegistryModel" "aromatic" "[Z" : Cond), (.laysFinal "MoleculeRegistryModel" "MoleculeRegistryModel" "hydrogens" "[I" : Cond), (.laysFinal "MoleculeRegistryModel" "MoleculeRegistryModel" "charge" "[I" : Cond), (.laysFinal "MoleculeRegistryModel" "MoleculeRegistryModel" "bracket" "[Z" : Cond), (.laysFinal "MoleculeRegistryModel" "MoleculeRegistryModel" "list" "[I" : Cond), (.laysFinal "MoleculeRegistryModel" "MoleculeRegistryModel" "bonds" "[I" : Cond), (.laysFinal "MoleculeRegistryModel" "MoleculeRegistryModel" "back" "[I" : Cond), (.laysFinal "MoleculeRegistryModel" "MoleculeRegistryModel" "opener" "[I" : Cond), (.laysFinal "MoleculeRegistryModel" "MoleculeRegistryModel" "openLink" "[I" : Cond), (.lays "MoleculeRegistryModel" "MoleculeRegistryModel" "good" "Z" : Cond), (.lays "MoleculeRegistryModel" "MoleculeRegistryModel" "count" "I" : Cond), (.lays "MoleculeRegistryModel" "MoleculeRegistryModel" "lastId" "I" : Cond), (.laysFinal "MoleculeRegistryModel" "MoleculeRegistryModel" "ids" "[I" : Cond), (.laysFinal "MoleculeRegistryModel" "MoleculeRegistryModel" "sizes" "[I" : Cond), (.laysFinal "MoleculeRegistryModel" "MoleculeRegistryModel" "elements" "[I" : Cond), (.laysFinal "MoleculeRegistryModel" "MoleculeRegistryModel" "aromatics" "[Z" : Cond), (.laysFinal "MoleculeRegistryModel" "MoleculeRegistryModel" "hydrogenCounts" "[I" : Cond), (.laysFinal "MoleculeRegistryModel" "MoleculeRegistryModel" "charges" "[I" : Cond), (.laysFinal "MoleculeRegistryModel" "MoleculeRegistryModel" "allBonds" "[I" : Cond), (.laysFinal "MoleculeRegistryModel" "MoleculeRegistryModel" "put" "[I" : Cond), (.laysFinal "MoleculeRegistryModel" "MoleculeRegistryModel" "taken" "[Z" : Cond), (.lays "MoleculeRegistryModel" "MoleculeRegistryModel" "failure" "I" : Cond), (.lays "MoleculeRegistryModel" "MoleculeRegistryModel" "down" "Z" : Cond), (.lays "MoleculeRegistryModel" "MoleculeRegistryModel" "logged" "I" : Cond), (.lays "MoleculeRegistryModel" "MoleculeRegistryModel" "loggedId" "I" : Cond), (.lays "MoleculeRegistryModel" "MoleculeRegistryModel" "done" "Z" : Cond), (.lays "MoleculeRegistryModel" "MoleculeRegistryModel" "storeSize" "I" : Cond), (.laysFinal "MoleculeRegistryModel" "MoleculeRegistryModel" "storeElement" "[I" : Cond), (.laysFinal "MoleculeRegistryModel" "MoleculeRegistryModel" "storeAromatic" "[Z" : Cond), (.laysFinal "MoleculeRegistryModel" "MoleculeRegistryModel" "storeHydrogens" "[I" : Cond), (.laysFinal "MoleculeRegistryModel" "MoleculeRegistryModel" "storeCharge" "[I" : Cond), (.laysFinal "MoleculeRegistryModel" "MoleculeRegistryModel" "storeBonds" "[I" : Cond), (.lays "MoleculeRegistryModel" "MoleculeRegistryModel" "finds" "I" : Cond), (.laysFinal "MoleculeRegistryModel" "MoleculeRegistryModel" "foundIds" "[I" : Cond)], w ∈ jx_W0
  exact List.forall_mem_cons.mpr ⟨w_695, List.forall_mem_cons.mpr ⟨w_696, List.forall_mem_cons.mpr ⟨w_697, List.forall_mem_cons.mpr ⟨w_698, List.forall_mem_cons.mpr ⟨w_699, List.forall_mem_cons.mpr ⟨w_700, List.forall_mem_cons.mpr ⟨w_701, List.forall_mem_cons.mpr ⟨w_702, List.forall_mem_cons.mpr ⟨w_703, List.forall_mem_cons.mpr ⟨w_704, List.forall_mem_cons.mpr ⟨w_705, List.forall_mem_cons.mpr ⟨w_706, List.forall_mem_cons.mpr ⟨w_707, List.forall_mem_cons.mpr ⟨w_708, List.forall_mem_cons.mpr ⟨w_709, List.forall_mem_cons.mpr ⟨w_710, List.forall_mem_cons.mpr ⟨w_711, List.forall_mem_cons.mpr ⟨w_712, List.forall_mem_cons.mpr ⟨w_713, List.forall_mem_cons.mpr ⟨w_714, List.forall_mem_cons.mpr ⟨w_715, List.forall_mem_cons.mpr ⟨w_716, List.forall_mem_cons.mpr ⟨w_717, List.forall_mem_cons.mpr ⟨w_718, List.forall_mem_cons.mpr ⟨w_719, List.forall_mem_cons.mpr ⟨w_720, List.forall_mem_cons.mpr ⟨w_721, List.forall_mem_cons.mpr ⟨w_722, List.forall_mem_cons.mpr ⟨w_723, List.forall_mem_cons.mpr ⟨w_724, List.forall_mem_cons.mpr ⟨w_725, List.forall_mem_cons.mpr ⟨w_726, List.forall_mem_cons.mpr ⟨w_727, List.forall_mem_cons.mpr ⟨w_728, List.forall_mem_cons.mpr ⟨w_729, List.forall_mem_cons.mpr ⟨w_730, List.forall_mem_cons.mpr ⟨w_731, List.forall_mem_cons.mpr ⟨w_732, List.forall_mem_cons.mpr ⟨w_733, List.forall_mem_cons.mpr ⟨w_734, fun _ h => by cases h⟩⟩⟩⟩⟩⟩⟩⟩⟩⟩⟩⟩⟩⟩⟩⟩⟩⟩⟩⟩⟩⟩⟩⟩⟩⟩⟩⟩⟩⟩⟩⟩⟩⟩⟩⟩⟩⟩⟩⟩
theorem kk_6 : jx_k (jx_mk D c0 c1 c2 c3 c4 H0 ga gl G) 6 "MoleculeRegistryModel" TX_6 40 ty_6 := ⟨rfl, by decide, in_6, tk_6, nm_6⟩
theorem in_7 : ∀ w ∈ u_ws "java/lang/IllegalStateException" TX_7 0, w ∈ jx_W0 := fun _ h => by cases h
theorem kk_7 : jx_k (jx_mk D c0 c1 c2 c3 c4 H0 ga gl G) 7 "java/lang/IllegalStateException" TX_7 0 ty_7 := ⟨rfl, by decide, in_7, tk_7, nm_7⟩
theorem in_8 : ∀ w ∈ u_ws "java/lang/IllegalArgumentException" TX_8 0, w ∈ jx_W0 := fun _ h => by cases h
theorem kk_8 : jx_k (jx_mk D c0 c1 c2 c3 c4 H0 ga gl G) 8 "java/lang/IllegalArgumentException" TX_8 0 ty_8 := ⟨rfl, by decide, in_8, tk_8, nm_8⟩
theorem in_9 : ∀ w ∈ u_ws "java/lang/UnsupportedOperationException" TX_9 0, w ∈ jx_W0 := fun _ h => by cases h
theorem kk_9 : jx_k (jx_mk D c0 c1 c2 c3 c4 H0 ga gl G) 9 "java/lang/UnsupportedOperationException" TX_9 0 ty_9 := ⟨rfl, by decide, in_9, tk_9, nm_9⟩
theorem in_10 : ∀ w ∈ u_ws "java/lang/ArithmeticException" TX_10 0, w ∈ jx_W0 := fun _ h => by cases h
theorem kk_10 : jx_k (jx_mk D c0 c1 c2 c3 c4 H0 ga gl G) 10 "java/lang/ArithmeticException" TX_10 0 ty_10 := ⟨rfl, by decide, in_10, tk_10, nm_10⟩
theorem in_11 : ∀ w ∈ u_ws "java/lang/IndexOutOfBoundsException" TX_11 0, w ∈ jx_W0 := fun _ h => by cases h
theorem kk_11 : jx_k (jx_mk D c0 c1 c2 c3 c4 H0 ga gl G) 11 "java/lang/IndexOutOfBoundsException" TX_11 0 ty_11 := ⟨rfl, by decide, in_11, tk_11, nm_11⟩
theorem jx_mk_ty : ∀ t, t < 5 → ∃ q, (jx_mk D c0 c1 c2 c3 c4 H0 ga gl G).ty[t]? = some q := by
  intro t ht
  match t, ht with
  | 0, _ => exact ⟨_, rfl⟩
  | 1, _ => exact ⟨_, rfl⟩
  | 2, _ => exact ⟨_, rfl⟩
  | 3, _ => exact ⟨_, rfl⟩
  | 4, _ => exact ⟨_, rfl⟩
theorem mc_1 : jx_c (jx_mk D c0 c1 c2 c3 c4 H0 ga gl G) (jx_mt 1) := ⟨Or.inl ⟨w_118, rfl⟩, by decide +kernel, by decide⟩
theorem np_1 : (parseMethodDescriptor (jx_mt 1).1.desc).map (fun d => d.parameters.length) = some 0 := by decide +kernel
theorem mc_2 : jx_c (jx_mk D c0 c1 c2 c3 c4 H0 ga gl G) (jx_mt 2) := ⟨Or.inl ⟨w_605, rfl⟩, by decide +kernel, by decide⟩
theorem np_2 : (parseMethodDescriptor (jx_mt 2).1.desc).map (fun d => d.parameters.length) = some 1 := by decide +kernel
theorem mc_3 : jx_c (jx_mk D c0 c1 c2 c3 c4 H0 ga gl G) (jx_mt 3) := ⟨Or.inl ⟨w_563, rfl⟩, by decide +kernel, by decide⟩
theorem np_3 : (parseMethodDescriptor (jx_mt 3).1.desc).map (fun d => d.parameters.length) = some 1 := by decide +kernel
theorem mc_4 : jx_c (jx_mk D c0 c1 c2 c3 c4 H0 ga gl G) (jx_mt 4) := ⟨Or.inl ⟨w_617, rfl⟩, by decide +kernel, by decide⟩
theorem np_4 : (parseMethodDescriptor (jx_mt 4).1.desc).map (fun d => d.parameters.length) = some 2 := by decide +kernel
theorem mc_5 : jx_c (jx_mk D c0 c1 c2 c3 c4 H0 ga gl G) (jx_mt 5) := ⟨Or.inl ⟨w_529, rfl⟩, by decide +kernel, by decide⟩
theorem np_5 : (parseMethodDescriptor (jx_mt 5).1.desc).map (fun d => d.parameters.length) = some 0 := by decide +kernel
theorem mc_6 : jx_c (jx_mk D c0 c1 c2 c3 c4 H0 ga gl G) (jx_mt 6) := ⟨Or.inl ⟨w_595, rfl⟩, by decide +kernel, by decide⟩
theorem np_6 : (parseMethodDescriptor (jx_mt 6).1.desc).map (fun d => d.parameters.length) = some 1 := by decide +kernel
theorem mc_7 : jx_c (jx_mk D c0 c1 c2 c3 c4 H0 ga gl G) (jx_mt 7) := ⟨Or.inl ⟨w_626, rfl⟩, by decide +kernel, by decide⟩
theorem np_7 : (parseMethodDescriptor (jx_mt 7).1.desc).map (fun d => d.parameters.length) = some 3 := by decide +kernel
theorem mc_8 : jx_c (jx_mk D c0 c1 c2 c3 c4 H0 ga gl G) (jx_mt 8) := ⟨Or.inl ⟨w_544, rfl⟩, by decide +kernel, by decide⟩
theorem np_8 : (parseMethodDescriptor (jx_mt 8).1.desc).map (fun d => d.parameters.length) = some 3 := by decide +kernel
theorem mc_9 : jx_c (jx_mk D c0 c1 c2 c3 c4 H0 ga gl G) (jx_mt 9) := ⟨Or.inl ⟨w_559, rfl⟩, by decide +kernel, by decide⟩
theorem np_9 : (parseMethodDescriptor (jx_mt 9).1.desc).map (fun d => d.parameters.length) = some 2 := by decide +kernel
theorem mc_10 : jx_c (jx_mk D c0 c1 c2 c3 c4 H0 ga gl G) (jx_mt 10) := ⟨Or.inl ⟨w_534, rfl⟩, by decide +kernel, by decide⟩
theorem np_10 : (parseMethodDescriptor (jx_mt 10).1.desc).map (fun d => d.parameters.length) = some 2 := by decide +kernel
theorem mc_11 : jx_c (jx_mk D c0 c1 c2 c3 c4 H0 ga gl G) (jx_mt 11) := ⟨Or.inl ⟨w_277, rfl⟩, by decide +kernel, by decide⟩
theorem np_11 : (parseMethodDescriptor (jx_mt 11).1.desc).map (fun d => d.parameters.length) = some 0 := by decide +kernel
theorem mc_12 : jx_c (jx_mk D c0 c1 c2 c3 c4 H0 ga gl G) (jx_mt 12) := ⟨Or.inl ⟨w_627, rfl⟩, by decide +kernel, by decide⟩
theorem np_12 : (parseMethodDescriptor (jx_mt 12).1.desc).map (fun d => d.parameters.length) = some 0 := by decide +kernel
theorem mc_13 : jx_c (jx_mk D c0 c1 c2 c3 c4 H0 ga gl G) (jx_mt 13) := ⟨Or.inl ⟨w_623, rfl⟩, by decide +kernel, by decide⟩
theorem np_13 : (parseMethodDescriptor (jx_mt 13).1.desc).map (fun d => d.parameters.length) = some 3 := by decide +kernel
theorem mc_14 : jx_c (jx_mk D c0 c1 c2 c3 c4 H0 ga gl G) (jx_mt 14) := ⟨Or.inl ⟨w_263, rfl⟩, by decide +kernel, by decide⟩
theorem np_14 : (parseMethodDescriptor (jx_mt 14).1.desc).map (fun d => d.parameters.length) = some 0 := by decide +kernel
theorem mc_15 : jx_c (jx_mk D c0 c1 c2 c3 c4 H0 ga gl G) (jx_mt 15) := ⟨Or.inl ⟨w_560, rfl⟩, by decide +kernel, by decide⟩
theorem np_15 : (parseMethodDescriptor (jx_mt 15).1.desc).map (fun d => d.parameters.length) = some 2 := by decide +kernel
theorem mc_16 : jx_c (jx_mk D c0 c1 c2 c3 c4 H0 ga gl G) (jx_mt 16) := ⟨Or.inl ⟨w_577, rfl⟩, by decide +kernel, by decide⟩
theorem np_16 : (parseMethodDescriptor (jx_mt 16).1.desc).map (fun d => d.parameters.length) = some 3 := by decide +kernel
theorem mc_17 : jx_c (jx_mk D c0 c1 c2 c3 c4 H0 ga gl G) (jx_mt 17) := ⟨Or.inl ⟨w_641, rfl⟩, by decide +kernel, by decide⟩
theorem np_17 : (parseMethodDescriptor (jx_mt 17).1.desc).map (fun d => d.parameters.length) = some 2 := by decide +kernel
theorem mc_18 : jx_c (jx_mk D c0 c1 c2 c3 c4 H0 ga gl G) (jx_mt 18) := ⟨Or.inl ⟨w_558, rfl⟩, by decide +kernel, by decide⟩
theorem np_18 : (parseMethodDescriptor (jx_mt 18).1.desc).map (fun d => d.parameters.length) = some 4 := by decide +kernel
theorem mc_19 : jx_c (jx_mk D c0 c1 c2 c3 c4 H0 ga gl G) (jx_mt 19) := ⟨Or.inl ⟨w_593, rfl⟩, by decide +kernel, by decide⟩
theorem np_19 : (parseMethodDescriptor (jx_mt 19).1.desc).map (fun d => d.parameters.length) = some 1 := by decide +kernel
theorem mc_20 : jx_c (jx_mk D c0 c1 c2 c3 c4 H0 ga gl G) (jx_mt 20) := ⟨Or.inl ⟨w_602, rfl⟩, by decide +kernel, by decide⟩
theorem np_20 : (parseMethodDescriptor (jx_mt 20).1.desc).map (fun d => d.parameters.length) = some 4 := by decide +kernel
theorem mc_21 : jx_c (jx_mk D c0 c1 c2 c3 c4 H0 ga gl G) (jx_mt 21) := ⟨Or.inl ⟨w_607, rfl⟩, by decide +kernel, by decide⟩
theorem np_21 : (parseMethodDescriptor (jx_mt 21).1.desc).map (fun d => d.parameters.length) = some 2 := by decide +kernel
theorem mc_22 : jx_c (jx_mk D c0 c1 c2 c3 c4 H0 ga gl G) (jx_mt 22) := ⟨Or.inl ⟨w_254, rfl⟩, by decide +kernel, by decide⟩
theorem np_22 : (parseMethodDescriptor (jx_mt 22).1.desc).map (fun d => d.parameters.length) = some 0 := by decide +kernel
theorem mc_23 : jx_c (jx_mk D c0 c1 c2 c3 c4 H0 ga gl G) (jx_mt 23) := ⟨Or.inl ⟨w_596, rfl⟩, by decide +kernel, by decide⟩
theorem np_23 : (parseMethodDescriptor (jx_mt 23).1.desc).map (fun d => d.parameters.length) = some 3 := by decide +kernel
theorem mc_24 : jx_c (jx_mk D c0 c1 c2 c3 c4 H0 ga gl G) (jx_mt 24) := ⟨Or.inl ⟨w_636, rfl⟩, by decide +kernel, by decide⟩
theorem np_24 : (parseMethodDescriptor (jx_mt 24).1.desc).map (fun d => d.parameters.length) = some 0 := by decide +kernel
theorem mc_25 : jx_c (jx_mk D c0 c1 c2 c3 c4 H0 ga gl G) (jx_mt 25) := ⟨Or.inl ⟨w_536, rfl⟩, by decide +kernel, by decide⟩
theorem np_25 : (parseMethodDescriptor (jx_mt 25).1.desc).map (fun d => d.parameters.length) = some 0 := by decide +kernel
theorem mc_26 : jx_c (jx_mk D c0 c1 c2 c3 c4 H0 ga gl G) (jx_mt 26) := ⟨Or.inl ⟨w_631, rfl⟩, by decide +kernel, by decide⟩
theorem np_26 : (parseMethodDescriptor (jx_mt 26).1.desc).map (fun d => d.parameters.length) = some 1 := by decide +kernel
theorem mc_27 : jx_c (jx_mk D c0 c1 c2 c3 c4 H0 ga gl G) (jx_mt 27) := ⟨Or.inl ⟨w_622, rfl⟩, by decide +kernel, by decide⟩
theorem np_27 : (parseMethodDescriptor (jx_mt 27).1.desc).map (fun d => d.parameters.length) = some 0 := by decide +kernel
theorem mc_28 : jx_c (jx_mk D c0 c1 c2 c3 c4 H0 ga gl G) (jx_mt 28) := ⟨Or.inl ⟨w_647, rfl⟩, by decide +kernel, by decide⟩
theorem np_28 : (parseMethodDescriptor (jx_mt 28).1.desc).map (fun d => d.parameters.length) = some 0 := by decide +kernel
theorem mc_29 : jx_c (jx_mk D c0 c1 c2 c3 c4 H0 ga gl G) (jx_mt 29) := ⟨Or.inl ⟨w_540, rfl⟩, by decide +kernel, by decide⟩
theorem np_29 : (parseMethodDescriptor (jx_mt 29).1.desc).map (fun d => d.parameters.length) = some 0 := by decide +kernel
theorem mc_30 : jx_c (jx_mk D c0 c1 c2 c3 c4 H0 ga gl G) (jx_mt 30) := ⟨Or.inl ⟨w_646, rfl⟩, by decide +kernel, by decide⟩
theorem np_30 : (parseMethodDescriptor (jx_mt 30).1.desc).map (fun d => d.parameters.length) = some 1 := by decide +kernel
theorem mc_31 : jx_c (jx_mk D c0 c1 c2 c3 c4 H0 ga gl G) (jx_mt 31) := ⟨Or.inl ⟨w_598, rfl⟩, by decide +kernel, by decide⟩
theorem np_31 : (parseMethodDescriptor (jx_mt 31).1.desc).map (fun d => d.parameters.length) = some 2 := by decide +kernel
theorem mc_32 : jx_c (jx_mk D c0 c1 c2 c3 c4 H0 ga gl G) (jx_mt 32) := ⟨Or.inl ⟨w_642, rfl⟩, by decide +kernel, by decide⟩
theorem np_32 : (parseMethodDescriptor (jx_mt 32).1.desc).map (fun d => d.parameters.length) = some 0 := by decide +kernel
theorem mc_33 : jx_c (jx_mk D c0 c1 c2 c3 c4 H0 ga gl G) (jx_mt 33) := ⟨Or.inl ⟨w_628, rfl⟩, by decide +kernel, by decide⟩
theorem np_33 : (parseMethodDescriptor (jx_mt 33).1.desc).map (fun d => d.parameters.length) = some 0 := by decide +kernel
theorem mc_34 : jx_c (jx_mk D c0 c1 c2 c3 c4 H0 ga gl G) (jx_mt 34) := ⟨Or.inl ⟨w_575, rfl⟩, by decide +kernel, by decide⟩
theorem np_34 : (parseMethodDescriptor (jx_mt 34).1.desc).map (fun d => d.parameters.length) = some 3 := by decide +kernel
theorem mc_35 : jx_c (jx_mk D c0 c1 c2 c3 c4 H0 ga gl G) (jx_mt 35) := ⟨Or.inl ⟨w_613, rfl⟩, by decide +kernel, by decide⟩
theorem np_35 : (parseMethodDescriptor (jx_mt 35).1.desc).map (fun d => d.parameters.length) = some 3 := by decide +kernel
theorem mc_36 : jx_c (jx_mk D c0 c1 c2 c3 c4 H0 ga gl G) (jx_mt 36) := ⟨Or.inl ⟨w_562, rfl⟩, by decide +kernel, by decide⟩
theorem np_36 : (parseMethodDescriptor (jx_mt 36).1.desc).map (fun d => d.parameters.length) = some 2 := by decide +kernel
theorem mc_37 : jx_c (jx_mk D c0 c1 c2 c3 c4 H0 ga gl G) (jx_mt 37) := ⟨Or.inl ⟨w_553, rfl⟩, by decide +kernel, by decide⟩
theorem np_37 : (parseMethodDescriptor (jx_mt 37).1.desc).map (fun d => d.parameters.length) = some 1 := by decide +kernel
theorem mc_38 : jx_c (jx_mk D c0 c1 c2 c3 c4 H0 ga gl G) (jx_mt 38) := ⟨Or.inl ⟨w_547, rfl⟩, by decide +kernel, by decide⟩
theorem np_38 : (parseMethodDescriptor (jx_mt 38).1.desc).map (fun d => d.parameters.length) = some 3 := by decide +kernel
theorem mc_39 : jx_c (jx_mk D c0 c1 c2 c3 c4 H0 ga gl G) (jx_mt 39) := ⟨Or.inl ⟨w_588, rfl⟩, by decide +kernel, by decide⟩
theorem np_39 : (parseMethodDescriptor (jx_mt 39).1.desc).map (fun d => d.parameters.length) = some 1 := by decide +kernel
theorem mc_40 : jx_c (jx_mk D c0 c1 c2 c3 c4 H0 ga gl G) (jx_mt 40) := ⟨Or.inl ⟨w_632, rfl⟩, by decide +kernel, by decide⟩
theorem np_40 : (parseMethodDescriptor (jx_mt 40).1.desc).map (fun d => d.parameters.length) = some 1 := by decide +kernel
theorem mc_41 : jx_c (jx_mk D c0 c1 c2 c3 c4 H0 ga gl G) (jx_mt 41) := ⟨Or.inl ⟨w_599, rfl⟩, by decide +kernel, by decide⟩
theorem np_41 : (parseMethodDescriptor (jx_mt 41).1.desc).map (fun d => d.parameters.length) = some 0 := by decide +kernel
theorem mc_42 : jx_c (jx_mk D c0 c1 c2 c3 c4 H0 ga gl G) (jx_mt 42) := ⟨Or.inl ⟨w_539, rfl⟩, by decide +kernel, by decide⟩
theorem np_42 : (parseMethodDescriptor (jx_mt 42).1.desc).map (fun d => d.parameters.length) = some 1 := by decide +kernel
theorem mc_43 : jx_c (jx_mk D c0 c1 c2 c3 c4 H0 ga gl G) (jx_mt 43) := ⟨Or.inl ⟨w_270, rfl⟩, by decide +kernel, by decide⟩
theorem np_43 : (parseMethodDescriptor (jx_mt 43).1.desc).map (fun d => d.parameters.length) = some 0 := by decide +kernel
theorem mc_44 : jx_c (jx_mk D c0 c1 c2 c3 c4 H0 ga gl G) (jx_mt 44) := ⟨Or.inl ⟨w_624, rfl⟩, by decide +kernel, by decide⟩
theorem np_44 : (parseMethodDescriptor (jx_mt 44).1.desc).map (fun d => d.parameters.length) = some 1 := by decide +kernel
theorem mc_45 : jx_c (jx_mk D c0 c1 c2 c3 c4 H0 ga gl G) (jx_mt 45) := ⟨Or.inl ⟨w_629, rfl⟩, by decide +kernel, by decide⟩
theorem np_45 : (parseMethodDescriptor (jx_mt 45).1.desc).map (fun d => d.parameters.length) = some 1 := by decide +kernel
theorem mc_46 : jx_c (jx_mk D c0 c1 c2 c3 c4 H0 ga gl G) (jx_mt 46) := ⟨Or.inl ⟨w_545, rfl⟩, by decide +kernel, by decide⟩
theorem np_46 : (parseMethodDescriptor (jx_mt 46).1.desc).map (fun d => d.parameters.length) = some 2 := by decide +kernel
theorem mc_47 : jx_c (jx_mk D c0 c1 c2 c3 c4 H0 ga gl G) (jx_mt 47) := ⟨Or.inl ⟨w_4, rfl⟩, by decide +kernel, by decide⟩
theorem np_47 : (parseMethodDescriptor (jx_mt 47).1.desc).map (fun d => d.parameters.length) = some 0 := by decide +kernel
theorem mc_48 : jx_c (jx_mk D c0 c1 c2 c3 c4 H0 ga gl G) (jx_mt 48) := ⟨Or.inl ⟨w_570, rfl⟩, by decide +kernel, by decide⟩
theorem np_48 : (parseMethodDescriptor (jx_mt 48).1.desc).map (fun d => d.parameters.length) = some 1 := by decide +kernel
theorem mc_49 : jx_c (jx_mk D c0 c1 c2 c3 c4 H0 ga gl G) (jx_mt 49) := ⟨Or.inl ⟨w_585, rfl⟩, by decide +kernel, by decide⟩
theorem np_49 : (parseMethodDescriptor (jx_mt 49).1.desc).map (fun d => d.parameters.length) = some 2 := by decide +kernel
theorem mc_50 : jx_c (jx_mk D c0 c1 c2 c3 c4 H0 ga gl G) (jx_mt 50) := ⟨Or.inl ⟨w_579, rfl⟩, by decide +kernel, by decide⟩
theorem np_50 : (parseMethodDescriptor (jx_mt 50).1.desc).map (fun d => d.parameters.length) = some 1 := by decide +kernel
theorem mc_51 : jx_c (jx_mk D c0 c1 c2 c3 c4 H0 ga gl G) (jx_mt 51) := ⟨Or.inl ⟨w_618, rfl⟩, by decide +kernel, by decide⟩
theorem np_51 : (parseMethodDescriptor (jx_mt 51).1.desc).map (fun d => d.parameters.length) = some 0 := by decide +kernel
theorem mc_52 : jx_c (jx_mk D c0 c1 c2 c3 c4 H0 ga gl G) (jx_mt 52) := ⟨Or.inl ⟨w_572, rfl⟩, by decide +kernel, by decide⟩
theorem np_52 : (parseMethodDescriptor (jx_mt 52).1.desc).map (fun d => d.parameters.length) = some 1 := by decide +kernel
theorem mc_53 : jx_c (jx_mk D c0 c1 c2 c3 c4 H0 ga gl G) (jx_mt 53) := ⟨Or.inl ⟨w_651, rfl⟩, by decide +kernel, by decide⟩
theorem np_53 : (parseMethodDescriptor (jx_mt 53).1.desc).map (fun d => d.parameters.length) = some 1 := by decide +kernel
theorem mc_54 : jx_c (jx_mk D c0 c1 c2 c3 c4 H0 ga gl G) (jx_mt 54) := ⟨Or.inl ⟨w_638, rfl⟩, by decide +kernel, by decide⟩
theorem np_54 : (parseMethodDescriptor (jx_mt 54).1.desc).map (fun d => d.parameters.length) = some 0 := by decide +kernel
theorem mc_55 : jx_c (jx_mk D c0 c1 c2 c3 c4 H0 ga gl G) (jx_mt 55) := ⟨Or.inl ⟨w_531, rfl⟩, by decide +kernel, by decide⟩
theorem np_55 : (parseMethodDescriptor (jx_mt 55).1.desc).map (fun d => d.parameters.length) = some 0 := by decide +kernel
theorem mc_56 : jx_c (jx_mk D c0 c1 c2 c3 c4 H0 ga gl G) (jx_mt 56) := ⟨Or.inl ⟨w_538, rfl⟩, by decide +kernel, by decide⟩
theorem np_56 : (parseMethodDescriptor (jx_mt 56).1.desc).map (fun d => d.parameters.length) = some 0 := by decide +kernel
theorem mc_57 : jx_c (jx_mk D c0 c1 c2 c3 c4 H0 ga gl G) (jx_mt 57) := ⟨Or.inl ⟨w_571, rfl⟩, by decide +kernel, by decide⟩
theorem np_57 : (parseMethodDescriptor (jx_mt 57).1.desc).map (fun d => d.parameters.length) = some 1 := by decide +kernel
theorem mc_58 : jx_c (jx_mk D c0 c1 c2 c3 c4 H0 ga gl G) (jx_mt 58) := ⟨Or.inl ⟨w_574, rfl⟩, by decide +kernel, by decide⟩
theorem np_58 : (parseMethodDescriptor (jx_mt 58).1.desc).map (fun d => d.parameters.length) = some 1 := by decide +kernel
theorem mc_59 : jx_c (jx_mk D c0 c1 c2 c3 c4 H0 ga gl G) (jx_mt 59) := ⟨Or.inl ⟨w_591, rfl⟩, by decide +kernel, by decide⟩
theorem np_59 : (parseMethodDescriptor (jx_mt 59).1.desc).map (fun d => d.parameters.length) = some 2 := by decide +kernel
theorem mc_60 : jx_c (jx_mk D c0 c1 c2 c3 c4 H0 ga gl G) (jx_mt 60) := ⟨Or.inl ⟨w_556, rfl⟩, by decide +kernel, by decide⟩
theorem np_60 : (parseMethodDescriptor (jx_mt 60).1.desc).map (fun d => d.parameters.length) = some 3 := by decide +kernel
theorem mc_61 : jx_c (jx_mk D c0 c1 c2 c3 c4 H0 ga gl G) (jx_mt 61) := ⟨Or.inl ⟨w_609, rfl⟩, by decide +kernel, by decide⟩
theorem np_61 : (parseMethodDescriptor (jx_mt 61).1.desc).map (fun d => d.parameters.length) = some 0 := by decide +kernel
theorem mc_62 : jx_c (jx_mk D c0 c1 c2 c3 c4 H0 ga gl G) (jx_mt 62) := ⟨Or.inl ⟨w_625, rfl⟩, by decide +kernel, by decide⟩
theorem np_62 : (parseMethodDescriptor (jx_mt 62).1.desc).map (fun d => d.parameters.length) = some 1 := by decide +kernel
theorem mc_63 : jx_c (jx_mk D c0 c1 c2 c3 c4 H0 ga gl G) (jx_mt 63) := ⟨Or.inl ⟨w_604, rfl⟩, by decide +kernel, by decide⟩
theorem np_63 : (parseMethodDescriptor (jx_mt 63).1.desc).map (fun d => d.parameters.length) = some 0 := by decide +kernel
theorem mc_64 : jx_c (jx_mk D c0 c1 c2 c3 c4 H0 ga gl G) (jx_mt 64) := ⟨Or.inl ⟨w_530, rfl⟩, by decide +kernel, by decide⟩
theorem np_64 : (parseMethodDescriptor (jx_mt 64).1.desc).map (fun d => d.parameters.length) = some 0 := by decide +kernel
theorem mc_65 : jx_c (jx_mk D c0 c1 c2 c3 c4 H0 ga gl G) (jx_mt 65) := ⟨Or.inl ⟨w_586, rfl⟩, by decide +kernel, by decide⟩
theorem np_65 : (parseMethodDescriptor (jx_mt 65).1.desc).map (fun d => d.parameters.length) = some 2 := by decide +kernel
theorem mc_66 : jx_c (jx_mk D c0 c1 c2 c3 c4 H0 ga gl G) (jx_mt 66) := ⟨Or.inl ⟨w_583, rfl⟩, by decide +kernel, by decide⟩
theorem np_66 : (parseMethodDescriptor (jx_mt 66).1.desc).map (fun d => d.parameters.length) = some 0 := by decide +kernel
theorem mc_67 : jx_c (jx_mk D c0 c1 c2 c3 c4 H0 ga gl G) (jx_mt 67) := ⟨Or.inl ⟨w_567, rfl⟩, by decide +kernel, by decide⟩
theorem np_67 : (parseMethodDescriptor (jx_mt 67).1.desc).map (fun d => d.parameters.length) = some 0 := by decide +kernel
theorem mc_68 : jx_c (jx_mk D c0 c1 c2 c3 c4 H0 ga gl G) (jx_mt 68) := ⟨Or.inl ⟨w_614, rfl⟩, by decide +kernel, by decide⟩
theorem np_68 : (parseMethodDescriptor (jx_mt 68).1.desc).map (fun d => d.parameters.length) = some 1 := by decide +kernel
theorem mc_69 : jx_c (jx_mk D c0 c1 c2 c3 c4 H0 ga gl G) (jx_mt 69) := ⟨Or.inl ⟨w_10, rfl⟩, by decide +kernel, by decide⟩
theorem np_69 : (parseMethodDescriptor (jx_mt 69).1.desc).map (fun d => d.parameters.length) = some 0 := by decide +kernel
theorem mc_70 : jx_c (jx_mk D c0 c1 c2 c3 c4 H0 ga gl G) (jx_mt 70) := ⟨Or.inl ⟨w_606, rfl⟩, by decide +kernel, by decide⟩
theorem np_70 : (parseMethodDescriptor (jx_mt 70).1.desc).map (fun d => d.parameters.length) = some 0 := by decide +kernel
theorem mc_71 : jx_c (jx_mk D c0 c1 c2 c3 c4 H0 ga gl G) (jx_mt 71) := ⟨Or.inl ⟨w_648, rfl⟩, by decide +kernel, by decide⟩
theorem np_71 : (parseMethodDescriptor (jx_mt 71).1.desc).map (fun d => d.parameters.length) = some 1 := by decide +kernel
theorem mc_72 : jx_c (jx_mk D c0 c1 c2 c3 c4 H0 ga gl G) (jx_mt 72) := ⟨Or.inl ⟨w_552, rfl⟩, by decide +kernel, by decide⟩
theorem np_72 : (parseMethodDescriptor (jx_mt 72).1.desc).map (fun d => d.parameters.length) = some 0 := by decide +kernel
theorem mc_73 : jx_c (jx_mk D c0 c1 c2 c3 c4 H0 ga gl G) (jx_mt 73) := ⟨Or.inl ⟨w_541, rfl⟩, by decide +kernel, by decide⟩
theorem np_73 : (parseMethodDescriptor (jx_mt 73).1.desc).map (fun d => d.parameters.length) = some 0 := by decide +kernel
theorem mc_74 : jx_c (jx_mk D c0 c1 c2 c3 c4 H0 ga gl G) (jx_mt 74) := ⟨Or.inl ⟨w_573, rfl⟩, by decide +kernel, by decide⟩
theorem np_74 : (parseMethodDescriptor (jx_mt 74).1.desc).map (fun d => d.parameters.length) = some 1 := by decide +kernel
theorem mc_75 : jx_c (jx_mk D c0 c1 c2 c3 c4 H0 ga gl G) (jx_mt 75) := ⟨Or.inl ⟨w_537, rfl⟩, by decide +kernel, by decide⟩
theorem np_75 : (parseMethodDescriptor (jx_mt 75).1.desc).map (fun d => d.parameters.length) = some 0 := by decide +kernel
theorem mc_76 : jx_c (jx_mk D c0 c1 c2 c3 c4 H0 ga gl G) (jx_mt 76) := ⟨Or.inl ⟨w_620, rfl⟩, by decide +kernel, by decide⟩
theorem np_76 : (parseMethodDescriptor (jx_mt 76).1.desc).map (fun d => d.parameters.length) = some 1 := by decide +kernel
theorem mc_77 : jx_c (jx_mk D c0 c1 c2 c3 c4 H0 ga gl G) (jx_mt 77) := ⟨Or.inl ⟨w_601, rfl⟩, by decide +kernel, by decide⟩
theorem np_77 : (parseMethodDescriptor (jx_mt 77).1.desc).map (fun d => d.parameters.length) = some 1 := by decide +kernel
theorem mc_78 : jx_c (jx_mk D c0 c1 c2 c3 c4 H0 ga gl G) (jx_mt 78) := ⟨Or.inl ⟨w_565, rfl⟩, by decide +kernel, by decide⟩
theorem np_78 : (parseMethodDescriptor (jx_mt 78).1.desc).map (fun d => d.parameters.length) = some 2 := by decide +kernel
theorem mc_79 : jx_c (jx_mk D c0 c1 c2 c3 c4 H0 ga gl G) (jx_mt 79) := ⟨Or.inl ⟨w_637, rfl⟩, by decide +kernel, by decide⟩
theorem np_79 : (parseMethodDescriptor (jx_mt 79).1.desc).map (fun d => d.parameters.length) = some 1 := by decide +kernel
theorem mc_80 : jx_c (jx_mk D c0 c1 c2 c3 c4 H0 ga gl G) (jx_mt 80) := ⟨Or.inl ⟨w_653, rfl⟩, by decide +kernel, by decide⟩
theorem np_80 : (parseMethodDescriptor (jx_mt 80).1.desc).map (fun d => d.parameters.length) = some 1 := by decide +kernel
theorem mc_81 : jx_c (jx_mk D c0 c1 c2 c3 c4 H0 ga gl G) (jx_mt 81) := ⟨Or.inl ⟨w_608, rfl⟩, by decide +kernel, by decide⟩
theorem np_81 : (parseMethodDescriptor (jx_mt 81).1.desc).map (fun d => d.parameters.length) = some 2 := by decide +kernel
theorem mc_82 : jx_c (jx_mk D c0 c1 c2 c3 c4 H0 ga gl G) (jx_mt 82) := ⟨Or.inl ⟨w_619, rfl⟩, by decide +kernel, by decide⟩
theorem np_82 : (parseMethodDescriptor (jx_mt 82).1.desc).map (fun d => d.parameters.length) = some 0 := by decide +kernel
theorem mc_83 : jx_c (jx_mk D c0 c1 c2 c3 c4 H0 ga gl G) (jx_mt 83) := ⟨Or.inl ⟨w_616, rfl⟩, by decide +kernel, by decide⟩
theorem np_83 : (parseMethodDescriptor (jx_mt 83).1.desc).map (fun d => d.parameters.length) = some 0 := by decide +kernel
theorem mc_84 : jx_c (jx_mk D c0 c1 c2 c3 c4 H0 ga gl G) (jx_mt 84) := ⟨Or.inl ⟨w_554, rfl⟩, by decide +kernel, by decide⟩
theorem np_84 : (parseMethodDescriptor (jx_mt 84).1.desc).map (fun d => d.parameters.length) = some 3 := by decide +kernel
theorem mc_85 : jx_c (jx_mk D c0 c1 c2 c3 c4 H0 ga gl G) (jx_mt 85) := ⟨Or.inl ⟨w_568, rfl⟩, by decide +kernel, by decide⟩
theorem np_85 : (parseMethodDescriptor (jx_mt 85).1.desc).map (fun d => d.parameters.length) = some 2 := by decide +kernel
theorem mc_86 : jx_c (jx_mk D c0 c1 c2 c3 c4 H0 ga gl G) (jx_mt 86) := ⟨Or.inl ⟨w_635, rfl⟩, by decide +kernel, by decide⟩
theorem np_86 : (parseMethodDescriptor (jx_mt 86).1.desc).map (fun d => d.parameters.length) = some 0 := by decide +kernel
theorem mc_87 : jx_c (jx_mk D c0 c1 c2 c3 c4 H0 ga gl G) (jx_mt 87) := ⟨Or.inl ⟨w_543, rfl⟩, by decide +kernel, by decide⟩
theorem np_87 : (parseMethodDescriptor (jx_mt 87).1.desc).map (fun d => d.parameters.length) = some 1 := by decide +kernel
theorem mc_88 : jx_c (jx_mk D c0 c1 c2 c3 c4 H0 ga gl G) (jx_mt 88) := ⟨Or.inl ⟨w_589, rfl⟩, by decide +kernel, by decide⟩
theorem np_88 : (parseMethodDescriptor (jx_mt 88).1.desc).map (fun d => d.parameters.length) = some 1 := by decide +kernel
theorem mc_89 : jx_c (jx_mk D c0 c1 c2 c3 c4 H0 ga gl G) (jx_mt 89) := ⟨Or.inl ⟨w_639, rfl⟩, by decide +kernel, by decide⟩
theorem np_89 : (parseMethodDescriptor (jx_mt 89).1.desc).map (fun d => d.parameters.length) = some 0 := by decide +kernel
theorem mc_90 : jx_c (jx_mk D c0 c1 c2 c3 c4 H0 ga gl G) (jx_mt 90) := ⟨Or.inl ⟨w_633, rfl⟩, by decide +kernel, by decide⟩
theorem np_90 : (parseMethodDescriptor (jx_mt 90).1.desc).map (fun d => d.parameters.length) = some 1 := by decide +kernel
theorem mc_91 : jx_c (jx_mk D c0 c1 c2 c3 c4 H0 ga gl G) (jx_mt 91) := ⟨Or.inl ⟨w_630, rfl⟩, by decide +kernel, by decide⟩
theorem np_91 : (parseMethodDescriptor (jx_mt 91).1.desc).map (fun d => d.parameters.length) = some 0 := by decide +kernel
theorem mc_92 : jx_c (jx_mk D c0 c1 c2 c3 c4 H0 ga gl G) (jx_mt 92) := ⟨Or.inl ⟨w_548, rfl⟩, by decide +kernel, by decide⟩
theorem np_92 : (parseMethodDescriptor (jx_mt 92).1.desc).map (fun d => d.parameters.length) = some 0 := by decide +kernel
theorem mc_93 : jx_c (jx_mk D c0 c1 c2 c3 c4 H0 ga gl G) (jx_mt 93) := ⟨Or.inl ⟨w_566, rfl⟩, by decide +kernel, by decide⟩
theorem np_93 : (parseMethodDescriptor (jx_mt 93).1.desc).map (fun d => d.parameters.length) = some 2 := by decide +kernel
theorem mc_94 : jx_c (jx_mk D c0 c1 c2 c3 c4 H0 ga gl G) (jx_mt 94) := ⟨Or.inl ⟨w_532, rfl⟩, by decide +kernel, by decide⟩
theorem np_94 : (parseMethodDescriptor (jx_mt 94).1.desc).map (fun d => d.parameters.length) = some 4 := by decide +kernel
theorem mc_95 : jx_c (jx_mk D c0 c1 c2 c3 c4 H0 ga gl G) (jx_mt 95) := ⟨Or.inl ⟨w_535, rfl⟩, by decide +kernel, by decide⟩
theorem np_95 : (parseMethodDescriptor (jx_mt 95).1.desc).map (fun d => d.parameters.length) = some 4 := by decide +kernel
theorem mc_96 : jx_c (jx_mk D c0 c1 c2 c3 c4 H0 ga gl G) (jx_mt 96) := ⟨Or.inl ⟨w_564, rfl⟩, by decide +kernel, by decide⟩
theorem np_96 : (parseMethodDescriptor (jx_mt 96).1.desc).map (fun d => d.parameters.length) = some 0 := by decide +kernel
theorem mc_97 : jx_c (jx_mk D c0 c1 c2 c3 c4 H0 ga gl G) (jx_mt 97) := ⟨Or.inl ⟨w_551, rfl⟩, by decide +kernel, by decide⟩
theorem np_97 : (parseMethodDescriptor (jx_mt 97).1.desc).map (fun d => d.parameters.length) = some 2 := by decide +kernel
theorem mc_98 : jx_c (jx_mk D c0 c1 c2 c3 c4 H0 ga gl G) (jx_mt 98) := ⟨Or.inl ⟨w_580, rfl⟩, by decide +kernel, by decide⟩
theorem np_98 : (parseMethodDescriptor (jx_mt 98).1.desc).map (fun d => d.parameters.length) = some 0 := by decide +kernel
theorem mc_99 : jx_c (jx_mk D c0 c1 c2 c3 c4 H0 ga gl G) (jx_mt 99) := ⟨Or.inl ⟨w_649, rfl⟩, by decide +kernel, by decide⟩
theorem np_99 : (parseMethodDescriptor (jx_mt 99).1.desc).map (fun d => d.parameters.length) = some 1 := by decide +kernel
theorem mc_100 : jx_c (jx_mk D c0 c1 c2 c3 c4 H0 ga gl G) (jx_mt 100) := ⟨Or.inl ⟨w_611, rfl⟩, by decide +kernel, by decide⟩
theorem np_100 : (parseMethodDescriptor (jx_mt 100).1.desc).map (fun d => d.parameters.length) = some 2 := by decide +kernel
theorem mc_101 : jx_c (jx_mk D c0 c1 c2 c3 c4 H0 ga gl G) (jx_mt 101) := ⟨Or.inl ⟨w_597, rfl⟩, by decide +kernel, by decide⟩
theorem np_101 : (parseMethodDescriptor (jx_mt 101).1.desc).map (fun d => d.parameters.length) = some 0 := by decide +kernel
theorem mc_102 : jx_c (jx_mk D c0 c1 c2 c3 c4 H0 ga gl G) (jx_mt 102) := ⟨Or.inl ⟨w_603, rfl⟩, by decide +kernel, by decide⟩
theorem np_102 : (parseMethodDescriptor (jx_mt 102).1.desc).map (fun d => d.parameters.length) = some 0 := by decide +kernel
theorem mc_103 : jx_c (jx_mk D c0 c1 c2 c3 c4 H0 ga gl G) (jx_mt 103) := ⟨Or.inl ⟨w_610, rfl⟩, by decide +kernel, by decide⟩
theorem np_103 : (parseMethodDescriptor (jx_mt 103).1.desc).map (fun d => d.parameters.length) = some 1 := by decide +kernel
theorem mc_104 : jx_c (jx_mk D c0 c1 c2 c3 c4 H0 ga gl G) (jx_mt 104) := ⟨Or.inl ⟨w_643, rfl⟩, by decide +kernel, by decide⟩
theorem np_104 : (parseMethodDescriptor (jx_mt 104).1.desc).map (fun d => d.parameters.length) = some 1 := by decide +kernel
theorem mc_105 : jx_c (jx_mk D c0 c1 c2 c3 c4 H0 ga gl G) (jx_mt 105) := ⟨Or.inl ⟨w_621, rfl⟩, by decide +kernel, by decide⟩
theorem np_105 : (parseMethodDescriptor (jx_mt 105).1.desc).map (fun d => d.parameters.length) = some 1 := by decide +kernel
theorem mc_106 : jx_c (jx_mk D c0 c1 c2 c3 c4 H0 ga gl G) (jx_mt 106) := ⟨Or.inl ⟨w_533, rfl⟩, by decide +kernel, by decide⟩
theorem np_106 : (parseMethodDescriptor (jx_mt 106).1.desc).map (fun d => d.parameters.length) = some 0 := by decide +kernel
theorem mc_107 : jx_c (jx_mk D c0 c1 c2 c3 c4 H0 ga gl G) (jx_mt 107) := ⟨Or.inl ⟨w_582, rfl⟩, by decide +kernel, by decide⟩
theorem np_107 : (parseMethodDescriptor (jx_mt 107).1.desc).map (fun d => d.parameters.length) = some 0 := by decide +kernel
theorem mc_108 : jx_c (jx_mk D c0 c1 c2 c3 c4 H0 ga gl G) (jx_mt 108) := ⟨Or.inl ⟨w_584, rfl⟩, by decide +kernel, by decide⟩
theorem np_108 : (parseMethodDescriptor (jx_mt 108).1.desc).map (fun d => d.parameters.length) = some 1 := by decide +kernel
theorem mc_109 : jx_c (jx_mk D c0 c1 c2 c3 c4 H0 ga gl G) (jx_mt 109) := ⟨Or.inl ⟨w_652, rfl⟩, by decide +kernel, by decide⟩
theorem np_109 : (parseMethodDescriptor (jx_mt 109).1.desc).map (fun d => d.parameters.length) = some 2 := by decide +kernel
theorem mc_110 : jx_c (jx_mk D c0 c1 c2 c3 c4 H0 ga gl G) (jx_mt 110) := ⟨Or.inl ⟨w_594, rfl⟩, by decide +kernel, by decide⟩
theorem np_110 : (parseMethodDescriptor (jx_mt 110).1.desc).map (fun d => d.parameters.length) = some 3 := by decide +kernel
theorem mc_111 : jx_c (jx_mk D c0 c1 c2 c3 c4 H0 ga gl G) (jx_mt 111) := ⟨Or.inl ⟨w_640, rfl⟩, by decide +kernel, by decide⟩
theorem np_111 : (parseMethodDescriptor (jx_mt 111).1.desc).map (fun d => d.parameters.length) = some 2 := by decide +kernel
theorem mc_112 : jx_c (jx_mk D c0 c1 c2 c3 c4 H0 ga gl G) (jx_mt 112) := ⟨Or.inl ⟨w_576, rfl⟩, by decide +kernel, by decide⟩
theorem np_112 : (parseMethodDescriptor (jx_mt 112).1.desc).map (fun d => d.parameters.length) = some 1 := by decide +kernel
theorem mc_113 : jx_c (jx_mk D c0 c1 c2 c3 c4 H0 ga gl G) (jx_mt 113) := ⟨Or.inl ⟨w_615, rfl⟩, by decide +kernel, by decide⟩
theorem np_113 : (parseMethodDescriptor (jx_mt 113).1.desc).map (fun d => d.parameters.length) = some 2 := by decide +kernel
theorem mc_114 : jx_c (jx_mk D c0 c1 c2 c3 c4 H0 ga gl G) (jx_mt 114) := ⟨Or.inl ⟨w_549, rfl⟩, by decide +kernel, by decide⟩
theorem np_114 : (parseMethodDescriptor (jx_mt 114).1.desc).map (fun d => d.parameters.length) = some 1 := by decide +kernel
theorem mc_115 : jx_c (jx_mk D c0 c1 c2 c3 c4 H0 ga gl G) (jx_mt 115) := ⟨Or.inl ⟨w_557, rfl⟩, by decide +kernel, by decide⟩
theorem np_115 : (parseMethodDescriptor (jx_mt 115).1.desc).map (fun d => d.parameters.length) = some 1 := by decide +kernel
theorem mc_116 : jx_c (jx_mk D c0 c1 c2 c3 c4 H0 ga gl G) (jx_mt 116) := ⟨Or.inl ⟨w_550, rfl⟩, by decide +kernel, by decide⟩
theorem np_116 : (parseMethodDescriptor (jx_mt 116).1.desc).map (fun d => d.parameters.length) = some 3 := by decide +kernel
theorem mc_117 : jx_c (jx_mk D c0 c1 c2 c3 c4 H0 ga gl G) (jx_mt 117) := ⟨Or.inr w_645, by decide +kernel, by decide⟩
theorem np_117 : (parseMethodDescriptor (jx_mt 117).1.desc).map (fun d => d.parameters.length) = some 2 := by decide +kernel
theorem mc_118 : jx_c (jx_mk D c0 c1 c2 c3 c4 H0 ga gl G) (jx_mt 118) := ⟨Or.inr w_581, by decide +kernel, by decide⟩
theorem np_118 : (parseMethodDescriptor (jx_mt 118).1.desc).map (fun d => d.parameters.length) = some 2 := by decide +kernel
theorem mc_119 : jx_c (jx_mk D c0 c1 c2 c3 c4 H0 ga gl G) (jx_mt 119) := ⟨Or.inr w_587, by decide +kernel, by decide⟩
theorem np_119 : (parseMethodDescriptor (jx_mt 119).1.desc).map (fun d => d.parameters.length) = some 2 := by decide +kernel
theorem mc_120 : jx_c (jx_mk D c0 c1 c2 c3 c4 H0 ga gl G) (jx_mt 120) := ⟨Or.inr w_612, by decide +kernel, by decide⟩
theorem np_120 : (parseMethodDescriptor (jx_mt 120).1.desc).map (fun d => d.parameters.length) = some 3 := by decide +kernel
theorem mc_121 : jx_c (jx_mk D c0 c1 c2 c3 c4 H0 ga gl G) (jx_mt 121) := ⟨Or.inl ⟨w_578, rfl⟩, by decide +kernel, by decide⟩
theorem np_121 : (parseMethodDescriptor (jx_mt 121).1.desc).map (fun d => d.parameters.length) = some 2 := by decide +kernel
theorem mc_122 : jx_c (jx_mk D c0 c1 c2 c3 c4 H0 ga gl G) (jx_mt 122) := ⟨Or.inl ⟨w_569, rfl⟩, by decide +kernel, by decide⟩
theorem np_122 : (parseMethodDescriptor (jx_mt 122).1.desc).map (fun d => d.parameters.length) = some 2 := by decide +kernel
theorem mc_123 : jx_c (jx_mk D c0 c1 c2 c3 c4 H0 ga gl G) (jx_mt 123) := ⟨Or.inl ⟨w_590, rfl⟩, by decide +kernel, by decide⟩
theorem np_123 : (parseMethodDescriptor (jx_mt 123).1.desc).map (fun d => d.parameters.length) = some 2 := by decide +kernel
theorem mc_124 : jx_c (jx_mk D c0 c1 c2 c3 c4 H0 ga gl G) (jx_mt 124) := ⟨Or.inl ⟨w_555, rfl⟩, by decide +kernel, by decide⟩
theorem np_124 : (parseMethodDescriptor (jx_mt 124).1.desc).map (fun d => d.parameters.length) = some 1 := by decide +kernel
theorem mc_125 : jx_c (jx_mk D c0 c1 c2 c3 c4 H0 ga gl G) (jx_mt 125) := ⟨Or.inl ⟨w_644, rfl⟩, by decide +kernel, by decide⟩
theorem np_125 : (parseMethodDescriptor (jx_mt 125).1.desc).map (fun d => d.parameters.length) = some 1 := by decide +kernel
theorem mc_126 : jx_c (jx_mk D c0 c1 c2 c3 c4 H0 ga gl G) (jx_mt 126) := ⟨Or.inl ⟨w_600, rfl⟩, by decide +kernel, by decide⟩
theorem np_126 : (parseMethodDescriptor (jx_mt 126).1.desc).map (fun d => d.parameters.length) = some 2 := by decide +kernel
theorem mc_127 : jx_c (jx_mk D c0 c1 c2 c3 c4 H0 ga gl G) (jx_mt 127) := ⟨Or.inl ⟨w_546, rfl⟩, by decide +kernel, by decide⟩
theorem np_127 : (parseMethodDescriptor (jx_mt 127).1.desc).map (fun d => d.parameters.length) = some 0 := by decide +kernel
theorem mc_128 : jx_c (jx_mk D c0 c1 c2 c3 c4 H0 ga gl G) (jx_mt 128) := ⟨Or.inl ⟨w_542, rfl⟩, by decide +kernel, by decide⟩
theorem np_128 : (parseMethodDescriptor (jx_mt 128).1.desc).map (fun d => d.parameters.length) = some 0 := by decide +kernel
theorem mc_129 : jx_c (jx_mk D c0 c1 c2 c3 c4 H0 ga gl G) (jx_mt 129) := ⟨Or.inl ⟨w_634, rfl⟩, by decide +kernel, by decide⟩
theorem np_129 : (parseMethodDescriptor (jx_mt 129).1.desc).map (fun d => d.parameters.length) = some 0 := by decide +kernel
theorem mc_130 : jx_c (jx_mk D c0 c1 c2 c3 c4 H0 ga gl G) (jx_mt 130) := ⟨Or.inl ⟨w_561, rfl⟩, by decide +kernel, by decide⟩
theorem np_130 : (parseMethodDescriptor (jx_mt 130).1.desc).map (fun d => d.parameters.length) = some 1 := by decide +kernel
theorem mc_131 : jx_c (jx_mk D c0 c1 c2 c3 c4 H0 ga gl G) (jx_mt 131) := ⟨Or.inl ⟨w_592, rfl⟩, by decide +kernel, by decide⟩
theorem np_131 : (parseMethodDescriptor (jx_mt 131).1.desc).map (fun d => d.parameters.length) = some 4 := by decide +kernel
theorem mc_132 : jx_c (jx_mk D c0 c1 c2 c3 c4 H0 ga gl G) (jx_mt 132) := ⟨Or.inl ⟨w_650, rfl⟩, by decide +kernel, by decide⟩
theorem np_132 : (parseMethodDescriptor (jx_mt 132).1.desc).map (fun d => d.parameters.length) = some 4 := by decide +kernel
end JN
end
section
/-! printed by wip/whole/gen.py: the tables of operations -/
/- 0: MoleculeRegistryLaw.law([I)Z -/
def K_0_0 : List (Nat × jx_O) := [(0, o_new 5 [.null, .int 0, .null, .null, .null, .null, .null, .null, .int 0, .int 0, .int 0]), (3, o_dup), (4, o_callv 5 47 0), (7, o_ast 1 1), (8, o_new 6 [.int 0, .int 0, .null, .int 0, .int 0, .null, .null, .null, .null, .null, .null, .null, .null, .null, .null, .int 0, .int 0, .int 0, .null, .null, .null, .null, .null, .null, .null, .null, .null, .int 0, .int 0, .int 0, .int 0, .int 0, .int 0, .null, .null, .null, .null, .null, .int 0, .null]), (11, o_dup), (12, o_callv 6 69 0), (15, o_ast 2 1), (16, o_push (.int 1) 1), (17, o_newa 3 jx_zl), (19, o_ast 3 1), (20, o_push (.int 0) 1), (21, o_ist 4 2), (23, o_ild 4 2), (25, o_ald 0 1), (26, o_alen), (27, o_push (.int 4) 1), (28, o_bin fun x y => x - y), (29, o_igt 553), (32, o_ald 0 1), (33, o_ild 4 2), (35, o_iald), (36, o_push (.int 15) 2), (38, o_bin fun x y => x &&& y), (39, o_table 547 [104, 161, 172, 216, 260, 304, 329, 385, 410, 423, 436, 461, 498]), (104, o_ald 1 1), (105, o_ald 0 1), (106, o_ild 4 2), (108, o_push (.int 1) 1), (109, o_bin fun x y => x + y), (110, o_iald), (111, o_i2l), (112, o_push (.int 32) 2), (114, o_shl fun x y => x <<< (y.toInt64 &&& 63)), (115, o_ald 0 1), (116, o_ild 4 2), (118, o_push (.int 2) 1), (119, o_bin fun x y => x + y), (120, o_iald), (121, o_i2l)]
def K_0_1 : List (Nat × jx_O) := [(122, o_push (.long 4294967295) 3), (125, o_binl fun x y => x &&& y), (126, o_binl fun x y => x ||| y), (127, o_callv 5 48 1), (130, o_ald 2 1), (131, o_ald 0 1), (132, o_ild 4 2), (134, o_push (.int 1) 1), (135, o_bin fun x y => x + y), (136, o_iald), (137, o_i2l), (138, o_push (.int 32) 2), (140, o_shl fun x y => x <<< (y.toInt64 &&& 63)), (141, o_ald 0 1), (142, o_ild 4 2), (144, o_push (.int 2) 1), (145, o_bin fun x y => x + y), (146, o_iald), (147, o_i2l), (148, o_push (.long 4294967295) 3), (151, o_binl fun x y => x &&& y), (152, o_binl fun x y => x ||| y), (153, o_callv 6 71 1), (156, o_ieq 547), (159, o_push (.int 0) 1), (160, o_zret), (161, o_ald 1 1), (162, o_callv 5 51 0), (165, o_ald 2 1), (166, o_callv 6 72 0), (169, o_goto 547), (172, o_ald 1 1), (173, o_ald 3 1), (174, o_call 117 2), (177, o_ist 5 2), (179, o_ald 2 1), (180, o_callv 6 73 0), (183, o_ist 6 2), (185, o_ald 2 1), (186, o_callv 6 70 0)]
def K_0_2 : List (Nat × jx_O) := [(189, o_ild 5 2), (191, o_ieq 196), (194, o_push (.int 0) 1), (195, o_zret), (196, o_ild 5 2), (198, o_ifne 213), (201, o_ald 3 1), (202, o_push (.int 0) 1), (203, o_lald), (204, o_ild 6 2), (206, o_i2l), (207, o_lcmp), (208, o_ifeq 213), (211, o_push (.int 0) 1), (212, o_zret), (213, o_goto 547), (216, o_ald 1 1), (217, o_ald 3 1), (218, o_call 118 2), (221, o_ist 5 2), (223, o_ald 2 1), (224, o_callv 6 101 0), (227, o_ist 6 2), (229, o_ald 2 1), (230, o_callv 6 70 0), (233, o_ild 5 2), (235, o_ieq 240), (238, o_push (.int 0) 1), (239, o_zret), (240, o_ild 5 2), (242, o_ifne 257), (245, o_ald 3 1), (246, o_push (.int 0) 1), (247, o_lald), (248, o_ild 6 2), (250, o_i2l), (251, o_lcmp), (252, o_ifeq 257), (255, o_push (.int 0) 1), (256, o_zret)]
def K_0_3 : List (Nat × jx_O) := [(257, o_goto 547), (260, o_ald 1 1), (261, o_ald 3 1), (262, o_call 119 2), (265, o_ist 5 2), (267, o_ald 2 1), (268, o_callv 6 102 0), (271, o_ist 6 2), (273, o_ald 2 1), (274, o_callv 6 70 0), (277, o_ild 5 2), (279, o_ieq 284), (282, o_push (.int 0) 1), (283, o_zret), (284, o_ild 5 2), (286, o_ifne 301), (289, o_ald 3 1), (290, o_push (.int 0) 1), (291, o_lald), (292, o_ild 6 2), (294, o_i2l), (295, o_lcmp), (296, o_ifeq 301), (299, o_push (.int 0) 1), (300, o_zret), (301, o_goto 547), (304, o_ald 1 1), (305, o_ald 0 1), (306, o_ild 4 2), (308, o_push (.int 1) 1), (309, o_bin fun x y => x + y), (310, o_iald), (311, o_callv 5 52 1), (314, o_ald 2 1), (315, o_ald 0 1), (316, o_ild 4 2), (318, o_push (.int 1) 1), (319, o_bin fun x y => x + y), (320, o_iald), (321, o_callv 6 103 1)]
def K_0_4 : List (Nat × jx_O) := [(324, o_ieq 547), (327, o_push (.int 0) 1), (328, o_zret), (329, o_ald 1 1), (330, o_ald 0 1), (331, o_ild 4 2), (333, o_push (.int 1) 1), (334, o_bin fun x y => x + y), (335, o_iald), (336, o_ald 3 1), (337, o_call 120 3), (340, o_ist 5 2), (342, o_ald 2 1), (343, o_ald 0 1), (344, o_ild 4 2), (346, o_push (.int 1) 1), (347, o_bin fun x y => x + y), (348, o_iald), (349, o_callv 6 104 1), (352, o_ist 6 2), (354, o_ald 2 1), (355, o_callv 6 70 0), (358, o_ild 5 2), (360, o_ieq 365), (363, o_push (.int 0) 1), (364, o_zret), (365, o_ild 5 2), (367, o_ifne 382), (370, o_ald 3 1), (371, o_push (.int 0) 1), (372, o_lald), (373, o_ild 6 2), (375, o_i2l), (376, o_lcmp), (377, o_ifeq 382), (380, o_push (.int 0) 1), (381, o_zret), (382, o_goto 547), (385, o_ald 1 1), (386, o_ald 0 1)]
def K_0_5 : List (Nat × jx_O) := [(387, o_ild 4 2), (389, o_push (.int 1) 1), (390, o_bin fun x y => x + y), (391, o_iald), (392, o_callv 5 53 1), (395, o_ald 2 1), (396, o_ald 0 1), (397, o_ild 4 2), (399, o_push (.int 1) 1), (400, o_bin fun x y => x + y), (401, o_iald), (402, o_callv 6 105 1), (405, o_ieq 547), (408, o_push (.int 0) 1), (409, o_zret), (410, o_ald 1 1), (411, o_callv 5 54 0), (414, o_ald 2 1), (415, o_callv 6 106 0), (418, o_ieq 547), (421, o_push (.int 0) 1), (422, o_zret), (423, o_ald 1 1), (424, o_callv 5 56 0), (427, o_ald 2 1), (428, o_callv 6 107 0), (431, o_ieq 547), (434, o_push (.int 0) 1), (435, o_zret), (436, o_ald 1 1), (437, o_ald 0 1), (438, o_ild 4 2), (440, o_push (.int 1) 1), (441, o_bin fun x y => x + y), (442, o_iald), (443, o_callv 5 57 1), (446, o_ald 2 1), (447, o_ald 0 1), (448, o_ild 4 2), (450, o_push (.int 1) 1)]
def K_0_6 : List (Nat × jx_O) := [(451, o_bin fun x y => x + y), (452, o_iald), (453, o_callv 6 108 1), (456, o_ieq 547), (459, o_push (.int 0) 1), (460, o_zret), (461, o_ald 1 1), (462, o_ald 0 1), (463, o_ild 4 2), (465, o_push (.int 1) 1), (466, o_bin fun x y => x + y), (467, o_iald), (468, o_ald 0 1), (469, o_ild 4 2), (471, o_push (.int 2) 1), (472, o_bin fun x y => x + y), (473, o_iald), (474, o_callv 5 59 2), (477, o_ald 2 1), (478, o_ald 0 1), (479, o_ild 4 2), (481, o_push (.int 1) 1), (482, o_bin fun x y => x + y), (483, o_iald), (484, o_ald 0 1), (485, o_ild 4 2), (487, o_push (.int 2) 1), (488, o_bin fun x y => x + y), (489, o_iald), (490, o_callv 6 109 2), (493, o_ieq 547), (496, o_push (.int 0) 1), (497, o_zret), (498, o_ald 1 1), (499, o_ald 0 1), (500, o_ild 4 2), (502, o_push (.int 1) 1), (503, o_bin fun x y => x + y), (504, o_iald), (505, o_ald 0 1)]
def K_0_7 : List (Nat × jx_O) := [(506, o_ild 4 2), (508, o_push (.int 2) 1), (509, o_bin fun x y => x + y), (510, o_iald), (511, o_ald 0 1), (512, o_ild 4 2), (514, o_push (.int 3) 1), (515, o_bin fun x y => x + y), (516, o_iald), (517, o_callv 5 60 3), (520, o_ald 2 1), (521, o_ald 0 1), (522, o_ild 4 2), (524, o_push (.int 1) 1), (525, o_bin fun x y => x + y), (526, o_iald), (527, o_ald 0 1), (528, o_ild 4 2), (530, o_push (.int 2) 1), (531, o_bin fun x y => x + y), (532, o_iald), (533, o_ald 0 1), (534, o_ild 4 2), (536, o_push (.int 3) 1), (537, o_bin fun x y => x + y), (538, o_iald), (539, o_callv 6 110 3), (542, o_ieq 547), (545, o_push (.int 0) 1), (546, o_zret), (547, o_iinc 4 4), (550, o_goto 23), (553, o_push (.int 1) 1), (554, o_zret)]
def K_0 : List (Nat × jx_O) := K_0_0 ++ (K_0_1 ++ (K_0_2 ++ (K_0_3 ++ (K_0_4 ++ (K_0_5 ++ (K_0_6 ++ (K_0_7)))))))
/- 1: MoleculeRegistry$Graph.<init>()V -/
def K_1_0 : List (Nat × jx_O) := [(0, o_ald 0 1), (1, o_oinit), (4, o_ald 0 1), (5, o_push (.int 10) 2), (7, o_newa 0 jx_zi), (9, o_putf 0 0 jx_okR), (12, o_ald 0 1), (13, o_push (.int 100) 2), (15, o_newa 0 jx_zi), (17, o_putf 0 1 jx_okR), (20, o_ald 0 1), (21, o_push (.int 60) 2), (23, o_newa 0 jx_zi), (25, o_putf 0 2 jx_okR), (28, o_ret)]
def K_1 : List (Nat × jx_O) := K_1_0
/- 2: MoleculeRegistry$Graph.copyFrom(LMoleculeRegistry$Graph;)V -/
def K_2_0 : List (Nat × jx_O) := [(0, o_ald 1 1), (1, o_getf 0 0), (4, o_push (.int 0) 1), (5, o_ald 0 1), (6, o_getf 0 0), (9, o_push (.int 0) 1), (10, o_ald 0 1), (11, o_getf 0 0), (14, o_alen), (15, o_copy), (18, o_ald 1 1), (19, o_getf 0 1), (22, o_push (.int 0) 1), (23, o_ald 0 1), (24, o_getf 0 1), (27, o_push (.int 0) 1), (28, o_ald 0 1), (29, o_getf 0 1), (32, o_alen), (33, o_copy), (36, o_ald 1 1), (37, o_getf 0 2), (40, o_push (.int 0) 1), (41, o_ald 0 1), (42, o_getf 0 2), (45, o_push (.int 0) 1), (46, o_ald 0 1), (47, o_getf 0 2), (50, o_alen), (51, o_copy), (54, o_ald 0 1), (55, o_ald 1 1), (56, o_getf 0 3), (59, o_putf 0 3 jx_okI), (62, o_ald 0 1), (63, o_ald 1 1), (64, o_getf 0 4), (67, o_putf 0 4 jx_okI), (70, o_ret)]
def K_2 : List (Nat × jx_O) := K_2_0
/- 3: MoleculeRegistry$Graph.has(I)Z -/
def K_3_0 : List (Nat × jx_O) := [(0, o_ild 1 1), (1, o_iflt 16), (4, o_ild 1 1), (5, o_ald 0 1), (6, o_getf 0 3), (9, o_ige 16), (12, o_push (.int 1) 1), (13, o_goto 17), (16, o_push (.int 0) 1), (17, o_zret)]
def K_3 : List (Nat × jx_O) := K_3_0
/- 4: MoleculeRegistry$Graph.kindBetween(II)I -/
def K_4_0 : List (Nat × jx_O) := [(0, o_ald 0 1), (1, o_getf 0 1), (4, o_ild 1 1), (5, o_push (.int 10) 2), (7, o_bin fun x y => x * y), (8, o_ild 2 1), (9, o_bin fun x y => x + y), (10, o_iald), (11, o_iret)]
def K_4 : List (Nat × jx_O) := K_4_0
/- 5: MoleculeRegistry$Graph.clear()V -/
def K_5_0 : List (Nat × jx_O) := [(0, o_ald 0 1), (1, o_getf 0 0), (4, o_push (.int 0) 1), (5, o_call 123 2), (8, o_ald 0 1), (9, o_getf 0 1), (12, o_push (.int 0) 1), (13, o_call 123 2), (16, o_ald 0 1), (17, o_getf 0 2), (20, o_push (.int 0) 1), (21, o_call 123 2), (24, o_ald 0 1), (25, o_push (.int 0) 1), (26, o_putf 0 3 jx_okI), (29, o_ald 0 1), (30, o_push (.int 0) 1), (31, o_putf 0 4 jx_okI), (34, o_ret)]
def K_5 : List (Nat × jx_O) := K_5_0
/- 6: MoleculeRegistry$Graph.add(I)V -/
def K_6_0 : List (Nat × jx_O) := [(0, o_ald 0 1), (1, o_getf 0 3), (4, o_push (.int 10) 2), (6, o_ige 29), (9, o_ald 0 1), (10, o_getf 0 0), (13, o_ald 0 1), (14, o_getf 0 3), (17, o_ild 1 1), (18, o_iast), (19, o_ald 0 1), (20, o_dup), (21, o_getf 0 3), (24, o_push (.int 1) 1), (25, o_bin fun x y => x + y), (26, o_putf 0 3 jx_okI), (29, o_ret)]
def K_6 : List (Nat × jx_O) := K_6_0
/- 7: MoleculeRegistry$Graph.join(III)V -/
def K_7_0 : List (Nat × jx_O) := [(0, o_ald 0 1), (1, o_ild 1 1), (2, o_callv 0 3 1), (5, o_ifeq 40), (8, o_ald 0 1), (9, o_ild 2 1), (10, o_callv 0 3 1), (13, o_ifeq 40), (16, o_ald 0 1), (17, o_ild 1 1), (18, o_ild 2 1), (19, o_ild 3 1), (20, o_callv 0 8 3), (23, o_ald 0 1), (24, o_ild 2 1), (25, o_ild 1 1), (26, o_ild 3 1), (27, o_callv 0 8 3), (30, o_ald 0 1), (31, o_dup), (32, o_getf 0 4), (35, o_push (.int 1) 1), (36, o_bin fun x y => x + y), (37, o_putf 0 4 jx_okI), (40, o_ret)]
def K_7 : List (Nat × jx_O) := K_7_0
/- 8: MoleculeRegistry$Graph.joinOneWay(III)V -/
def K_8_0 : List (Nat × jx_O) := [(0, o_ald 0 1), (1, o_getf 0 1), (4, o_ild 1 1), (5, o_push (.int 10) 2), (7, o_bin fun x y => x * y), (8, o_ild 2 1), (9, o_bin fun x y => x + y), (10, o_ild 3 1), (11, o_iast), (12, o_ald 0 1), (13, o_getf 0 2), (16, o_ild 3 1), (17, o_push (.int 10) 2), (19, o_bin fun x y => x * y), (20, o_ild 1 1), (21, o_bin fun x y => x + y), (22, o_dup2), (23, o_iald), (24, o_push (.int 1) 1), (25, o_ild 2 1), (26, o_bin fun x y => x <<< (y &&& 31)), (27, o_bin fun x y => x ||| y), (28, o_iast), (29, o_ald 0 1), (30, o_getf 0 2), (33, o_push (.int 50) 2), (35, o_ild 1 1), (36, o_bin fun x y => x + y), (37, o_dup2), (38, o_iald), (39, o_push (.int 1) 1), (40, o_ild 2 1), (41, o_bin fun x y => x <<< (y &&& 31)), (42, o_bin fun x y => x ||| y), (43, o_iast), (44, o_ret)]
def K_8 : List (Nat × jx_O) := K_8_0
/- 9: MoleculeRegistry$Graph.degree(II)I -/
def K_9_0 : List (Nat × jx_O) := [(0, o_ald 0 1), (1, o_getf 0 2), (4, o_ild 2 1), (5, o_push (.int 10) 2), (7, o_bin fun x y => x * y), (8, o_ild 1 1), (9, o_bin fun x y => x + y), (10, o_iald), (11, o_call 124 1), (14, o_iret)]
def K_9 : List (Nat × jx_O) := K_9_0
/- 10: MoleculeRegistry$Graph.boundTo(II)I -/
def K_10_0 : List (Nat × jx_O) := [(0, o_ald 0 1), (1, o_getf 0 2), (4, o_ild 2 1), (5, o_push (.int 10) 2), (7, o_bin fun x y => x * y), (8, o_ild 1 1), (9, o_bin fun x y => x + y), (10, o_iald), (11, o_iret)]
def K_10 : List (Nat × jx_O) := K_10_0
/- 11: MoleculeRegistry$Log.<init>()V -/
def K_11_0 : List (Nat × jx_O) := [(0, o_ald 0 1), (1, o_oinit), (4, o_ald 0 1), (5, o_new 0 [.null, .null, .null, .int 0, .int 0]), (8, o_dup), (9, o_callv 0 1 0), (12, o_putf 1 3 jx_okR), (15, o_ret)]
def K_11 : List (Nat × jx_O) := K_11_0
/- 12: MoleculeRegistry$Log.clear()V -/
def K_12_0 : List (Nat × jx_O) := [(0, o_ald 0 1), (1, o_push (.int 0) 1), (2, o_putf 1 0 jx_okZ), (5, o_ald 0 1), (6, o_push (.int 0) 1), (7, o_putf 1 1 jx_okZ), (10, o_ald 0 1), (11, o_push (.int 0) 1), (12, o_putf 1 2 jx_okI), (15, o_ret)]
def K_12 : List (Nat × jx_O) := K_12_0
/- 13: MoleculeRegistry$Log.write(ZILMoleculeRegistry$Graph;)V -/
def K_13_0 : List (Nat × jx_O) := [(0, o_ald 0 1), (1, o_ild 1 1), (2, o_putf 1 1 jx_okZ), (5, o_ald 0 1), (6, o_ild 2 1), (7, o_putf 1 2 jx_okI), (10, o_ald 0 1), (11, o_getf 1 1), (14, o_ifne 25), (17, o_ald 0 1), (18, o_getf 1 3), (21, o_ald 3 1), (22, o_callv 0 2 1), (25, o_ret)]
def K_13 : List (Nat × jx_O) := K_13_0
/- 14: MoleculeRegistry$Matcher.<init>()V -/
def K_14_0 : List (Nat × jx_O) := [(0, o_ald 0 1), (1, o_oinit), (4, o_ald 0 1), (5, o_push (.int 10) 2), (7, o_newa 0 jx_zi), (9, o_putf 2 0 jx_okR), (12, o_ald 0 1), (13, o_push (.int 10) 2), (15, o_newa 0 jx_zi), (17, o_putf 2 1 jx_okR), (20, o_ret)]
def K_14 : List (Nat × jx_O) := K_14_0
/- 15: MoleculeRegistry$Matcher.areSame(LMoleculeRegistry$Graph;LMoleculeRegistry$Graph;)Z -/
def K_15_0 : List (Nat × jx_O) := [(0, o_ald 1 1), (1, o_getf 0 3), (4, o_ald 2 1), (5, o_getf 0 3), (8, o_ine 50), (11, o_ald 1 1), (12, o_getf 0 4), (15, o_ald 2 1), (16, o_getf 0 4), (19, o_ine 50), (22, o_ald 0 1), (23, o_ald 1 1), (24, o_ald 2 1), (25, o_push (.int 0) 1), (26, o_callv 2 16 3), (29, o_ifeq 50), (32, o_ald 0 1), (33, o_ald 1 1), (34, o_ald 2 1), (35, o_push (.int 0) 1), (36, o_ald 2 1), (37, o_call 19 1), (40, o_callv 2 20 4), (43, o_ifeq 50), (46, o_push (.int 1) 1), (47, o_goto 51), (50, o_push (.int 0) 1), (51, o_zret)]
def K_15 : List (Nat × jx_O) := K_15_0
/- 16: MoleculeRegistry$Matcher.findChoices(LMoleculeRegistry$Graph;LMoleculeRegistry$Graph;I)Z -/
def K_16_0 : List (Nat × jx_O) := [(0, o_push (.int 0) 1), (1, o_ist 4 2), (3, o_ild 4 2), (5, o_ald 1 1), (6, o_getf 0 3), (9, o_ige 106), (12, o_ald 0 1), (13, o_getf 2 0), (16, o_ild 4 2), (18, o_push (.int 0) 1), (19, o_iast), (20, o_push (.int 0) 1), (21, o_ist 5 2), (23, o_ild 5 2), (25, o_ald 2 1), (26, o_getf 0 3), (29, o_ige 88), (32, o_ald 1 1), (33, o_getf 0 0), (36, o_ild 4 2), (38, o_iald), (39, o_ald 2 1), (40, o_getf 0 0), (43, o_ild 5 2), (45, o_iald), (46, o_ild 3 1), (47, o_push (.int (-1)) 1), (48, o_bin fun x y => x ^^^ y), (49, o_bin fun x y => x &&& y), (50, o_call 17 2), (53, o_ifeq 82), (56, o_ald 1 1), (57, o_ild 4 2), (59, o_ald 2 1), (60, o_ild 5 2), (62, o_call 18 4), (65, o_ifeq 82), (68, o_ald 0 1), (69, o_getf 2 0), (72, o_ild 4 2)]
def K_16_1 : List (Nat × jx_O) := [(74, o_dup2), (75, o_iald), (76, o_push (.int 1) 1), (77, o_ild 5 2), (79, o_bin fun x y => x <<< (y &&& 31)), (80, o_bin fun x y => x ||| y), (81, o_iast), (82, o_iinc 5 1), (85, o_goto 23), (88, o_ald 0 1), (89, o_getf 2 0), (92, o_ild 4 2), (94, o_iald), (95, o_ifne 100), (98, o_push (.int 0) 1), (99, o_zret), (100, o_iinc 4 1), (103, o_goto 3), (106, o_push (.int 1) 1), (107, o_zret)]
def K_16 : List (Nat × jx_O) := K_16_0 ++ (K_16_1)
/- 17: MoleculeRegistry$Matcher.fits(II)Z -/
def K_17_0 : List (Nat × jx_O) := [(0, o_ild 0 1), (1, o_push (.int 16384) 3), (4, o_bin fun x y => x &&& y), (5, o_ifne 19), (8, o_ild 0 1), (9, o_ild 1 1), (10, o_ine 17), (13, o_push (.int 1) 1), (14, o_goto 18), (17, o_push (.int 0) 1), (18, o_zret), (19, o_push (.ref 2) 2), (21, o_ild 1 1), (22, o_push (.int 127) 2), (24, o_bin fun x y => x &&& y), (25, o_un fun x => (x.toUInt32 % 65536).toInt32), (26, o_callv 200 125 1), (29, o_ist 2 1), (30, o_ild 2 1), (31, o_iflt 46), (34, o_ild 0 1), (35, o_ild 2 1), (36, o_bin fun x y => x >>> (y &&& 31)), (37, o_push (.int 1) 1), (38, o_bin fun x y => x &&& y), (39, o_ifeq 46), (42, o_push (.int 1) 1), (43, o_goto 47), (46, o_push (.int 0) 1), (47, o_zret)]
def K_17 : List (Nat × jx_O) := K_17_0
/- 18: MoleculeRegistry$Matcher.hasBondsFor(LMoleculeRegistry$Graph;ILMoleculeRegistry$Graph;I)Z -/
def K_18_0 : List (Nat × jx_O) := [(0, o_push (.int 1) 1), (1, o_ist 4 2), (3, o_ild 4 2), (5, o_push (.int 5) 1), (6, o_igt 34), (9, o_ald 0 1), (10, o_ild 1 1), (11, o_ild 4 2), (13, o_callv 0 9 2), (16, o_ald 2 1), (17, o_ild 3 1), (18, o_ild 4 2), (20, o_callv 0 9 2), (23, o_ile 28), (26, o_push (.int 0) 1), (27, o_zret), (28, o_iinc 4 1), (31, o_goto 3), (34, o_push (.int 1) 1), (35, o_zret)]
def K_18 : List (Nat × jx_O) := K_18_0
/- 19: MoleculeRegistry$Matcher.everyAtom(LMoleculeRegistry$Graph;)I -/
def K_19_0 : List (Nat × jx_O) := [(0, o_push (.int 1) 1), (1, o_ald 0 1), (2, o_getf 0 3), (5, o_bin fun x y => x <<< (y &&& 31)), (6, o_push (.int 1) 1), (7, o_bin fun x y => x - y), (8, o_iret)]
def K_19 : List (Nat × jx_O) := K_19_0
/- 20: MoleculeRegistry$Matcher.canPlace(LMoleculeRegistry$Graph;LMoleculeRegistry$Graph;II)Z -/
def K_20_0 : List (Nat × jx_O) := [(0, o_ild 3 1), (1, o_ald 1 1), (2, o_getf 0 3), (5, o_ilt 10), (8, o_push (.int 1) 1), (9, o_zret), (10, o_ald 0 1), (11, o_getf 2 0), (14, o_ild 3 1), (15, o_iald), (16, o_ild 4 2), (18, o_bin fun x y => x &&& y), (19, o_ist 5 2), (21, o_push (.int 0) 1), (22, o_ist 6 2), (24, o_ild 6 2), (26, o_ild 3 1), (27, o_ige 68), (30, o_ald 1 1), (31, o_ild 3 1), (32, o_ild 6 2), (34, o_callv 0 4 2), (37, o_ist 7 2), (39, o_ild 7 2), (41, o_ifeq 62), (44, o_ild 5 2), (46, o_ald 2 1), (47, o_ald 0 1), (48, o_getf 2 1), (51, o_ild 6 2), (53, o_iald), (54, o_ild 7 2), (56, o_callv 0 10 2), (59, o_bin fun x y => x &&& y), (60, o_ist 5 2), (62, o_iinc 6 1), (65, o_goto 24), (68, o_push (.int 0) 1), (69, o_ist 6 2), (71, o_ild 6 2)]
def K_20_1 : List (Nat × jx_O) := [(73, o_ald 2 1), (74, o_getf 0 3), (77, o_ige 127), (80, o_ild 5 2), (82, o_ild 6 2), (84, o_bin fun x y => x >>> (y &&& 31)), (85, o_push (.int 1) 1), (86, o_bin fun x y => x &&& y), (87, o_ifeq 121), (90, o_ald 0 1), (91, o_getf 2 1), (94, o_ild 3 1), (95, o_ild 6 2), (97, o_iast), (98, o_ald 0 1), (99, o_ald 1 1), (100, o_ald 2 1), (101, o_ild 3 1), (102, o_push (.int 1) 1), (103, o_bin fun x y => x + y), (104, o_ild 4 2), (106, o_push (.int 1) 1), (107, o_ild 6 2), (109, o_bin fun x y => x <<< (y &&& 31)), (110, o_push (.int (-1)) 1), (111, o_bin fun x y => x ^^^ y), (112, o_bin fun x y => x &&& y), (113, o_callv 2 20 4), (116, o_ifeq 121), (119, o_push (.int 1) 1), (120, o_zret), (121, o_iinc 6 1), (124, o_goto 71), (127, o_push (.int 0) 1), (128, o_zret)]
def K_20 : List (Nat × jx_O) := K_20_0 ++ (K_20_1)
/- 21: MoleculeRegistry$Matcher.isIn(LMoleculeRegistry$Graph;LMoleculeRegistry$Graph;)Z -/
def K_21_0 : List (Nat × jx_O) := [(0, o_ald 1 1), (1, o_getf 0 3), (4, o_ald 2 1), (5, o_getf 0 3), (8, o_igt 41), (11, o_ald 0 1), (12, o_ald 1 1), (13, o_ald 2 1), (14, o_push (.int 1792) 3), (17, o_callv 2 16 3), (20, o_ifeq 41), (23, o_ald 0 1), (24, o_ald 1 1), (25, o_ald 2 1), (26, o_push (.int 0) 1), (27, o_ald 2 1), (28, o_call 19 1), (31, o_callv 2 20 4), (34, o_ifeq 41), (37, o_push (.int 1) 1), (38, o_goto 42), (41, o_push (.int 0) 1), (42, o_zret)]
def K_21 : List (Nat × jx_O) := K_21_0
/- 22: MoleculeRegistry$Reader.<init>()V -/
def K_22_0 : List (Nat × jx_O) := [(0, o_ald 0 1), (1, o_oinit), (4, o_ald 0 1), (5, o_push (.int 40) 2), (7, o_newa 1 jx_zi), (9, o_putf 3 0 jx_okR), (12, o_ald 0 1), (13, o_push (.int 40) 2), (15, o_newa 0 jx_zi), (17, o_putf 3 4 jx_okR), (20, o_ald 0 1), (21, o_push (.int 40) 2), (23, o_newa 0 jx_zi), (25, o_putf 3 5 jx_okR), (28, o_ald 0 1), (29, o_push (.int 40) 2), (31, o_newa 0 jx_zi), (33, o_putf 3 7 jx_okR), (36, o_ald 0 1), (37, o_push (.int 40) 2), (39, o_newa 0 jx_zi), (41, o_putf 3 8 jx_okR), (44, o_ald 0 1), (45, o_push (.int 40) 2), (47, o_newa 0 jx_zi), (49, o_putf 3 9 jx_okR), (52, o_ald 0 1), (53, o_push (.int 10) 2), (55, o_newa 0 jx_zi), (57, o_putf 3 11 jx_okR), (60, o_ald 0 1), (61, o_push (.int 10) 2), (63, o_newa 0 jx_zi), (65, o_putf 3 12 jx_okR), (68, o_ald 0 1), (69, o_push (.int 40) 2), (71, o_newa 0 jx_zi), (73, o_putf 3 13 jx_okR), (76, o_ret)]
def K_22 : List (Nat × jx_O) := K_22_0
/- 23: MoleculeRegistry$Reader.start([CIZ)V -/
def K_23_0 : List (Nat × jx_O) := [(0, o_ald 0 1), (1, o_ild 2 1), (2, o_push (.int 40) 2), (4, o_call 121 2), (7, o_putf 3 1 jx_okI), (10, o_ald 1 1), (11, o_push (.int 0) 1), (12, o_ald 0 1), (13, o_getf 3 0), (16, o_push (.int 0) 1), (17, o_ald 0 1), (18, o_getf 3 1), (21, o_copy), (24, o_ald 0 1), (25, o_ild 3 1), (26, o_putf 3 3 jx_okZ), (29, o_ald 0 1), (30, o_push (.int 0) 1), (31, o_putf 3 2 jx_okI), (34, o_ald 0 1), (35, o_push (.int 0) 1), (36, o_putf 3 6 jx_okI), (39, o_ald 0 1), (40, o_push (.int 0) 1), (41, o_putf 3 10 jx_okI), (44, o_ald 0 1), (45, o_push (.int 0) 1), (46, o_putf 3 14 jx_okI), (49, o_ald 0 1), (50, o_getf 3 11), (53, o_push (.int (-1)) 1), (54, o_call 123 2), (57, o_ret)]
def K_23 : List (Nat × jx_O) := K_23_0
/- 24: MoleculeRegistry$Reader.readAtoms()Z -/
def K_24_0 : List (Nat × jx_O) := [(0, o_push (.int (-1)) 1), (1, o_ist 1 1), (2, o_push (.int 0) 1), (3, o_ist 2 1), (4, o_ild 2 1), (5, o_push (.int 40) 2), (7, o_ige 125), (10, o_ild 1 1), (11, o_push (.int (-1)) 1), (12, o_ine 19), (15, o_push (.int 0) 1), (16, o_goto 23), (19, o_ald 0 1), (20, o_callv 3 25 0), (23, o_ist 3 1), (24, o_ald 0 1), (25, o_callv 3 27 0), (28, o_ifeq 40), (31, o_ald 0 1), (32, o_getf 3 6), (35, o_push (.int 1) 1), (36, o_bin fun x y => x - y), (37, o_goto 41), (40, o_push (.int (-1)) 1), (41, o_ist 4 2), (43, o_ild 4 2), (45, o_push (.int (-1)) 1), (46, o_ieq 74), (49, o_ild 1 1), (50, o_push (.int (-1)) 1), (51, o_ieq 65), (54, o_ald 0 1), (55, o_ild 1 1), (56, o_ild 4 2), (58, o_ild 3 1), (59, o_callv 3 34 3), (62, o_ifeq 74), (65, o_ald 0 1), (66, o_ild 4 2), (68, o_callv 3 37 1)]
def K_24_1 : List (Nat × jx_O) := [(71, o_ifne 76), (74, o_push (.int 0) 1), (75, o_zret), (76, o_ald 0 1), (77, o_ild 4 2), (79, o_callv 3 39 1), (82, o_ist 1 1), (83, o_ild 1 1), (84, o_push (.int (-1)) 1), (85, o_ine 90), (88, o_push (.int 0) 1), (89, o_zret), (90, o_ald 0 1), (91, o_getf 3 2), (94, o_ald 0 1), (95, o_getf 3 1), (98, o_ilt 114), (101, o_ald 0 1), (102, o_getf 3 14), (105, o_ifne 112), (108, o_push (.int 1) 1), (109, o_goto 113), (112, o_push (.int 0) 1), (113, o_zret), (114, o_ald 0 1), (115, o_ild 1 1), (116, o_callv 3 40 1), (119, o_iinc 2 1), (122, o_goto 4), (125, o_push (.int 0) 1), (126, o_zret)]
def K_24 : List (Nat × jx_O) := K_24_0 ++ (K_24_1)
/- 25: MoleculeRegistry$Reader.readLink()I -/
def K_25_0 : List (Nat × jx_O) := [(0, o_ald 0 1), (1, o_push (.int 45) 2), (3, o_callv 3 26 1), (6, o_ifeq 11), (9, o_push (.int 1) 1), (10, o_iret), (11, o_ald 0 1), (12, o_push (.int 61) 2), (14, o_callv 3 26 1), (17, o_ifeq 22), (20, o_push (.int 2) 1), (21, o_iret), (22, o_ald 0 1), (23, o_push (.int 35) 2), (25, o_callv 3 26 1), (28, o_ifeq 33), (31, o_push (.int 3) 1), (32, o_iret), (33, o_ald 0 1), (34, o_getf 3 3), (37, o_ifeq 53), (40, o_ald 0 1), (41, o_push (.int 126) 2), (43, o_callv 3 26 1), (46, o_ifeq 53), (49, o_push (.int 5) 1), (50, o_goto 54), (53, o_push (.int 0) 1), (54, o_iret)]
def K_25 : List (Nat × jx_O) := K_25_0
/- 26: MoleculeRegistry$Reader.takes(C)Z -/
def K_26_0 : List (Nat × jx_O) := [(0, o_ald 0 1), (1, o_getf 3 2), (4, o_ald 0 1), (5, o_getf 3 1), (8, o_ige 28), (11, o_ald 0 1), (12, o_getf 3 0), (15, o_ald 0 1), (16, o_getf 3 2), (19, o_xald 1), (20, o_ild 1 1), (21, o_ine 28), (24, o_push (.int 1) 1), (25, o_goto 29), (28, o_push (.int 0) 1), (29, o_ist 2 1), (30, o_ild 2 1), (31, o_ifeq 44), (34, o_ald 0 1), (35, o_dup), (36, o_getf 3 2), (39, o_push (.int 1) 1), (40, o_bin fun x y => x + y), (41, o_putf 3 2 jx_okI), (44, o_ild 2 1), (45, o_zret)]
def K_26 : List (Nat × jx_O) := K_26_0
/- 27: MoleculeRegistry$Reader.readAtom()Z -/
def K_27_0 : List (Nat × jx_O) := [(0, o_ald 0 1), (1, o_callv 3 28 0), (4, o_ist 1 1), (5, o_ald 0 1), (6, o_push (.int 91) 2), (8, o_callv 3 26 1), (11, o_ifeq 19), (14, o_ald 0 1), (15, o_callv 3 29 0), (18, o_zret), (19, o_ald 0 1), (20, o_getf 3 3), (23, o_ifeq 44), (26, o_ald 0 1), (27, o_push (.int 42) 2), (29, o_callv 3 26 1), (32, o_ifeq 44), (35, o_ald 0 1), (36, o_push (.int 16415) 3), (39, o_push (.int (-1)) 1), (40, o_callv 3 31 2), (43, o_zret), (44, o_ald 0 1), (45, o_dup), (46, o_getf 3 2), (49, o_push (.int 1) 1), (50, o_bin fun x y => x + y), (51, o_putf 3 2 jx_okI), (54, o_push (.ref 3) 2), (56, o_ild 1 1), (57, o_callv 200 125 1), (60, o_iflt 84), (63, o_ald 0 1), (64, o_ild 1 1), (65, o_push (.int 97) 2), (67, o_bin fun x y => x - y), (68, o_push (.int 65) 2), (70, o_bin fun x y => x + y), (71, o_push (.int 128) 3), (74, o_bin fun x y => x + y)]
def K_27_1 : List (Nat × jx_O) := [(75, o_push (.int 4096) 3), (78, o_bin fun x y => x + y), (79, o_push (.int (-1)) 1), (80, o_callv 3 31 2), (83, o_zret), (84, o_push (.ref 2) 2), (86, o_ild 1 1), (87, o_callv 200 125 1), (90, o_iflt 110), (93, o_ald 0 1), (94, o_ild 1 1), (95, o_push (.int 4096) 3), (98, o_bin fun x y => x + y), (99, o_push (.int (-1)) 1), (100, o_callv 3 31 2), (103, o_ifeq 110), (106, o_push (.int 1) 1), (107, o_goto 111), (110, o_push (.int 0) 1), (111, o_zret)]
def K_27 : List (Nat × jx_O) := K_27_0 ++ (K_27_1)
/- 28: MoleculeRegistry$Reader.here()C -/
def K_28_0 : List (Nat × jx_O) := [(0, o_ald 0 1), (1, o_getf 3 2), (4, o_ald 0 1), (5, o_getf 3 1), (8, o_ige 23), (11, o_ald 0 1), (12, o_getf 3 0), (15, o_ald 0 1), (16, o_getf 3 2), (19, o_xald 1), (20, o_goto 24), (23, o_push (.int 0) 1), (24, o_cret)]
def K_28 : List (Nat × jx_O) := K_28_0
/- 29: MoleculeRegistry$Reader.readBrackets()Z -/
def K_29_0 : List (Nat × jx_O) := [(0, o_ald 0 1), (1, o_callv 3 28 0), (4, o_ist 1 1), (5, o_push (.ref 2) 2), (7, o_ild 1 1), (8, o_callv 200 125 1), (11, o_ifge 16), (14, o_push (.int 0) 1), (15, o_zret), (16, o_ald 0 1), (17, o_dup), (18, o_getf 3 2), (21, o_push (.int 1) 1), (22, o_bin fun x y => x + y), (23, o_putf 3 2 jx_okI), (26, o_ald 0 1), (27, o_getf 3 3), (30, o_ifeq 48), (33, o_ald 0 1), (34, o_callv 3 28 0), (37, o_push (.int 44) 2), (39, o_ine 48), (42, o_ald 0 1), (43, o_ild 1 1), (44, o_callv 3 30 1), (47, o_zret), (48, o_ald 0 1), (49, o_callv 3 32 0), (52, o_ist 2 1), (53, o_ald 0 1), (54, o_callv 3 33 0), (57, o_ist 3 1), (58, o_ald 0 1), (59, o_push (.int 93) 2), (61, o_callv 3 26 1), (64, o_ifeq 82), (67, o_ald 0 1), (68, o_ild 1 1), (69, o_ild 3 1), (70, o_bin fun x y => x + y)]
def K_29_1 : List (Nat × jx_O) := [(71, o_ild 2 1), (72, o_callv 3 31 2), (75, o_ifeq 82), (78, o_push (.int 1) 1), (79, o_goto 83), (82, o_push (.int 0) 1), (83, o_zret)]
def K_29 : List (Nat × jx_O) := K_29_0 ++ (K_29_1)
/- 30: MoleculeRegistry$Reader.readList(C)Z -/
def K_30_0 : List (Nat × jx_O) := [(0, o_push (.int 1) 1), (1, o_push (.ref 2) 2), (3, o_ild 1 1), (4, o_callv 200 125 1), (7, o_bin fun x y => x <<< (y &&& 31)), (8, o_ist 2 1), (9, o_push (.int 0) 1), (10, o_ist 3 1), (11, o_ild 3 1), (12, o_push (.int 3) 1), (13, o_ige 66), (16, o_ald 0 1), (17, o_push (.int 44) 2), (19, o_callv 3 26 1), (22, o_ifeq 66), (25, o_push (.ref 2) 2), (27, o_ald 0 1), (28, o_callv 3 28 0), (31, o_callv 200 125 1), (34, o_ist 4 2), (36, o_ild 4 2), (38, o_ifge 43), (41, o_push (.int 0) 1), (42, o_zret), (43, o_ild 2 1), (44, o_push (.int 1) 1), (45, o_ild 4 2), (47, o_bin fun x y => x <<< (y &&& 31)), (48, o_bin fun x y => x ||| y), (49, o_ist 2 1), (50, o_ald 0 1), (51, o_dup), (52, o_getf 3 2), (55, o_push (.int 1) 1), (56, o_bin fun x y => x + y), (57, o_putf 3 2 jx_okI), (60, o_iinc 3 1), (63, o_goto 11), (66, o_ald 0 1), (67, o_push (.int 93) 2)]
def K_30_1 : List (Nat × jx_O) := [(69, o_callv 3 26 1), (72, o_ifeq 92), (75, o_ald 0 1), (76, o_push (.int 16384) 3), (79, o_ild 2 1), (80, o_bin fun x y => x + y), (81, o_push (.int (-1)) 1), (82, o_callv 3 31 2), (85, o_ifeq 92), (88, o_push (.int 1) 1), (89, o_goto 93), (92, o_push (.int 0) 1), (93, o_zret)]
def K_30 : List (Nat × jx_O) := K_30_0 ++ (K_30_1)
/- 31: MoleculeRegistry$Reader.addAtom(II)Z -/
def K_31_0 : List (Nat × jx_O) := [(0, o_ald 0 1), (1, o_getf 3 6), (4, o_push (.int 40) 2), (6, o_ilt 11), (9, o_push (.int 0) 1), (10, o_zret), (11, o_ald 0 1), (12, o_getf 3 4), (15, o_ald 0 1), (16, o_getf 3 6), (19, o_ild 1 1), (20, o_iast), (21, o_ald 0 1), (22, o_getf 3 5), (25, o_ald 0 1), (26, o_getf 3 6), (29, o_ild 2 1), (30, o_iast), (31, o_ald 0 1), (32, o_dup), (33, o_getf 3 6), (36, o_push (.int 1) 1), (37, o_bin fun x y => x + y), (38, o_putf 3 6 jx_okI), (41, o_push (.int 1) 1), (42, o_zret)]
def K_31 : List (Nat × jx_O) := K_31_0
/- 32: MoleculeRegistry$Reader.readHydrogens()I -/
def K_32_0 : List (Nat × jx_O) := [(0, o_ald 0 1), (1, o_push (.int 72) 2), (3, o_callv 3 26 1), (6, o_ifne 11), (9, o_push (.int 0) 1), (10, o_iret), (11, o_ald 0 1), (12, o_callv 3 28 0), (15, o_ist 1 1), (16, o_ild 1 1), (17, o_push (.int 50) 2), (19, o_ilt 28), (22, o_ild 1 1), (23, o_push (.int 52) 2), (25, o_ile 30), (28, o_push (.int 1) 1), (29, o_iret), (30, o_ald 0 1), (31, o_dup), (32, o_getf 3 2), (35, o_push (.int 1) 1), (36, o_bin fun x y => x + y), (37, o_putf 3 2 jx_okI), (40, o_ild 1 1), (41, o_push (.int 48) 2), (43, o_bin fun x y => x - y), (44, o_iret)]
def K_32 : List (Nat × jx_O) := K_32_0
/- 33: MoleculeRegistry$Reader.readCharge()I -/
def K_33_0 : List (Nat × jx_O) := [(0, o_ald 0 1), (1, o_push (.int 43) 2), (3, o_callv 3 26 1), (6, o_ifeq 13), (9, o_push (.int 8192) 3), (12, o_iret), (13, o_ald 0 1), (14, o_push (.int 45) 2), (16, o_callv 3 26 1), (19, o_ifeq 26), (22, o_push (.int 0) 1), (23, o_goto 29), (26, o_push (.int 4096) 3), (29, o_iret)]
def K_33 : List (Nat × jx_O) := K_33_0
/- 34: MoleculeRegistry$Reader.bind(III)Z -/
def K_34_0 : List (Nat × jx_O) := [(0, o_ald 0 1), (1, o_ild 1 1), (2, o_ild 2 1), (3, o_ild 3 1), (4, o_callv 3 35 3), (7, o_ist 4 2), (9, o_ild 1 1), (10, o_ild 2 1), (11, o_ieq 37), (14, o_ild 4 2), (16, o_ifeq 37), (19, o_ald 0 1), (20, o_ild 1 1), (21, o_ild 2 1), (22, o_callv 3 36 2), (25, o_ifne 37), (28, o_ald 0 1), (29, o_getf 3 10), (32, o_push (.int 40) 2), (34, o_ilt 39), (37, o_push (.int 0) 1), (38, o_zret), (39, o_ald 0 1), (40, o_getf 3 7), (43, o_ald 0 1), (44, o_getf 3 10), (47, o_ild 1 1), (48, o_iast), (49, o_ald 0 1), (50, o_getf 3 8), (53, o_ald 0 1), (54, o_getf 3 10), (57, o_ild 2 1), (58, o_iast), (59, o_ald 0 1), (60, o_getf 3 9), (63, o_ald 0 1), (64, o_getf 3 10), (67, o_ild 4 2), (69, o_iast)]
def K_34_1 : List (Nat × jx_O) := [(70, o_ald 0 1), (71, o_dup), (72, o_getf 3 10), (75, o_push (.int 1) 1), (76, o_bin fun x y => x + y), (77, o_putf 3 10 jx_okI), (80, o_push (.int 1) 1), (81, o_zret)]
def K_34 : List (Nat × jx_O) := K_34_0 ++ (K_34_1)
/- 35: MoleculeRegistry$Reader.kindFor(III)I -/
def K_35_0 : List (Nat × jx_O) := [(0, o_ald 0 1), (1, o_getf 3 4), (4, o_ild 1 1), (5, o_iald), (6, o_ald 0 1), (7, o_getf 3 4), (10, o_ild 2 1), (11, o_iald), (12, o_bin fun x y => x ||| y), (13, o_ist 4 2), (15, o_ild 3 1), (16, o_ifne 45), (19, o_ald 0 1), (20, o_getf 3 4), (23, o_ild 1 1), (24, o_iald), (25, o_ald 0 1), (26, o_getf 3 4), (29, o_ild 2 1), (30, o_iald), (31, o_bin fun x y => x &&& y), (32, o_push (.int 128) 3), (35, o_bin fun x y => x &&& y), (36, o_ifeq 43), (39, o_push (.int 4) 1), (40, o_goto 44), (43, o_push (.int 1) 1), (44, o_iret), (45, o_ild 3 1), (46, o_push (.int 2) 1), (47, o_ieq 55), (50, o_ild 3 1), (51, o_push (.int 3) 1), (52, o_ine 79), (55, o_ild 4 2), (57, o_push (.int 128) 3), (60, o_bin fun x y => x &&& y), (61, o_ifeq 77), (64, o_ild 4 2), (66, o_push (.int 16384) 3)]
def K_35_1 : List (Nat × jx_O) := [(69, o_bin fun x y => x &&& y), (70, o_ifne 77), (73, o_push (.int 0) 1), (74, o_goto 78), (77, o_ild 3 1), (78, o_iret), (79, o_ild 3 1), (80, o_iret)]
def K_35 : List (Nat × jx_O) := K_35_0 ++ (K_35_1)
/- 36: MoleculeRegistry$Reader.areBound(II)Z -/
def K_36_0 : List (Nat × jx_O) := [(0, o_push (.int 0) 1), (1, o_ist 3 1), (2, o_ild 3 1), (3, o_ald 0 1), (4, o_getf 3 10), (7, o_ige 70), (10, o_ald 0 1), (11, o_getf 3 7), (14, o_ild 3 1), (15, o_iald), (16, o_ild 1 1), (17, o_ine 34), (20, o_ald 0 1), (21, o_getf 3 8), (24, o_ild 3 1), (25, o_iald), (26, o_ild 2 1), (27, o_ine 34), (30, o_push (.int 1) 1), (31, o_goto 35), (34, o_push (.int 0) 1), (35, o_ist 4 2), (37, o_ild 4 2), (39, o_ifne 62), (42, o_ald 0 1), (43, o_getf 3 7), (46, o_ild 3 1), (47, o_iald), (48, o_ild 2 1), (49, o_ine 64), (52, o_ald 0 1), (53, o_getf 3 8), (56, o_ild 3 1), (57, o_iald), (58, o_ild 1 1), (59, o_ine 64), (62, o_push (.int 1) 1), (63, o_zret), (64, o_iinc 3 1), (67, o_goto 2)]
def K_36_1 : List (Nat × jx_O) := [(70, o_push (.int 0) 1), (71, o_zret)]
def K_36 : List (Nat × jx_O) := K_36_0 ++ (K_36_1)
/- 37: MoleculeRegistry$Reader.readClosures(I)Z -/
def K_37_0 : List (Nat × jx_O) := [(0, o_push (.int 0) 1), (1, o_ist 2 1), (2, o_ild 2 1), (3, o_push (.int 40) 2), (5, o_ige 79), (8, o_ald 0 1), (9, o_getf 3 2), (12, o_ist 3 1), (13, o_ald 0 1), (14, o_callv 3 25 0), (17, o_ist 4 2), (19, o_ald 0 1), (20, o_callv 3 28 0), (23, o_ist 5 2), (25, o_ild 5 2), (27, o_push (.int 49) 2), (29, o_ilt 39), (32, o_ild 5 2), (34, o_push (.int 57) 2), (36, o_ile 46), (39, o_ald 0 1), (40, o_ild 3 1), (41, o_putf 3 2 jx_okI), (44, o_push (.int 1) 1), (45, o_zret), (46, o_ald 0 1), (47, o_dup), (48, o_getf 3 2), (51, o_push (.int 1) 1), (52, o_bin fun x y => x + y), (53, o_putf 3 2 jx_okI), (56, o_ald 0 1), (57, o_ild 5 2), (59, o_push (.int 48) 2), (61, o_bin fun x y => x - y), (62, o_ild 1 1), (63, o_ild 4 2), (65, o_callv 3 38 3), (68, o_ifne 73), (71, o_push (.int 0) 1)]
def K_37_1 : List (Nat × jx_O) := [(72, o_zret), (73, o_iinc 2 1), (76, o_goto 2), (79, o_push (.int 1) 1), (80, o_zret)]
def K_37 : List (Nat × jx_O) := K_37_0 ++ (K_37_1)
/- 38: MoleculeRegistry$Reader.openOrClose(III)Z -/
def K_38_0 : List (Nat × jx_O) := [(0, o_ald 0 1), (1, o_getf 3 11), (4, o_ild 1 1), (5, o_iald), (6, o_ist 4 2), (8, o_ild 4 2), (10, o_push (.int (-1)) 1), (11, o_ine 30), (14, o_ald 0 1), (15, o_getf 3 11), (18, o_ild 1 1), (19, o_ild 2 1), (20, o_iast), (21, o_ald 0 1), (22, o_getf 3 12), (25, o_ild 1 1), (26, o_ild 3 1), (27, o_iast), (28, o_push (.int 1) 1), (29, o_zret), (30, o_ald 0 1), (31, o_getf 3 11), (34, o_ild 1 1), (35, o_push (.int (-1)) 1), (36, o_iast), (37, o_ald 0 1), (38, o_getf 3 12), (41, o_ild 1 1), (42, o_iald), (43, o_ist 5 2), (45, o_ild 5 2), (47, o_ifeq 62), (50, o_ild 3 1), (51, o_ifeq 62), (54, o_ild 5 2), (56, o_ild 3 1), (57, o_ieq 62), (60, o_push (.int 0) 1), (61, o_zret), (62, o_ald 0 1)]
def K_38_1 : List (Nat × jx_O) := [(63, o_ild 4 2), (65, o_ild 2 1), (66, o_ild 5 2), (68, o_ifne 75), (71, o_ild 3 1), (72, o_goto 77), (75, o_ild 5 2), (77, o_callv 3 34 3), (80, o_zret)]
def K_38 : List (Nat × jx_O) := K_38_0 ++ (K_38_1)
/- 39: MoleculeRegistry$Reader.readPartEnds(I)I -/
def K_39_0 : List (Nat × jx_O) := [(0, o_ild 1 1), (1, o_ist 2 1), (2, o_push (.int 0) 1), (3, o_ist 3 1), (4, o_ild 3 1), (5, o_push (.int 40) 2), (7, o_ige 64), (10, o_ald 0 1), (11, o_callv 3 28 0), (14, o_push (.int 41) 2), (16, o_ine 64), (19, o_ald 0 1), (20, o_getf 3 14), (23, o_ifne 28), (26, o_push (.int (-1)) 1), (27, o_iret), (28, o_ald 0 1), (29, o_dup), (30, o_getf 3 14), (33, o_push (.int 1) 1), (34, o_bin fun x y => x - y), (35, o_putf 3 14 jx_okI), (38, o_ald 0 1), (39, o_getf 3 13), (42, o_ald 0 1), (43, o_getf 3 14), (46, o_iald), (47, o_ist 2 1), (48, o_ald 0 1), (49, o_dup), (50, o_getf 3 2), (53, o_push (.int 1) 1), (54, o_bin fun x y => x + y), (55, o_putf 3 2 jx_okI), (58, o_iinc 3 1), (61, o_goto 4), (64, o_ild 2 1), (65, o_iret)]
def K_39 : List (Nat × jx_O) := K_39_0
/- 40: MoleculeRegistry$Reader.readPartStart(I)V -/
def K_40_0 : List (Nat × jx_O) := [(0, o_ald 0 1), (1, o_callv 3 28 0), (4, o_push (.int 40) 2), (6, o_ine 48), (9, o_ald 0 1), (10, o_getf 3 14), (13, o_push (.int 40) 2), (15, o_ige 48), (18, o_ald 0 1), (19, o_getf 3 13), (22, o_ald 0 1), (23, o_getf 3 14), (26, o_ild 1 1), (27, o_iast), (28, o_ald 0 1), (29, o_dup), (30, o_getf 3 14), (33, o_push (.int 1) 1), (34, o_bin fun x y => x + y), (35, o_putf 3 14 jx_okI), (38, o_ald 0 1), (39, o_dup), (40, o_getf 3 2), (43, o_push (.int 1) 1), (44, o_bin fun x y => x + y), (45, o_putf 3 2 jx_okI), (48, o_ret)]
def K_40 : List (Nat × jx_O) := K_40_0
/- 41: MoleculeRegistry$Reader.aDigitIsOpen()Z -/
def K_41_0 : List (Nat × jx_O) := [(0, o_push (.int 1) 1), (1, o_ist 1 1), (2, o_ild 1 1), (3, o_push (.int 9) 2), (5, o_igt 26), (8, o_ald 0 1), (9, o_getf 3 11), (12, o_ild 1 1), (13, o_iald), (14, o_push (.int (-1)) 1), (15, o_ieq 20), (18, o_push (.int 1) 1), (19, o_zret), (20, o_iinc 1 1), (23, o_goto 2), (26, o_push (.int 0) 1), (27, o_zret)]
def K_41 : List (Nat × jx_O) := K_41_0
/- 42: MoleculeRegistry$Reader.fill(LMoleculeRegistry$Graph;)V -/
def K_42_0 : List (Nat × jx_O) := [(0, o_ald 1 1), (1, o_callv 0 5 0), (4, o_push (.int 0) 1), (5, o_ist 2 1), (6, o_ild 2 1), (7, o_ald 0 1), (8, o_getf 3 6), (11, o_ige 30), (14, o_ald 1 1), (15, o_ald 0 1), (16, o_getf 3 4), (19, o_ild 2 1), (20, o_iald), (21, o_callv 0 6 1), (24, o_iinc 2 1), (27, o_goto 6), (30, o_push (.int 0) 1), (31, o_ist 2 1), (32, o_ild 2 1), (33, o_ald 0 1), (34, o_getf 3 10), (37, o_ige 68), (40, o_ald 1 1), (41, o_ald 0 1), (42, o_getf 3 7), (45, o_ild 2 1), (46, o_iald), (47, o_ald 0 1), (48, o_getf 3 8), (51, o_ild 2 1), (52, o_iald), (53, o_ald 0 1), (54, o_getf 3 9), (57, o_ild 2 1), (58, o_iald), (59, o_callv 0 7 3), (62, o_iinc 2 1), (65, o_goto 32), (68, o_ret)]
def K_42 : List (Nat × jx_O) := K_42_0
/- 43: MoleculeRegistry$Shelf.<init>()V -/
def K_43_0 : List (Nat × jx_O) := [(0, o_ald 0 1), (1, o_oinit), (4, o_ald 0 1), (5, o_push (.int 12) 2), (7, o_newa 4 jx_zq), (10, o_putf 4 0 jx_okR), (13, o_ald 0 1), (14, o_push (.int 12) 2), (16, o_newa 0 jx_zi), (18, o_putf 4 1 jx_okR), (21, o_push (.int 0) 1), (22, o_ist 1 1), (23, o_ild 1 1), (24, o_push (.int 12) 2), (26, o_ige 48), (29, o_ald 0 1), (30, o_getf 4 0), (33, o_ild 1 1), (34, o_new 0 [.null, .null, .null, .int 0, .int 0]), (37, o_dup), (38, o_callv 0 1 0), (41, o_aast 0), (42, o_iinc 1 1), (45, o_goto 23), (48, o_ret)]
def K_43 : List (Nat × jx_O) := K_43_0
/- 44: MoleculeRegistry$Shelf.slotOf(I)I -/
def K_44_0 : List (Nat × jx_O) := [(0, o_push (.int 0) 1), (1, o_ist 2 1), (2, o_ild 2 1), (3, o_ald 0 1), (4, o_getf 4 2), (7, o_ige 28), (10, o_ald 0 1), (11, o_getf 4 1), (14, o_ild 2 1), (15, o_iald), (16, o_ild 1 1), (17, o_ine 22), (20, o_ild 2 1), (21, o_iret), (22, o_iinc 2 1), (25, o_goto 2), (28, o_push (.int (-1)) 1), (29, o_iret)]
def K_44 : List (Nat × jx_O) := K_44_0
/- 45: MoleculeRegistry$Shelf.take(I)V -/
def K_45_0 : List (Nat × jx_O) := [(0, o_ald 0 1), (1, o_ild 1 1), (2, o_callv 4 44 1), (5, o_ist 2 1), (6, o_ild 2 1), (7, o_push (.int (-1)) 1), (8, o_ine 12), (11, o_ret), (12, o_ald 0 1), (13, o_getf 4 0), (16, o_ild 2 1), (17, o_aald), (18, o_ast 3 1), (19, o_ild 2 1), (20, o_ist 4 2), (22, o_ild 4 2), (24, o_ald 0 1), (25, o_getf 4 2), (28, o_push (.int 1) 1), (29, o_bin fun x y => x - y), (30, o_ige 71), (33, o_ald 0 1), (34, o_getf 4 0), (37, o_ild 4 2), (39, o_ald 0 1), (40, o_getf 4 0), (43, o_ild 4 2), (45, o_push (.int 1) 1), (46, o_bin fun x y => x + y), (47, o_aald), (48, o_aast 0), (49, o_ald 0 1), (50, o_getf 4 1), (53, o_ild 4 2), (55, o_ald 0 1), (56, o_getf 4 1), (59, o_ild 4 2), (61, o_push (.int 1) 1), (62, o_bin fun x y => x + y), (63, o_iald)]
def K_45_1 : List (Nat × jx_O) := [(64, o_iast), (65, o_iinc 4 1), (68, o_goto 22), (71, o_ald 0 1), (72, o_dup), (73, o_getf 4 2), (76, o_push (.int 1) 1), (77, o_bin fun x y => x - y), (78, o_putf 4 2 jx_okI), (81, o_ald 0 1), (82, o_getf 4 0), (85, o_ald 0 1), (86, o_getf 4 2), (89, o_ald 3 1), (90, o_aast 0), (91, o_ret)]
def K_45 : List (Nat × jx_O) := K_45_0 ++ (K_45_1)
/- 46: MoleculeRegistry$Shelf.put(ILMoleculeRegistry$Graph;)V -/
def K_46_0 : List (Nat × jx_O) := [(0, o_ald 0 1), (1, o_getf 4 2), (4, o_push (.int 12) 2), (6, o_ige 47), (9, o_ald 0 1), (10, o_getf 4 0), (13, o_ald 0 1), (14, o_getf 4 2), (17, o_aald), (18, o_ald 2 1), (19, o_callv 0 2 1), (22, o_ald 0 1), (23, o_getf 4 1), (26, o_ald 0 1), (27, o_getf 4 2), (30, o_ild 1 1), (31, o_iast), (32, o_ald 0 1), (33, o_dup), (34, o_getf 4 2), (37, o_push (.int 1) 1), (38, o_bin fun x y => x + y), (39, o_putf 4 2 jx_okI), (42, o_ald 0 1), (43, o_ild 1 1), (44, o_putf 4 3 jx_okI), (47, o_ret)]
def K_46 : List (Nat × jx_O) := K_46_0
/- 47: MoleculeRegistry.<init>()V -/
def K_47_0 : List (Nat × jx_O) := [(0, o_ald 0 1), (1, o_oinit), (4, o_ald 0 1), (5, o_push (.int 40) 2), (7, o_newa 1 jx_zi), (9, o_putf 5 0 jx_okR), (12, o_ald 0 1), (13, o_new 3 [.null, .int 0, .int 0, .int 0, .null, .null, .int 0, .null, .null, .null, .int 0, .null, .null, .null, .int 0]), (16, o_dup), (17, o_callv 3 22 0), (20, o_putf 5 2 jx_okR), (23, o_ald 0 1), (24, o_new 0 [.null, .null, .null, .int 0, .int 0]), (27, o_dup), (28, o_callv 0 1 0), (31, o_putf 5 3 jx_okR), (34, o_ald 0 1), (35, o_new 2 [.null, .null]), (38, o_dup), (39, o_callv 2 14 0), (42, o_putf 5 4 jx_okR), (45, o_ald 0 1), (46, o_new 4 [.null, .null, .int 0, .int 0]), (49, o_dup), (50, o_callv 4 43 0), (53, o_putf 5 5 jx_okR), (56, o_ald 0 1), (57, o_new 1 [.int 0, .int 0, .int 0, .null]), (60, o_dup), (61, o_callv 1 11 0), (64, o_putf 5 6 jx_okR), (67, o_ald 0 1), (68, o_push (.int 12) 2), (70, o_newa 0 jx_zi), (72, o_putf 5 7 jx_okR), (75, o_ald 0 1), (76, o_push (.int 0) 1), (77, o_putf 5 9 jx_okI), (80, o_ret)]
def K_47 : List (Nat × jx_O) := K_47_0
/- 48: MoleculeRegistry.type(J)Z -/
def K_48_0 : List (Nat × jx_O) := [(0, o_push (.int 0) 1), (1, o_ist 3 1), (2, o_push (.int 56) 2), (4, o_ist 4 2), (6, o_ild 4 2), (8, o_iflt 54), (11, o_lld 1 1), (12, o_ild 4 2), (14, o_call 49 2), (17, o_ist 5 2), (19, o_ild 5 2), (21, o_ifeq 40), (24, o_ild 5 2), (26, o_push (.int 33) 2), (28, o_ilt 38), (31, o_ild 5 2), (33, o_push (.int 126) 2), (35, o_ile 40), (38, o_push (.int 0) 1), (39, o_zret), (40, o_ild 5 2), (42, o_ifeq 48), (45, o_iinc 3 1), (48, o_iinc 4 (-8)), (51, o_goto 6), (54, o_ald 0 1), (55, o_getf 5 1), (58, o_ild 3 1), (59, o_bin fun x y => x + y), (60, o_push (.int 40) 2), (62, o_ile 67), (65, o_push (.int 0) 1), (66, o_zret), (67, o_ald 0 1), (68, o_lld 1 1), (69, o_callv 5 50 1), (72, o_push (.int 1) 1), (73, o_zret)]
def K_48 : List (Nat × jx_O) := K_48_0
/- 49: MoleculeRegistry.byteAt(JI)I -/
def K_49_0 : List (Nat × jx_O) := [(0, o_lld 0 1), (1, o_ild 2 1), (2, o_shl fun x y => (x.toUInt64 >>> (y.toInt64.toUInt64 &&& Int64.toUInt64 63)).toInt64), (3, o_l2i), (4, o_push (.int 255) 3), (7, o_bin fun x y => x &&& y), (8, o_iret)]
def K_49 : List (Nat × jx_O) := K_49_0
/- 50: MoleculeRegistry.append(J)V -/
def K_50_0 : List (Nat × jx_O) := [(0, o_push (.int 56) 2), (2, o_ist 3 1), (3, o_ild 3 1), (4, o_iflt 56), (7, o_lld 1 1), (8, o_ild 3 1), (9, o_call 49 2), (12, o_ist 4 2), (14, o_ild 4 2), (16, o_ifeq 50), (19, o_ald 0 1), (20, o_getf 5 1), (23, o_push (.int 40) 2), (25, o_ige 50), (28, o_ald 0 1), (29, o_getf 5 0), (32, o_ald 0 1), (33, o_getf 5 1), (36, o_ild 4 2), (38, o_un fun x => (x.toUInt32 % 65536).toInt32), (39, o_cast), (40, o_ald 0 1), (41, o_dup), (42, o_getf 5 1), (45, o_push (.int 1) 1), (46, o_bin fun x y => x + y), (47, o_putf 5 1 jx_okI), (50, o_iinc 3 (-8)), (53, o_goto 3), (56, o_ret)]
def K_50 : List (Nat × jx_O) := K_50_0
/- 51: MoleculeRegistry.wipe()V -/
def K_51_0 : List (Nat × jx_O) := [(0, o_ald 0 1), (1, o_push (.int 0) 1), (2, o_putf 5 1 jx_okI), (5, o_ret)]
def K_51 : List (Nat × jx_O) := K_51_0
/- 52: MoleculeRegistry.found(I)I -/
def K_52_0 : List (Nat × jx_O) := [(0, o_ild 1 1), (1, o_iflt 21), (4, o_ild 1 1), (5, o_ald 0 1), (6, o_getf 5 8), (9, o_ige 21), (12, o_ald 0 1), (13, o_getf 5 7), (16, o_ild 1 1), (17, o_iald), (18, o_goto 22), (21, o_push (.int 0) 1), (22, o_iret)]
def K_52 : List (Nat × jx_O) := K_52_0
/- 53: MoleculeRegistry.fail(I)Z -/
def K_53_0 : List (Nat × jx_O) := [(0, o_ald 0 1), (1, o_getf 5 10), (4, o_ifne 16), (7, o_ild 1 1), (8, o_iflt 16), (11, o_ild 1 1), (12, o_push (.int 4) 1), (13, o_ile 18), (16, o_push (.int 0) 1), (17, o_zret), (18, o_ald 0 1), (19, o_ild 1 1), (20, o_putf 5 9 jx_okI), (23, o_push (.int 1) 1), (24, o_zret)]
def K_53 : List (Nat × jx_O) := K_53_0
/- 54: MoleculeRegistry.recover()I -/
def K_54_0 : List (Nat × jx_O) := [(0, o_ald 0 1), (1, o_getf 5 10), (4, o_ifne 9), (7, o_push (.int (-1)) 1), (8, o_iret), (9, o_ald 0 1), (10, o_getf 5 6), (13, o_getf 1 0), (16, o_ist 1 1), (17, o_ild 1 1), (18, o_ifeq 25), (21, o_ald 0 1), (22, o_callv 5 55 0), (25, o_ald 0 1), (26, o_getf 5 6), (29, o_callv 1 12 0), (32, o_ald 0 1), (33, o_push (.int 0) 1), (34, o_putf 5 10 jx_okZ), (37, o_ild 1 1), (38, o_ifeq 45), (41, o_push (.int 1) 1), (42, o_goto 46), (45, o_push (.int 0) 1), (46, o_iret)]
def K_54 : List (Nat × jx_O) := K_54_0
/- 55: MoleculeRegistry.carryOut()V -/
def K_55_0 : List (Nat × jx_O) := [(0, o_ald 0 1), (1, o_getf 5 5), (4, o_ald 0 1), (5, o_getf 5 6), (8, o_getf 1 2), (11, o_callv 4 44 1), (14, o_push (.int (-1)) 1), (15, o_ieq 22), (18, o_push (.int 1) 1), (19, o_goto 23), (22, o_push (.int 0) 1), (23, o_ist 1 1), (24, o_ald 0 1), (25, o_getf 5 6), (28, o_getf 1 1), (31, o_ifeq 52), (34, o_ild 1 1), (35, o_ifeq 52), (38, o_ald 0 1), (39, o_getf 5 5), (42, o_ald 0 1), (43, o_getf 5 6), (46, o_getf 1 2), (49, o_callv 4 45 1), (52, o_ald 0 1), (53, o_getf 5 6), (56, o_getf 1 1), (59, o_ifne 87), (62, o_ild 1 1), (63, o_ifne 87), (66, o_ald 0 1), (67, o_getf 5 5), (70, o_ald 0 1), (71, o_getf 5 6), (74, o_getf 1 2), (77, o_ald 0 1), (78, o_getf 5 6), (81, o_getf 1 3), (84, o_callv 4 46 2), (87, o_ret)]
def K_55 : List (Nat × jx_O) := K_55_0
/- 56: MoleculeRegistry.count()I -/
def K_56_0 : List (Nat × jx_O) := [(0, o_ald 0 1), (1, o_getf 5 10), (4, o_ifeq 11), (7, o_push (.int (-1)) 1), (8, o_goto 18), (11, o_ald 0 1), (12, o_getf 5 5), (15, o_getf 4 2), (18, o_iret)]
def K_56 : List (Nat × jx_O) := K_56_0
/- 57: MoleculeRegistry.atoms(I)I -/
def K_57_0 : List (Nat × jx_O) := [(0, o_ald 0 1), (1, o_ild 1 1), (2, o_callv 5 58 1), (5, o_ast 2 1), (6, o_ald 2 1), (7, o_ifnonnull 14), (10, o_push (.int 0) 1), (11, o_goto 18), (14, o_ald 2 1), (15, o_getf 0 3), (18, o_iret)]
def K_57 : List (Nat × jx_O) := K_57_0
/- 58: MoleculeRegistry.visible(I)LMoleculeRegistry$Graph; -/
def K_58_0 : List (Nat × jx_O) := [(0, o_ald 0 1), (1, o_getf 5 10), (4, o_ifeq 11), (7, o_push (.int (-1)) 1), (8, o_goto 19), (11, o_ald 0 1), (12, o_getf 5 5), (15, o_ild 1 1), (16, o_callv 4 44 1), (19, o_ist 2 1), (20, o_ild 2 1), (21, o_push (.int (-1)) 1), (22, o_ine 29), (25, o_push .null 1), (26, o_goto 38), (29, o_ald 0 1), (30, o_getf 5 5), (33, o_getf 4 0), (36, o_ild 2 1), (37, o_aald), (38, o_aret)]
def K_58 : List (Nat × jx_O) := K_58_0
/- 59: MoleculeRegistry.atom(II)I -/
def K_59_0 : List (Nat × jx_O) := [(0, o_ald 0 1), (1, o_ild 1 1), (2, o_callv 5 58 1), (5, o_ast 3 1), (6, o_ald 3 1), (7, o_ifnull 18), (10, o_ald 3 1), (11, o_ild 2 1), (12, o_callv 0 3 1), (15, o_ifne 22), (18, o_push (.int 0) 1), (19, o_goto 28), (22, o_ald 3 1), (23, o_getf 0 0), (26, o_ild 2 1), (27, o_iald), (28, o_iret)]
def K_59 : List (Nat × jx_O) := K_59_0
/- 60: MoleculeRegistry.bond(III)I -/
def K_60_0 : List (Nat × jx_O) := [(0, o_ald 0 1), (1, o_ild 1 1), (2, o_callv 5 58 1), (5, o_ast 4 2), (7, o_ald 4 2), (9, o_ifnull 30), (12, o_ald 4 2), (14, o_ild 2 1), (15, o_callv 0 3 1), (18, o_ifeq 30), (21, o_ald 4 2), (23, o_ild 3 1), (24, o_callv 0 3 1), (27, o_ifne 34), (30, o_push (.int 0) 1), (31, o_goto 41), (34, o_ald 4 2), (36, o_ild 2 1), (37, o_ild 3 1), (38, o_callv 0 4 2), (41, o_iret)]
def K_60 : List (Nat × jx_O) := K_60_0
/- 61: MoleculeRegistry.register()I -/
def K_61_0 : List (Nat × jx_O) := [(0, o_ald 0 1), (1, o_push (.int 0) 1), (2, o_callv 5 62 1), (5, o_ald 0 1), (6, o_callv 5 64 0), (9, o_ist 1 1), (10, o_ild 1 1), (11, o_ifne 62), (14, o_ald 0 1), (15, o_getf 5 5), (18, o_getf 4 2), (21, o_push (.int 12) 2), (23, o_ilt 36), (26, o_thr 11), (36, o_ald 0 1), (37, o_getf 5 5), (40, o_getf 4 3), (43, o_push (.int 1) 1), (44, o_bin fun x y => x + y), (45, o_ist 2 1), (46, o_ald 0 1), (47, o_push (.int 0) 1), (48, o_ild 2 1), (49, o_callv 5 65 2), (52, o_ifeq 59), (55, o_ild 2 1), (56, o_goto 61), (59, o_push (.int (-2)) 2), (61, o_ist 1 1), (62, o_ald 0 1), (63, o_push (.int 0) 1), (64, o_putf 5 1 jx_okI), (67, o_ild 1 1), (68, o_iret)]
def K_61 : List (Nat × jx_O) := K_61_0
/- 62: MoleculeRegistry.readBuffer(Z)V -/
def K_62_0 : List (Nat × jx_O) := [(0, o_ald 0 1), (1, o_callv 5 63 0), (4, o_ald 0 1), (5, o_getf 5 2), (8, o_ald 0 1), (9, o_getf 5 0), (12, o_ald 0 1), (13, o_getf 5 1), (16, o_ild 1 1), (17, o_callv 3 23 3), (20, o_ald 0 1), (21, o_getf 5 2), (24, o_callv 3 24 0), (27, o_ifeq 40), (30, o_ald 0 1), (31, o_getf 5 2), (34, o_callv 3 41 0), (37, o_ifeq 50), (40, o_thr 8), (50, o_ald 0 1), (51, o_getf 5 2), (54, o_getf 3 6), (57, o_push (.int 10) 2), (59, o_ile 72), (62, o_thr 9), (72, o_ald 0 1), (73, o_getf 5 2), (76, o_ald 0 1), (77, o_getf 5 3), (80, o_callv 3 42 1), (83, o_ild 1 1), (84, o_ifne 114), (87, o_ald 0 1), (88, o_getf 5 3), (91, o_ald 0 1), (92, o_getf 5 2), (95, o_getf 3 5), (98, o_call 111 2), (101, o_ifne 114), (104, o_thr 10)]
def K_62_1 : List (Nat × jx_O) := [(114, o_ret)]
def K_62 : List (Nat × jx_O) := K_62_0 ++ (K_62_1)
/- 63: MoleculeRegistry.refuseWhenDown()V -/
def K_63_0 : List (Nat × jx_O) := [(0, o_ald 0 1), (1, o_getf 5 10), (4, o_ifeq 17), (7, o_thr 7), (17, o_ret)]
def K_63 : List (Nat × jx_O) := K_63_0
/- 64: MoleculeRegistry.idOfSame()I -/
def K_64_0 : List (Nat × jx_O) := [(0, o_push (.int 0) 1), (1, o_ist 1 1), (2, o_ild 1 1), (3, o_ald 0 1), (4, o_getf 5 5), (7, o_getf 4 2), (10, o_ige 52), (13, o_ald 0 1), (14, o_getf 5 4), (17, o_ald 0 1), (18, o_getf 5 3), (21, o_ald 0 1), (22, o_getf 5 5), (25, o_getf 4 0), (28, o_ild 1 1), (29, o_aald), (30, o_callv 2 15 2), (33, o_ifeq 46), (36, o_ald 0 1), (37, o_getf 5 5), (40, o_getf 4 1), (43, o_ild 1 1), (44, o_iald), (45, o_iret), (46, o_iinc 1 1), (49, o_goto 2), (52, o_push (.int 0) 1), (53, o_iret)]
def K_64 : List (Nat × jx_O) := K_64_0
/- 65: MoleculeRegistry.change(ZI)Z -/
def K_65_0 : List (Nat × jx_O) := [(0, o_ald 0 1), (1, o_getf 5 9), (4, o_ifne 11), (7, o_push (.int 5) 1), (8, o_goto 15), (11, o_ald 0 1), (12, o_getf 5 9), (15, o_ist 3 1), (16, o_ald 0 1), (17, o_push (.int 0) 1), (18, o_putf 5 9 jx_okI), (21, o_ald 0 1), (22, o_push (.int 0) 1), (23, o_putf 5 8 jx_okI), (26, o_ild 3 1), (27, o_push (.int 1) 1), (28, o_ile 44), (31, o_ald 0 1), (32, o_getf 5 6), (35, o_ild 1 1), (36, o_ild 2 1), (37, o_ald 0 1), (38, o_getf 5 3), (41, o_callv 1 13 3), (44, o_ild 3 1), (45, o_push (.int 2) 1), (46, o_ile 57), (49, o_ald 0 1), (50, o_getf 5 6), (53, o_push (.int 1) 1), (54, o_putf 1 0 jx_okZ), (57, o_ild 3 1), (58, o_push (.int 3) 1), (59, o_ile 66), (62, o_ald 0 1), (63, o_callv 5 55 0), (66, o_ild 3 1), (67, o_push (.int 4) 1), (68, o_ile 78), (71, o_ald 0 1)]
def K_65_1 : List (Nat × jx_O) := [(72, o_getf 5 6), (75, o_callv 1 12 0), (78, o_ald 0 1), (79, o_ild 3 1), (80, o_push (.int 4) 1), (81, o_igt 88), (84, o_push (.int 1) 1), (85, o_goto 89), (88, o_push (.int 0) 1), (89, o_putf 5 10 jx_okZ), (92, o_ald 0 1), (93, o_getf 5 10), (96, o_ifne 103), (99, o_push (.int 1) 1), (100, o_goto 104), (103, o_push (.int 0) 1), (104, o_zret)]
def K_65 : List (Nat × jx_O) := K_65_0 ++ (K_65_1)
/- 66: MoleculeRegistry.lookup()I -/
def K_66_0 : List (Nat × jx_O) := [(0, o_ald 0 1), (1, o_push (.int 0) 1), (2, o_callv 5 62 1), (5, o_ald 0 1), (6, o_push (.int 0) 1), (7, o_putf 5 1 jx_okI), (10, o_ald 0 1), (11, o_callv 5 64 0), (14, o_iret)]
def K_66 : List (Nat × jx_O) := K_66_0
/- 67: MoleculeRegistry.search()I -/
def K_67_0 : List (Nat × jx_O) := [(0, o_ald 0 1), (1, o_push (.int 1) 1), (2, o_callv 5 62 1), (5, o_ald 0 1), (6, o_push (.int 0) 1), (7, o_putf 5 1 jx_okI), (10, o_ald 0 1), (11, o_push (.int 0) 1), (12, o_putf 5 8 jx_okI), (15, o_push (.int 0) 1), (16, o_ist 1 1), (17, o_ild 1 1), (18, o_ald 0 1), (19, o_getf 5 5), (22, o_getf 4 2), (25, o_ige 85), (28, o_ald 0 1), (29, o_getf 5 4), (32, o_ald 0 1), (33, o_getf 5 3), (36, o_ald 0 1), (37, o_getf 5 5), (40, o_getf 4 0), (43, o_ild 1 1), (44, o_aald), (45, o_callv 2 21 2), (48, o_ifeq 79), (51, o_ald 0 1), (52, o_getf 5 7), (55, o_ald 0 1), (56, o_getf 5 8), (59, o_ald 0 1), (60, o_getf 5 5), (63, o_getf 4 1), (66, o_ild 1 1), (67, o_iald), (68, o_iast), (69, o_ald 0 1), (70, o_dup), (71, o_getf 5 8)]
def K_67_1 : List (Nat × jx_O) := [(74, o_push (.int 1) 1), (75, o_bin fun x y => x + y), (76, o_putf 5 8 jx_okI), (79, o_iinc 1 1), (82, o_goto 17), (85, o_ald 0 1), (86, o_getf 5 8), (89, o_iret)]
def K_67 : List (Nat × jx_O) := K_67_0 ++ (K_67_1)
/- 68: MoleculeRegistry.remove(I)I -/
def K_68_0 : List (Nat × jx_O) := [(0, o_ald 0 1), (1, o_callv 5 63 0), (4, o_ald 0 1), (5, o_getf 5 5), (8, o_ild 1 1), (9, o_callv 4 44 1), (12, o_push (.int (-1)) 1), (13, o_ine 18), (16, o_push (.int 0) 1), (17, o_iret), (18, o_ald 0 1), (19, o_push (.int 1) 1), (20, o_ild 1 1), (21, o_callv 5 65 2), (24, o_ifeq 31), (27, o_push (.int 1) 1), (28, o_goto 33), (31, o_push (.int (-2)) 2), (33, o_iret)]
def K_68 : List (Nat × jx_O) := K_68_0
/- 69: MoleculeRegistryModel.<init>()V -/
def K_69_0 : List (Nat × jx_O) := [(0, o_ald 0 1), (1, o_oinit), (4, o_ald 0 1), (5, o_push (.int 40) 2), (7, o_newa 0 jx_zi), (9, o_putf 6 2 jx_okR), (12, o_ald 0 1), (13, o_push (.int 40) 2), (15, o_newa 0 jx_zi), (17, o_putf 6 5 jx_okR), (20, o_ald 0 1), (21, o_push (.int 40) 2), (23, o_newa 2 jx_zi), (25, o_putf 6 6 jx_okR), (28, o_ald 0 1), (29, o_push (.int 40) 2), (31, o_newa 0 jx_zi), (33, o_putf 6 7 jx_okR), (36, o_ald 0 1), (37, o_push (.int 40) 2), (39, o_newa 0 jx_zi), (41, o_putf 6 8 jx_okR), (44, o_ald 0 1), (45, o_push (.int 40) 2), (47, o_newa 2 jx_zi), (49, o_putf 6 9 jx_okR), (52, o_ald 0 1), (53, o_push (.int 40) 2), (55, o_newa 0 jx_zi), (57, o_putf 6 10 jx_okR), (60, o_ald 0 1), (61, o_push (.int 1600) 3), (64, o_newa 0 jx_zi), (66, o_putf 6 11 jx_okR), (69, o_ald 0 1), (70, o_push (.int 40) 2), (72, o_newa 0 jx_zi), (74, o_putf 6 12 jx_okR), (77, o_ald 0 1), (78, o_push (.int 10) 2)]
def K_69_1 : List (Nat × jx_O) := [(80, o_newa 0 jx_zi), (82, o_putf 6 13 jx_okR), (85, o_ald 0 1), (86, o_push (.int 10) 2), (88, o_newa 0 jx_zi), (90, o_putf 6 14 jx_okR), (93, o_ald 0 1), (94, o_push (.int 12) 2), (96, o_newa 0 jx_zi), (98, o_putf 6 18 jx_okR), (101, o_ald 0 1), (102, o_push (.int 12) 2), (104, o_newa 0 jx_zi), (106, o_putf 6 19 jx_okR), (109, o_ald 0 1), (110, o_push (.int 120) 2), (112, o_newa 0 jx_zi), (114, o_putf 6 20 jx_okR), (117, o_ald 0 1), (118, o_push (.int 120) 2), (120, o_newa 2 jx_zi), (122, o_putf 6 21 jx_okR), (125, o_ald 0 1), (126, o_push (.int 120) 2), (128, o_newa 0 jx_zi), (130, o_putf 6 22 jx_okR), (133, o_ald 0 1), (134, o_push (.int 120) 2), (136, o_newa 0 jx_zi), (138, o_putf 6 23 jx_okR), (141, o_ald 0 1), (142, o_push (.int 1200) 3), (145, o_newa 0 jx_zi), (147, o_putf 6 24 jx_okR), (150, o_ald 0 1), (151, o_push (.int 11) 2), (153, o_newa 0 jx_zi), (155, o_putf 6 25 jx_okR), (158, o_ald 0 1), (159, o_push (.int 40) 2)]
def K_69_2 : List (Nat × jx_O) := [(161, o_newa 2 jx_zi), (163, o_putf 6 26 jx_okR), (166, o_ald 0 1), (167, o_push (.int 10) 2), (169, o_newa 0 jx_zi), (171, o_putf 6 33 jx_okR), (174, o_ald 0 1), (175, o_push (.int 10) 2), (177, o_newa 2 jx_zi), (179, o_putf 6 34 jx_okR), (182, o_ald 0 1), (183, o_push (.int 10) 2), (185, o_newa 0 jx_zi), (187, o_putf 6 35 jx_okR), (190, o_ald 0 1), (191, o_push (.int 10) 2), (193, o_newa 0 jx_zi), (195, o_putf 6 36 jx_okR), (198, o_ald 0 1), (199, o_push (.int 100) 2), (201, o_newa 0 jx_zi), (203, o_putf 6 37 jx_okR), (206, o_ald 0 1), (207, o_push (.int 12) 2), (209, o_newa 0 jx_zi), (211, o_putf 6 39 jx_okR), (214, o_ret)]
def K_69 : List (Nat × jx_O) := K_69_0 ++ (K_69_1 ++ (K_69_2))
/- 70: MoleculeRegistryModel.thrown()I -/
def K_70_0 : List (Nat × jx_O) := [(0, o_ald 0 1), (1, o_getf 6 0), (4, o_iret)]
def K_70 : List (Nat × jx_O) := K_70_0
/- 71: MoleculeRegistryModel.type(J)Z -/
def K_71_0 : List (Nat × jx_O) := [(0, o_ald 0 1), (1, o_push (.int 0) 1), (2, o_putf 6 0 jx_okI), (5, o_push (.int 0) 1), (6, o_ist 3 1), (7, o_push (.int 1) 1), (8, o_ist 4 2), (10, o_push (.int 56) 2), (12, o_ist 5 2), (14, o_ild 5 2), (16, o_iflt 80), (19, o_lld 1 1), (20, o_ild 5 2), (22, o_shl fun x y => (x.toUInt64 >>> (y.toInt64.toUInt64 &&& Int64.toUInt64 63)).toInt64), (23, o_l2i), (24, o_push (.int 255) 3), (27, o_bin fun x y => x &&& y), (28, o_ist 6 2), (30, o_ild 4 2), (32, o_ifeq 58), (35, o_ild 6 2), (37, o_ifeq 54), (40, o_ild 6 2), (42, o_push (.int 33) 2), (44, o_ilt 58), (47, o_ild 6 2), (49, o_push (.int 126) 2), (51, o_igt 58), (54, o_push (.int 1) 1), (55, o_goto 59), (58, o_push (.int 0) 1), (59, o_ist 4 2), (61, o_ild 6 2), (63, o_ifne 70), (66, o_ild 3 1), (67, o_goto 73), (70, o_ild 3 1), (71, o_push (.int 1) 1), (72, o_bin fun x y => x + y), (73, o_ist 3 1)]
def K_71_1 : List (Nat × jx_O) := [(74, o_iinc 5 (-8)), (77, o_goto 14), (80, o_ild 4 2), (82, o_ifeq 96), (85, o_ald 0 1), (86, o_getf 6 1), (89, o_ild 3 1), (90, o_bin fun x y => x + y), (91, o_push (.int 40) 2), (93, o_ile 98), (96, o_push (.int 0) 1), (97, o_zret), (98, o_push (.int 56) 2), (100, o_ist 5 2), (102, o_ild 5 2), (104, o_iflt 150), (107, o_lld 1 1), (108, o_ild 5 2), (110, o_shl fun x y => (x.toUInt64 >>> (y.toInt64.toUInt64 &&& Int64.toUInt64 63)).toInt64), (111, o_l2i), (112, o_push (.int 255) 3), (115, o_bin fun x y => x &&& y), (116, o_ist 6 2), (118, o_ild 6 2), (120, o_ifeq 144), (123, o_ald 0 1), (124, o_getf 6 2), (127, o_ald 0 1), (128, o_getf 6 1), (131, o_ild 6 2), (133, o_iast), (134, o_ald 0 1), (135, o_dup), (136, o_getf 6 1), (139, o_push (.int 1) 1), (140, o_bin fun x y => x + y), (141, o_putf 6 1 jx_okI), (144, o_iinc 5 (-8)), (147, o_goto 102), (150, o_push (.int 1) 1)]
def K_71_2 : List (Nat × jx_O) := [(151, o_zret)]
def K_71 : List (Nat × jx_O) := K_71_0 ++ (K_71_1 ++ (K_71_2))
/- 72: MoleculeRegistryModel.wipe()V -/
def K_72_0 : List (Nat × jx_O) := [(0, o_ald 0 1), (1, o_push (.int 0) 1), (2, o_putf 6 0 jx_okI), (5, o_ald 0 1), (6, o_push (.int 0) 1), (7, o_putf 6 1 jx_okI), (10, o_ret)]
def K_72 : List (Nat × jx_O) := K_72_0
/- 73: MoleculeRegistryModel.register()I -/
def K_73_0 : List (Nat × jx_O) := [(0, o_ald 0 1), (1, o_getf 6 28), (4, o_ifeq 13), (7, o_ald 0 1), (8, o_push (.int 1) 1), (9, o_callv 6 74 1), (12, o_iret), (13, o_ald 0 1), (14, o_callv 6 75 0), (17, o_ist 1 1), (18, o_ild 1 1), (19, o_ifle 30), (22, o_ald 0 1), (23, o_ild 1 1), (24, o_push (.int 1) 1), (25, o_bin fun x y => x + y), (26, o_callv 6 74 1), (29, o_iret), (30, o_ald 0 1), (31, o_callv 6 92 0), (34, o_ist 2 1), (35, o_ild 2 1), (36, o_ifge 54), (39, o_ald 0 1), (40, o_getf 6 16), (43, o_push (.int 12) 2), (45, o_ine 54), (48, o_ald 0 1), (49, o_push (.int 5) 1), (50, o_callv 6 74 1), (53, o_iret), (54, o_ald 0 1), (55, o_push (.int 0) 1), (56, o_putf 6 0 jx_okI), (59, o_ald 0 1), (60, o_push (.int 0) 1), (61, o_putf 6 1 jx_okI), (64, o_ild 2 1), (65, o_iflt 75), (68, o_ald 0 1)]
def K_73_1 : List (Nat × jx_O) := [(69, o_getf 6 18), (72, o_ild 2 1), (73, o_iald), (74, o_iret), (75, o_ald 0 1), (76, o_callv 6 96 0), (79, o_ald 0 1), (80, o_getf 6 17), (83, o_push (.int 1) 1), (84, o_bin fun x y => x + y), (85, o_ist 3 1), (86, o_ald 0 1), (87, o_push (.int 1) 1), (88, o_ild 3 1), (89, o_callv 6 97 2), (92, o_ifeq 99), (95, o_ild 3 1), (96, o_goto 101), (99, o_push (.int (-2)) 2), (101, o_iret)]
def K_73 : List (Nat × jx_O) := K_73_0 ++ (K_73_1)
/- 74: MoleculeRegistryModel.raise(I)I -/
def K_74_0 : List (Nat × jx_O) := [(0, o_ald 0 1), (1, o_ild 1 1), (2, o_putf 6 0 jx_okI), (5, o_push (.int 0) 1), (6, o_iret)]
def K_74 : List (Nat × jx_O) := K_74_0
/- 75: MoleculeRegistryModel.wrongness()I -/
def K_75_0 : List (Nat × jx_O) := [(0, o_ald 0 1), (1, o_push (.int 0) 1), (2, o_callv 6 76 1), (5, o_ifne 10), (8, o_push (.int 1) 1), (9, o_iret), (10, o_ald 0 1), (11, o_getf 6 4), (14, o_push (.int 10) 2), (16, o_ile 21), (19, o_push (.int 2) 1), (20, o_iret), (21, o_ald 0 1), (22, o_callv 6 86 0), (25, o_ifeq 39), (28, o_ald 0 1), (29, o_callv 6 89 0), (32, o_ifeq 39), (35, o_push (.int 0) 1), (36, o_goto 40), (39, o_push (.int 3) 1), (40, o_iret)]
def K_75 : List (Nat × jx_O) := K_75_0
/- 76: MoleculeRegistryModel.read(Z)Z -/
def K_76_0 : List (Nat × jx_O) := [(0, o_ald 0 1), (1, o_push (.int 0) 1), (2, o_putf 6 3 jx_okI), (5, o_ald 0 1), (6, o_push (.int 0) 1), (7, o_putf 6 4 jx_okI), (10, o_ald 0 1), (11, o_push (.int 1) 1), (12, o_putf 6 15 jx_okZ), (15, o_push (.int 0) 1), (16, o_ist 2 1), (17, o_ild 2 1), (18, o_push (.int 10) 2), (20, o_ige 36), (23, o_ald 0 1), (24, o_getf 6 13), (27, o_ild 2 1), (28, o_push (.int (-1)) 1), (29, o_iast), (30, o_iinc 2 1), (33, o_goto 17), (36, o_push (.int 0) 1), (37, o_ist 2 1), (38, o_push (.int (-1)) 1), (39, o_ist 3 1), (40, o_push (.int 0) 1), (41, o_ist 4 2), (43, o_ald 0 1), (44, o_getf 6 15), (47, o_ifeq 259), (50, o_ild 4 2), (52, o_ifne 259), (55, o_ild 3 1), (56, o_ifge 63), (59, o_push (.int 0) 1), (60, o_goto 75), (63, o_ald 0 1), (64, o_ald 0 1), (65, o_getf 6 3), (68, o_callv 6 77 1)]
def K_76_1 : List (Nat × jx_O) := [(71, o_ild 1 1), (72, o_call 78 2), (75, o_ist 5 2), (77, o_ald 0 1), (78, o_ild 5 2), (80, o_ifeq 92), (83, o_ald 0 1), (84, o_getf 6 3), (87, o_push (.int 1) 1), (88, o_bin fun x y => x + y), (89, o_goto 96), (92, o_ald 0 1), (93, o_getf 6 3), (96, o_putf 6 3 jx_okI), (99, o_ald 0 1), (100, o_ild 1 1), (101, o_callv 6 79 1), (104, o_ifne 109), (107, o_push (.int 0) 1), (108, o_zret), (109, o_ald 0 1), (110, o_getf 6 4), (113, o_push (.int 1) 1), (114, o_bin fun x y => x - y), (115, o_ist 6 2), (117, o_ild 3 1), (118, o_iflt 130), (121, o_ald 0 1), (122, o_ild 3 1), (123, o_ild 6 2), (125, o_ild 5 2), (127, o_callv 6 84 3), (130, o_ald 0 1), (131, o_ild 6 2), (133, o_ild 1 1), (134, o_callv 6 85 2), (137, o_ild 6 2), (139, o_ist 3 1), (140, o_push (.int 1) 1), (141, o_ist 7 2)]
def K_76_2 : List (Nat × jx_O) := [(143, o_ild 7 2), (145, o_ifeq 202), (148, o_ald 0 1), (149, o_ald 0 1), (150, o_getf 6 3), (153, o_callv 6 77 1), (156, o_push (.int 41) 2), (158, o_ine 202), (161, o_ild 2 1), (162, o_ifle 169), (165, o_push (.int 1) 1), (166, o_goto 170), (169, o_push (.int 0) 1), (170, o_ist 7 2), (172, o_ild 7 2), (174, o_ifne 179), (177, o_push (.int 0) 1), (178, o_zret), (179, o_iinc 2 (-1)), (182, o_ald 0 1), (183, o_getf 6 12), (186, o_ild 2 1), (187, o_iald), (188, o_ist 3 1), (189, o_ald 0 1), (190, o_dup), (191, o_getf 6 3), (194, o_push (.int 1) 1), (195, o_bin fun x y => x + y), (196, o_putf 6 3 jx_okI), (199, o_goto 143), (202, o_ald 0 1), (203, o_ald 0 1), (204, o_getf 6 3), (207, o_callv 6 77 1), (210, o_push (.int 40) 2), (212, o_ine 238), (215, o_ald 0 1), (216, o_getf 6 12), (219, o_ild 2 1)]
def K_76_3 : List (Nat × jx_O) := [(220, o_ild 3 1), (221, o_iast), (222, o_iinc 2 1), (225, o_ald 0 1), (226, o_dup), (227, o_getf 6 3), (230, o_push (.int 1) 1), (231, o_bin fun x y => x + y), (232, o_putf 6 3 jx_okI), (235, o_goto 256), (238, o_ald 0 1), (239, o_getf 6 3), (242, o_ald 0 1), (243, o_getf 6 1), (246, o_ilt 253), (249, o_push (.int 1) 1), (250, o_goto 254), (253, o_push (.int 0) 1), (254, o_ist 4 2), (256, o_goto 43), (259, o_push (.int 1) 1), (260, o_ist 5 2), (262, o_push (.int 1) 1), (263, o_ist 6 2), (265, o_ild 6 2), (267, o_push (.int 10) 2), (269, o_ige 300), (272, o_ild 5 2), (274, o_ifeq 291), (277, o_ald 0 1), (278, o_getf 6 13), (281, o_ild 6 2), (283, o_iald), (284, o_ifge 291), (287, o_push (.int 1) 1), (288, o_goto 292), (291, o_push (.int 0) 1), (292, o_ist 5 2), (294, o_iinc 6 1), (297, o_goto 265)]
def K_76_4 : List (Nat × jx_O) := [(300, o_ald 0 1), (301, o_getf 6 15), (304, o_ifeq 325), (307, o_ild 4 2), (309, o_ifeq 325), (312, o_ild 2 1), (313, o_ifne 325), (316, o_ild 5 2), (318, o_ifeq 325), (321, o_push (.int 1) 1), (322, o_goto 326), (325, o_push (.int 0) 1), (326, o_zret)]
def K_76 : List (Nat × jx_O) := K_76_0 ++ (K_76_1 ++ (K_76_2 ++ (K_76_3 ++ (K_76_4))))
/- 77: MoleculeRegistryModel.ch(I)I -/
def K_77_0 : List (Nat × jx_O) := [(0, o_ild 1 1), (1, o_ald 0 1), (2, o_getf 6 1), (5, o_ige 17), (8, o_ald 0 1), (9, o_getf 6 2), (12, o_ild 1 1), (13, o_iald), (14, o_goto 18), (17, o_push (.int 0) 1), (18, o_iret)]
def K_77 : List (Nat × jx_O) := K_77_0
/- 78: MoleculeRegistryModel.linkOf(IZ)I -/
def K_78_0 : List (Nat × jx_O) := [(0, o_ild 0 1), (1, o_push (.int 45) 2), (3, o_ine 10), (6, o_push (.int 1) 1), (7, o_goto 45), (10, o_ild 0 1), (11, o_push (.int 61) 2), (13, o_ine 20), (16, o_push (.int 2) 1), (17, o_goto 45), (20, o_ild 0 1), (21, o_push (.int 35) 2), (23, o_ine 30), (26, o_push (.int 3) 1), (27, o_goto 45), (30, o_ild 0 1), (31, o_push (.int 126) 2), (33, o_ine 44), (36, o_ild 1 1), (37, o_ifeq 44), (40, o_push (.int 5) 1), (41, o_goto 45), (44, o_push (.int 0) 1), (45, o_iret)]
def K_78 : List (Nat × jx_O) := K_78_0
/- 79: MoleculeRegistryModel.atom(Z)Z -/
def K_79_0 : List (Nat × jx_O) := [(0, o_ald 0 1), (1, o_ald 0 1), (2, o_getf 6 3), (5, o_callv 6 77 1), (8, o_ist 2 1), (9, o_ild 2 1), (10, o_call 80 1), (13, o_iflt 34), (16, o_ald 0 1), (17, o_ild 2 1), (18, o_push (.int 0) 1), (19, o_callv 6 81 2), (22, o_ald 0 1), (23, o_dup), (24, o_getf 6 3), (27, o_push (.int 1) 1), (28, o_bin fun x y => x + y), (29, o_putf 6 3 jx_okI), (32, o_push (.int 1) 1), (33, o_zret), (34, o_ild 2 1), (35, o_push (.int 99) 2), (37, o_ieq 58), (40, o_ild 2 1), (41, o_push (.int 110) 2), (43, o_ieq 58), (46, o_ild 2 1), (47, o_push (.int 111) 2), (49, o_ieq 58), (52, o_ild 2 1), (53, o_push (.int 115) 2), (55, o_ine 79), (58, o_ald 0 1), (59, o_ild 2 1), (60, o_push (.int 32) 2), (62, o_bin fun x y => x - y), (63, o_push (.int 1) 1), (64, o_callv 6 81 2), (67, o_ald 0 1), (68, o_dup)]
def K_79_1 : List (Nat × jx_O) := [(69, o_getf 6 3), (72, o_push (.int 1) 1), (73, o_bin fun x y => x + y), (74, o_putf 6 3 jx_okI), (77, o_push (.int 1) 1), (78, o_zret), (79, o_ild 2 1), (80, o_push (.int 42) 2), (82, o_ine 121), (85, o_ild 1 1), (86, o_ifeq 121), (89, o_ald 0 1), (90, o_push (.int 42) 2), (92, o_push (.int 0) 1), (93, o_callv 6 81 2), (96, o_ald 0 1), (97, o_getf 6 10), (100, o_ald 0 1), (101, o_getf 6 4), (104, o_push (.int 1) 1), (105, o_bin fun x y => x - y), (106, o_push (.int 63) 2), (108, o_iast), (109, o_ald 0 1), (110, o_dup), (111, o_getf 6 3), (114, o_push (.int 1) 1), (115, o_bin fun x y => x + y), (116, o_putf 6 3 jx_okI), (119, o_push (.int 1) 1), (120, o_zret), (121, o_ild 2 1), (122, o_push (.int 91) 2), (124, o_ine 183), (127, o_ald 0 1), (128, o_ald 0 1), (129, o_getf 6 3), (132, o_push (.int 1) 1), (133, o_bin fun x y => x + y), (134, o_callv 6 77 1)]
def K_79_2 : List (Nat × jx_O) := [(137, o_call 80 1), (140, o_iflt 183), (143, o_ild 1 1), (144, o_ifeq 172), (147, o_ald 0 1), (148, o_ald 0 1), (149, o_getf 6 3), (152, o_push (.int 2) 1), (153, o_bin fun x y => x + y), (154, o_callv 6 77 1), (157, o_push (.int 44) 2), (159, o_ine 172), (162, o_ald 0 1), (163, o_callv 6 82 0), (166, o_ifeq 183), (169, o_goto 179), (172, o_ald 0 1), (173, o_callv 6 83 0), (176, o_ifeq 183), (179, o_push (.int 1) 1), (180, o_goto 184), (183, o_push (.int 0) 1), (184, o_zret)]
def K_79 : List (Nat × jx_O) := K_79_0 ++ (K_79_1 ++ (K_79_2))
/- 80: MoleculeRegistryModel.placeOf(I)I -/
def K_80_0 : List (Nat × jx_O) := [(0, o_ild 0 1), (1, o_push (.int 67) 2), (3, o_ine 10), (6, o_push (.int 0) 1), (7, o_goto 51), (10, o_ild 0 1), (11, o_push (.int 78) 2), (13, o_ine 20), (16, o_push (.int 1) 1), (17, o_goto 51), (20, o_ild 0 1), (21, o_push (.int 79) 2), (23, o_ine 30), (26, o_push (.int 2) 1), (27, o_goto 51), (30, o_ild 0 1), (31, o_push (.int 83) 2), (33, o_ine 40), (36, o_push (.int 3) 1), (37, o_goto 51), (40, o_ild 0 1), (41, o_push (.int 70) 2), (43, o_ine 50), (46, o_push (.int 4) 1), (47, o_goto 51), (50, o_push (.int (-1)) 1), (51, o_iret)]
def K_80 : List (Nat × jx_O) := K_80_0
/- 81: MoleculeRegistryModel.newAtom(IZ)V -/
def K_81_0 : List (Nat × jx_O) := [(0, o_ald 0 1), (1, o_getf 6 5), (4, o_ald 0 1), (5, o_getf 6 4), (8, o_ild 1 1), (9, o_iast), (10, o_ald 0 1), (11, o_getf 6 6), (14, o_ald 0 1), (15, o_getf 6 4), (18, o_ild 2 1), (19, o_zast), (20, o_ald 0 1), (21, o_getf 6 7), (24, o_ald 0 1), (25, o_getf 6 4), (28, o_push (.int 0) 1), (29, o_iast), (30, o_ald 0 1), (31, o_getf 6 8), (34, o_ald 0 1), (35, o_getf 6 4), (38, o_push (.int 0) 1), (39, o_iast), (40, o_ald 0 1), (41, o_getf 6 9), (44, o_ald 0 1), (45, o_getf 6 4), (48, o_push (.int 0) 1), (49, o_zast), (50, o_ald 0 1), (51, o_getf 6 10), (54, o_ald 0 1), (55, o_getf 6 4), (58, o_push (.int 0) 1), (59, o_iast), (60, o_push (.int 0) 1), (61, o_ist 3 1), (62, o_ild 3 1), (63, o_ald 0 1)]
def K_81_1 : List (Nat × jx_O) := [(64, o_getf 6 4), (67, o_ige 106), (70, o_ald 0 1), (71, o_getf 6 11), (74, o_push (.int 40) 2), (76, o_ald 0 1), (77, o_getf 6 4), (80, o_bin fun x y => x * y), (81, o_ild 3 1), (82, o_bin fun x y => x + y), (83, o_push (.int 0) 1), (84, o_iast), (85, o_ald 0 1), (86, o_getf 6 11), (89, o_push (.int 40) 2), (91, o_ild 3 1), (92, o_bin fun x y => x * y), (93, o_ald 0 1), (94, o_getf 6 4), (97, o_bin fun x y => x + y), (98, o_push (.int 0) 1), (99, o_iast), (100, o_iinc 3 1), (103, o_goto 62), (106, o_ald 0 1), (107, o_getf 6 11), (110, o_push (.int 41) 2), (112, o_ald 0 1), (113, o_getf 6 4), (116, o_bin fun x y => x * y), (117, o_push (.int 0) 1), (118, o_iast), (119, o_ald 0 1), (120, o_dup), (121, o_getf 6 4), (124, o_push (.int 1) 1), (125, o_bin fun x y => x + y), (126, o_putf 6 4 jx_okI), (129, o_ret)]
def K_81 : List (Nat × jx_O) := K_81_0 ++ (K_81_1)
/- 82: MoleculeRegistryModel.several()Z -/
def K_82_0 : List (Nat × jx_O) := [(0, o_ald 0 1), (1, o_push (.int 42) 2), (3, o_push (.int 0) 1), (4, o_callv 6 81 2), (7, o_ald 0 1), (8, o_getf 6 3), (11, o_push (.int 1) 1), (12, o_bin fun x y => x + y), (13, o_ist 1 1), (14, o_push (.int 1) 1), (15, o_ist 2 1), (16, o_push (.int 1) 1), (17, o_ald 0 1), (18, o_ild 1 1), (19, o_callv 6 77 1), (22, o_call 80 1), (25, o_bin fun x y => x <<< (y &&& 31)), (26, o_ist 3 1), (27, o_iinc 1 1), (30, o_ald 0 1), (31, o_ild 1 1), (32, o_callv 6 77 1), (35, o_push (.int 44) 2), (37, o_ine 77), (40, o_ald 0 1), (41, o_ild 1 1), (42, o_push (.int 1) 1), (43, o_bin fun x y => x + y), (44, o_callv 6 77 1), (47, o_call 80 1), (50, o_iflt 77), (53, o_ild 3 1), (54, o_push (.int 1) 1), (55, o_ald 0 1), (56, o_ild 1 1), (57, o_push (.int 1) 1), (58, o_bin fun x y => x + y), (59, o_callv 6 77 1), (62, o_call 80 1), (65, o_bin fun x y => x <<< (y &&& 31))]
def K_82_1 : List (Nat × jx_O) := [(66, o_bin fun x y => x ||| y), (67, o_ist 3 1), (68, o_iinc 1 2), (71, o_iinc 2 1), (74, o_goto 30), (77, o_ald 0 1), (78, o_getf 6 10), (81, o_ald 0 1), (82, o_getf 6 4), (85, o_push (.int 1) 1), (86, o_bin fun x y => x - y), (87, o_ild 3 1), (88, o_iast), (89, o_ald 0 1), (90, o_ild 1 1), (91, o_push (.int 1) 1), (92, o_bin fun x y => x + y), (93, o_putf 6 3 jx_okI), (96, o_ald 0 1), (97, o_ild 1 1), (98, o_callv 6 77 1), (101, o_push (.int 93) 2), (103, o_ine 115), (106, o_ild 2 1), (107, o_push (.int 4) 1), (108, o_igt 115), (111, o_push (.int 1) 1), (112, o_goto 116), (115, o_push (.int 0) 1), (116, o_zret)]
def K_82 : List (Nat × jx_O) := K_82_0 ++ (K_82_1)
/- 83: MoleculeRegistryModel.one()Z -/
def K_83_0 : List (Nat × jx_O) := [(0, o_ald 0 1), (1, o_ald 0 1), (2, o_ald 0 1), (3, o_getf 6 3), (6, o_push (.int 1) 1), (7, o_bin fun x y => x + y), (8, o_callv 6 77 1), (11, o_push (.int 0) 1), (12, o_callv 6 81 2), (15, o_ald 0 1), (16, o_getf 6 3), (19, o_push (.int 2) 1), (20, o_bin fun x y => x + y), (21, o_ist 1 1), (22, o_ald 0 1), (23, o_getf 6 9), (26, o_ald 0 1), (27, o_getf 6 4), (30, o_push (.int 1) 1), (31, o_bin fun x y => x - y), (32, o_push (.int 1) 1), (33, o_zast), (34, o_ald 0 1), (35, o_ild 1 1), (36, o_callv 6 77 1), (39, o_push (.int 72) 2), (41, o_ine 101), (44, o_ald 0 1), (45, o_getf 6 7), (48, o_ald 0 1), (49, o_getf 6 4), (52, o_push (.int 1) 1), (53, o_bin fun x y => x - y), (54, o_push (.int 1) 1), (55, o_iast), (56, o_iinc 1 1), (59, o_ald 0 1), (60, o_ild 1 1), (61, o_callv 6 77 1), (64, o_push (.int 50) 2)]
def K_83_1 : List (Nat × jx_O) := [(66, o_ilt 101), (69, o_ald 0 1), (70, o_ild 1 1), (71, o_callv 6 77 1), (74, o_push (.int 52) 2), (76, o_igt 101), (79, o_ald 0 1), (80, o_getf 6 7), (83, o_ald 0 1), (84, o_getf 6 4), (87, o_push (.int 1) 1), (88, o_bin fun x y => x - y), (89, o_ald 0 1), (90, o_ild 1 1), (91, o_callv 6 77 1), (94, o_push (.int 48) 2), (96, o_bin fun x y => x - y), (97, o_iast), (98, o_iinc 1 1), (101, o_ald 0 1), (102, o_ild 1 1), (103, o_callv 6 77 1), (106, o_push (.int 43) 2), (108, o_ieq 121), (111, o_ald 0 1), (112, o_ild 1 1), (113, o_callv 6 77 1), (116, o_push (.int 45) 2), (118, o_ine 150), (121, o_ald 0 1), (122, o_getf 6 8), (125, o_ald 0 1), (126, o_getf 6 4), (129, o_push (.int 1) 1), (130, o_bin fun x y => x - y), (131, o_ald 0 1), (132, o_ild 1 1), (133, o_callv 6 77 1), (136, o_push (.int 43) 2), (138, o_ine 145)]
def K_83_2 : List (Nat × jx_O) := [(141, o_push (.int 1) 1), (142, o_goto 146), (145, o_push (.int (-1)) 1), (146, o_iast), (147, o_iinc 1 1), (150, o_ald 0 1), (151, o_ild 1 1), (152, o_push (.int 1) 1), (153, o_bin fun x y => x + y), (154, o_putf 6 3 jx_okI), (157, o_ald 0 1), (158, o_ild 1 1), (159, o_callv 6 77 1), (162, o_push (.int 93) 2), (164, o_ine 171), (167, o_push (.int 1) 1), (168, o_goto 172), (171, o_push (.int 0) 1), (172, o_zret)]
def K_83 : List (Nat × jx_O) := K_83_0 ++ (K_83_1 ++ (K_83_2))
/- 84: MoleculeRegistryModel.bind(III)V -/
def K_84_0 : List (Nat × jx_O) := [(0, o_ald 0 1), (1, o_getf 6 6), (4, o_ild 1 1), (5, o_xald 2), (6, o_ifeq 22), (9, o_ald 0 1), (10, o_getf 6 6), (13, o_ild 2 1), (14, o_xald 2), (15, o_ifeq 22), (18, o_push (.int 1) 1), (19, o_goto 23), (22, o_push (.int 0) 1), (23, o_ist 4 2), (25, o_ild 3 1), (26, o_ifeq 33), (29, o_ild 3 1), (30, o_goto 43), (33, o_ild 4 2), (35, o_ifeq 42), (38, o_push (.int 4) 1), (39, o_goto 43), (42, o_push (.int 1) 1), (43, o_ist 5 2), (45, o_ald 0 1), (46, o_getf 6 10), (49, o_ild 1 1), (50, o_iald), (51, o_ifne 67), (54, o_ald 0 1), (55, o_getf 6 10), (58, o_ild 2 1), (59, o_iald), (60, o_ifne 67), (63, o_push (.int 1) 1), (64, o_goto 68), (67, o_push (.int 0) 1), (68, o_ist 6 2), (70, o_ild 6 2), (72, o_ifeq 109)]
def K_84_1 : List (Nat × jx_O) := [(75, o_ald 0 1), (76, o_getf 6 6), (79, o_ild 1 1), (80, o_xald 2), (81, o_ifne 93), (84, o_ald 0 1), (85, o_getf 6 6), (88, o_ild 2 1), (89, o_xald 2), (90, o_ifeq 109), (93, o_ild 5 2), (95, o_push (.int 2) 1), (96, o_ieq 105), (99, o_ild 5 2), (101, o_push (.int 3) 1), (102, o_ine 109), (105, o_push (.int 1) 1), (106, o_goto 110), (109, o_push (.int 0) 1), (110, o_ist 7 2), (112, o_ald 0 1), (113, o_ald 0 1), (114, o_getf 6 15), (117, o_ifeq 148), (120, o_ild 1 1), (121, o_ild 2 1), (122, o_ieq 148), (125, o_ald 0 1), (126, o_getf 6 11), (129, o_push (.int 40) 2), (131, o_ild 1 1), (132, o_bin fun x y => x * y), (133, o_ild 2 1), (134, o_bin fun x y => x + y), (135, o_iald), (136, o_ifne 148), (139, o_ild 7 2), (141, o_ifne 148), (144, o_push (.int 1) 1), (145, o_goto 149)]
def K_84_2 : List (Nat × jx_O) := [(148, o_push (.int 0) 1), (149, o_putf 6 15 jx_okZ), (152, o_ald 0 1), (153, o_getf 6 11), (156, o_push (.int 40) 2), (158, o_ild 1 1), (159, o_bin fun x y => x * y), (160, o_ild 2 1), (161, o_bin fun x y => x + y), (162, o_ild 5 2), (164, o_iast), (165, o_ald 0 1), (166, o_getf 6 11), (169, o_push (.int 40) 2), (171, o_ild 2 1), (172, o_bin fun x y => x * y), (173, o_ild 1 1), (174, o_bin fun x y => x + y), (175, o_ild 5 2), (177, o_iast), (178, o_ret)]
def K_84 : List (Nat × jx_O) := K_84_0 ++ (K_84_1 ++ (K_84_2))
/- 85: MoleculeRegistryModel.closures(IZ)V -/
def K_85_0 : List (Nat × jx_O) := [(0, o_push (.int 1) 1), (1, o_ist 3 1), (2, o_ild 3 1), (3, o_ifeq 195), (6, o_ald 0 1), (7, o_ald 0 1), (8, o_getf 6 3), (11, o_callv 6 77 1), (14, o_ild 2 1), (15, o_call 78 2), (18, o_ist 4 2), (20, o_ild 4 2), (22, o_ifeq 34), (25, o_ald 0 1), (26, o_getf 6 3), (29, o_push (.int 1) 1), (30, o_bin fun x y => x + y), (31, o_goto 38), (34, o_ald 0 1), (35, o_getf 6 3), (38, o_ist 5 2), (40, o_ald 0 1), (41, o_ild 5 2), (43, o_callv 6 77 1), (46, o_push (.int 48) 2), (48, o_bin fun x y => x - y), (49, o_ist 6 2), (51, o_ild 6 2), (53, o_push (.int 1) 1), (54, o_ilt 68), (57, o_ild 6 2), (59, o_push (.int 9) 2), (61, o_igt 68), (64, o_push (.int 1) 1), (65, o_goto 69), (68, o_push (.int 0) 1), (69, o_ist 3 1), (70, o_ild 3 1), (71, o_ifeq 192), (74, o_ald 0 1)]
def K_85_1 : List (Nat × jx_O) := [(75, o_ild 5 2), (77, o_push (.int 1) 1), (78, o_bin fun x y => x + y), (79, o_putf 6 3 jx_okI), (82, o_ald 0 1), (83, o_getf 6 13), (86, o_ild 6 2), (88, o_iald), (89, o_ifge 112), (92, o_ald 0 1), (93, o_getf 6 13), (96, o_ild 6 2), (98, o_ild 1 1), (99, o_iast), (100, o_ald 0 1), (101, o_getf 6 14), (104, o_ild 6 2), (106, o_ild 4 2), (108, o_iast), (109, o_goto 192), (112, o_ald 0 1), (113, o_ald 0 1), (114, o_getf 6 15), (117, o_ifeq 151), (120, o_ild 4 2), (122, o_ifeq 147), (125, o_ald 0 1), (126, o_getf 6 14), (129, o_ild 6 2), (131, o_iald), (132, o_ifeq 147), (135, o_ild 4 2), (137, o_ald 0 1), (138, o_getf 6 14), (141, o_ild 6 2), (143, o_iald), (144, o_ine 151), (147, o_push (.int 1) 1), (148, o_goto 152), (151, o_push (.int 0) 1)]
def K_85_2 : List (Nat × jx_O) := [(152, o_putf 6 15 jx_okZ), (155, o_ald 0 1), (156, o_ald 0 1), (157, o_getf 6 13), (160, o_ild 6 2), (162, o_iald), (163, o_ild 1 1), (164, o_ild 4 2), (166, o_ifeq 174), (169, o_ild 4 2), (171, o_goto 181), (174, o_ald 0 1), (175, o_getf 6 14), (178, o_ild 6 2), (180, o_iald), (181, o_callv 6 84 3), (184, o_ald 0 1), (185, o_getf 6 13), (188, o_ild 6 2), (190, o_push (.int (-1)) 1), (191, o_iast), (192, o_goto 2), (195, o_ret)]
def K_85 : List (Nat × jx_O) := K_85_0 ++ (K_85_1 ++ (K_85_2))
/- 86: MoleculeRegistryModel.valences()Z -/
def K_86_0 : List (Nat × jx_O) := [(0, o_push (.int 1) 1), (1, o_ist 1 1), (2, o_push (.int 0) 1), (3, o_ist 2 1), (4, o_ild 2 1), (5, o_ald 0 1), (6, o_getf 6 4), (9, o_ige 135), (12, o_ald 0 1), (13, o_ild 2 1), (14, o_callv 6 87 1), (17, o_ist 3 1), (18, o_ald 0 1), (19, o_ild 2 1), (20, o_callv 6 88 1), (23, o_ist 4 2), (25, o_ald 0 1), (26, o_getf 6 9), (29, o_ild 2 1), (30, o_xald 2), (31, o_ifeq 103), (34, o_ald 0 1), (35, o_getf 6 8), (38, o_ild 2 1), (39, o_iald), (40, o_ifne 48), (43, o_ild 4 2), (45, o_goto 75), (48, o_ald 0 1), (49, o_getf 6 5), (52, o_ild 2 1), (53, o_iald), (54, o_push (.int 67) 2), (56, o_ine 66), (59, o_ild 4 2), (61, o_push (.int 1) 1), (62, o_bin fun x y => x - y), (63, o_goto 75), (66, o_ild 4 2), (68, o_ald 0 1)]
def K_86_1 : List (Nat × jx_O) := [(69, o_getf 6 8), (72, o_ild 2 1), (73, o_iald), (74, o_bin fun x y => x + y), (75, o_ist 5 2), (77, o_ild 1 1), (78, o_ifeq 98), (81, o_ald 0 1), (82, o_getf 6 7), (85, o_ild 2 1), (86, o_iald), (87, o_ild 3 1), (88, o_bin fun x y => x + y), (89, o_ild 5 2), (91, o_ine 98), (94, o_push (.int 1) 1), (95, o_goto 99), (98, o_push (.int 0) 1), (99, o_ist 1 1), (100, o_goto 129), (103, o_ild 1 1), (104, o_ifeq 117), (107, o_ild 3 1), (108, o_ild 4 2), (110, o_igt 117), (113, o_push (.int 1) 1), (114, o_goto 118), (117, o_push (.int 0) 1), (118, o_ist 1 1), (119, o_ald 0 1), (120, o_getf 6 7), (123, o_ild 2 1), (124, o_ild 4 2), (126, o_ild 3 1), (127, o_bin fun x y => x - y), (128, o_iast), (129, o_iinc 2 1), (132, o_goto 4), (135, o_ild 1 1), (136, o_zret)]
def K_86 : List (Nat × jx_O) := K_86_0 ++ (K_86_1)
/- 87: MoleculeRegistryModel.orders(I)I -/
def K_87_0 : List (Nat × jx_O) := [(0, o_push (.int 0) 1), (1, o_ist 2 1), (2, o_push (.int 0) 1), (3, o_ist 3 1), (4, o_push (.int 0) 1), (5, o_ist 4 2), (7, o_ild 4 2), (9, o_ald 0 1), (10, o_getf 6 4), (13, o_ige 67), (16, o_ald 0 1), (17, o_getf 6 11), (20, o_push (.int 40) 2), (22, o_ild 1 1), (23, o_bin fun x y => x * y), (24, o_ild 4 2), (26, o_bin fun x y => x + y), (27, o_iald), (28, o_ist 5 2), (30, o_ild 2 1), (31, o_ild 5 2), (33, o_push (.int 4) 1), (34, o_ine 41), (37, o_push (.int 1) 1), (38, o_goto 43), (41, o_ild 5 2), (43, o_bin fun x y => x + y), (44, o_ist 2 1), (45, o_ild 3 1), (46, o_ifne 55), (49, o_ild 5 2), (51, o_push (.int 4) 1), (52, o_ine 59), (55, o_push (.int 1) 1), (56, o_goto 60), (59, o_push (.int 0) 1), (60, o_ist 3 1), (61, o_iinc 4 1), (64, o_goto 7), (67, o_ild 3 1)]
def K_87_1 : List (Nat × jx_O) := [(68, o_ifeq 108), (71, o_ald 0 1), (72, o_getf 6 6), (75, o_ild 1 1), (76, o_xald 2), (77, o_ifeq 108), (80, o_ald 0 1), (81, o_getf 6 5), (84, o_ild 1 1), (85, o_iald), (86, o_push (.int 67) 2), (88, o_ieq 102), (91, o_ald 0 1), (92, o_getf 6 5), (95, o_ild 1 1), (96, o_iald), (97, o_push (.int 78) 2), (99, o_ine 108), (102, o_ild 2 1), (103, o_push (.int 1) 1), (104, o_bin fun x y => x + y), (105, o_goto 109), (108, o_ild 2 1), (109, o_iret)]
def K_87 : List (Nat × jx_O) := K_87_0 ++ (K_87_1)
/- 88: MoleculeRegistryModel.most(I)I -/
def K_88_0 : List (Nat × jx_O) := [(0, o_ald 0 1), (1, o_getf 6 5), (4, o_ild 1 1), (5, o_iald), (6, o_ist 2 1), (7, o_ild 2 1), (8, o_push (.int 67) 2), (10, o_ine 17), (13, o_push (.int 4) 1), (14, o_goto 38), (17, o_ild 2 1), (18, o_push (.int 78) 2), (20, o_ine 27), (23, o_push (.int 3) 1), (24, o_goto 38), (27, o_ild 2 1), (28, o_push (.int 70) 2), (30, o_ine 37), (33, o_push (.int 1) 1), (34, o_goto 38), (37, o_push (.int 2) 1), (38, o_iret)]
def K_88 : List (Nat × jx_O) := K_88_0
/- 89: MoleculeRegistryModel.matching()Z -/
def K_89_0 : List (Nat × jx_O) := [(0, o_push (.int 0) 1), (1, o_ist 1 1), (2, o_ild 1 1), (3, o_ald 0 1), (4, o_getf 6 4), (7, o_ige 35), (10, o_ald 0 1), (11, o_getf 6 26), (14, o_ild 1 1), (15, o_ald 0 1), (16, o_ild 1 1), (17, o_callv 6 90 1), (20, o_ifne 27), (23, o_push (.int 1) 1), (24, o_goto 28), (27, o_push (.int 0) 1), (28, o_zast), (29, o_iinc 1 1), (32, o_goto 2), (35, o_push (.int 0) 1), (36, o_ist 1 1), (37, o_ald 0 1), (38, o_callv 6 91 0), (41, o_ist 2 1), (42, o_ald 0 1), (43, o_getf 6 12), (46, o_push (.int 0) 1), (47, o_ild 2 1), (48, o_iast), (49, o_ald 0 1), (50, o_getf 6 25), (53, o_push (.int 0) 1), (54, o_push (.int (-1)) 1), (55, o_iast), (56, o_ild 1 1), (57, o_iflt 224), (60, o_ald 0 1), (61, o_getf 6 12), (64, o_ild 1 1), (65, o_iald)]
def K_89_1 : List (Nat × jx_O) := [(66, o_ifge 71), (69, o_push (.int 1) 1), (70, o_zret), (71, o_ald 0 1), (72, o_getf 6 12), (75, o_ild 1 1), (76, o_iald), (77, o_ist 3 1), (78, o_ald 0 1), (79, o_getf 6 25), (82, o_ild 1 1), (83, o_iald), (84, o_iflt 106), (87, o_ald 0 1), (88, o_getf 6 26), (91, o_ild 3 1), (92, o_push (.int 0) 1), (93, o_zast), (94, o_ald 0 1), (95, o_getf 6 26), (98, o_ald 0 1), (99, o_getf 6 25), (102, o_ild 1 1), (103, o_iald), (104, o_push (.int 0) 1), (105, o_zast), (106, o_ald 0 1), (107, o_getf 6 25), (110, o_ild 1 1), (111, o_iald), (112, o_push (.int 1) 1), (113, o_bin fun x y => x + y), (114, o_ist 4 2), (116, o_ild 4 2), (118, o_ald 0 1), (119, o_getf 6 4), (122, o_ige 163), (125, o_ald 0 1), (126, o_getf 6 26), (129, o_ild 4 2)]
def K_89_2 : List (Nat × jx_O) := [(131, o_xald 2), (132, o_ifne 157), (135, o_ild 4 2), (137, o_ild 3 1), (138, o_ieq 157), (141, o_ald 0 1), (142, o_getf 6 11), (145, o_push (.int 40) 2), (147, o_ild 3 1), (148, o_bin fun x y => x * y), (149, o_ild 4 2), (151, o_bin fun x y => x + y), (152, o_iald), (153, o_push (.int 4) 1), (154, o_ieq 163), (157, o_iinc 4 1), (160, o_goto 116), (163, o_ild 4 2), (165, o_ald 0 1), (166, o_getf 6 4), (169, o_ige 218), (172, o_ald 0 1), (173, o_getf 6 25), (176, o_ild 1 1), (177, o_ild 4 2), (179, o_iast), (180, o_ald 0 1), (181, o_getf 6 26), (184, o_ild 3 1), (185, o_push (.int 1) 1), (186, o_zast), (187, o_ald 0 1), (188, o_getf 6 26), (191, o_ild 4 2), (193, o_push (.int 1) 1), (194, o_zast), (195, o_iinc 1 1), (198, o_ald 0 1), (199, o_getf 6 12), (202, o_ild 1 1)]
def K_89_3 : List (Nat × jx_O) := [(203, o_ald 0 1), (204, o_callv 6 91 0), (207, o_iast), (208, o_ald 0 1), (209, o_getf 6 25), (212, o_ild 1 1), (213, o_push (.int (-1)) 1), (214, o_iast), (215, o_goto 221), (218, o_iinc 1 (-1)), (221, o_goto 56), (224, o_push (.int 0) 1), (225, o_zret)]
def K_89 : List (Nat × jx_O) := K_89_0 ++ (K_89_1 ++ (K_89_2 ++ (K_89_3)))
/- 90: MoleculeRegistryModel.pairs(I)Z -/
def K_90_0 : List (Nat × jx_O) := [(0, o_ald 0 1), (1, o_getf 6 6), (4, o_ild 1 1), (5, o_xald 2), (6, o_ifeq 35), (9, o_ald 0 1), (10, o_getf 6 5), (13, o_ild 1 1), (14, o_iald), (15, o_push (.int 67) 2), (17, o_ieq 31), (20, o_ald 0 1), (21, o_getf 6 5), (24, o_ild 1 1), (25, o_iald), (26, o_push (.int 78) 2), (28, o_ine 35), (31, o_push (.int 1) 1), (32, o_goto 36), (35, o_push (.int 0) 1), (36, o_zret)]
def K_90 : List (Nat × jx_O) := K_90_0
/- 91: MoleculeRegistryModel.free()I -/
def K_91_0 : List (Nat × jx_O) := [(0, o_push (.int 0) 1), (1, o_ist 1 1), (2, o_ild 1 1), (3, o_ald 0 1), (4, o_getf 6 4), (7, o_ige 27), (10, o_ald 0 1), (11, o_getf 6 26), (14, o_ild 1 1), (15, o_xald 2), (16, o_ifne 21), (19, o_ild 1 1), (20, o_iret), (21, o_iinc 1 1), (24, o_goto 2), (27, o_push (.int (-1)) 1), (28, o_iret)]
def K_91 : List (Nat × jx_O) := K_91_0
/- 92: MoleculeRegistryModel.same()I -/
def K_92_0 : List (Nat × jx_O) := [(0, o_push (.int 0) 1), (1, o_ist 1 1), (2, o_ild 1 1), (3, o_ald 0 1), (4, o_getf 6 16), (7, o_ige 27), (10, o_ald 0 1), (11, o_ild 1 1), (12, o_push (.int 1) 1), (13, o_callv 6 93 2), (16, o_ifeq 21), (19, o_ild 1 1), (20, o_iret), (21, o_iinc 1 1), (24, o_goto 2), (27, o_push (.int (-1)) 1), (28, o_iret)]
def K_92 : List (Nat × jx_O) := K_92_0
/- 93: MoleculeRegistryModel.canBePut(IZ)Z -/
def K_93_0 : List (Nat × jx_O) := [(0, o_ald 0 1), (1, o_getf 6 4), (4, o_ald 0 1), (5, o_getf 6 19), (8, o_ild 1 1), (9, o_iald), (10, o_igt 30), (13, o_ild 2 1), (14, o_ifeq 32), (17, o_ald 0 1), (18, o_getf 6 4), (21, o_ald 0 1), (22, o_getf 6 19), (25, o_ild 1 1), (26, o_iald), (27, o_ieq 32), (30, o_push (.int 0) 1), (31, o_zret), (32, o_push (.int 0) 1), (33, o_ist 3 1), (34, o_ald 0 1), (35, o_getf 6 25), (38, o_push (.int 0) 1), (39, o_push (.int (-1)) 1), (40, o_iast), (41, o_ild 3 1), (42, o_iflt 130), (45, o_ild 3 1), (46, o_ald 0 1), (47, o_getf 6 4), (50, o_ige 130), (53, o_ald 0 1), (54, o_getf 6 25), (57, o_ild 3 1), (58, o_iald), (59, o_push (.int 1) 1), (60, o_bin fun x y => x + y), (61, o_ist 4 2), (63, o_ild 4 2), (65, o_ald 0 1)]
def K_93_1 : List (Nat × jx_O) := [(66, o_getf 6 19), (69, o_ild 1 1), (70, o_iald), (71, o_ige 92), (74, o_ald 0 1), (75, o_ild 3 1), (76, o_ild 1 1), (77, o_ild 4 2), (79, o_ild 2 1), (80, o_callv 6 94 4), (83, o_ifne 92), (86, o_iinc 4 1), (89, o_goto 63), (92, o_ild 4 2), (94, o_ald 0 1), (95, o_getf 6 19), (98, o_ild 1 1), (99, o_iald), (100, o_ige 124), (103, o_ald 0 1), (104, o_getf 6 25), (107, o_ild 3 1), (108, o_ild 4 2), (110, o_iast), (111, o_iinc 3 1), (114, o_ald 0 1), (115, o_getf 6 25), (118, o_ild 3 1), (119, o_push (.int (-1)) 1), (120, o_iast), (121, o_goto 127), (124, o_iinc 3 (-1)), (127, o_goto 41), (130, o_ild 3 1), (131, o_ald 0 1), (132, o_getf 6 4), (135, o_ine 142), (138, o_push (.int 1) 1), (139, o_goto 143), (142, o_push (.int 0) 1)]
def K_93_2 : List (Nat × jx_O) := [(143, o_zret)]
def K_93 : List (Nat × jx_O) := K_93_0 ++ (K_93_1 ++ (K_93_2))
/- 94: MoleculeRegistryModel.agrees(IIIZ)Z -/
def K_94_0 : List (Nat × jx_O) := [(0, o_ald 0 1), (1, o_ild 1 1), (2, o_ild 2 1), (3, o_ild 3 1), (4, o_ild 4 2), (6, o_callv 6 95 4), (9, o_ist 5 2), (11, o_push (.int 0) 1), (12, o_ist 6 2), (14, o_ild 6 2), (16, o_ild 1 1), (17, o_ige 115), (20, o_ild 5 2), (22, o_ifeq 115), (25, o_ald 0 1), (26, o_getf 6 11), (29, o_push (.int 40) 2), (31, o_ild 1 1), (32, o_bin fun x y => x * y), (33, o_ild 6 2), (35, o_bin fun x y => x + y), (36, o_iald), (37, o_ist 7 2), (39, o_ald 0 1), (40, o_getf 6 24), (43, o_push (.int 100) 2), (45, o_ild 2 1), (46, o_bin fun x y => x * y), (47, o_push (.int 10) 2), (49, o_ild 3 1), (50, o_bin fun x y => x * y), (51, o_bin fun x y => x + y), (52, o_ald 0 1), (53, o_getf 6 25), (56, o_ild 6 2), (58, o_iald), (59, o_bin fun x y => x + y), (60, o_iald), (61, o_ist 8 2), (63, o_ald 0 1)]
def K_94_1 : List (Nat × jx_O) := [(64, o_getf 6 25), (67, o_ild 6 2), (69, o_iald), (70, o_ild 3 1), (71, o_ieq 106), (74, o_ild 7 2), (76, o_ild 8 2), (78, o_ieq 102), (81, o_ild 7 2), (83, o_push (.int 5) 1), (84, o_ine 92), (87, o_ild 8 2), (89, o_ifne 102), (92, o_ild 7 2), (94, o_ifne 106), (97, o_ild 4 2), (99, o_ifne 106), (102, o_push (.int 1) 1), (103, o_goto 107), (106, o_push (.int 0) 1), (107, o_ist 5 2), (109, o_iinc 6 1), (112, o_goto 14), (115, o_ild 5 2), (117, o_zret)]
def K_94 : List (Nat × jx_O) := K_94_0 ++ (K_94_1)
/- 95: MoleculeRegistryModel.fits(IIIZ)Z -/
def K_95_0 : List (Nat × jx_O) := [(0, o_push (.int 10) 2), (2, o_ild 2 1), (3, o_bin fun x y => x * y), (4, o_ild 3 1), (5, o_bin fun x y => x + y), (6, o_ist 5 2), (8, o_ald 0 1), (9, o_getf 6 10), (12, o_ild 1 1), (13, o_iald), (14, o_ifeq 57), (17, o_ald 0 1), (18, o_getf 6 10), (21, o_ild 1 1), (22, o_iald), (23, o_push (.int 63) 2), (25, o_ieq 51), (28, o_ald 0 1), (29, o_getf 6 10), (32, o_ild 1 1), (33, o_iald), (34, o_ald 0 1), (35, o_getf 6 20), (38, o_ild 5 2), (40, o_iald), (41, o_call 80 1), (44, o_bin fun x y => x >>> (y &&& 31)), (45, o_push (.int 1) 1), (46, o_bin fun x y => x &&& y), (47, o_push (.int 1) 1), (48, o_ine 55), (51, o_push (.int 1) 1), (52, o_goto 56), (55, o_push (.int 0) 1), (56, o_zret), (57, o_ald 0 1), (58, o_getf 6 5), (61, o_ild 1 1), (62, o_iald), (63, o_ald 0 1)]
def K_95_1 : List (Nat × jx_O) := [(64, o_getf 6 20), (67, o_ild 5 2), (69, o_iald), (70, o_ine 109), (73, o_ald 0 1), (74, o_getf 6 6), (77, o_ild 1 1), (78, o_xald 2), (79, o_ald 0 1), (80, o_getf 6 21), (83, o_ild 5 2), (85, o_xald 2), (86, o_ine 109), (89, o_ald 0 1), (90, o_getf 6 8), (93, o_ild 1 1), (94, o_iald), (95, o_ald 0 1), (96, o_getf 6 23), (99, o_ild 5 2), (101, o_iald), (102, o_ine 109), (105, o_push (.int 1) 1), (106, o_goto 110), (109, o_push (.int 0) 1), (110, o_ist 6 2), (112, o_ild 6 2), (114, o_ifeq 142), (117, o_ild 4 2), (119, o_ifeq 138), (122, o_ald 0 1), (123, o_getf 6 7), (126, o_ild 1 1), (127, o_iald), (128, o_ald 0 1), (129, o_getf 6 22), (132, o_ild 5 2), (134, o_iald), (135, o_ine 142), (138, o_push (.int 1) 1)]
def K_95_2 : List (Nat × jx_O) := [(139, o_goto 143), (142, o_push (.int 0) 1), (143, o_zret)]
def K_95 : List (Nat × jx_O) := K_95_0 ++ (K_95_1 ++ (K_95_2))
/- 96: MoleculeRegistryModel.keepText()V -/
def K_96_0 : List (Nat × jx_O) := [(0, o_ald 0 1), (1, o_ald 0 1), (2, o_getf 6 4), (5, o_putf 6 32 jx_okI), (8, o_push (.int 0) 1), (9, o_ist 1 1), (10, o_ild 1 1), (11, o_ald 0 1), (12, o_getf 6 4), (15, o_ige 110), (18, o_ald 0 1), (19, o_getf 6 33), (22, o_ild 1 1), (23, o_ald 0 1), (24, o_getf 6 5), (27, o_ild 1 1), (28, o_iald), (29, o_iast), (30, o_ald 0 1), (31, o_getf 6 34), (34, o_ild 1 1), (35, o_ald 0 1), (36, o_getf 6 6), (39, o_ild 1 1), (40, o_xald 2), (41, o_zast), (42, o_ald 0 1), (43, o_getf 6 35), (46, o_ild 1 1), (47, o_ald 0 1), (48, o_getf 6 7), (51, o_ild 1 1), (52, o_iald), (53, o_iast), (54, o_ald 0 1), (55, o_getf 6 36), (58, o_ild 1 1), (59, o_ald 0 1), (60, o_getf 6 8), (63, o_ild 1 1)]
def K_96_1 : List (Nat × jx_O) := [(64, o_iald), (65, o_iast), (66, o_push (.int 0) 1), (67, o_ist 2 1), (68, o_ild 2 1), (69, o_ald 0 1), (70, o_getf 6 4), (73, o_ige 104), (76, o_ald 0 1), (77, o_getf 6 37), (80, o_push (.int 10) 2), (82, o_ild 1 1), (83, o_bin fun x y => x * y), (84, o_ild 2 1), (85, o_bin fun x y => x + y), (86, o_ald 0 1), (87, o_getf 6 11), (90, o_push (.int 40) 2), (92, o_ild 1 1), (93, o_bin fun x y => x * y), (94, o_ild 2 1), (95, o_bin fun x y => x + y), (96, o_iald), (97, o_iast), (98, o_iinc 2 1), (101, o_goto 68), (104, o_iinc 1 1), (107, o_goto 10), (110, o_ret)]
def K_96 : List (Nat × jx_O) := K_96_0 ++ (K_96_1)
/- 97: MoleculeRegistryModel.change(II)Z -/
def K_97_0 : List (Nat × jx_O) := [(0, o_ald 0 1), (1, o_getf 6 27), (4, o_ist 3 1), (5, o_ald 0 1), (6, o_push (.int 0) 1), (7, o_putf 6 27 jx_okI), (10, o_ald 0 1), (11, o_push (.int 0) 1), (12, o_putf 6 38 jx_okI), (15, o_ald 0 1), (16, o_ild 3 1), (17, o_ifeq 24), (20, o_push (.int 1) 1), (21, o_goto 25), (24, o_push (.int 0) 1), (25, o_putf 6 28 jx_okZ), (28, o_ild 3 1), (29, o_push (.int 1) 1), (30, o_ieq 38), (33, o_ild 3 1), (34, o_push (.int 2) 1), (35, o_ine 45), (38, o_ald 0 1), (39, o_push (.int 0) 1), (40, o_putf 6 29 jx_okI), (43, o_push (.int 0) 1), (44, o_zret), (45, o_ald 0 1), (46, o_ild 1 1), (47, o_putf 6 29 jx_okI), (50, o_ald 0 1), (51, o_ild 2 1), (52, o_putf 6 30 jx_okI), (55, o_ald 0 1), (56, o_ild 3 1), (57, o_push (.int 3) 1), (58, o_ieq 65), (61, o_push (.int 1) 1), (62, o_goto 66), (65, o_push (.int 0) 1)]
def K_97_1 : List (Nat × jx_O) := [(66, o_putf 6 31 jx_okZ), (69, o_ald 0 1), (70, o_getf 6 31), (73, o_ifeq 80), (76, o_ald 0 1), (77, o_callv 6 98 0), (80, o_ald 0 1), (81, o_ild 3 1), (82, o_ifne 89), (85, o_push (.int 0) 1), (86, o_goto 93), (89, o_ald 0 1), (90, o_getf 6 29), (93, o_putf 6 29 jx_okI), (96, o_ild 3 1), (97, o_ifne 104), (100, o_push (.int 1) 1), (101, o_goto 105), (104, o_push (.int 0) 1), (105, o_zret)]
def K_97 : List (Nat × jx_O) := K_97_0 ++ (K_97_1)
/- 98: MoleculeRegistryModel.perform()V -/
def K_98_0 : List (Nat × jx_O) := [(0, o_ald 0 1), (1, o_getf 6 29), (4, o_push (.int 1) 1), (5, o_ine 173), (8, o_ald 0 1), (9, o_getf 6 18), (12, o_ald 0 1), (13, o_getf 6 16), (16, o_ald 0 1), (17, o_getf 6 30), (20, o_iast), (21, o_ald 0 1), (22, o_ald 0 1), (23, o_getf 6 30), (26, o_putf 6 17 jx_okI), (29, o_ald 0 1), (30, o_getf 6 19), (33, o_ald 0 1), (34, o_getf 6 16), (37, o_ald 0 1), (38, o_getf 6 32), (41, o_iast), (42, o_push (.int 0) 1), (43, o_ist 1 1), (44, o_ild 1 1), (45, o_ald 0 1), (46, o_getf 6 32), (49, o_ige 162), (52, o_push (.int 10) 2), (54, o_ald 0 1), (55, o_getf 6 16), (58, o_bin fun x y => x * y), (59, o_ild 1 1), (60, o_bin fun x y => x + y), (61, o_ist 2 1), (62, o_ald 0 1), (63, o_getf 6 20), (66, o_ild 2 1), (67, o_ald 0 1), (68, o_getf 6 33)]
def K_98_1 : List (Nat × jx_O) := [(71, o_ild 1 1), (72, o_iald), (73, o_iast), (74, o_ald 0 1), (75, o_getf 6 21), (78, o_ild 2 1), (79, o_ald 0 1), (80, o_getf 6 34), (83, o_ild 1 1), (84, o_xald 2), (85, o_zast), (86, o_ald 0 1), (87, o_getf 6 22), (90, o_ild 2 1), (91, o_ald 0 1), (92, o_getf 6 35), (95, o_ild 1 1), (96, o_iald), (97, o_iast), (98, o_ald 0 1), (99, o_getf 6 23), (102, o_ild 2 1), (103, o_ald 0 1), (104, o_getf 6 36), (107, o_ild 1 1), (108, o_iald), (109, o_iast), (110, o_push (.int 0) 1), (111, o_ist 3 1), (112, o_ild 3 1), (113, o_ald 0 1), (114, o_getf 6 32), (117, o_ige 156), (120, o_ald 0 1), (121, o_getf 6 24), (124, o_push (.int 100) 2), (126, o_ald 0 1), (127, o_getf 6 16), (130, o_bin fun x y => x * y), (131, o_push (.int 10) 2)]
def K_98_2 : List (Nat × jx_O) := [(133, o_ild 1 1), (134, o_bin fun x y => x * y), (135, o_bin fun x y => x + y), (136, o_ild 3 1), (137, o_bin fun x y => x + y), (138, o_ald 0 1), (139, o_getf 6 37), (142, o_push (.int 10) 2), (144, o_ild 1 1), (145, o_bin fun x y => x * y), (146, o_ild 3 1), (147, o_bin fun x y => x + y), (148, o_iald), (149, o_iast), (150, o_iinc 3 1), (153, o_goto 112), (156, o_iinc 1 1), (159, o_goto 44), (162, o_ald 0 1), (163, o_dup), (164, o_getf 6 16), (167, o_push (.int 1) 1), (168, o_bin fun x y => x + y), (169, o_putf 6 16 jx_okI), (172, o_ret), (173, o_ald 0 1), (174, o_ald 0 1), (175, o_getf 6 30), (178, o_callv 6 99 1), (181, o_ist 1 1), (182, o_ald 0 1), (183, o_dup), (184, o_getf 6 16), (187, o_push (.int 1) 1), (188, o_bin fun x y => x - y), (189, o_putf 6 16 jx_okI), (192, o_ild 1 1), (193, o_ist 2 1), (194, o_ild 2 1), (195, o_ald 0 1)]
def K_98_3 : List (Nat × jx_O) := [(196, o_getf 6 16), (199, o_ige 216), (202, o_ald 0 1), (203, o_ild 2 1), (204, o_push (.int 1) 1), (205, o_bin fun x y => x + y), (206, o_ild 2 1), (207, o_callv 6 100 2), (210, o_iinc 2 1), (213, o_goto 194), (216, o_ret)]
def K_98 : List (Nat × jx_O) := K_98_0 ++ (K_98_1 ++ (K_98_2 ++ (K_98_3)))
/- 99: MoleculeRegistryModel.placeOfId(I)I -/
def K_99_0 : List (Nat × jx_O) := [(0, o_push (.int 0) 1), (1, o_ist 2 1), (2, o_ild 2 1), (3, o_ald 0 1), (4, o_getf 6 16), (7, o_ige 28), (10, o_ald 0 1), (11, o_getf 6 18), (14, o_ild 2 1), (15, o_iald), (16, o_ild 1 1), (17, o_ine 22), (20, o_ild 2 1), (21, o_iret), (22, o_iinc 2 1), (25, o_goto 2), (28, o_push (.int (-1)) 1), (29, o_iret)]
def K_99 : List (Nat × jx_O) := K_99_0
/- 100: MoleculeRegistryModel.copyMolecule(II)V -/
def K_100_0 : List (Nat × jx_O) := [(0, o_ald 0 1), (1, o_getf 6 18), (4, o_ild 2 1), (5, o_ald 0 1), (6, o_getf 6 18), (9, o_ild 1 1), (10, o_iald), (11, o_iast), (12, o_ald 0 1), (13, o_getf 6 19), (16, o_ild 2 1), (17, o_ald 0 1), (18, o_getf 6 19), (21, o_ild 1 1), (22, o_iald), (23, o_iast), (24, o_push (.int 0) 1), (25, o_ist 3 1), (26, o_ild 3 1), (27, o_push (.int 10) 2), (29, o_ige 126), (32, o_ald 0 1), (33, o_getf 6 20), (36, o_push (.int 10) 2), (38, o_ild 2 1), (39, o_bin fun x y => x * y), (40, o_ild 3 1), (41, o_bin fun x y => x + y), (42, o_ald 0 1), (43, o_getf 6 20), (46, o_push (.int 10) 2), (48, o_ild 1 1), (49, o_bin fun x y => x * y), (50, o_ild 3 1), (51, o_bin fun x y => x + y), (52, o_iald), (53, o_iast), (54, o_ald 0 1), (55, o_getf 6 21), (58, o_push (.int 10) 2)]
def K_100_1 : List (Nat × jx_O) := [(60, o_ild 2 1), (61, o_bin fun x y => x * y), (62, o_ild 3 1), (63, o_bin fun x y => x + y), (64, o_ald 0 1), (65, o_getf 6 21), (68, o_push (.int 10) 2), (70, o_ild 1 1), (71, o_bin fun x y => x * y), (72, o_ild 3 1), (73, o_bin fun x y => x + y), (74, o_xald 2), (75, o_zast), (76, o_ald 0 1), (77, o_getf 6 22), (80, o_push (.int 10) 2), (82, o_ild 2 1), (83, o_bin fun x y => x * y), (84, o_ild 3 1), (85, o_bin fun x y => x + y), (86, o_ald 0 1), (87, o_getf 6 22), (90, o_push (.int 10) 2), (92, o_ild 1 1), (93, o_bin fun x y => x * y), (94, o_ild 3 1), (95, o_bin fun x y => x + y), (96, o_iald), (97, o_iast), (98, o_ald 0 1), (99, o_getf 6 23), (102, o_push (.int 10) 2), (104, o_ild 2 1), (105, o_bin fun x y => x * y), (106, o_ild 3 1), (107, o_bin fun x y => x + y), (108, o_ald 0 1), (109, o_getf 6 23), (112, o_push (.int 10) 2), (114, o_ild 1 1)]
def K_100_2 : List (Nat × jx_O) := [(115, o_bin fun x y => x * y), (116, o_ild 3 1), (117, o_bin fun x y => x + y), (118, o_iald), (119, o_iast), (120, o_iinc 3 1), (123, o_goto 26), (126, o_push (.int 0) 1), (127, o_ist 3 1), (128, o_ild 3 1), (129, o_push (.int 100) 2), (131, o_ige 162), (134, o_ald 0 1), (135, o_getf 6 24), (138, o_push (.int 100) 2), (140, o_ild 2 1), (141, o_bin fun x y => x * y), (142, o_ild 3 1), (143, o_bin fun x y => x + y), (144, o_ald 0 1), (145, o_getf 6 24), (148, o_push (.int 100) 2), (150, o_ild 1 1), (151, o_bin fun x y => x * y), (152, o_ild 3 1), (153, o_bin fun x y => x + y), (154, o_iald), (155, o_iast), (156, o_iinc 3 1), (159, o_goto 128), (162, o_ret)]
def K_100 : List (Nat × jx_O) := K_100_0 ++ (K_100_1 ++ (K_100_2))
/- 101: MoleculeRegistryModel.lookup()I -/
def K_101_0 : List (Nat × jx_O) := [(0, o_ald 0 1), (1, o_getf 6 28), (4, o_ifeq 13), (7, o_ald 0 1), (8, o_push (.int 1) 1), (9, o_callv 6 74 1), (12, o_iret), (13, o_ald 0 1), (14, o_callv 6 75 0), (17, o_ist 1 1), (18, o_ild 1 1), (19, o_ifle 30), (22, o_ald 0 1), (23, o_ild 1 1), (24, o_push (.int 1) 1), (25, o_bin fun x y => x + y), (26, o_callv 6 74 1), (29, o_iret), (30, o_ald 0 1), (31, o_push (.int 0) 1), (32, o_putf 6 0 jx_okI), (35, o_ald 0 1), (36, o_push (.int 0) 1), (37, o_putf 6 1 jx_okI), (40, o_ald 0 1), (41, o_callv 6 92 0), (44, o_ist 2 1), (45, o_ild 2 1), (46, o_ifge 53), (49, o_push (.int 0) 1), (50, o_goto 59), (53, o_ald 0 1), (54, o_getf 6 18), (57, o_ild 2 1), (58, o_iald), (59, o_iret)]
def K_101 : List (Nat × jx_O) := K_101_0
/- 102: MoleculeRegistryModel.search()I -/
def K_102_0 : List (Nat × jx_O) := [(0, o_ald 0 1), (1, o_getf 6 28), (4, o_ifeq 13), (7, o_ald 0 1), (8, o_push (.int 1) 1), (9, o_callv 6 74 1), (12, o_iret), (13, o_ald 0 1), (14, o_push (.int 1) 1), (15, o_callv 6 76 1), (18, o_ifne 27), (21, o_ald 0 1), (22, o_push (.int 2) 1), (23, o_callv 6 74 1), (26, o_iret), (27, o_ald 0 1), (28, o_getf 6 4), (31, o_push (.int 10) 2), (33, o_ile 42), (36, o_ald 0 1), (37, o_push (.int 3) 1), (38, o_callv 6 74 1), (41, o_iret), (42, o_ald 0 1), (43, o_push (.int 0) 1), (44, o_putf 6 0 jx_okI), (47, o_ald 0 1), (48, o_push (.int 0) 1), (49, o_putf 6 1 jx_okI), (52, o_ald 0 1), (53, o_push (.int 0) 1), (54, o_putf 6 38 jx_okI), (57, o_push (.int 0) 1), (58, o_ist 1 1), (59, o_ild 1 1), (60, o_ald 0 1), (61, o_getf 6 16), (64, o_ige 107), (67, o_ald 0 1), (68, o_ild 1 1)]
def K_102_1 : List (Nat × jx_O) := [(69, o_push (.int 0) 1), (70, o_callv 6 93 2), (73, o_ifeq 101), (76, o_ald 0 1), (77, o_getf 6 39), (80, o_ald 0 1), (81, o_getf 6 38), (84, o_ald 0 1), (85, o_getf 6 18), (88, o_ild 1 1), (89, o_iald), (90, o_iast), (91, o_ald 0 1), (92, o_dup), (93, o_getf 6 38), (96, o_push (.int 1) 1), (97, o_bin fun x y => x + y), (98, o_putf 6 38 jx_okI), (101, o_iinc 1 1), (104, o_goto 59), (107, o_ald 0 1), (108, o_getf 6 38), (111, o_iret)]
def K_102 : List (Nat × jx_O) := K_102_0 ++ (K_102_1)
/- 103: MoleculeRegistryModel.found(I)I -/
def K_103_0 : List (Nat × jx_O) := [(0, o_ald 0 1), (1, o_push (.int 0) 1), (2, o_putf 6 0 jx_okI), (5, o_ald 0 1), (6, o_getf 6 28), (9, o_ifne 33), (12, o_ild 1 1), (13, o_iflt 33), (16, o_ild 1 1), (17, o_ald 0 1), (18, o_getf 6 38), (21, o_ige 33), (24, o_ald 0 1), (25, o_getf 6 39), (28, o_ild 1 1), (29, o_iald), (30, o_goto 34), (33, o_push (.int 0) 1), (34, o_iret)]
def K_103 : List (Nat × jx_O) := K_103_0
/- 104: MoleculeRegistryModel.remove(I)I -/
def K_104_0 : List (Nat × jx_O) := [(0, o_ald 0 1), (1, o_getf 6 28), (4, o_ifeq 13), (7, o_ald 0 1), (8, o_push (.int 1) 1), (9, o_callv 6 74 1), (12, o_iret), (13, o_ald 0 1), (14, o_push (.int 0) 1), (15, o_putf 6 0 jx_okI), (18, o_ald 0 1), (19, o_ild 1 1), (20, o_callv 6 99 1), (23, o_ifge 28), (26, o_push (.int 0) 1), (27, o_iret), (28, o_ald 0 1), (29, o_push (.int 2) 1), (30, o_ild 1 1), (31, o_callv 6 97 2), (34, o_ifeq 41), (37, o_push (.int 1) 1), (38, o_goto 43), (41, o_push (.int (-2)) 2), (43, o_iret)]
def K_104 : List (Nat × jx_O) := K_104_0
/- 105: MoleculeRegistryModel.fail(I)Z -/
def K_105_0 : List (Nat × jx_O) := [(0, o_ald 0 1), (1, o_push (.int 0) 1), (2, o_putf 6 0 jx_okI), (5, o_ald 0 1), (6, o_getf 6 28), (9, o_ifne 21), (12, o_ild 1 1), (13, o_iflt 21), (16, o_ild 1 1), (17, o_push (.int 4) 1), (18, o_ile 23), (21, o_push (.int 0) 1), (22, o_zret), (23, o_ald 0 1), (24, o_ild 1 1), (25, o_putf 6 27 jx_okI), (28, o_push (.int 1) 1), (29, o_zret)]
def K_105 : List (Nat × jx_O) := K_105_0
/- 106: MoleculeRegistryModel.recover()I -/
def K_106_0 : List (Nat × jx_O) := [(0, o_ald 0 1), (1, o_push (.int 0) 1), (2, o_putf 6 0 jx_okI), (5, o_ald 0 1), (6, o_getf 6 28), (9, o_ifne 14), (12, o_push (.int (-1)) 1), (13, o_iret), (14, o_ald 0 1), (15, o_push (.int 0) 1), (16, o_putf 6 28 jx_okZ), (19, o_ald 0 1), (20, o_push (.int 0) 1), (21, o_putf 6 38 jx_okI), (24, o_ald 0 1), (25, o_getf 6 29), (28, o_ifne 33), (31, o_push (.int 0) 1), (32, o_iret), (33, o_ald 0 1), (34, o_getf 6 31), (37, o_ifne 44), (40, o_ald 0 1), (41, o_callv 6 98 0), (44, o_ald 0 1), (45, o_push (.int 0) 1), (46, o_putf 6 29 jx_okI), (49, o_push (.int 1) 1), (50, o_iret)]
def K_106 : List (Nat × jx_O) := K_106_0
/- 107: MoleculeRegistryModel.count()I -/
def K_107_0 : List (Nat × jx_O) := [(0, o_ald 0 1), (1, o_push (.int 0) 1), (2, o_putf 6 0 jx_okI), (5, o_ald 0 1), (6, o_getf 6 28), (9, o_ifeq 16), (12, o_push (.int (-1)) 1), (13, o_goto 20), (16, o_ald 0 1), (17, o_getf 6 16), (20, o_iret)]
def K_107 : List (Nat × jx_O) := K_107_0
/- 108: MoleculeRegistryModel.atoms(I)I -/
def K_108_0 : List (Nat × jx_O) := [(0, o_ald 0 1), (1, o_push (.int 0) 1), (2, o_putf 6 0 jx_okI), (5, o_ald 0 1), (6, o_ild 1 1), (7, o_callv 6 99 1), (10, o_ist 2 1), (11, o_ald 0 1), (12, o_getf 6 28), (15, o_ifne 22), (18, o_ild 2 1), (19, o_ifge 26), (22, o_push (.int 0) 1), (23, o_goto 32), (26, o_ald 0 1), (27, o_getf 6 19), (30, o_ild 2 1), (31, o_iald), (32, o_iret)]
def K_108 : List (Nat × jx_O) := K_108_0
/- 109: MoleculeRegistryModel.atom(II)I -/
def K_109_0 : List (Nat × jx_O) := [(0, o_ald 0 1), (1, o_push (.int 0) 1), (2, o_putf 6 0 jx_okI), (5, o_ald 0 1), (6, o_ild 1 1), (7, o_callv 6 99 1), (10, o_ist 3 1), (11, o_ald 0 1), (12, o_getf 6 28), (15, o_ifne 36), (18, o_ild 3 1), (19, o_iflt 36), (22, o_ild 2 1), (23, o_iflt 36), (26, o_ild 2 1), (27, o_ald 0 1), (28, o_getf 6 19), (31, o_ild 3 1), (32, o_iald), (33, o_ilt 38), (36, o_push (.int 0) 1), (37, o_iret), (38, o_push (.int 10) 2), (40, o_ild 3 1), (41, o_bin fun x y => x * y), (42, o_ild 2 1), (43, o_bin fun x y => x + y), (44, o_ist 4 2), (46, o_ald 0 1), (47, o_getf 6 20), (50, o_ild 4 2), (52, o_iald), (53, o_ald 0 1), (54, o_getf 6 21), (57, o_ild 4 2), (59, o_xald 2), (60, o_ifeq 69), (63, o_push (.int 128) 3), (66, o_goto 70), (69, o_push (.int 0) 1)]
def K_109_1 : List (Nat × jx_O) := [(70, o_bin fun x y => x + y), (71, o_push (.int 256) 3), (74, o_ald 0 1), (75, o_getf 6 22), (78, o_ild 4 2), (80, o_iald), (81, o_bin fun x y => x * y), (82, o_bin fun x y => x + y), (83, o_push (.int 4096) 3), (86, o_ald 0 1), (87, o_getf 6 23), (90, o_ild 4 2), (92, o_iald), (93, o_push (.int 1) 1), (94, o_bin fun x y => x + y), (95, o_bin fun x y => x * y), (96, o_bin fun x y => x + y), (97, o_iret)]
def K_109 : List (Nat × jx_O) := K_109_0 ++ (K_109_1)
/- 110: MoleculeRegistryModel.bond(III)I -/
def K_110_0 : List (Nat × jx_O) := [(0, o_ald 0 1), (1, o_push (.int 0) 1), (2, o_putf 6 0 jx_okI), (5, o_ald 0 1), (6, o_ild 1 1), (7, o_callv 6 99 1), (10, o_ist 4 2), (12, o_ald 0 1), (13, o_getf 6 28), (16, o_ifne 54), (19, o_ild 4 2), (21, o_iflt 54), (24, o_ild 2 1), (25, o_iflt 54), (28, o_ild 2 1), (29, o_ald 0 1), (30, o_getf 6 19), (33, o_ild 4 2), (35, o_iald), (36, o_ige 54), (39, o_ild 3 1), (40, o_iflt 54), (43, o_ild 3 1), (44, o_ald 0 1), (45, o_getf 6 19), (48, o_ild 4 2), (50, o_iald), (51, o_ilt 56), (54, o_push (.int 0) 1), (55, o_iret), (56, o_ald 0 1), (57, o_getf 6 24), (60, o_push (.int 100) 2), (62, o_ild 4 2), (64, o_bin fun x y => x * y), (65, o_push (.int 10) 2), (67, o_ild 2 1), (68, o_bin fun x y => x * y), (69, o_bin fun x y => x + y), (70, o_ild 3 1)]
def K_110_1 : List (Nat × jx_O) := [(71, o_bin fun x y => x + y), (72, o_iald), (73, o_iret)]
def K_110 : List (Nat × jx_O) := K_110_0 ++ (K_110_1)
/- 111: MoleculeRegistry$Chemistry.settle(LMoleculeRegistry$Graph;[I)Z -/
def K_111_0 : List (Nat × jx_O) := [(0, o_push (.int 0) 1), (1, o_ist 2 1), (2, o_ild 2 1), (3, o_ald 0 1), (4, o_getf 0 3), (7, o_ige 78), (10, o_ald 0 1), (11, o_getf 0 0), (14, o_ild 2 1), (15, o_iald), (16, o_call 112 1), (19, o_ald 0 1), (20, o_ild 2 1), (21, o_call 113 2), (24, o_bin fun x y => x - y), (25, o_ist 3 1), (26, o_ald 1 1), (27, o_ild 2 1), (28, o_iald), (29, o_push (.int (-1)) 1), (30, o_ieq 40), (33, o_ald 1 1), (34, o_ild 2 1), (35, o_iald), (36, o_ild 3 1), (37, o_ine 44), (40, o_push (.int 1) 1), (41, o_goto 45), (44, o_push (.int 0) 1), (45, o_ist 4 2), (47, o_ild 3 1), (48, o_iflt 56), (51, o_ild 4 2), (53, o_ifne 58), (56, o_push (.int 0) 1), (57, o_zret), (58, o_ald 0 1), (59, o_getf 0 0), (62, o_ild 2 1), (63, o_dup2)]
def K_111_1 : List (Nat × jx_O) := [(64, o_iald), (65, o_push (.int 256) 3), (68, o_ild 3 1), (69, o_bin fun x y => x * y), (70, o_bin fun x y => x + y), (71, o_iast), (72, o_iinc 2 1), (75, o_goto 2), (78, o_ald 0 1), (79, o_push (.int 0) 1), (80, o_ald 0 1), (81, o_call 115 1), (84, o_call 116 3), (87, o_zret)]
def K_111 : List (Nat × jx_O) := K_111_0 ++ (K_111_1)
/- 112: MoleculeRegistry$Chemistry.capacity(I)I -/
def K_112_0 : List (Nat × jx_O) := [(0, o_push (.ref 2) 2), (2, o_ild 0 1), (3, o_push (.int 127) 2), (5, o_bin fun x y => x &&& y), (6, o_un fun x => (x.toUInt32 % 65536).toInt32), (7, o_callv 200 125 1), (10, o_ist 1 1), (11, o_ild 1 1), (12, o_ifge 19), (15, o_push (.int 0) 1), (16, o_goto 24), (19, o_push (.ref 1) 3), (22, o_ild 1 1), (23, o_iald), (24, o_ist 2 1), (25, o_ild 0 1), (26, o_push (.int 12288) 3), (29, o_bin fun x y => x &&& y), (30, o_ist 3 1), (31, o_ild 3 1), (32, o_push (.int 4096) 3), (35, o_ine 40), (38, o_ild 2 1), (39, o_iret), (40, o_ild 3 1), (41, o_push (.int 8192) 3), (44, o_ine 62), (47, o_ild 0 1), (48, o_push (.int 127) 2), (50, o_bin fun x y => x &&& y), (51, o_push (.int 67) 2), (53, o_ieq 62), (56, o_ild 2 1), (57, o_push (.int 1) 1), (58, o_bin fun x y => x + y), (59, o_goto 65), (62, o_ild 2 1), (63, o_push (.int 1) 1), (64, o_bin fun x y => x - y), (65, o_iret)]
def K_112 : List (Nat × jx_O) := K_112_0
/- 113: MoleculeRegistry$Chemistry.orders(LMoleculeRegistry$Graph;I)I -/
def K_113_0 : List (Nat × jx_O) := [(0, o_ald 0 1), (1, o_ild 1 1), (2, o_push (.int 4) 1), (3, o_callv 0 9 2), (6, o_ist 2 1), (7, o_ild 2 1), (8, o_ifle 27), (11, o_ald 0 1), (12, o_getf 0 0), (15, o_ild 1 1), (16, o_iald), (17, o_call 114 1), (20, o_ifeq 27), (23, o_push (.int 1) 1), (24, o_goto 28), (27, o_push (.int 0) 1), (28, o_ist 3 1), (29, o_ald 0 1), (30, o_ild 1 1), (31, o_push (.int 1) 1), (32, o_callv 0 9 2), (35, o_push (.int 2) 1), (36, o_ald 0 1), (37, o_ild 1 1), (38, o_push (.int 2) 1), (39, o_callv 0 9 2), (42, o_bin fun x y => x * y), (43, o_bin fun x y => x + y), (44, o_push (.int 3) 1), (45, o_ald 0 1), (46, o_ild 1 1), (47, o_push (.int 3) 1), (48, o_callv 0 9 2), (51, o_bin fun x y => x * y), (52, o_bin fun x y => x + y), (53, o_ild 2 1), (54, o_bin fun x y => x + y), (55, o_ild 3 1), (56, o_bin fun x y => x + y), (57, o_iret)]
def K_113 : List (Nat × jx_O) := K_113_0
/- 114: MoleculeRegistry$Chemistry.pairs(I)Z -/
def K_114_0 : List (Nat × jx_O) := [(0, o_ild 0 1), (1, o_push (.int 127) 2), (3, o_bin fun x y => x &&& y), (4, o_ist 1 1), (5, o_ild 0 1), (6, o_push (.int 128) 3), (9, o_bin fun x y => x &&& y), (10, o_ifeq 29), (13, o_ild 1 1), (14, o_push (.int 67) 2), (16, o_ieq 25), (19, o_ild 1 1), (20, o_push (.int 78) 2), (22, o_ine 29), (25, o_push (.int 1) 1), (26, o_goto 30), (29, o_push (.int 0) 1), (30, o_zret)]
def K_114 : List (Nat × jx_O) := K_114_0
/- 115: MoleculeRegistry$Chemistry.pairing(LMoleculeRegistry$Graph;)I -/
def K_115_0 : List (Nat × jx_O) := [(0, o_push (.int 0) 1), (1, o_ist 1 1), (2, o_push (.int 0) 1), (3, o_ist 2 1), (4, o_ild 2 1), (5, o_ald 0 1), (6, o_getf 0 3), (9, o_ige 36), (12, o_ald 0 1), (13, o_getf 0 0), (16, o_ild 2 1), (17, o_iald), (18, o_call 114 1), (21, o_ifeq 30), (24, o_ild 1 1), (25, o_push (.int 1) 1), (26, o_ild 2 1), (27, o_bin fun x y => x <<< (y &&& 31)), (28, o_bin fun x y => x ||| y), (29, o_ist 1 1), (30, o_iinc 2 1), (33, o_goto 4), (36, o_ild 1 1), (37, o_iret)]
def K_115 : List (Nat × jx_O) := K_115_0
/- 116: MoleculeRegistry$Chemistry.canPair(LMoleculeRegistry$Graph;II)Z -/
def K_116_0 : List (Nat × jx_O) := [(0, o_ild 1 1), (1, o_ald 0 1), (2, o_getf 0 3), (5, o_ilt 10), (8, o_push (.int 1) 1), (9, o_zret), (10, o_ild 2 1), (11, o_ild 1 1), (12, o_bin fun x y => x >>> (y &&& 31)), (13, o_push (.int 1) 1), (14, o_bin fun x y => x &&& y), (15, o_ifne 27), (18, o_ald 0 1), (19, o_ild 1 1), (20, o_push (.int 1) 1), (21, o_bin fun x y => x + y), (22, o_ild 2 1), (23, o_call 116 3), (26, o_zret), (27, o_ild 2 1), (28, o_push (.int 1) 1), (29, o_ild 1 1), (30, o_bin fun x y => x <<< (y &&& 31)), (31, o_push (.int (-1)) 1), (32, o_bin fun x y => x ^^^ y), (33, o_bin fun x y => x &&& y), (34, o_ist 3 1), (35, o_ild 3 1), (36, o_ald 0 1), (37, o_ild 1 1), (38, o_push (.int 4) 1), (39, o_callv 0 10 2), (42, o_bin fun x y => x &&& y), (43, o_ist 4 2), (45, o_ild 1 1), (46, o_push (.int 1) 1), (47, o_bin fun x y => x + y), (48, o_ist 5 2), (50, o_ild 5 2), (52, o_ald 0 1)]
def K_116_1 : List (Nat × jx_O) := [(53, o_getf 0 3), (56, o_ige 95), (59, o_ild 4 2), (61, o_ild 5 2), (63, o_bin fun x y => x >>> (y &&& 31)), (64, o_push (.int 1) 1), (65, o_bin fun x y => x &&& y), (66, o_ifeq 89), (69, o_ald 0 1), (70, o_ild 1 1), (71, o_push (.int 1) 1), (72, o_bin fun x y => x + y), (73, o_ild 3 1), (74, o_push (.int 1) 1), (75, o_ild 5 2), (77, o_bin fun x y => x <<< (y &&& 31)), (78, o_push (.int (-1)) 1), (79, o_bin fun x y => x ^^^ y), (80, o_bin fun x y => x &&& y), (81, o_call 116 3), (84, o_ifeq 89), (87, o_push (.int 1) 1), (88, o_zret), (89, o_iinc 5 1), (92, o_goto 50), (95, o_push (.int 0) 1), (96, o_zret)]
def K_116 : List (Nat × jx_O) := K_116_0 ++ (K_116_1)
/- 117: MoleculeRegistryLaw.register(LMoleculeRegistry;[J)I -/
def K_117_0 : List (Nat × jx_O) := [(0, o_ald 1 1), (1, o_push (.int 0) 1), (2, o_ald 0 1), (3, o_callv 5 61 0), (6, o_i2l), (7, o_last), (8, o_goto 26), (11, o_ast 2 1), (12, o_push (.int 1) 1), (13, o_iret), (14, o_ast 2 1), (15, o_push (.int 2) 1), (16, o_iret), (17, o_ast 2 1), (18, o_push (.int 3) 1), (19, o_iret), (20, o_ast 2 1), (21, o_push (.int 4) 1), (22, o_iret), (23, o_ast 2 1), (24, o_push (.int 5) 1), (25, o_iret), (26, o_push (.int 0) 1), (27, o_iret)]
def K_117 : List (Nat × jx_O) := K_117_0
/- 118: MoleculeRegistryLaw.lookup(LMoleculeRegistry;[J)I -/
def K_118_0 : List (Nat × jx_O) := [(0, o_ald 1 1), (1, o_push (.int 0) 1), (2, o_ald 0 1), (3, o_callv 5 66 0), (6, o_i2l), (7, o_last), (8, o_goto 23), (11, o_ast 2 1), (12, o_push (.int 1) 1), (13, o_iret), (14, o_ast 2 1), (15, o_push (.int 2) 1), (16, o_iret), (17, o_ast 2 1), (18, o_push (.int 3) 1), (19, o_iret), (20, o_ast 2 1), (21, o_push (.int 4) 1), (22, o_iret), (23, o_push (.int 0) 1), (24, o_iret)]
def K_118 : List (Nat × jx_O) := K_118_0
/- 119: MoleculeRegistryLaw.search(LMoleculeRegistry;[J)I -/
def K_119_0 : List (Nat × jx_O) := [(0, o_ald 1 1), (1, o_push (.int 0) 1), (2, o_ald 0 1), (3, o_callv 5 67 0), (6, o_i2l), (7, o_last), (8, o_goto 20), (11, o_ast 2 1), (12, o_push (.int 1) 1), (13, o_iret), (14, o_ast 2 1), (15, o_push (.int 2) 1), (16, o_iret), (17, o_ast 2 1), (18, o_push (.int 3) 1), (19, o_iret), (20, o_push (.int 0) 1), (21, o_iret)]
def K_119 : List (Nat × jx_O) := K_119_0
/- 120: MoleculeRegistryLaw.remove(LMoleculeRegistry;I[J)I -/
def K_120_0 : List (Nat × jx_O) := [(0, o_ald 2 1), (1, o_push (.int 0) 1), (2, o_ald 0 1), (3, o_ild 1 1), (4, o_callv 5 68 1), (7, o_i2l), (8, o_last), (9, o_goto 15), (12, o_ast 3 1), (13, o_push (.int 1) 1), (14, o_iret), (15, o_push (.int 0) 1), (16, o_iret)]
def K_120 : List (Nat × jx_O) := K_120_0
/- 121: java/lang/Math.min(II)I -/
def K_121_0 : List (Nat × jx_O) := [(0, o_ild 0 1), (1, o_ild 1 1), (2, o_igt 9), (5, o_ild 0 1), (6, o_goto 10), (9, o_ild 1 1), (10, o_iret)]
def K_121 : List (Nat × jx_O) := K_121_0
/- 122: java/lang/Math.max(II)I -/
def K_122_0 : List (Nat × jx_O) := [(0, o_ild 0 1), (1, o_ild 1 1), (2, o_ilt 9), (5, o_ild 0 1), (6, o_goto 10), (9, o_ild 1 1), (10, o_iret)]
def K_122 : List (Nat × jx_O) := K_122_0
/- 123: java/util/Arrays.fill([II)V -/
def K_123_0 : List (Nat × jx_O) := [(0, o_push (.int 0) 1), (1, o_ist 2 1), (2, o_ald 0 1), (3, o_alen), (4, o_ist 3 1), (5, o_ild 2 1), (6, o_ild 3 1), (7, o_ige 20), (10, o_ald 0 1), (11, o_ild 2 1), (12, o_ild 1 1), (13, o_iast), (14, o_iinc 2 1), (17, o_goto 5), (20, o_ret)]
def K_123 : List (Nat × jx_O) := K_123_0
/- 124: java/lang/Integer.bitCount(I)I -/
def K_124_0 : List (Nat × jx_O) := [(0, o_ild 0 1), (1, o_ild 0 1), (2, o_push (.int 1) 1), (3, o_bin fun x y => (x.toUInt32 >>> (y.toUInt32 &&& Int32.toUInt32 31)).toInt32), (4, o_push (.int 1431655765) 3), (7, o_bin fun x y => x &&& y), (8, o_bin fun x y => x - y), (9, o_ist 0 1), (10, o_ild 0 1), (11, o_push (.int 858993459) 3), (14, o_bin fun x y => x &&& y), (15, o_ild 0 1), (16, o_push (.int 2) 1), (17, o_bin fun x y => (x.toUInt32 >>> (y.toUInt32 &&& Int32.toUInt32 31)).toInt32), (18, o_push (.int 858993459) 3), (21, o_bin fun x y => x &&& y), (22, o_bin fun x y => x + y), (23, o_ist 0 1), (24, o_ild 0 1), (25, o_ild 0 1), (26, o_push (.int 4) 1), (27, o_bin fun x y => (x.toUInt32 >>> (y.toUInt32 &&& Int32.toUInt32 31)).toInt32), (28, o_bin fun x y => x + y), (29, o_push (.int 252645135) 3), (32, o_bin fun x y => x &&& y), (33, o_ist 0 1), (34, o_ild 0 1), (35, o_ild 0 1), (36, o_push (.int 8) 2), (38, o_bin fun x y => (x.toUInt32 >>> (y.toUInt32 &&& Int32.toUInt32 31)).toInt32), (39, o_bin fun x y => x + y), (40, o_ist 0 1), (41, o_ild 0 1), (42, o_ild 0 1), (43, o_push (.int 16) 2), (45, o_bin fun x y => (x.toUInt32 >>> (y.toUInt32 &&& Int32.toUInt32 31)).toInt32), (46, o_bin fun x y => x + y), (47, o_ist 0 1), (48, o_ild 0 1), (49, o_push (.int 63) 2)]
def K_124_1 : List (Nat × jx_O) := [(51, o_bin fun x y => x &&& y), (52, o_iret)]
def K_124 : List (Nat × jx_O) := K_124_0 ++ (K_124_1)
/- 125: java/lang/String.indexOf(I)I -/
def K_125_0 : List (Nat × jx_O) := [(0, o_ald 0 1), (1, o_ild 1 1), (2, o_push (.int 0) 1), (3, o_callv 200 126 2), (6, o_iret)]
def K_125 : List (Nat × jx_O) := K_125_0
/- 126: java/lang/String.indexOf(II)I -/
def K_126_0 : List (Nat × jx_O) := [(0, o_ald 0 1), (1, o_callv 200 127 0), (4, o_ifeq 23), (7, o_ald 0 1), (8, o_getf 200 0), (11, o_ild 1 1), (12, o_ild 2 1), (13, o_ald 0 1), (14, o_callv 200 128 0), (17, o_call 131 4), (20, o_goto 36), (23, o_ald 0 1), (24, o_getf 200 0), (27, o_ild 1 1), (28, o_ild 2 1), (29, o_ald 0 1), (30, o_callv 200 128 0), (36, o_iret)]
def K_126 : List (Nat × jx_O) := K_126_0
/- 127: java/lang/String.isLatin1()Z -/
def K_127_0 : List (Nat × jx_O) := [(0, o_push (.int 1) 3), (3, o_ifeq 17), (6, o_ald 0 1), (7, o_getf 200 1), (10, o_ifne 17), (13, o_push (.int 1) 1), (14, o_goto 18), (17, o_push (.int 0) 1), (18, o_zret)]
def K_127 : List (Nat × jx_O) := K_127_0
/- 128: java/lang/String.length()I -/
def K_128_0 : List (Nat × jx_O) := [(0, o_ald 0 1), (1, o_getf 200 0), (4, o_alen), (5, o_ald 0 1), (6, o_callv 200 129 0), (9, o_bin fun x y => x >>> (y &&& 31)), (10, o_iret)]
def K_128 : List (Nat × jx_O) := K_128_0
/- 129: java/lang/String.coder()B -/
def K_129_0 : List (Nat × jx_O) := [(0, o_push (.int 1) 3), (3, o_ifeq 13), (6, o_ald 0 1), (7, o_getf 200 1), (10, o_goto 14), (13, o_push (.int 1) 1), (14, o_bret)]
def K_129 : List (Nat × jx_O) := K_129_0
/- 130: java/lang/StringLatin1.canEncode(I)Z -/
def K_130_0 : List (Nat × jx_O) := [(0, o_ild 0 1), (1, o_iflt 15), (4, o_ild 0 1), (5, o_push (.int 255) 3), (8, o_igt 15), (11, o_push (.int 1) 1), (12, o_goto 16), (15, o_push (.int 0) 1), (16, o_zret)]
def K_130 : List (Nat × jx_O) := K_130_0
/- 131: java/lang/StringLatin1.indexOf([BIII)I -/
def K_131_0 : List (Nat × jx_O) := [(0, o_ild 1 1), (1, o_call 130 1), (4, o_ifne 9), (7, o_push (.int (-1)) 1), (8, o_iret), (9, o_ild 2 1), (10, o_push (.int 0) 1), (11, o_call 122 2), (14, o_ist 2 1), (15, o_ild 3 1), (16, o_ald 0 1), (17, o_alen), (18, o_call 121 2), (21, o_ist 3 1), (22, o_ild 2 1), (23, o_ild 3 1), (24, o_ilt 29), (27, o_push (.int (-1)) 1), (28, o_iret), (29, o_ald 0 1), (30, o_ild 1 1), (31, o_ild 2 1), (32, o_ild 3 1), (33, o_call 132 4), (36, o_iret)]
def K_131 : List (Nat × jx_O) := K_131_0
/- 132: java/lang/StringLatin1.indexOfChar([BIII)I -/
def K_132_0 : List (Nat × jx_O) := [(0, o_ild 1 1), (1, o_un fun x => x.toInt8.toInt32), (2, o_ist 4 2), (4, o_ild 2 1), (5, o_ist 5 2), (7, o_ild 5 2), (9, o_ild 3 1), (10, o_ige 31), (13, o_ald 0 1), (14, o_ild 5 2), (16, o_bald), (17, o_ild 4 2), (19, o_ine 25), (22, o_ild 5 2), (24, o_iret), (25, o_iinc 5 1), (28, o_goto 7), (31, o_push (.int (-1)) 1), (32, o_iret)]
def K_132 : List (Nat × jx_O) := K_132_0
def jx_Ks : List (List (Nat × jx_O)) := [K_0, K_1, K_2, K_3, K_4, K_5, K_6, K_7, K_8, K_9, K_10, K_11, K_12, K_13, K_14, K_15, K_16, K_17, K_18, K_19, K_20, K_21, K_22, K_23, K_24, K_25, K_26, K_27, K_28, K_29, K_30, K_31, K_32, K_33, K_34, K_35, K_36, K_37, K_38, K_39, K_40, K_41, K_42, K_43, K_44, K_45, K_46, K_47, K_48, K_49, K_50, K_51, K_52, K_53, K_54, K_55, K_56, K_57, K_58, K_59, K_60, K_61, K_62, K_63, K_64, K_65, K_66, K_67, K_68, K_69, K_70, K_71, K_72, K_73, K_74, K_75, K_76, K_77, K_78, K_79, K_80, K_81, K_82, K_83, K_84, K_85, K_86, K_87, K_88, K_89, K_90, K_91, K_92, K_93, K_94, K_95, K_96, K_97, K_98, K_99, K_100, K_101, K_102, K_103, K_104, K_105, K_106, K_107, K_108, K_109, K_110, K_111, K_112, K_113, K_114, K_115, K_116, K_117, K_118, K_119, K_120, K_121, K_122, K_123, K_124, K_125, K_126, K_127, K_128, K_129, K_130, K_131, K_132]
def jx_lk : List (Nat × jx_O) → Nat → Option jx_O
  | [], _ => none
  | (q, o) :: t, pc => if q = pc then some o else jx_lk t pc
def jx_cd (mi pc : Nat) : Option jx_O := jx_lk (jx_Ks.getD mi []) pc
abbrev jx_PR : jx_P := (jx_ml, jx_hs, jx_cd)
end
section
/-! printed by wip/whole/gen.py: each operation is what its instruction does -/
section JT
variable {D : va_G} {c0 c1 c2 c3 c4 : ClassId} {H0 : Heap} {ga : Nat → Nat} {gl : Nat → jx_C} {G : State → Prop}
def dl_0 : List (Nat × Instr × Nat) := [(0, .new 8, 3), (3, .dup, 1), (4, .invokespecial 33, 3), (7, .astore_n 1, 1), (8, .new 34, 3), (11, .dup, 1), (12, .invokespecial 36, 3), (15, .astore_n 2, 1), (16, .iconst 1, 1), (17, .newarray .long, 2), (19, .astore_n 3, 1), (20, .iconst 0, 1), (21, .istore 4, 2), (23, .iload 4, 2), (25, .aload_n 0, 1), (26, .arraylength, 1), (27, .iconst 4, 1), (28, .isub, 1), (29, .if_icmp .gt 524, 3), (32, .aload_n 0, 1), (33, .iload 4, 2), (35, .iaload, 1), (36, .bipush 15, 2), (38, .iand, 1), (39, .tableswitch 508 0 12 #[65, 122, 133, 177, 221, 265, 290, 346, 371, 384, 397, 422, 459], 65), (104, .aload_n 1, 1), (105, .aload_n 0, 1), (106, .iload 4, 2), (108, .iconst 1, 1), (109, .iadd, 1), (110, .iaload, 1), (111, .i2l, 1), (112, .bipush 32, 2), (114, .lshl, 1), (115, .aload_n 0, 1), (116, .iload 4, 2), (118, .iconst 2, 1), (119, .iadd, 1), (120, .iaload, 1), (121, .i2l, 1), (122, .ldc2_w 37, 3), (125, .land, 1), (126, .lor, 1), (127, .invokevirtual 39, 3), (130, .aload_n 2, 1), (131, .aload_n 0, 1), (132, .iload 4, 2), (134, .iconst 1, 1), (135, .iadd, 1), (136, .iaload, 1), (137, .i2l, 1), (138, .bipush 32, 2), (140, .lshl, 1), (141, .aload_n 0, 1), (142, .iload 4, 2), (144, .iconst 2, 1), (145, .iadd, 1), (146, .iaload, 1), (147, .i2l, 1), (148, .ldc2_w 37, 3), (151, .land, 1), (152, .lor, 1), (153, .invokevirtual 43, 3), (156, .if_icmp .eq 391, 3), (159, .iconst 0, 1), (160, .ireturn, 1), (161, .aload_n 1, 1), (162, .invokevirtual 44, 3), (165, .aload_n 2, 1), (166, .invokevirtual 47, 3), (169, .goto 378, 3), (172, .aload_n 1, 1), (173, .aload_n 3, 1), (174, .invokestatic 48, 3), (177, .istore 5, 2), (179, .aload_n 2, 1), (180, .invokevirtual 53, 3), (183, .istore 6, 2), (185, .aload_n 2, 1), (186, .invokevirtual 54, 3), (189, .iload 5, 2), (191, .if_icmp .eq 5, 3), (194, .iconst 0, 1), (195, .ireturn, 1), (196, .iload 5, 2), (198, .ifCond .ne 15, 3), (201, .aload_n 3, 1), (202, .iconst 0, 1), (203, .laload, 1), (204, .iload 6, 2), (206, .i2l, 1), (207, .lcmp, 1), (208, .ifCond .eq 5, 3), (211, .iconst 0, 1), (212, .ireturn, 1), (213, .goto 334, 3), (216, .aload_n 1, 1), (217, .aload_n 3, 1), (218, .invokestatic 57, 3), (221, .istore 5, 2), (223, .aload_n 2, 1), (224, .invokevirtual 59, 3), (227, .istore 6, 2), (229, .aload_n 2, 1), (230, .invokevirtual 54, 3), (233, .iload 5, 2), (235, .if_icmp .eq 5, 3), (238, .iconst 0, 1), (239, .ireturn, 1), (240, .iload 5, 2), (242, .ifCond .ne 15, 3), (245, .aload_n 3, 1), (246, .iconst 0, 1), (247, .laload, 1), (248, .iload 6, 2), (250, .i2l, 1), (251, .lcmp, 1), (252, .ifCond .eq 5, 3), (255, .iconst 0, 1), (256, .ireturn, 1), (257, .goto 290, 3), (260, .aload_n 1, 1), (261, .aload_n 3, 1), (262, .invokestatic 60, 3), (265, .istore 5, 2), (267, .aload_n 2, 1), (268, .invokevirtual 62, 3), (271, .istore 6, 2), (273, .aload_n 2, 1), (274, .invokevirtual 54, 3), (277, .iload 5, 2), (279, .if_icmp .eq 5, 3), (282, .iconst 0, 1), (283, .ireturn, 1), (284, .iload 5, 2), (286, .ifCond .ne 15, 3), (289, .aload_n 3, 1), (290, .iconst 0, 1), (291, .laload, 1), (292, .iload 6, 2), (294, .i2l, 1), (295, .lcmp, 1), (296, .ifCond .eq 5, 3), (299, .iconst 0, 1), (300, .ireturn, 1), (301, .goto 246, 3), (304, .aload_n 1, 1), (305, .aload_n 0, 1), (306, .iload 4, 2), (308, .iconst 1, 1), (309, .iadd, 1), (310, .iaload, 1), (311, .invokevirtual 63, 3), (314, .aload_n 2, 1), (315, .aload_n 0, 1), (316, .iload 4, 2), (318, .iconst 1, 1), (319, .iadd, 1), (320, .iaload, 1), (321, .invokevirtual 66, 3), (324, .if_icmp .eq 223, 3), (327, .iconst 0, 1), (328, .ireturn, 1), (329, .aload_n 1, 1), (330, .aload_n 0, 1), (331, .iload 4, 2), (333, .iconst 1, 1), (334, .iadd, 1), (335, .iaload, 1), (336, .aload_n 3, 1), (337, .invokestatic 67, 3), (340, .istore 5, 2), (342, .aload_n 2, 1), (343, .aload_n 0, 1), (344, .iload 4, 2), (346, .iconst 1, 1), (347, .iadd, 1), (348, .iaload, 1), (349, .invokevirtual 70, 3), (352, .istore 6, 2), (354, .aload_n 2, 1), (355, .invokevirtual 54, 3), (358, .iload 5, 2), (360, .if_icmp .eq 5, 3), (363, .iconst 0, 1), (364, .ireturn, 1), (365, .iload 5, 2), (367, .ifCond .ne 15, 3), (370, .aload_n 3, 1), (371, .iconst 0, 1), (372, .laload, 1), (373, .iload 6, 2), (375, .i2l, 1), (376, .lcmp, 1), (377, .ifCond .eq 5, 3), (380, .iconst 0, 1), (381, .ireturn, 1), (382, .goto 165, 3), (385, .aload_n 1, 1), (386, .aload_n 0, 1), (387, .iload 4, 2), (389, .iconst 1, 1), (390, .iadd, 1), (391, .iaload, 1), (392, .invokevirtual 71, 3), (395, .aload_n 2, 1), (396, .aload_n 0, 1), (397, .iload 4, 2), (399, .iconst 1, 1), (400, .iadd, 1), (401, .iaload, 1), (402, .invokevirtual 75, 3), (405, .if_icmp .eq 142, 3), (408, .iconst 0, 1), (409, .ireturn, 1), (410, .aload_n 1, 1), (411, .invokevirtual 76, 3), (414, .aload_n 2, 1), (415, .invokevirtual 79, 3), (418, .if_icmp .eq 129, 3), (421, .iconst 0, 1), (422, .ireturn, 1), (423, .aload_n 1, 1), (424, .invokevirtual 80, 3), (427, .aload_n 2, 1), (428, .invokevirtual 83, 3), (431, .if_icmp .eq 116, 3), (434, .iconst 0, 1), (435, .ireturn, 1), (436, .aload_n 1, 1), (437, .aload_n 0, 1), (438, .iload 4, 2), (440, .iconst 1, 1), (441, .iadd, 1), (442, .iaload, 1), (443, .invokevirtual 84, 3), (446, .aload_n 2, 1), (447, .aload_n 0, 1), (448, .iload 4, 2), (450, .iconst 1, 1), (451, .iadd, 1), (452, .iaload, 1), (453, .invokevirtual 87, 3), (456, .if_icmp .eq 91, 3), (459, .iconst 0, 1), (460, .ireturn, 1), (461, .aload_n 1, 1), (462, .aload_n 0, 1), (463, .iload 4, 2), (465, .iconst 1, 1), (466, .iadd, 1), (467, .iaload, 1), (468, .aload_n 0, 1), (469, .iload 4, 2), (471, .iconst 2, 1), (472, .iadd, 1), (473, .iaload, 1), (474, .invokevirtual 88, 3), (477, .aload_n 2, 1), (478, .aload_n 0, 1), (479, .iload 4, 2), (481, .iconst 1, 1), (482, .iadd, 1), (483, .iaload, 1), (484, .aload_n 0, 1), (485, .iload 4, 2), (487, .iconst 2, 1), (488, .iadd, 1), (489, .iaload, 1), (490, .invokevirtual 92, 3), (493, .if_icmp .eq 54, 3), (496, .iconst 0, 1), (497, .ireturn, 1), (498, .aload_n 1, 1), (499, .aload_n 0, 1), (500, .iload 4, 2), (502, .iconst 1, 1), (503, .iadd, 1), (504, .iaload, 1), (505, .aload_n 0, 1), (506, .iload 4, 2), (508, .iconst 2, 1), (509, .iadd, 1), (510, .iaload, 1), (511, .aload_n 0, 1), (512, .iload 4, 2), (514, .iconst 3, 1), (515, .iadd, 1), (516, .iaload, 1), (517, .invokevirtual 93, 3), (520, .aload_n 2, 1), (521, .aload_n 0, 1), (522, .iload 4, 2), (524, .iconst 1, 1), (525, .iadd, 1), (526, .iaload, 1), (527, .aload_n 0, 1), (528, .iload 4, 2), (530, .iconst 2, 1), (531, .iadd, 1), (532, .iaload, 1), (533, .aload_n 0, 1), (534, .iload 4, 2), (536, .iconst 3, 1), (537, .iadd, 1), (538, .iaload, 1), (539, .invokevirtual 97, 3), (542, .if_icmp .eq 5, 3), (545, .iconst 0, 1), (546, .ireturn, 1), (547, .iinc 4 4, 3), (550, .goto (-527), 3), (553, .iconst 1, 1), (554, .ireturn, 1)]
theorem dd_0 : ∀ q ∈ dl_0, decode code q.1 = .ok q.2 := by decide +kernel
theorem A_0_0 : jx_All (jx_mk D c0 c1 c2 c3 c4 H0 ga gl G) jx_mt md_0 K_0_0 := by
  refine jx_ac (s_new kk_5 (jx_dc dd_0 0 rfl) w_0 w_1 w_2 rfl) ?_
  refine jx_ac (s_dup (jx_dc dd_0 1 rfl)) ?_
  refine jx_ac (s_calli (ce := 47) mc_47 w_4 (jx_dc dd_0 2 rfl) w_3 w_5 rfl ⟨by decide, by decide⟩ np_47) ?_
  refine jx_ac (s_astore_n (jx_dc dd_0 3 rfl) rfl) ?_
  refine jx_ac (s_new kk_6 (jx_dc dd_0 4 rfl) w_6 w_7 w_8 rfl) ?_
  refine jx_ac (s_dup (jx_dc dd_0 5 rfl)) ?_
  refine jx_ac (s_calli (ce := 69) mc_69 w_10 (jx_dc dd_0 6 rfl) w_9 w_11 rfl ⟨by decide, by decide⟩ np_69) ?_
  refine jx_ac (s_astore_n (jx_dc dd_0 7 rfl) rfl) ?_
  refine jx_ac (s_iconst (jx_dc dd_0 8 rfl) rfl) ?_
  refine jx_ac (s_newa (t := 3) (z := jx_zl) rfl rfl (Nat.le_of_ble_eq_true rfl) (jx_dc dd_0 9 rfl) w_12 (fun _ _ => rfl) (fun _ => rfl) (by decide) (fun _ _ h => h)) ?_
  refine jx_ac (s_astore_n (jx_dc dd_0 10 rfl) rfl) ?_
  refine jx_ac (s_iconst (jx_dc dd_0 11 rfl) rfl) ?_
  refine jx_ac (s_istore (jx_dc dd_0 12 rfl)) ?_
  refine jx_ac (s_iload (jx_dc dd_0 13 rfl)) ?_
  refine jx_ac (s_aload_n (jx_dc dd_0 14 rfl) rfl) ?_
  refine jx_ac (s_alen jx_mk_ty (jx_dc dd_0 15 rfl)) ?_
  refine jx_ac (s_iconst (jx_dc dd_0 16 rfl) rfl) ?_
  refine jx_ac (s_isub (jx_dc dd_0 17 rfl)) ?_
  refine jx_ac (s_igt (jx_dc dd_0 18 rfl) rfl) ?_
  refine jx_ac (s_aload_n (jx_dc dd_0 19 rfl) rfl) ?_
  refine jx_ac (s_iload (jx_dc dd_0 20 rfl)) ?_
  refine jx_ac (s_iald rfl (jx_dc dd_0 21 rfl)) ?_
  refine jx_ac (s_bipush (jx_dc dd_0 22 rfl) rfl) ?_
  refine jx_ac (s_iand (jx_dc dd_0 23 rfl)) ?_
  refine jx_ac (s_table (jx_dc dd_0 24 rfl) rfl rfl rfl rfl) ?_
  refine jx_ac (s_aload_n (jx_dc dd_0 25 rfl) rfl) ?_
  refine jx_ac (s_aload_n (jx_dc dd_0 26 rfl) rfl) ?_
  refine jx_ac (s_iload (jx_dc dd_0 27 rfl)) ?_
  refine jx_ac (s_iconst (jx_dc dd_0 28 rfl) rfl) ?_
  refine jx_ac (s_iadd (jx_dc dd_0 29 rfl)) ?_
  refine jx_ac (s_iald rfl (jx_dc dd_0 30 rfl)) ?_
  refine jx_ac (s_i2l (jx_dc dd_0 31 rfl)) ?_
  refine jx_ac (s_bipush (jx_dc dd_0 32 rfl) rfl) ?_
  refine jx_ac (s_lshl (jx_dc dd_0 33 rfl)) ?_
  refine jx_ac (s_aload_n (jx_dc dd_0 34 rfl) rfl) ?_
  refine jx_ac (s_iload (jx_dc dd_0 35 rfl)) ?_
  refine jx_ac (s_iconst (jx_dc dd_0 36 rfl) rfl) ?_
  refine jx_ac (s_iadd (jx_dc dd_0 37 rfl)) ?_
  refine jx_ac (s_iald rfl (jx_dc dd_0 38 rfl)) ?_
  refine jx_ac (s_i2l (jx_dc dd_0 39 rfl)) ?_
  exact jx_an
theorem A_0_1 : jx_All (jx_mk D c0 c1 c2 c3 c4 H0 ga gl G) jx_mt md_0 K_0_1 := by
  refine jx_ac (s_ldc2 (jx_dc dd_0 40 rfl) w_13) ?_
  refine jx_ac (s_land (jx_dc dd_0 41 rfl)) ?_
  refine jx_ac (s_lor (jx_dc dd_0 42 rfl)) ?_
  refine jx_ac (s_callv (ce := 48) kk_5 mc_48 (jx_dc dd_0 43 rfl) w_14 w_15 w_16 ⟨by decide, by decide⟩ np_48) ?_
  refine jx_ac (s_aload_n (jx_dc dd_0 44 rfl) rfl) ?_
  refine jx_ac (s_aload_n (jx_dc dd_0 45 rfl) rfl) ?_
  refine jx_ac (s_iload (jx_dc dd_0 46 rfl)) ?_
  refine jx_ac (s_iconst (jx_dc dd_0 47 rfl) rfl) ?_
  refine jx_ac (s_iadd (jx_dc dd_0 48 rfl)) ?_
  refine jx_ac (s_iald rfl (jx_dc dd_0 49 rfl)) ?_
  refine jx_ac (s_i2l (jx_dc dd_0 50 rfl)) ?_
  refine jx_ac (s_bipush (jx_dc dd_0 51 rfl) rfl) ?_
  refine jx_ac (s_lshl (jx_dc dd_0 52 rfl)) ?_
  refine jx_ac (s_aload_n (jx_dc dd_0 53 rfl) rfl) ?_
  refine jx_ac (s_iload (jx_dc dd_0 54 rfl)) ?_
  refine jx_ac (s_iconst (jx_dc dd_0 55 rfl) rfl) ?_
  refine jx_ac (s_iadd (jx_dc dd_0 56 rfl)) ?_
  refine jx_ac (s_iald rfl (jx_dc dd_0 57 rfl)) ?_
  refine jx_ac (s_i2l (jx_dc dd_0 58 rfl)) ?_
  refine jx_ac (s_ldc2 (jx_dc dd_0 59 rfl) w_13) ?_
  refine jx_ac (s_land (jx_dc dd_0 60 rfl)) ?_
  refine jx_ac (s_lor (jx_dc dd_0 61 rfl)) ?_
  refine jx_ac (s_callv (ce := 71) kk_6 mc_71 (jx_dc dd_0 62 rfl) w_17 w_18 w_19 ⟨by decide, by decide⟩ np_71) ?_
  refine jx_ac (s_ieq (jx_dc dd_0 63 rfl) rfl) ?_
  refine jx_ac (s_iconst (jx_dc dd_0 64 rfl) rfl) ?_
  refine jx_ac (s_zret rfl (jx_dc dd_0 65 rfl)) ?_
  refine jx_ac (s_aload_n (jx_dc dd_0 66 rfl) rfl) ?_
  refine jx_ac (s_callv (ce := 51) kk_5 mc_51 (jx_dc dd_0 67 rfl) w_20 w_21 w_22 ⟨by decide, by decide⟩ np_51) ?_
  refine jx_ac (s_aload_n (jx_dc dd_0 68 rfl) rfl) ?_
  refine jx_ac (s_callv (ce := 72) kk_6 mc_72 (jx_dc dd_0 69 rfl) w_23 w_24 w_25 ⟨by decide, by decide⟩ np_72) ?_
  refine jx_ac (s_goto (jx_dc dd_0 70 rfl) rfl) ?_
  refine jx_ac (s_aload_n (jx_dc dd_0 71 rfl) rfl) ?_
  refine jx_ac (s_aload_n (jx_dc dd_0 72 rfl) rfl) ?_
  refine jx_ac (s_calls (ce := 117) mc_117 (jx_dc dd_0 73 rfl) w_26 w_27 w_28 ⟨by decide, by decide⟩ np_117) ?_
  refine jx_ac (s_istore (jx_dc dd_0 74 rfl)) ?_
  refine jx_ac (s_aload_n (jx_dc dd_0 75 rfl) rfl) ?_
  refine jx_ac (s_callv (ce := 73) kk_6 mc_73 (jx_dc dd_0 76 rfl) w_29 w_30 w_31 ⟨by decide, by decide⟩ np_73) ?_
  refine jx_ac (s_istore (jx_dc dd_0 77 rfl)) ?_
  refine jx_ac (s_aload_n (jx_dc dd_0 78 rfl) rfl) ?_
  refine jx_ac (s_callv (ce := 70) kk_6 mc_70 (jx_dc dd_0 79 rfl) w_32 w_33 w_34 ⟨by decide, by decide⟩ np_70) ?_
  exact jx_an
theorem A_0_2 : jx_All (jx_mk D c0 c1 c2 c3 c4 H0 ga gl G) jx_mt md_0 K_0_2 := by
  refine jx_ac (s_iload (jx_dc dd_0 80 rfl)) ?_
  refine jx_ac (s_ieq (jx_dc dd_0 81 rfl) rfl) ?_
  refine jx_ac (s_iconst (jx_dc dd_0 82 rfl) rfl) ?_
  refine jx_ac (s_zret rfl (jx_dc dd_0 83 rfl)) ?_
  refine jx_ac (s_iload (jx_dc dd_0 84 rfl)) ?_
  refine jx_ac (s_ifne (jx_dc dd_0 85 rfl) rfl) ?_
  refine jx_ac (s_aload_n (jx_dc dd_0 86 rfl) rfl) ?_
  refine jx_ac (s_iconst (jx_dc dd_0 87 rfl) rfl) ?_
  refine jx_ac (s_lald rfl (jx_dc dd_0 88 rfl)) ?_
  refine jx_ac (s_iload (jx_dc dd_0 89 rfl)) ?_
  refine jx_ac (s_i2l (jx_dc dd_0 90 rfl)) ?_
  refine jx_ac (s_lcmp (jx_dc dd_0 91 rfl)) ?_
  refine jx_ac (s_ifeq (jx_dc dd_0 92 rfl) rfl) ?_
  refine jx_ac (s_iconst (jx_dc dd_0 93 rfl) rfl) ?_
  refine jx_ac (s_zret rfl (jx_dc dd_0 94 rfl)) ?_
  refine jx_ac (s_goto (jx_dc dd_0 95 rfl) rfl) ?_
  refine jx_ac (s_aload_n (jx_dc dd_0 96 rfl) rfl) ?_
  refine jx_ac (s_aload_n (jx_dc dd_0 97 rfl) rfl) ?_
  refine jx_ac (s_calls (ce := 118) mc_118 (jx_dc dd_0 98 rfl) w_35 w_36 w_28 ⟨by decide, by decide⟩ np_118) ?_
  refine jx_ac (s_istore (jx_dc dd_0 99 rfl)) ?_
  refine jx_ac (s_aload_n (jx_dc dd_0 100 rfl) rfl) ?_
  refine jx_ac (s_callv (ce := 101) kk_6 mc_101 (jx_dc dd_0 101 rfl) w_37 w_38 w_39 ⟨by decide, by decide⟩ np_101) ?_
  refine jx_ac (s_istore (jx_dc dd_0 102 rfl)) ?_
  refine jx_ac (s_aload_n (jx_dc dd_0 103 rfl) rfl) ?_
  refine jx_ac (s_callv (ce := 70) kk_6 mc_70 (jx_dc dd_0 104 rfl) w_32 w_33 w_34 ⟨by decide, by decide⟩ np_70) ?_
  refine jx_ac (s_iload (jx_dc dd_0 105 rfl)) ?_
  refine jx_ac (s_ieq (jx_dc dd_0 106 rfl) rfl) ?_
  refine jx_ac (s_iconst (jx_dc dd_0 107 rfl) rfl) ?_
  refine jx_ac (s_zret rfl (jx_dc dd_0 108 rfl)) ?_
  refine jx_ac (s_iload (jx_dc dd_0 109 rfl)) ?_
  refine jx_ac (s_ifne (jx_dc dd_0 110 rfl) rfl) ?_
  refine jx_ac (s_aload_n (jx_dc dd_0 111 rfl) rfl) ?_
  refine jx_ac (s_iconst (jx_dc dd_0 112 rfl) rfl) ?_
  refine jx_ac (s_lald rfl (jx_dc dd_0 113 rfl)) ?_
  refine jx_ac (s_iload (jx_dc dd_0 114 rfl)) ?_
  refine jx_ac (s_i2l (jx_dc dd_0 115 rfl)) ?_
  refine jx_ac (s_lcmp (jx_dc dd_0 116 rfl)) ?_
  refine jx_ac (s_ifeq (jx_dc dd_0 117 rfl) rfl) ?_
  refine jx_ac (s_iconst (jx_dc dd_0 118 rfl) rfl) ?_
  refine jx_ac (s_zret rfl (jx_dc dd_0 119 rfl)) ?_
  exact jx_an
theorem A_0_3 : jx_All (jx_mk D c0 c1 c2 c3 c4 H0 ga gl G) jx_mt md_0 K_0_3 := by
  refine jx_ac (s_goto (jx_dc dd_0 120 rfl) rfl) ?_
  refine jx_ac (s_aload_n (jx_dc dd_0 121 rfl) rfl) ?_
  refine jx_ac (s_aload_n (jx_dc dd_0 122 rfl) rfl) ?_
  refine jx_ac (s_calls (ce := 119) mc_119 (jx_dc dd_0 123 rfl) w_40 w_41 w_28 ⟨by decide, by decide⟩ np_119) ?_
  refine jx_ac (s_istore (jx_dc dd_0 124 rfl)) ?_
  refine jx_ac (s_aload_n (jx_dc dd_0 125 rfl) rfl) ?_
  refine jx_ac (s_callv (ce := 102) kk_6 mc_102 (jx_dc dd_0 126 rfl) w_42 w_43 w_44 ⟨by decide, by decide⟩ np_102) ?_
  refine jx_ac (s_istore (jx_dc dd_0 127 rfl)) ?_
  refine jx_ac (s_aload_n (jx_dc dd_0 128 rfl) rfl) ?_
  refine jx_ac (s_callv (ce := 70) kk_6 mc_70 (jx_dc dd_0 129 rfl) w_32 w_33 w_34 ⟨by decide, by decide⟩ np_70) ?_
  refine jx_ac (s_iload (jx_dc dd_0 130 rfl)) ?_
  refine jx_ac (s_ieq (jx_dc dd_0 131 rfl) rfl) ?_
  refine jx_ac (s_iconst (jx_dc dd_0 132 rfl) rfl) ?_
  refine jx_ac (s_zret rfl (jx_dc dd_0 133 rfl)) ?_
  refine jx_ac (s_iload (jx_dc dd_0 134 rfl)) ?_
  refine jx_ac (s_ifne (jx_dc dd_0 135 rfl) rfl) ?_
  refine jx_ac (s_aload_n (jx_dc dd_0 136 rfl) rfl) ?_
  refine jx_ac (s_iconst (jx_dc dd_0 137 rfl) rfl) ?_
  refine jx_ac (s_lald rfl (jx_dc dd_0 138 rfl)) ?_
  refine jx_ac (s_iload (jx_dc dd_0 139 rfl)) ?_
  refine jx_ac (s_i2l (jx_dc dd_0 140 rfl)) ?_
  refine jx_ac (s_lcmp (jx_dc dd_0 141 rfl)) ?_
  refine jx_ac (s_ifeq (jx_dc dd_0 142 rfl) rfl) ?_
  refine jx_ac (s_iconst (jx_dc dd_0 143 rfl) rfl) ?_
  refine jx_ac (s_zret rfl (jx_dc dd_0 144 rfl)) ?_
  refine jx_ac (s_goto (jx_dc dd_0 145 rfl) rfl) ?_
  refine jx_ac (s_aload_n (jx_dc dd_0 146 rfl) rfl) ?_
  refine jx_ac (s_aload_n (jx_dc dd_0 147 rfl) rfl) ?_
  refine jx_ac (s_iload (jx_dc dd_0 148 rfl)) ?_
  refine jx_ac (s_iconst (jx_dc dd_0 149 rfl) rfl) ?_
  refine jx_ac (s_iadd (jx_dc dd_0 150 rfl)) ?_
  refine jx_ac (s_iald rfl (jx_dc dd_0 151 rfl)) ?_
  refine jx_ac (s_callv (ce := 52) kk_5 mc_52 (jx_dc dd_0 152 rfl) w_45 w_46 w_47 ⟨by decide, by decide⟩ np_52) ?_
  refine jx_ac (s_aload_n (jx_dc dd_0 153 rfl) rfl) ?_
  refine jx_ac (s_aload_n (jx_dc dd_0 154 rfl) rfl) ?_
  refine jx_ac (s_iload (jx_dc dd_0 155 rfl)) ?_
  refine jx_ac (s_iconst (jx_dc dd_0 156 rfl) rfl) ?_
  refine jx_ac (s_iadd (jx_dc dd_0 157 rfl)) ?_
  refine jx_ac (s_iald rfl (jx_dc dd_0 158 rfl)) ?_
  refine jx_ac (s_callv (ce := 103) kk_6 mc_103 (jx_dc dd_0 159 rfl) w_48 w_49 w_50 ⟨by decide, by decide⟩ np_103) ?_
  exact jx_an
theorem A_0_4 : jx_All (jx_mk D c0 c1 c2 c3 c4 H0 ga gl G) jx_mt md_0 K_0_4 := by
  refine jx_ac (s_ieq (jx_dc dd_0 160 rfl) rfl) ?_
  refine jx_ac (s_iconst (jx_dc dd_0 161 rfl) rfl) ?_
  refine jx_ac (s_zret rfl (jx_dc dd_0 162 rfl)) ?_
  refine jx_ac (s_aload_n (jx_dc dd_0 163 rfl) rfl) ?_
  refine jx_ac (s_aload_n (jx_dc dd_0 164 rfl) rfl) ?_
  refine jx_ac (s_iload (jx_dc dd_0 165 rfl)) ?_
  refine jx_ac (s_iconst (jx_dc dd_0 166 rfl) rfl) ?_
  refine jx_ac (s_iadd (jx_dc dd_0 167 rfl)) ?_
  refine jx_ac (s_iald rfl (jx_dc dd_0 168 rfl)) ?_
  refine jx_ac (s_aload_n (jx_dc dd_0 169 rfl) rfl) ?_
  refine jx_ac (s_calls (ce := 120) mc_120 (jx_dc dd_0 170 rfl) w_51 w_52 w_28 ⟨by decide, by decide⟩ np_120) ?_
  refine jx_ac (s_istore (jx_dc dd_0 171 rfl)) ?_
  refine jx_ac (s_aload_n (jx_dc dd_0 172 rfl) rfl) ?_
  refine jx_ac (s_aload_n (jx_dc dd_0 173 rfl) rfl) ?_
  refine jx_ac (s_iload (jx_dc dd_0 174 rfl)) ?_
  refine jx_ac (s_iconst (jx_dc dd_0 175 rfl) rfl) ?_
  refine jx_ac (s_iadd (jx_dc dd_0 176 rfl)) ?_
  refine jx_ac (s_iald rfl (jx_dc dd_0 177 rfl)) ?_
  refine jx_ac (s_callv (ce := 104) kk_6 mc_104 (jx_dc dd_0 178 rfl) w_53 w_54 w_55 ⟨by decide, by decide⟩ np_104) ?_
  refine jx_ac (s_istore (jx_dc dd_0 179 rfl)) ?_
  refine jx_ac (s_aload_n (jx_dc dd_0 180 rfl) rfl) ?_
  refine jx_ac (s_callv (ce := 70) kk_6 mc_70 (jx_dc dd_0 181 rfl) w_32 w_33 w_34 ⟨by decide, by decide⟩ np_70) ?_
  refine jx_ac (s_iload (jx_dc dd_0 182 rfl)) ?_
  refine jx_ac (s_ieq (jx_dc dd_0 183 rfl) rfl) ?_
  refine jx_ac (s_iconst (jx_dc dd_0 184 rfl) rfl) ?_
  refine jx_ac (s_zret rfl (jx_dc dd_0 185 rfl)) ?_
  refine jx_ac (s_iload (jx_dc dd_0 186 rfl)) ?_
  refine jx_ac (s_ifne (jx_dc dd_0 187 rfl) rfl) ?_
  refine jx_ac (s_aload_n (jx_dc dd_0 188 rfl) rfl) ?_
  refine jx_ac (s_iconst (jx_dc dd_0 189 rfl) rfl) ?_
  refine jx_ac (s_lald rfl (jx_dc dd_0 190 rfl)) ?_
  refine jx_ac (s_iload (jx_dc dd_0 191 rfl)) ?_
  refine jx_ac (s_i2l (jx_dc dd_0 192 rfl)) ?_
  refine jx_ac (s_lcmp (jx_dc dd_0 193 rfl)) ?_
  refine jx_ac (s_ifeq (jx_dc dd_0 194 rfl) rfl) ?_
  refine jx_ac (s_iconst (jx_dc dd_0 195 rfl) rfl) ?_
  refine jx_ac (s_zret rfl (jx_dc dd_0 196 rfl)) ?_
  refine jx_ac (s_goto (jx_dc dd_0 197 rfl) rfl) ?_
  refine jx_ac (s_aload_n (jx_dc dd_0 198 rfl) rfl) ?_
  refine jx_ac (s_aload_n (jx_dc dd_0 199 rfl) rfl) ?_
  exact jx_an
theorem A_0_5 : jx_All (jx_mk D c0 c1 c2 c3 c4 H0 ga gl G) jx_mt md_0 K_0_5 := by
  refine jx_ac (s_iload (jx_dc dd_0 200 rfl)) ?_
  refine jx_ac (s_iconst (jx_dc dd_0 201 rfl) rfl) ?_
  refine jx_ac (s_iadd (jx_dc dd_0 202 rfl)) ?_
  refine jx_ac (s_iald rfl (jx_dc dd_0 203 rfl)) ?_
  refine jx_ac (s_callv (ce := 53) kk_5 mc_53 (jx_dc dd_0 204 rfl) w_56 w_57 w_58 ⟨by decide, by decide⟩ np_53) ?_
  refine jx_ac (s_aload_n (jx_dc dd_0 205 rfl) rfl) ?_
  refine jx_ac (s_aload_n (jx_dc dd_0 206 rfl) rfl) ?_
  refine jx_ac (s_iload (jx_dc dd_0 207 rfl)) ?_
  refine jx_ac (s_iconst (jx_dc dd_0 208 rfl) rfl) ?_
  refine jx_ac (s_iadd (jx_dc dd_0 209 rfl)) ?_
  refine jx_ac (s_iald rfl (jx_dc dd_0 210 rfl)) ?_
  refine jx_ac (s_callv (ce := 105) kk_6 mc_105 (jx_dc dd_0 211 rfl) w_59 w_60 w_61 ⟨by decide, by decide⟩ np_105) ?_
  refine jx_ac (s_ieq (jx_dc dd_0 212 rfl) rfl) ?_
  refine jx_ac (s_iconst (jx_dc dd_0 213 rfl) rfl) ?_
  refine jx_ac (s_zret rfl (jx_dc dd_0 214 rfl)) ?_
  refine jx_ac (s_aload_n (jx_dc dd_0 215 rfl) rfl) ?_
  refine jx_ac (s_callv (ce := 54) kk_5 mc_54 (jx_dc dd_0 216 rfl) w_62 w_63 w_64 ⟨by decide, by decide⟩ np_54) ?_
  refine jx_ac (s_aload_n (jx_dc dd_0 217 rfl) rfl) ?_
  refine jx_ac (s_callv (ce := 106) kk_6 mc_106 (jx_dc dd_0 218 rfl) w_65 w_66 w_67 ⟨by decide, by decide⟩ np_106) ?_
  refine jx_ac (s_ieq (jx_dc dd_0 219 rfl) rfl) ?_
  refine jx_ac (s_iconst (jx_dc dd_0 220 rfl) rfl) ?_
  refine jx_ac (s_zret rfl (jx_dc dd_0 221 rfl)) ?_
  refine jx_ac (s_aload_n (jx_dc dd_0 222 rfl) rfl) ?_
  refine jx_ac (s_callv (ce := 56) kk_5 mc_56 (jx_dc dd_0 223 rfl) w_68 w_69 w_70 ⟨by decide, by decide⟩ np_56) ?_
  refine jx_ac (s_aload_n (jx_dc dd_0 224 rfl) rfl) ?_
  refine jx_ac (s_callv (ce := 107) kk_6 mc_107 (jx_dc dd_0 225 rfl) w_71 w_72 w_73 ⟨by decide, by decide⟩ np_107) ?_
  refine jx_ac (s_ieq (jx_dc dd_0 226 rfl) rfl) ?_
  refine jx_ac (s_iconst (jx_dc dd_0 227 rfl) rfl) ?_
  refine jx_ac (s_zret rfl (jx_dc dd_0 228 rfl)) ?_
  refine jx_ac (s_aload_n (jx_dc dd_0 229 rfl) rfl) ?_
  refine jx_ac (s_aload_n (jx_dc dd_0 230 rfl) rfl) ?_
  refine jx_ac (s_iload (jx_dc dd_0 231 rfl)) ?_
  refine jx_ac (s_iconst (jx_dc dd_0 232 rfl) rfl) ?_
  refine jx_ac (s_iadd (jx_dc dd_0 233 rfl)) ?_
  refine jx_ac (s_iald rfl (jx_dc dd_0 234 rfl)) ?_
  refine jx_ac (s_callv (ce := 57) kk_5 mc_57 (jx_dc dd_0 235 rfl) w_74 w_75 w_76 ⟨by decide, by decide⟩ np_57) ?_
  refine jx_ac (s_aload_n (jx_dc dd_0 236 rfl) rfl) ?_
  refine jx_ac (s_aload_n (jx_dc dd_0 237 rfl) rfl) ?_
  refine jx_ac (s_iload (jx_dc dd_0 238 rfl)) ?_
  refine jx_ac (s_iconst (jx_dc dd_0 239 rfl) rfl) ?_
  exact jx_an
theorem A_0_6 : jx_All (jx_mk D c0 c1 c2 c3 c4 H0 ga gl G) jx_mt md_0 K_0_6 := by
  refine jx_ac (s_iadd (jx_dc dd_0 240 rfl)) ?_
  refine jx_ac (s_iald rfl (jx_dc dd_0 241 rfl)) ?_
  refine jx_ac (s_callv (ce := 108) kk_6 mc_108 (jx_dc dd_0 242 rfl) w_77 w_78 w_79 ⟨by decide, by decide⟩ np_108) ?_
  refine jx_ac (s_ieq (jx_dc dd_0 243 rfl) rfl) ?_
  refine jx_ac (s_iconst (jx_dc dd_0 244 rfl) rfl) ?_
  refine jx_ac (s_zret rfl (jx_dc dd_0 245 rfl)) ?_
  refine jx_ac (s_aload_n (jx_dc dd_0 246 rfl) rfl) ?_
  refine jx_ac (s_aload_n (jx_dc dd_0 247 rfl) rfl) ?_
  refine jx_ac (s_iload (jx_dc dd_0 248 rfl)) ?_
  refine jx_ac (s_iconst (jx_dc dd_0 249 rfl) rfl) ?_
  refine jx_ac (s_iadd (jx_dc dd_0 250 rfl)) ?_
  refine jx_ac (s_iald rfl (jx_dc dd_0 251 rfl)) ?_
  refine jx_ac (s_aload_n (jx_dc dd_0 252 rfl) rfl) ?_
  refine jx_ac (s_iload (jx_dc dd_0 253 rfl)) ?_
  refine jx_ac (s_iconst (jx_dc dd_0 254 rfl) rfl) ?_
  refine jx_ac (s_iadd (jx_dc dd_0 255 rfl)) ?_
  refine jx_ac (s_iald rfl (jx_dc dd_0 256 rfl)) ?_
  refine jx_ac (s_callv (ce := 59) kk_5 mc_59 (jx_dc dd_0 257 rfl) w_80 w_81 w_82 ⟨by decide, by decide⟩ np_59) ?_
  refine jx_ac (s_aload_n (jx_dc dd_0 258 rfl) rfl) ?_
  refine jx_ac (s_aload_n (jx_dc dd_0 259 rfl) rfl) ?_
  refine jx_ac (s_iload (jx_dc dd_0 260 rfl)) ?_
  refine jx_ac (s_iconst (jx_dc dd_0 261 rfl) rfl) ?_
  refine jx_ac (s_iadd (jx_dc dd_0 262 rfl)) ?_
  refine jx_ac (s_iald rfl (jx_dc dd_0 263 rfl)) ?_
  refine jx_ac (s_aload_n (jx_dc dd_0 264 rfl) rfl) ?_
  refine jx_ac (s_iload (jx_dc dd_0 265 rfl)) ?_
  refine jx_ac (s_iconst (jx_dc dd_0 266 rfl) rfl) ?_
  refine jx_ac (s_iadd (jx_dc dd_0 267 rfl)) ?_
  refine jx_ac (s_iald rfl (jx_dc dd_0 268 rfl)) ?_
  refine jx_ac (s_callv (ce := 109) kk_6 mc_109 (jx_dc dd_0 269 rfl) w_83 w_84 w_85 ⟨by decide, by decide⟩ np_109) ?_
  refine jx_ac (s_ieq (jx_dc dd_0 270 rfl) rfl) ?_
  refine jx_ac (s_iconst (jx_dc dd_0 271 rfl) rfl) ?_
  refine jx_ac (s_zret rfl (jx_dc dd_0 272 rfl)) ?_
  refine jx_ac (s_aload_n (jx_dc dd_0 273 rfl) rfl) ?_
  refine jx_ac (s_aload_n (jx_dc dd_0 274 rfl) rfl) ?_
  refine jx_ac (s_iload (jx_dc dd_0 275 rfl)) ?_
  refine jx_ac (s_iconst (jx_dc dd_0 276 rfl) rfl) ?_
  refine jx_ac (s_iadd (jx_dc dd_0 277 rfl)) ?_
  refine jx_ac (s_iald rfl (jx_dc dd_0 278 rfl)) ?_
  refine jx_ac (s_aload_n (jx_dc dd_0 279 rfl) rfl) ?_
  exact jx_an
theorem A_0_7 : jx_All (jx_mk D c0 c1 c2 c3 c4 H0 ga gl G) jx_mt md_0 K_0_7 := by
  refine jx_ac (s_iload (jx_dc dd_0 280 rfl)) ?_
  refine jx_ac (s_iconst (jx_dc dd_0 281 rfl) rfl) ?_
  refine jx_ac (s_iadd (jx_dc dd_0 282 rfl)) ?_
  refine jx_ac (s_iald rfl (jx_dc dd_0 283 rfl)) ?_
  refine jx_ac (s_aload_n (jx_dc dd_0 284 rfl) rfl) ?_
  refine jx_ac (s_iload (jx_dc dd_0 285 rfl)) ?_
  refine jx_ac (s_iconst (jx_dc dd_0 286 rfl) rfl) ?_
  refine jx_ac (s_iadd (jx_dc dd_0 287 rfl)) ?_
  refine jx_ac (s_iald rfl (jx_dc dd_0 288 rfl)) ?_
  refine jx_ac (s_callv (ce := 60) kk_5 mc_60 (jx_dc dd_0 289 rfl) w_86 w_87 w_88 ⟨by decide, by decide⟩ np_60) ?_
  refine jx_ac (s_aload_n (jx_dc dd_0 290 rfl) rfl) ?_
  refine jx_ac (s_aload_n (jx_dc dd_0 291 rfl) rfl) ?_
  refine jx_ac (s_iload (jx_dc dd_0 292 rfl)) ?_
  refine jx_ac (s_iconst (jx_dc dd_0 293 rfl) rfl) ?_
  refine jx_ac (s_iadd (jx_dc dd_0 294 rfl)) ?_
  refine jx_ac (s_iald rfl (jx_dc dd_0 295 rfl)) ?_
  refine jx_ac (s_aload_n (jx_dc dd_0 296 rfl) rfl) ?_
  refine jx_ac (s_iload (jx_dc dd_0 297 rfl)) ?_
  refine jx_ac (s_iconst (jx_dc dd_0 298 rfl) rfl) ?_
  refine jx_ac (s_iadd (jx_dc dd_0 299 rfl)) ?_
  refine jx_ac (s_iald rfl (jx_dc dd_0 300 rfl)) ?_
  refine jx_ac (s_aload_n (jx_dc dd_0 301 rfl) rfl) ?_
  refine jx_ac (s_iload (jx_dc dd_0 302 rfl)) ?_
  refine jx_ac (s_iconst (jx_dc dd_0 303 rfl) rfl) ?_
  refine jx_ac (s_iadd (jx_dc dd_0 304 rfl)) ?_
  refine jx_ac (s_iald rfl (jx_dc dd_0 305 rfl)) ?_
  refine jx_ac (s_callv (ce := 110) kk_6 mc_110 (jx_dc dd_0 306 rfl) w_89 w_90 w_91 ⟨by decide, by decide⟩ np_110) ?_
  refine jx_ac (s_ieq (jx_dc dd_0 307 rfl) rfl) ?_
  refine jx_ac (s_iconst (jx_dc dd_0 308 rfl) rfl) ?_
  refine jx_ac (s_zret rfl (jx_dc dd_0 309 rfl)) ?_
  refine jx_ac (s_iinc (jx_dc dd_0 310 rfl) rfl) ?_
  refine jx_ac (s_goto (jx_dc dd_0 311 rfl) rfl) ?_
  refine jx_ac (s_iconst (jx_dc dd_0 312 rfl) rfl) ?_
  refine jx_ac (s_zret rfl (jx_dc dd_0 313 rfl)) ?_
  exact jx_an
theorem A_0 : jx_All (jx_mk D c0 c1 c2 c3 c4 H0 ga gl G) jx_mt md_0 K_0 := (jx_aa A_0_0 (jx_aa A_0_1 (jx_aa A_0_2 (jx_aa A_0_3 (jx_aa A_0_4 (jx_aa A_0_5 (jx_aa A_0_6 A_0_7)))))))
def dl_1 : List (Nat × Instr × Nat) := [(0, .aload_n 0, 1), (1, .invokespecial 3, 3), (4, .aload_n 0, 1), (5, .bipush 10, 2), (7, .newarray .int, 2), (9, .putfield 9, 3), (12, .aload_n 0, 1), (13, .bipush 100, 2), (15, .newarray .int, 2), (17, .putfield 15, 3), (20, .aload_n 0, 1), (21, .bipush 60, 2), (23, .newarray .int, 2), (25, .putfield 18, 3), (28, .return_, 1)]
theorem dd_1 : ∀ q ∈ dl_1, decode prog_3_method_1_code q.1 = .ok q.2 := by decide +kernel
theorem A_1_0 : jx_All (jx_mk D c0 c1 c2 c3 c4 H0 ga gl G) jx_mt md_1 K_1_0 := by
  refine jx_ac (s_aload_n (jx_dc dd_1 0 rfl) rfl) ?_
  refine jx_ac (s_oinit (jx_dc dd_1 1 rfl) w_92 w_93 w_94) ?_
  refine jx_ac (s_aload_n (jx_dc dd_1 2 rfl) rfl) ?_
  refine jx_ac (s_bipush (jx_dc dd_1 3 rfl) rfl) ?_
  refine jx_ac (s_newa (t := 0) (z := jx_zi) rfl rfl (Nat.le_of_ble_eq_true rfl) (jx_dc dd_1 4 rfl) w_95 (fun _ _ => rfl) (fun _ => rfl) (by decide) (fun _ _ h => h)) ?_
  refine jx_ac (s_putfF kk_0 (k := 0) (Nat.le_of_ble_eq_true rfl) (jx_dc dd_1 5 rfl) (fun _ h => jx_okA_n _ _ h) rfl rfl rfl w_96) ?_
  refine jx_ac (s_aload_n (jx_dc dd_1 6 rfl) rfl) ?_
  refine jx_ac (s_bipush (jx_dc dd_1 7 rfl) rfl) ?_
  refine jx_ac (s_newa (t := 0) (z := jx_zi) rfl rfl (Nat.le_of_ble_eq_true rfl) (jx_dc dd_1 8 rfl) w_95 (fun _ _ => rfl) (fun _ => rfl) (by decide) (fun _ _ h => h)) ?_
  refine jx_ac (s_putfF kk_0 (k := 1) (Nat.le_of_ble_eq_true rfl) (jx_dc dd_1 9 rfl) (fun _ h => jx_okA_n _ _ h) rfl rfl rfl w_97) ?_
  refine jx_ac (s_aload_n (jx_dc dd_1 10 rfl) rfl) ?_
  refine jx_ac (s_bipush (jx_dc dd_1 11 rfl) rfl) ?_
  refine jx_ac (s_newa (t := 0) (z := jx_zi) rfl rfl (Nat.le_of_ble_eq_true rfl) (jx_dc dd_1 12 rfl) w_95 (fun _ _ => rfl) (fun _ => rfl) (by decide) (fun _ _ h => h)) ?_
  refine jx_ac (s_putfF kk_0 (k := 2) (Nat.le_of_ble_eq_true rfl) (jx_dc dd_1 13 rfl) (fun _ h => jx_okA_n _ _ h) rfl rfl rfl w_98) ?_
  refine jx_ac (s_ret rfl (jx_dc dd_1 14 rfl)) ?_
  exact jx_an
theorem A_1 : jx_All (jx_mk D c0 c1 c2 c3 c4 H0 ga gl G) jx_mt md_1 K_1 :=  A_1_0
def dl_2 : List (Nat × Instr × Nat) := [(0, .aload_n 1, 1), (1, .getfield 9, 3), (4, .iconst 0, 1), (5, .aload_n 0, 1), (6, .getfield 9, 3), (9, .iconst 0, 1), (10, .aload_n 0, 1), (11, .getfield 9, 3), (14, .arraylength, 1), (15, .invokestatic 34, 3), (18, .aload_n 1, 1), (19, .getfield 15, 3), (22, .iconst 0, 1), (23, .aload_n 0, 1), (24, .getfield 15, 3), (27, .iconst 0, 1), (28, .aload_n 0, 1), (29, .getfield 15, 3), (32, .arraylength, 1), (33, .invokestatic 34, 3), (36, .aload_n 1, 1), (37, .getfield 18, 3), (40, .iconst 0, 1), (41, .aload_n 0, 1), (42, .getfield 18, 3), (45, .iconst 0, 1), (46, .aload_n 0, 1), (47, .getfield 18, 3), (50, .arraylength, 1), (51, .invokestatic 34, 3), (54, .aload_n 0, 1), (55, .aload_n 1, 1), (56, .getfield 27, 3), (59, .putfield 27, 3), (62, .aload_n 0, 1), (63, .aload_n 1, 1), (64, .getfield 31, 3), (67, .putfield 31, 3), (70, .return_, 1)]
theorem dd_2 : ∀ q ∈ dl_2, decode prog_3_method_3_code q.1 = .ok q.2 := by decide +kernel
theorem A_2_0 : jx_All (jx_mk D c0 c1 c2 c3 c4 H0 ga gl G) jx_mt md_2 K_2_0 := by
  refine jx_ac (s_aload_n (jx_dc dd_2 0 rfl) rfl) ?_
  refine jx_ac (s_getf kk_0 (k := 0) (Nat.le_of_ble_eq_true rfl) (jx_dc dd_2 1 rfl) w_96) ?_
  refine jx_ac (s_iconst (jx_dc dd_2 2 rfl) rfl) ?_
  refine jx_ac (s_aload_n (jx_dc dd_2 3 rfl) rfl) ?_
  refine jx_ac (s_getf kk_0 (k := 0) (Nat.le_of_ble_eq_true rfl) (jx_dc dd_2 4 rfl) w_96) ?_
  refine jx_ac (s_iconst (jx_dc dd_2 5 rfl) rfl) ?_
  refine jx_ac (s_aload_n (jx_dc dd_2 6 rfl) rfl) ?_
  refine jx_ac (s_getf kk_0 (k := 0) (Nat.le_of_ble_eq_true rfl) (jx_dc dd_2 7 rfl) w_96) ?_
  refine jx_ac (s_alen jx_mk_ty (jx_dc dd_2 8 rfl)) ?_
  refine jx_ac (sorry) ?_
  refine jx_ac (s_aload_n (jx_dc dd_2 10 rfl) rfl) ?_
  refine jx_ac (s_getf kk_0 (k := 1) (Nat.le_of_ble_eq_true rfl) (jx_dc dd_2 11 rfl) w_97) ?_
  refine jx_ac (s_iconst (jx_dc dd_2 12 rfl) rfl) ?_
  refine jx_ac (s_aload_n (jx_dc dd_2 13 rfl) rfl) ?_
  refine jx_ac (s_getf kk_0 (k := 1) (Nat.le_of_ble_eq_true rfl) (jx_dc dd_2 14 rfl) w_97) ?_
  refine jx_ac (s_iconst (jx_dc dd_2 15 rfl) rfl) ?_
  refine jx_ac (s_aload_n (jx_dc dd_2 16 rfl) rfl) ?_
  refine jx_ac (s_getf kk_0 (k := 1) (Nat.le_of_ble_eq_true rfl) (jx_dc dd_2 17 rfl) w_97) ?_
  refine jx_ac (s_alen jx_mk_ty (jx_dc dd_2 18 rfl)) ?_
  refine jx_ac (sorry) ?_
  refine jx_ac (s_aload_n (jx_dc dd_2 20 rfl) rfl) ?_
  refine jx_ac (s_getf kk_0 (k := 2) (Nat.le_of_ble_eq_true rfl) (jx_dc dd_2 21 rfl) w_98) ?_
  refine jx_ac (s_iconst (jx_dc dd_2 22 rfl) rfl) ?_
  refine jx_ac (s_aload_n (jx_dc dd_2 23 rfl) rfl) ?_
  refine jx_ac (s_getf kk_0 (k := 2) (Nat.le_of_ble_eq_true rfl) (jx_dc dd_2 24 rfl) w_98) ?_
  refine jx_ac (s_iconst (jx_dc dd_2 25 rfl) rfl) ?_
  refine jx_ac (s_aload_n (jx_dc dd_2 26 rfl) rfl) ?_
  refine jx_ac (s_getf kk_0 (k := 2) (Nat.le_of_ble_eq_true rfl) (jx_dc dd_2 27 rfl) w_98) ?_
  refine jx_ac (s_alen jx_mk_ty (jx_dc dd_2 28 rfl)) ?_
  refine jx_ac (sorry) ?_
  refine jx_ac (s_aload_n (jx_dc dd_2 30 rfl) rfl) ?_
  refine jx_ac (s_aload_n (jx_dc dd_2 31 rfl) rfl) ?_
  refine jx_ac (s_getf kk_0 (k := 3) (Nat.le_of_ble_eq_true rfl) (jx_dc dd_2 32 rfl) w_99) ?_
  refine jx_ac (s_putf kk_0 (k := 3) (Nat.le_of_ble_eq_true rfl) (jx_dc dd_2 33 rfl) (fun _ h => jx_okI_n _ h) rfl w_99) ?_
  refine jx_ac (s_aload_n (jx_dc dd_2 34 rfl) rfl) ?_
  refine jx_ac (s_aload_n (jx_dc dd_2 35 rfl) rfl) ?_
  refine jx_ac (s_getf kk_0 (k := 4) (Nat.le_of_ble_eq_true rfl) (jx_dc dd_2 36 rfl) w_100) ?_
  refine jx_ac (s_putf kk_0 (k := 4) (Nat.le_of_ble_eq_true rfl) (jx_dc dd_2 37 rfl) (fun _ h => jx_okI_n _ h) rfl w_100) ?_
  refine jx_ac (s_ret rfl (jx_dc dd_2 38 rfl)) ?_
  exact jx_an
theorem A_2 : jx_All (jx_mk D c0 c1 c2 c3 c4 H0 ga gl G) jx_mt md_2 K_2 :=  A_2_0
def dl_3 : List (Nat × Instr × Nat) := [(0, .iload_n 1, 1), (1, .ifCond .lt 15, 3), (4, .iload_n 1, 1), (5, .aload_n 0, 1), (6, .getfield 27, 3), (9, .if_icmp .ge 7, 3), (12, .iconst 1, 1), (13, .goto 4, 3), (16, .iconst 0, 1), (17, .ireturn, 1)]
theorem dd_3 : ∀ q ∈ dl_3, decode prog_3_method_7_code q.1 = .ok q.2 := by decide +kernel
theorem A_3_0 : jx_All (jx_mk D c0 c1 c2 c3 c4 H0 ga gl G) jx_mt md_3 K_3_0 := by
  refine jx_ac (s_iload_n (jx_dc dd_3 0 rfl) rfl) ?_
  refine jx_ac (s_iflt (jx_dc dd_3 1 rfl) rfl) ?_
  refine jx_ac (s_iload_n (jx_dc dd_3 2 rfl) rfl) ?_
  refine jx_ac (s_aload_n (jx_dc dd_3 3 rfl) rfl) ?_
  refine jx_ac (s_getf kk_0 (k := 3) (Nat.le_of_ble_eq_true rfl) (jx_dc dd_3 4 rfl) w_99) ?_
  refine jx_ac (s_ige (jx_dc dd_3 5 rfl) rfl) ?_
  refine jx_ac (s_iconst (jx_dc dd_3 6 rfl) rfl) ?_
  refine jx_ac (s_goto (jx_dc dd_3 7 rfl) rfl) ?_
  refine jx_ac (s_iconst (jx_dc dd_3 8 rfl) rfl) ?_
  refine jx_ac (s_zret rfl (jx_dc dd_3 9 rfl)) ?_
  exact jx_an
theorem A_3 : jx_All (jx_mk D c0 c1 c2 c3 c4 H0 ga gl G) jx_mt md_3 K_3 :=  A_3_0
def dl_4 : List (Nat × Instr × Nat) := [(0, .aload_n 0, 1), (1, .getfield 15, 3), (4, .iload_n 1, 1), (5, .bipush 10, 2), (7, .imul, 1), (8, .iload_n 2, 1), (9, .iadd, 1), (10, .iaload, 1), (11, .ireturn, 1)]
theorem dd_4 : ∀ q ∈ dl_4, decode prog_3_method_8_code q.1 = .ok q.2 := by decide +kernel
theorem A_4_0 : jx_All (jx_mk D c0 c1 c2 c3 c4 H0 ga gl G) jx_mt md_4 K_4_0 := by
  refine jx_ac (s_aload_n (jx_dc dd_4 0 rfl) rfl) ?_
  refine jx_ac (s_getf kk_0 (k := 1) (Nat.le_of_ble_eq_true rfl) (jx_dc dd_4 1 rfl) w_97) ?_
  refine jx_ac (s_iload_n (jx_dc dd_4 2 rfl) rfl) ?_
  refine jx_ac (s_bipush (jx_dc dd_4 3 rfl) rfl) ?_
  refine jx_ac (s_imul (jx_dc dd_4 4 rfl)) ?_
  refine jx_ac (s_iload_n (jx_dc dd_4 5 rfl) rfl) ?_
  refine jx_ac (s_iadd (jx_dc dd_4 6 rfl)) ?_
  refine jx_ac (s_iald rfl (jx_dc dd_4 7 rfl)) ?_
  refine jx_ac (s_iret rfl (jx_dc dd_4 8 rfl)) ?_
  exact jx_an
theorem A_4 : jx_All (jx_mk D c0 c1 c2 c3 c4 H0 ga gl G) jx_mt md_4 K_4 :=  A_4_0
def dl_5 : List (Nat × Instr × Nat) := [(0, .aload_n 0, 1), (1, .getfield 9, 3), (4, .iconst 0, 1), (5, .invokestatic 21, 3), (8, .aload_n 0, 1), (9, .getfield 15, 3), (12, .iconst 0, 1), (13, .invokestatic 21, 3), (16, .aload_n 0, 1), (17, .getfield 18, 3), (20, .iconst 0, 1), (21, .invokestatic 21, 3), (24, .aload_n 0, 1), (25, .iconst 0, 1), (26, .putfield 27, 3), (29, .aload_n 0, 1), (30, .iconst 0, 1), (31, .putfield 31, 3), (34, .return_, 1)]
theorem dd_5 : ∀ q ∈ dl_5, decode prog_3_method_2_code q.1 = .ok q.2 := by decide +kernel
theorem A_5_0 : jx_All (jx_mk D c0 c1 c2 c3 c4 H0 ga gl G) jx_mt md_5 K_5_0 := by
  refine jx_ac (s_aload_n (jx_dc dd_5 0 rfl) rfl) ?_
  refine jx_ac (s_getf kk_0 (k := 0) (Nat.le_of_ble_eq_true rfl) (jx_dc dd_5 1 rfl) w_96) ?_
  refine jx_ac (s_iconst (jx_dc dd_5 2 rfl) rfl) ?_
  refine jx_ac (s_calls (ce := 123) mc_123 (jx_dc dd_5 3 rfl) w_101 w_102 w_103 ⟨by decide, by decide⟩ np_123) ?_
  refine jx_ac (s_aload_n (jx_dc dd_5 4 rfl) rfl) ?_
  refine jx_ac (s_getf kk_0 (k := 1) (Nat.le_of_ble_eq_true rfl) (jx_dc dd_5 5 rfl) w_97) ?_
  refine jx_ac (s_iconst (jx_dc dd_5 6 rfl) rfl) ?_
  refine jx_ac (s_calls (ce := 123) mc_123 (jx_dc dd_5 7 rfl) w_101 w_102 w_103 ⟨by decide, by decide⟩ np_123) ?_
  refine jx_ac (s_aload_n (jx_dc dd_5 8 rfl) rfl) ?_
  refine jx_ac (s_getf kk_0 (k := 2) (Nat.le_of_ble_eq_true rfl) (jx_dc dd_5 9 rfl) w_98) ?_
  refine jx_ac (s_iconst (jx_dc dd_5 10 rfl) rfl) ?_
  refine jx_ac (s_calls (ce := 123) mc_123 (jx_dc dd_5 11 rfl) w_101 w_102 w_103 ⟨by decide, by decide⟩ np_123) ?_
  refine jx_ac (s_aload_n (jx_dc dd_5 12 rfl) rfl) ?_
  refine jx_ac (s_iconst (jx_dc dd_5 13 rfl) rfl) ?_
  refine jx_ac (s_putf kk_0 (k := 3) (Nat.le_of_ble_eq_true rfl) (jx_dc dd_5 14 rfl) (fun _ h => jx_okI_n _ h) rfl w_99) ?_
  refine jx_ac (s_aload_n (jx_dc dd_5 15 rfl) rfl) ?_
  refine jx_ac (s_iconst (jx_dc dd_5 16 rfl) rfl) ?_
  refine jx_ac (s_putf kk_0 (k := 4) (Nat.le_of_ble_eq_true rfl) (jx_dc dd_5 17 rfl) (fun _ h => jx_okI_n _ h) rfl w_100) ?_
  refine jx_ac (s_ret rfl (jx_dc dd_5 18 rfl)) ?_
  exact jx_an
theorem A_5 : jx_All (jx_mk D c0 c1 c2 c3 c4 H0 ga gl G) jx_mt md_5 K_5 :=  A_5_0
def dl_6 : List (Nat × Instr × Nat) := [(0, .aload_n 0, 1), (1, .getfield 27, 3), (4, .bipush 10, 2), (6, .if_icmp .ge 23, 3), (9, .aload_n 0, 1), (10, .getfield 9, 3), (13, .aload_n 0, 1), (14, .getfield 27, 3), (17, .iload_n 1, 1), (18, .iastore, 1), (19, .aload_n 0, 1), (20, .dup, 1), (21, .getfield 27, 3), (24, .iconst 1, 1), (25, .iadd, 1), (26, .putfield 27, 3), (29, .return_, 1)]
theorem dd_6 : ∀ q ∈ dl_6, decode prog_3_method_4_code q.1 = .ok q.2 := by decide +kernel
theorem A_6_0 : jx_All (jx_mk D c0 c1 c2 c3 c4 H0 ga gl G) jx_mt md_6 K_6_0 := by
  refine jx_ac (s_aload_n (jx_dc dd_6 0 rfl) rfl) ?_
  refine jx_ac (s_getf kk_0 (k := 3) (Nat.le_of_ble_eq_true rfl) (jx_dc dd_6 1 rfl) w_99) ?_
  refine jx_ac (s_bipush (jx_dc dd_6 2 rfl) rfl) ?_
  refine jx_ac (s_ige (jx_dc dd_6 3 rfl) rfl) ?_
  refine jx_ac (s_aload_n (jx_dc dd_6 4 rfl) rfl) ?_
  refine jx_ac (s_getf kk_0 (k := 0) (Nat.le_of_ble_eq_true rfl) (jx_dc dd_6 5 rfl) w_96) ?_
  refine jx_ac (s_aload_n (jx_dc dd_6 6 rfl) rfl) ?_
  refine jx_ac (s_getf kk_0 (k := 3) (Nat.le_of_ble_eq_true rfl) (jx_dc dd_6 7 rfl) w_99) ?_
  refine jx_ac (s_iload_n (jx_dc dd_6 8 rfl) rfl) ?_
  refine jx_ac (s_iast rfl (jx_dc dd_6 9 rfl)) ?_
  refine jx_ac (s_aload_n (jx_dc dd_6 10 rfl) rfl) ?_
  refine jx_ac (s_dup (jx_dc dd_6 11 rfl)) ?_
  refine jx_ac (s_getf kk_0 (k := 3) (Nat.le_of_ble_eq_true rfl) (jx_dc dd_6 12 rfl) w_99) ?_
  refine jx_ac (s_iconst (jx_dc dd_6 13 rfl) rfl) ?_
  refine jx_ac (s_iadd (jx_dc dd_6 14 rfl)) ?_
  refine jx_ac (s_putf kk_0 (k := 3) (Nat.le_of_ble_eq_true rfl) (jx_dc dd_6 15 rfl) (fun _ h => jx_okI_n _ h) rfl w_99) ?_
  refine jx_ac (s_ret rfl (jx_dc dd_6 16 rfl)) ?_
  exact jx_an
theorem A_6 : jx_All (jx_mk D c0 c1 c2 c3 c4 H0 ga gl G) jx_mt md_6 K_6 :=  A_6_0
def dl_7 : List (Nat × Instr × Nat) := [(0, .aload_n 0, 1), (1, .iload_n 1, 1), (2, .invokevirtual 40, 3), (5, .ifCond .eq 35, 3), (8, .aload_n 0, 1), (9, .iload_n 2, 1), (10, .invokevirtual 40, 3), (13, .ifCond .eq 27, 3), (16, .aload_n 0, 1), (17, .iload_n 1, 1), (18, .iload_n 2, 1), (19, .iload_n 3, 1), (20, .invokevirtual 44, 3), (23, .aload_n 0, 1), (24, .iload_n 2, 1), (25, .iload_n 1, 1), (26, .iload_n 3, 1), (27, .invokevirtual 44, 3), (30, .aload_n 0, 1), (31, .dup, 1), (32, .getfield 31, 3), (35, .iconst 1, 1), (36, .iadd, 1), (37, .putfield 31, 3), (40, .return_, 1)]
theorem dd_7 : ∀ q ∈ dl_7, decode prog_3_method_5_code q.1 = .ok q.2 := by decide +kernel
theorem A_7_0 : jx_All (jx_mk D c0 c1 c2 c3 c4 H0 ga gl G) jx_mt md_7 K_7_0 := by
  refine jx_ac (s_aload_n (jx_dc dd_7 0 rfl) rfl) ?_
  refine jx_ac (s_iload_n (jx_dc dd_7 1 rfl) rfl) ?_
  refine jx_ac (s_callv (ce := 3) kk_0 mc_3 (jx_dc dd_7 2 rfl) w_104 w_105 w_106 ⟨by decide, by decide⟩ np_3) ?_
  refine jx_ac (s_ifeq (jx_dc dd_7 3 rfl) rfl) ?_
  refine jx_ac (s_aload_n (jx_dc dd_7 4 rfl) rfl) ?_
  refine jx_ac (s_iload_n (jx_dc dd_7 5 rfl) rfl) ?_
  refine jx_ac (s_callv (ce := 3) kk_0 mc_3 (jx_dc dd_7 6 rfl) w_104 w_105 w_106 ⟨by decide, by decide⟩ np_3) ?_
  refine jx_ac (s_ifeq (jx_dc dd_7 7 rfl) rfl) ?_
  refine jx_ac (s_aload_n (jx_dc dd_7 8 rfl) rfl) ?_
  refine jx_ac (s_iload_n (jx_dc dd_7 9 rfl) rfl) ?_
  refine jx_ac (s_iload_n (jx_dc dd_7 10 rfl) rfl) ?_
  refine jx_ac (s_iload_n (jx_dc dd_7 11 rfl) rfl) ?_
  refine jx_ac (s_callv (ce := 8) kk_0 mc_8 (jx_dc dd_7 12 rfl) w_107 w_108 w_109 ⟨by decide, by decide⟩ np_8) ?_
  refine jx_ac (s_aload_n (jx_dc dd_7 13 rfl) rfl) ?_
  refine jx_ac (s_iload_n (jx_dc dd_7 14 rfl) rfl) ?_
  refine jx_ac (s_iload_n (jx_dc dd_7 15 rfl) rfl) ?_
  refine jx_ac (s_iload_n (jx_dc dd_7 16 rfl) rfl) ?_
  refine jx_ac (s_callv (ce := 8) kk_0 mc_8 (jx_dc dd_7 17 rfl) w_107 w_108 w_109 ⟨by decide, by decide⟩ np_8) ?_
  refine jx_ac (s_aload_n (jx_dc dd_7 18 rfl) rfl) ?_
  refine jx_ac (s_dup (jx_dc dd_7 19 rfl)) ?_
  refine jx_ac (s_getf kk_0 (k := 4) (Nat.le_of_ble_eq_true rfl) (jx_dc dd_7 20 rfl) w_100) ?_
  refine jx_ac (s_iconst (jx_dc dd_7 21 rfl) rfl) ?_
  refine jx_ac (s_iadd (jx_dc dd_7 22 rfl)) ?_
  refine jx_ac (s_putf kk_0 (k := 4) (Nat.le_of_ble_eq_true rfl) (jx_dc dd_7 23 rfl) (fun _ h => jx_okI_n _ h) rfl w_100) ?_
  refine jx_ac (s_ret rfl (jx_dc dd_7 24 rfl)) ?_
  exact jx_an
theorem A_7 : jx_All (jx_mk D c0 c1 c2 c3 c4 H0 ga gl G) jx_mt md_7 K_7 :=  A_7_0
def dl_8 : List (Nat × Instr × Nat) := [(0, .aload_n 0, 1), (1, .getfield 15, 3), (4, .iload_n 1, 1), (5, .bipush 10, 2), (7, .imul, 1), (8, .iload_n 2, 1), (9, .iadd, 1), (10, .iload_n 3, 1), (11, .iastore, 1), (12, .aload_n 0, 1), (13, .getfield 18, 3), (16, .iload_n 3, 1), (17, .bipush 10, 2), (19, .imul, 1), (20, .iload_n 1, 1), (21, .iadd, 1), (22, .dup2, 1), (23, .iaload, 1), (24, .iconst 1, 1), (25, .iload_n 2, 1), (26, .ishl, 1), (27, .ior, 1), (28, .iastore, 1), (29, .aload_n 0, 1), (30, .getfield 18, 3), (33, .bipush 50, 2), (35, .iload_n 1, 1), (36, .iadd, 1), (37, .dup2, 1), (38, .iaload, 1), (39, .iconst 1, 1), (40, .iload_n 2, 1), (41, .ishl, 1), (42, .ior, 1), (43, .iastore, 1), (44, .return_, 1)]
theorem dd_8 : ∀ q ∈ dl_8, decode prog_3_method_6_code q.1 = .ok q.2 := by decide +kernel
theorem A_8_0 : jx_All (jx_mk D c0 c1 c2 c3 c4 H0 ga gl G) jx_mt md_8 K_8_0 := by
  refine jx_ac (s_aload_n (jx_dc dd_8 0 rfl) rfl) ?_
  refine jx_ac (s_getf kk_0 (k := 1) (Nat.le_of_ble_eq_true rfl) (jx_dc dd_8 1 rfl) w_97) ?_
  refine jx_ac (s_iload_n (jx_dc dd_8 2 rfl) rfl) ?_
  refine jx_ac (s_bipush (jx_dc dd_8 3 rfl) rfl) ?_
  refine jx_ac (s_imul (jx_dc dd_8 4 rfl)) ?_
  refine jx_ac (s_iload_n (jx_dc dd_8 5 rfl) rfl) ?_
  refine jx_ac (s_iadd (jx_dc dd_8 6 rfl)) ?_
  refine jx_ac (s_iload_n (jx_dc dd_8 7 rfl) rfl) ?_
  refine jx_ac (s_iast rfl (jx_dc dd_8 8 rfl)) ?_
  refine jx_ac (s_aload_n (jx_dc dd_8 9 rfl) rfl) ?_
  refine jx_ac (s_getf kk_0 (k := 2) (Nat.le_of_ble_eq_true rfl) (jx_dc dd_8 10 rfl) w_98) ?_
  refine jx_ac (s_iload_n (jx_dc dd_8 11 rfl) rfl) ?_
  refine jx_ac (s_bipush (jx_dc dd_8 12 rfl) rfl) ?_
  refine jx_ac (s_imul (jx_dc dd_8 13 rfl)) ?_
  refine jx_ac (s_iload_n (jx_dc dd_8 14 rfl) rfl) ?_
  refine jx_ac (s_iadd (jx_dc dd_8 15 rfl)) ?_
  refine jx_ac (s_dup2 (jx_dc dd_8 16 rfl)) ?_
  refine jx_ac (s_iald rfl (jx_dc dd_8 17 rfl)) ?_
  refine jx_ac (s_iconst (jx_dc dd_8 18 rfl) rfl) ?_
  refine jx_ac (s_iload_n (jx_dc dd_8 19 rfl) rfl) ?_
  refine jx_ac (s_ishl (jx_dc dd_8 20 rfl)) ?_
  refine jx_ac (s_ior (jx_dc dd_8 21 rfl)) ?_
  refine jx_ac (s_iast rfl (jx_dc dd_8 22 rfl)) ?_
  refine jx_ac (s_aload_n (jx_dc dd_8 23 rfl) rfl) ?_
  refine jx_ac (s_getf kk_0 (k := 2) (Nat.le_of_ble_eq_true rfl) (jx_dc dd_8 24 rfl) w_98) ?_
  refine jx_ac (s_bipush (jx_dc dd_8 25 rfl) rfl) ?_
  refine jx_ac (s_iload_n (jx_dc dd_8 26 rfl) rfl) ?_
  refine jx_ac (s_iadd (jx_dc dd_8 27 rfl)) ?_
  refine jx_ac (s_dup2 (jx_dc dd_8 28 rfl)) ?_
  refine jx_ac (s_iald rfl (jx_dc dd_8 29 rfl)) ?_
  refine jx_ac (s_iconst (jx_dc dd_8 30 rfl) rfl) ?_
  refine jx_ac (s_iload_n (jx_dc dd_8 31 rfl) rfl) ?_
  refine jx_ac (s_ishl (jx_dc dd_8 32 rfl)) ?_
  refine jx_ac (s_ior (jx_dc dd_8 33 rfl)) ?_
  refine jx_ac (s_iast rfl (jx_dc dd_8 34 rfl)) ?_
  refine jx_ac (s_ret rfl (jx_dc dd_8 35 rfl)) ?_
  exact jx_an
theorem A_8 : jx_All (jx_mk D c0 c1 c2 c3 c4 H0 ga gl G) jx_mt md_8 K_8 :=  A_8_0
def dl_9 : List (Nat × Instr × Nat) := [(0, .aload_n 0, 1), (1, .getfield 18, 3), (4, .iload_n 2, 1), (5, .bipush 10, 2), (7, .imul, 1), (8, .iload_n 1, 1), (9, .iadd, 1), (10, .iaload, 1), (11, .invokestatic 48, 3), (14, .ireturn, 1)]
theorem dd_9 : ∀ q ∈ dl_9, decode prog_3_method_10_code q.1 = .ok q.2 := by decide +kernel
theorem A_9_0 : jx_All (jx_mk D c0 c1 c2 c3 c4 H0 ga gl G) jx_mt md_9 K_9_0 := by
  refine jx_ac (s_aload_n (jx_dc dd_9 0 rfl) rfl) ?_
  refine jx_ac (s_getf kk_0 (k := 2) (Nat.le_of_ble_eq_true rfl) (jx_dc dd_9 1 rfl) w_98) ?_
  refine jx_ac (s_iload_n (jx_dc dd_9 2 rfl) rfl) ?_
  refine jx_ac (s_bipush (jx_dc dd_9 3 rfl) rfl) ?_
  refine jx_ac (s_imul (jx_dc dd_9 4 rfl)) ?_
  refine jx_ac (s_iload_n (jx_dc dd_9 5 rfl) rfl) ?_
  refine jx_ac (s_iadd (jx_dc dd_9 6 rfl)) ?_
  refine jx_ac (s_iald rfl (jx_dc dd_9 7 rfl)) ?_
  refine jx_ac (s_calls (ce := 124) mc_124 (jx_dc dd_9 8 rfl) w_110 w_111 w_112 ⟨by decide, by decide⟩ np_124) ?_
  refine jx_ac (s_iret rfl (jx_dc dd_9 9 rfl)) ?_
  exact jx_an
theorem A_9 : jx_All (jx_mk D c0 c1 c2 c3 c4 H0 ga gl G) jx_mt md_9 K_9 :=  A_9_0
def dl_10 : List (Nat × Instr × Nat) := [(0, .aload_n 0, 1), (1, .getfield 18, 3), (4, .iload_n 2, 1), (5, .bipush 10, 2), (7, .imul, 1), (8, .iload_n 1, 1), (9, .iadd, 1), (10, .iaload, 1), (11, .ireturn, 1)]
theorem dd_10 : ∀ q ∈ dl_10, decode prog_3_method_9_code q.1 = .ok q.2 := by decide +kernel
theorem A_10_0 : jx_All (jx_mk D c0 c1 c2 c3 c4 H0 ga gl G) jx_mt md_10 K_10_0 := by
  refine jx_ac (s_aload_n (jx_dc dd_10 0 rfl) rfl) ?_
  refine jx_ac (s_getf kk_0 (k := 2) (Nat.le_of_ble_eq_true rfl) (jx_dc dd_10 1 rfl) w_98) ?_
  refine jx_ac (s_iload_n (jx_dc dd_10 2 rfl) rfl) ?_
  refine jx_ac (s_bipush (jx_dc dd_10 3 rfl) rfl) ?_
  refine jx_ac (s_imul (jx_dc dd_10 4 rfl)) ?_
  refine jx_ac (s_iload_n (jx_dc dd_10 5 rfl) rfl) ?_
  refine jx_ac (s_iadd (jx_dc dd_10 6 rfl)) ?_
  refine jx_ac (s_iald rfl (jx_dc dd_10 7 rfl)) ?_
  refine jx_ac (s_iret rfl (jx_dc dd_10 8 rfl)) ?_
  exact jx_an
theorem A_10 : jx_All (jx_mk D c0 c1 c2 c3 c4 H0 ga gl G) jx_mt md_10 K_10 :=  A_10_0
def dl_11 : List (Nat × Instr × Nat) := [(0, .aload_n 0, 1), (1, .invokespecial 1, 3), (4, .aload_n 0, 1), (5, .new 7, 3), (8, .dup, 1), (9, .invokespecial 9, 3), (12, .putfield 10, 3), (15, .return_, 1)]
theorem dd_11 : ∀ q ∈ dl_11, decode prog_4_method_1_code q.1 = .ok q.2 := by decide +kernel
theorem A_11_0 : jx_All (jx_mk D c0 c1 c2 c3 c4 H0 ga gl G) jx_mt md_11 K_11_0 := by
  refine jx_ac (s_aload_n (jx_dc dd_11 0 rfl) rfl) ?_
  refine jx_ac (s_oinit (jx_dc dd_11 1 rfl) w_113 w_93 w_94) ?_
  refine jx_ac (s_aload_n (jx_dc dd_11 2 rfl) rfl) ?_
  refine jx_ac (s_new kk_0 (jx_dc dd_11 3 rfl) w_114 w_115 w_116 rfl) ?_
  refine jx_ac (s_dup (jx_dc dd_11 4 rfl)) ?_
  refine jx_ac (s_calliN (ce := 1) mc_1 w_118 (jx_dc dd_11 5 rfl) w_117 w_119 rfl ⟨by decide, by decide⟩ np_1) ?_
  refine jx_ac (s_putfF kk_1 (k := 3) (Nat.le_of_ble_eq_true rfl) (jx_dc dd_11 6 rfl) (fun _ h => jx_okR_n _ _ h) rfl rfl rfl w_120) ?_
  refine jx_ac (s_ret rfl (jx_dc dd_11 7 rfl)) ?_
  exact jx_an
theorem A_11 : jx_All (jx_mk D c0 c1 c2 c3 c4 H0 ga gl G) jx_mt md_11 K_11 :=  A_11_0
def dl_12 : List (Nat × Instr × Nat) := [(0, .aload_n 0, 1), (1, .iconst 0, 1), (2, .putfield 28, 3), (5, .aload_n 0, 1), (6, .iconst 0, 1), (7, .putfield 16, 3), (10, .aload_n 0, 1), (11, .iconst 0, 1), (12, .putfield 20, 3), (15, .return_, 1)]
theorem dd_12 : ∀ q ∈ dl_12, decode prog_4_method_3_code q.1 = .ok q.2 := by decide +kernel
theorem A_12_0 : jx_All (jx_mk D c0 c1 c2 c3 c4 H0 ga gl G) jx_mt md_12 K_12_0 := by
  refine jx_ac (s_aload_n (jx_dc dd_12 0 rfl) rfl) ?_
  refine jx_ac (s_iconst (jx_dc dd_12 1 rfl) rfl) ?_
  refine jx_ac (s_putf kk_1 (k := 0) (Nat.le_of_ble_eq_true rfl) (jx_dc dd_12 2 rfl) (fun _ h => jx_okZ_n _ h) rfl w_121) ?_
  refine jx_ac (s_aload_n (jx_dc dd_12 3 rfl) rfl) ?_
  refine jx_ac (s_iconst (jx_dc dd_12 4 rfl) rfl) ?_
  refine jx_ac (s_putf kk_1 (k := 1) (Nat.le_of_ble_eq_true rfl) (jx_dc dd_12 5 rfl) (fun _ h => jx_okZ_n _ h) rfl w_122) ?_
  refine jx_ac (s_aload_n (jx_dc dd_12 6 rfl) rfl) ?_
  refine jx_ac (s_iconst (jx_dc dd_12 7 rfl) rfl) ?_
  refine jx_ac (s_putf kk_1 (k := 2) (Nat.le_of_ble_eq_true rfl) (jx_dc dd_12 8 rfl) (fun _ h => jx_okI_n _ h) rfl w_123) ?_
  refine jx_ac (s_ret rfl (jx_dc dd_12 9 rfl)) ?_
  exact jx_an
theorem A_12 : jx_All (jx_mk D c0 c1 c2 c3 c4 H0 ga gl G) jx_mt md_12 K_12 :=  A_12_0
def dl_13 : List (Nat × Instr × Nat) := [(0, .aload_n 0, 1), (1, .iload_n 1, 1), (2, .putfield 16, 3), (5, .aload_n 0, 1), (6, .iload_n 2, 1), (7, .putfield 20, 3), (10, .aload_n 0, 1), (11, .getfield 16, 3), (14, .ifCond .ne 11, 3), (17, .aload_n 0, 1), (18, .getfield 10, 3), (21, .aload_n 3, 1), (22, .invokevirtual 24, 3), (25, .return_, 1)]
theorem dd_13 : ∀ q ∈ dl_13, decode prog_4_method_2_code q.1 = .ok q.2 := by decide +kernel
theorem A_13_0 : jx_All (jx_mk D c0 c1 c2 c3 c4 H0 ga gl G) jx_mt md_13 K_13_0 := by
  refine jx_ac (s_aload_n (jx_dc dd_13 0 rfl) rfl) ?_
  refine jx_ac (s_iload_n (jx_dc dd_13 1 rfl) rfl) ?_
  refine jx_ac (s_putf kk_1 (k := 1) (Nat.le_of_ble_eq_true rfl) (jx_dc dd_13 2 rfl) (fun _ h => jx_okZ_n _ h) rfl w_122) ?_
  refine jx_ac (s_aload_n (jx_dc dd_13 3 rfl) rfl) ?_
  refine jx_ac (s_iload_n (jx_dc dd_13 4 rfl) rfl) ?_
  refine jx_ac (s_putf kk_1 (k := 2) (Nat.le_of_ble_eq_true rfl) (jx_dc dd_13 5 rfl) (fun _ h => jx_okI_n _ h) rfl w_123) ?_
  refine jx_ac (s_aload_n (jx_dc dd_13 6 rfl) rfl) ?_
  refine jx_ac (s_getf kk_1 (k := 1) (Nat.le_of_ble_eq_true rfl) (jx_dc dd_13 7 rfl) w_122) ?_
  refine jx_ac (s_ifne (jx_dc dd_13 8 rfl) rfl) ?_
  refine jx_ac (s_aload_n (jx_dc dd_13 9 rfl) rfl) ?_
  refine jx_ac (s_getf kk_1 (k := 3) (Nat.le_of_ble_eq_true rfl) (jx_dc dd_13 10 rfl) w_120) ?_
  refine jx_ac (s_aload_n (jx_dc dd_13 11 rfl) rfl) ?_
  refine jx_ac (s_callv (ce := 2) kk_0 mc_2 (jx_dc dd_13 12 rfl) w_124 w_125 w_126 ⟨by decide, by decide⟩ np_2) ?_
  refine jx_ac (s_ret rfl (jx_dc dd_13 13 rfl)) ?_
  exact jx_an
theorem A_13 : jx_All (jx_mk D c0 c1 c2 c3 c4 H0 ga gl G) jx_mt md_13 K_13 :=  A_13_0
def dl_14 : List (Nat × Instr × Nat) := [(0, .aload_n 0, 1), (1, .invokespecial 3, 3), (4, .aload_n 0, 1), (5, .bipush 10, 2), (7, .newarray .int, 2), (9, .putfield 9, 3), (12, .aload_n 0, 1), (13, .bipush 10, 2), (15, .newarray .int, 2), (17, .putfield 15, 3), (20, .return_, 1)]
theorem dd_14 : ∀ q ∈ dl_14, decode prog_5_method_1_code q.1 = .ok q.2 := by decide +kernel
theorem A_14_0 : jx_All (jx_mk D c0 c1 c2 c3 c4 H0 ga gl G) jx_mt md_14 K_14_0 := by
  refine jx_ac (s_aload_n (jx_dc dd_14 0 rfl) rfl) ?_
  refine jx_ac (s_oinit (jx_dc dd_14 1 rfl) w_127 w_93 w_94) ?_
  refine jx_ac (s_aload_n (jx_dc dd_14 2 rfl) rfl) ?_
  refine jx_ac (s_bipush (jx_dc dd_14 3 rfl) rfl) ?_
  refine jx_ac (s_newa (t := 0) (z := jx_zi) rfl rfl (Nat.le_of_ble_eq_true rfl) (jx_dc dd_14 4 rfl) w_95 (fun _ _ => rfl) (fun _ => rfl) (by decide) (fun _ _ h => h)) ?_
  refine jx_ac (s_putfF kk_2 (k := 0) (Nat.le_of_ble_eq_true rfl) (jx_dc dd_14 5 rfl) (fun _ h => jx_okA_n _ _ h) rfl rfl rfl w_128) ?_
  refine jx_ac (s_aload_n (jx_dc dd_14 6 rfl) rfl) ?_
  refine jx_ac (s_bipush (jx_dc dd_14 7 rfl) rfl) ?_
  refine jx_ac (s_newa (t := 0) (z := jx_zi) rfl rfl (Nat.le_of_ble_eq_true rfl) (jx_dc dd_14 8 rfl) w_95 (fun _ _ => rfl) (fun _ => rfl) (by decide) (fun _ _ h => h)) ?_
  refine jx_ac (s_putfF kk_2 (k := 1) (Nat.le_of_ble_eq_true rfl) (jx_dc dd_14 9 rfl) (fun _ h => jx_okA_n _ _ h) rfl rfl rfl w_129) ?_
  refine jx_ac (s_ret rfl (jx_dc dd_14 10 rfl)) ?_
  exact jx_an
theorem A_14 : jx_All (jx_mk D c0 c1 c2 c3 c4 H0 ga gl G) jx_mt md_14 K_14 :=  A_14_0
def dl_15 : List (Nat × Instr × Nat) := [(0, .aload_n 1, 1), (1, .getfield 18, 3), (4, .aload_n 2, 1), (5, .getfield 18, 3), (8, .if_icmp .ne 42, 3), (11, .aload_n 1, 1), (12, .getfield 24, 3), (15, .aload_n 2, 1), (16, .getfield 24, 3), (19, .if_icmp .ne 31, 3), (22, .aload_n 0, 1), (23, .aload_n 1, 1), (24, .aload_n 2, 1), (25, .iconst 0, 1), (26, .invokevirtual 27, 3), (29, .ifCond .eq 21, 3), (32, .aload_n 0, 1), (33, .aload_n 1, 1), (34, .aload_n 2, 1), (35, .iconst 0, 1), (36, .aload_n 2, 1), (37, .invokestatic 31, 3), (40, .invokevirtual 35, 3), (43, .ifCond .eq 7, 3), (46, .iconst 1, 1), (47, .goto 4, 3), (50, .iconst 0, 1), (51, .ireturn, 1)]
theorem dd_15 : ∀ q ∈ dl_15, decode prog_5_method_2_code q.1 = .ok q.2 := by decide +kernel
theorem A_15_0 : jx_All (jx_mk D c0 c1 c2 c3 c4 H0 ga gl G) jx_mt md_15 K_15_0 := by
  refine jx_ac (s_aload_n (jx_dc dd_15 0 rfl) rfl) ?_
  refine jx_ac (s_getfN kk_0 (k := 3) (Nat.le_of_ble_eq_true rfl) (jx_dc dd_15 1 rfl) w_130) ?_
  refine jx_ac (s_aload_n (jx_dc dd_15 2 rfl) rfl) ?_
  refine jx_ac (s_getfN kk_0 (k := 3) (Nat.le_of_ble_eq_true rfl) (jx_dc dd_15 3 rfl) w_130) ?_
  refine jx_ac (s_ine (jx_dc dd_15 4 rfl) rfl) ?_
  refine jx_ac (s_aload_n (jx_dc dd_15 5 rfl) rfl) ?_
  refine jx_ac (s_getfN kk_0 (k := 4) (Nat.le_of_ble_eq_true rfl) (jx_dc dd_15 6 rfl) w_131) ?_
  refine jx_ac (s_aload_n (jx_dc dd_15 7 rfl) rfl) ?_
  refine jx_ac (s_getfN kk_0 (k := 4) (Nat.le_of_ble_eq_true rfl) (jx_dc dd_15 8 rfl) w_131) ?_
  refine jx_ac (s_ine (jx_dc dd_15 9 rfl) rfl) ?_
  refine jx_ac (s_aload_n (jx_dc dd_15 10 rfl) rfl) ?_
  refine jx_ac (s_aload_n (jx_dc dd_15 11 rfl) rfl) ?_
  refine jx_ac (s_aload_n (jx_dc dd_15 12 rfl) rfl) ?_
  refine jx_ac (s_iconst (jx_dc dd_15 13 rfl) rfl) ?_
  refine jx_ac (s_callv (ce := 16) kk_2 mc_16 (jx_dc dd_15 14 rfl) w_132 w_133 w_134 ⟨by decide, by decide⟩ np_16) ?_
  refine jx_ac (s_ifeq (jx_dc dd_15 15 rfl) rfl) ?_
  refine jx_ac (s_aload_n (jx_dc dd_15 16 rfl) rfl) ?_
  refine jx_ac (s_aload_n (jx_dc dd_15 17 rfl) rfl) ?_
  refine jx_ac (s_aload_n (jx_dc dd_15 18 rfl) rfl) ?_
  refine jx_ac (s_iconst (jx_dc dd_15 19 rfl) rfl) ?_
  refine jx_ac (s_aload_n (jx_dc dd_15 20 rfl) rfl) ?_
  refine jx_ac (s_calls (ce := 19) mc_19 (jx_dc dd_15 21 rfl) w_135 w_136 w_137 ⟨by decide, by decide⟩ np_19) ?_
  refine jx_ac (s_callv (ce := 20) kk_2 mc_20 (jx_dc dd_15 22 rfl) w_138 w_139 w_140 ⟨by decide, by decide⟩ np_20) ?_
  refine jx_ac (s_ifeq (jx_dc dd_15 23 rfl) rfl) ?_
  refine jx_ac (s_iconst (jx_dc dd_15 24 rfl) rfl) ?_
  refine jx_ac (s_goto (jx_dc dd_15 25 rfl) rfl) ?_
  refine jx_ac (s_iconst (jx_dc dd_15 26 rfl) rfl) ?_
  refine jx_ac (s_zret rfl (jx_dc dd_15 27 rfl)) ?_
  exact jx_an
theorem A_15 : jx_All (jx_mk D c0 c1 c2 c3 c4 H0 ga gl G) jx_mt md_15 K_15 :=  A_15_0
def dl_16 : List (Nat × Instr × Nat) := [(0, .iconst 0, 1), (1, .istore 4, 2), (3, .iload 4, 2), (5, .aload_n 1, 1), (6, .getfield 18, 3), (9, .if_icmp .ge 97, 3), (12, .aload_n 0, 1), (13, .getfield 9, 3), (16, .iload 4, 2), (18, .iconst 0, 1), (19, .iastore, 1), (20, .iconst 0, 1), (21, .istore 5, 2), (23, .iload 5, 2), (25, .aload_n 2, 1), (26, .getfield 18, 3), (29, .if_icmp .ge 59, 3), (32, .aload_n 1, 1), (33, .getfield 39, 3), (36, .iload 4, 2), (38, .iaload, 1), (39, .aload_n 2, 1), (40, .getfield 39, 3), (43, .iload 5, 2), (45, .iaload, 1), (46, .iload_n 3, 1), (47, .iconst (-1), 1), (48, .ixor, 1), (49, .iand, 1), (50, .invokestatic 42, 3), (53, .ifCond .eq 29, 3), (56, .aload_n 1, 1), (57, .iload 4, 2), (59, .aload_n 2, 1), (60, .iload 5, 2), (62, .invokestatic 46, 3), (65, .ifCond .eq 17, 3), (68, .aload_n 0, 1), (69, .getfield 9, 3), (72, .iload 4, 2), (74, .dup2, 1), (75, .iaload, 1), (76, .iconst 1, 1), (77, .iload 5, 2), (79, .ishl, 1), (80, .ior, 1), (81, .iastore, 1), (82, .iinc 5 1, 3), (85, .goto (-62), 3), (88, .aload_n 0, 1), (89, .getfield 9, 3), (92, .iload 4, 2), (94, .iaload, 1), (95, .ifCond .ne 5, 3), (98, .iconst 0, 1), (99, .ireturn, 1), (100, .iinc 4 1, 3), (103, .goto (-100), 3), (106, .iconst 1, 1), (107, .ireturn, 1)]
theorem dd_16 : ∀ q ∈ dl_16, decode prog_5_method_5_code q.1 = .ok q.2 := by decide +kernel
theorem A_16_0 : jx_All (jx_mk D c0 c1 c2 c3 c4 H0 ga gl G) jx_mt md_16 K_16_0 := by
  refine jx_ac (s_iconst (jx_dc dd_16 0 rfl) rfl) ?_
  refine jx_ac (s_istore (jx_dc dd_16 1 rfl)) ?_
  refine jx_ac (s_iload (jx_dc dd_16 2 rfl)) ?_
  refine jx_ac (s_aload_n (jx_dc dd_16 3 rfl) rfl) ?_
  refine jx_ac (s_getfN kk_0 (k := 3) (Nat.le_of_ble_eq_true rfl) (jx_dc dd_16 4 rfl) w_130) ?_
  refine jx_ac (s_ige (jx_dc dd_16 5 rfl) rfl) ?_
  refine jx_ac (s_aload_n (jx_dc dd_16 6 rfl) rfl) ?_
  refine jx_ac (s_getf kk_2 (k := 0) (Nat.le_of_ble_eq_true rfl) (jx_dc dd_16 7 rfl) w_128) ?_
  refine jx_ac (s_iload (jx_dc dd_16 8 rfl)) ?_
  refine jx_ac (s_iconst (jx_dc dd_16 9 rfl) rfl) ?_
  refine jx_ac (s_iast rfl (jx_dc dd_16 10 rfl)) ?_
  refine jx_ac (s_iconst (jx_dc dd_16 11 rfl) rfl) ?_
  refine jx_ac (s_istore (jx_dc dd_16 12 rfl)) ?_
  refine jx_ac (s_iload (jx_dc dd_16 13 rfl)) ?_
  refine jx_ac (s_aload_n (jx_dc dd_16 14 rfl) rfl) ?_
  refine jx_ac (s_getfN kk_0 (k := 3) (Nat.le_of_ble_eq_true rfl) (jx_dc dd_16 15 rfl) w_130) ?_
  refine jx_ac (s_ige (jx_dc dd_16 16 rfl) rfl) ?_
  refine jx_ac (s_aload_n (jx_dc dd_16 17 rfl) rfl) ?_
  refine jx_ac (s_getfN kk_0 (k := 0) (Nat.le_of_ble_eq_true rfl) (jx_dc dd_16 18 rfl) w_141) ?_
  refine jx_ac (s_iload (jx_dc dd_16 19 rfl)) ?_
  refine jx_ac (s_iald rfl (jx_dc dd_16 20 rfl)) ?_
  refine jx_ac (s_aload_n (jx_dc dd_16 21 rfl) rfl) ?_
  refine jx_ac (s_getfN kk_0 (k := 0) (Nat.le_of_ble_eq_true rfl) (jx_dc dd_16 22 rfl) w_141) ?_
  refine jx_ac (s_iload (jx_dc dd_16 23 rfl)) ?_
  refine jx_ac (s_iald rfl (jx_dc dd_16 24 rfl)) ?_
  refine jx_ac (s_iload_n (jx_dc dd_16 25 rfl) rfl) ?_
  refine jx_ac (s_iconst (jx_dc dd_16 26 rfl) rfl) ?_
  refine jx_ac (s_ixor (jx_dc dd_16 27 rfl)) ?_
  refine jx_ac (s_iand (jx_dc dd_16 28 rfl)) ?_
  refine jx_ac (s_calls (ce := 17) mc_17 (jx_dc dd_16 29 rfl) w_142 w_143 w_137 ⟨by decide, by decide⟩ np_17) ?_
  refine jx_ac (s_ifeq (jx_dc dd_16 30 rfl) rfl) ?_
  refine jx_ac (s_aload_n (jx_dc dd_16 31 rfl) rfl) ?_
  refine jx_ac (s_iload (jx_dc dd_16 32 rfl)) ?_
  refine jx_ac (s_aload_n (jx_dc dd_16 33 rfl) rfl) ?_
  refine jx_ac (s_iload (jx_dc dd_16 34 rfl)) ?_
  refine jx_ac (s_calls (ce := 18) mc_18 (jx_dc dd_16 35 rfl) w_144 w_145 w_137 ⟨by decide, by decide⟩ np_18) ?_
  refine jx_ac (s_ifeq (jx_dc dd_16 36 rfl) rfl) ?_
  refine jx_ac (s_aload_n (jx_dc dd_16 37 rfl) rfl) ?_
  refine jx_ac (s_getf kk_2 (k := 0) (Nat.le_of_ble_eq_true rfl) (jx_dc dd_16 38 rfl) w_128) ?_
  refine jx_ac (s_iload (jx_dc dd_16 39 rfl)) ?_
  exact jx_an
theorem A_16_1 : jx_All (jx_mk D c0 c1 c2 c3 c4 H0 ga gl G) jx_mt md_16 K_16_1 := by
  refine jx_ac (s_dup2 (jx_dc dd_16 40 rfl)) ?_
  refine jx_ac (s_iald rfl (jx_dc dd_16 41 rfl)) ?_
  refine jx_ac (s_iconst (jx_dc dd_16 42 rfl) rfl) ?_
  refine jx_ac (s_iload (jx_dc dd_16 43 rfl)) ?_
  refine jx_ac (s_ishl (jx_dc dd_16 44 rfl)) ?_
  refine jx_ac (s_ior (jx_dc dd_16 45 rfl)) ?_
  refine jx_ac (s_iast rfl (jx_dc dd_16 46 rfl)) ?_
  refine jx_ac (s_iinc (jx_dc dd_16 47 rfl) rfl) ?_
  refine jx_ac (s_goto (jx_dc dd_16 48 rfl) rfl) ?_
  refine jx_ac (s_aload_n (jx_dc dd_16 49 rfl) rfl) ?_
  refine jx_ac (s_getf kk_2 (k := 0) (Nat.le_of_ble_eq_true rfl) (jx_dc dd_16 50 rfl) w_128) ?_
  refine jx_ac (s_iload (jx_dc dd_16 51 rfl)) ?_
  refine jx_ac (s_iald rfl (jx_dc dd_16 52 rfl)) ?_
  refine jx_ac (s_ifne (jx_dc dd_16 53 rfl) rfl) ?_
  refine jx_ac (s_iconst (jx_dc dd_16 54 rfl) rfl) ?_
  refine jx_ac (s_zret rfl (jx_dc dd_16 55 rfl)) ?_
  refine jx_ac (s_iinc (jx_dc dd_16 56 rfl) rfl) ?_
  refine jx_ac (s_goto (jx_dc dd_16 57 rfl) rfl) ?_
  refine jx_ac (s_iconst (jx_dc dd_16 58 rfl) rfl) ?_
  refine jx_ac (s_zret rfl (jx_dc dd_16 59 rfl)) ?_
  exact jx_an
theorem A_16 : jx_All (jx_mk D c0 c1 c2 c3 c4 H0 ga gl G) jx_mt md_16 K_16 := (jx_aa A_16_0 A_16_1)
def dl_17 : List (Nat × Instr × Nat) := [(0, .iload_n 0, 1), (1, .sipush 16384, 3), (4, .iand, 1), (5, .ifCond .ne 14, 3), (8, .iload_n 0, 1), (9, .iload_n 1, 1), (10, .if_icmp .ne 7, 3), (13, .iconst 1, 1), (14, .goto 4, 3), (17, .iconst 0, 1), (18, .ireturn, 1), (19, .ldc 50, 2), (21, .iload_n 1, 1), (22, .bipush 127, 2), (24, .iand, 1), (25, .i2c, 1), (26, .invokevirtual 52, 3), (29, .istore_n 2, 1), (30, .iload_n 2, 1), (31, .ifCond .lt 15, 3), (34, .iload_n 0, 1), (35, .iload_n 2, 1), (36, .ishr, 1), (37, .iconst 1, 1), (38, .iand, 1), (39, .ifCond .eq 7, 3), (42, .iconst 1, 1), (43, .goto 4, 3), (46, .iconst 0, 1), (47, .ireturn, 1)]
theorem dd_17 : ∀ q ∈ dl_17, decode prog_5_method_6_code q.1 = .ok q.2 := by decide +kernel
theorem A_17_0 : jx_All (jx_mk D c0 c1 c2 c3 c4 H0 ga gl G) jx_mt md_17 K_17_0 := by
  refine jx_ac (s_iload_n (jx_dc dd_17 0 rfl) rfl) ?_
  refine jx_ac (s_sipush (jx_dc dd_17 1 rfl) rfl) ?_
  refine jx_ac (s_iand (jx_dc dd_17 2 rfl)) ?_
  refine jx_ac (s_ifne (jx_dc dd_17 3 rfl) rfl) ?_
  refine jx_ac (s_iload_n (jx_dc dd_17 4 rfl) rfl) ?_
  refine jx_ac (s_iload_n (jx_dc dd_17 5 rfl) rfl) ?_
  refine jx_ac (s_ine (jx_dc dd_17 6 rfl) rfl) ?_
  refine jx_ac (s_iconst (jx_dc dd_17 7 rfl) rfl) ?_
  refine jx_ac (s_goto (jx_dc dd_17 8 rfl) rfl) ?_
  refine jx_ac (s_iconst (jx_dc dd_17 9 rfl) rfl) ?_
  refine jx_ac (s_zret rfl (jx_dc dd_17 10 rfl)) ?_
  refine jx_ac (sorry) ?_
  refine jx_ac (s_iload_n (jx_dc dd_17 12 rfl) rfl) ?_
  refine jx_ac (s_bipush (jx_dc dd_17 13 rfl) rfl) ?_
  refine jx_ac (s_iand (jx_dc dd_17 14 rfl)) ?_
  refine jx_ac (s_i2c (jx_dc dd_17 15 rfl)) ?_
  refine jx_ac (sorry) ?_
  refine jx_ac (s_istore_n (jx_dc dd_17 17 rfl) rfl) ?_
  refine jx_ac (s_iload_n (jx_dc dd_17 18 rfl) rfl) ?_
  refine jx_ac (s_iflt (jx_dc dd_17 19 rfl) rfl) ?_
  refine jx_ac (s_iload_n (jx_dc dd_17 20 rfl) rfl) ?_
  refine jx_ac (s_iload_n (jx_dc dd_17 21 rfl) rfl) ?_
  refine jx_ac (s_ishr (jx_dc dd_17 22 rfl)) ?_
  refine jx_ac (s_iconst (jx_dc dd_17 23 rfl) rfl) ?_
  refine jx_ac (s_iand (jx_dc dd_17 24 rfl)) ?_
  refine jx_ac (s_ifeq (jx_dc dd_17 25 rfl) rfl) ?_
  refine jx_ac (s_iconst (jx_dc dd_17 26 rfl) rfl) ?_
  refine jx_ac (s_goto (jx_dc dd_17 27 rfl) rfl) ?_
  refine jx_ac (s_iconst (jx_dc dd_17 28 rfl) rfl) ?_
  refine jx_ac (s_zret rfl (jx_dc dd_17 29 rfl)) ?_
  exact jx_an
theorem A_17 : jx_All (jx_mk D c0 c1 c2 c3 c4 H0 ga gl G) jx_mt md_17 K_17 :=  A_17_0
def dl_18 : List (Nat × Instr × Nat) := [(0, .iconst 1, 1), (1, .istore 4, 2), (3, .iload 4, 2), (5, .iconst 5, 1), (6, .if_icmp .gt 28, 3), (9, .aload_n 0, 1), (10, .iload_n 1, 1), (11, .iload 4, 2), (13, .invokevirtual 58, 3), (16, .aload_n 2, 1), (17, .iload_n 3, 1), (18, .iload 4, 2), (20, .invokevirtual 58, 3), (23, .if_icmp .le 5, 3), (26, .iconst 0, 1), (27, .ireturn, 1), (28, .iinc 4 1, 3), (31, .goto (-28), 3), (34, .iconst 1, 1), (35, .ireturn, 1)]
theorem dd_18 : ∀ q ∈ dl_18, decode prog_5_method_7_code q.1 = .ok q.2 := by decide +kernel
theorem A_18_0 : jx_All (jx_mk D c0 c1 c2 c3 c4 H0 ga gl G) jx_mt md_18 K_18_0 := by
  refine jx_ac (s_iconst (jx_dc dd_18 0 rfl) rfl) ?_
  refine jx_ac (s_istore (jx_dc dd_18 1 rfl)) ?_
  refine jx_ac (s_iload (jx_dc dd_18 2 rfl)) ?_
  refine jx_ac (s_iconst (jx_dc dd_18 3 rfl) rfl) ?_
  refine jx_ac (s_igt (jx_dc dd_18 4 rfl) rfl) ?_
  refine jx_ac (s_aload_n (jx_dc dd_18 5 rfl) rfl) ?_
  refine jx_ac (s_iload_n (jx_dc dd_18 6 rfl) rfl) ?_
  refine jx_ac (s_iload (jx_dc dd_18 7 rfl)) ?_
  refine jx_ac (s_callv (ce := 9) kk_0 mc_9 (jx_dc dd_18 8 rfl) w_149 w_150 w_151 ⟨by decide, by decide⟩ np_9) ?_
  refine jx_ac (s_aload_n (jx_dc dd_18 9 rfl) rfl) ?_
  refine jx_ac (s_iload_n (jx_dc dd_18 10 rfl) rfl) ?_
  refine jx_ac (s_iload (jx_dc dd_18 11 rfl)) ?_
  refine jx_ac (s_callv (ce := 9) kk_0 mc_9 (jx_dc dd_18 12 rfl) w_149 w_150 w_151 ⟨by decide, by decide⟩ np_9) ?_
  refine jx_ac (s_ile (jx_dc dd_18 13 rfl) rfl) ?_
  refine jx_ac (s_iconst (jx_dc dd_18 14 rfl) rfl) ?_
  refine jx_ac (s_zret rfl (jx_dc dd_18 15 rfl)) ?_
  refine jx_ac (s_iinc (jx_dc dd_18 16 rfl) rfl) ?_
  refine jx_ac (s_goto (jx_dc dd_18 17 rfl) rfl) ?_
  refine jx_ac (s_iconst (jx_dc dd_18 18 rfl) rfl) ?_
  refine jx_ac (s_zret rfl (jx_dc dd_18 19 rfl)) ?_
  exact jx_an
theorem A_18 : jx_All (jx_mk D c0 c1 c2 c3 c4 H0 ga gl G) jx_mt md_18 K_18 :=  A_18_0
def dl_19 : List (Nat × Instr × Nat) := [(0, .iconst 1, 1), (1, .aload_n 0, 1), (2, .getfield 18, 3), (5, .ishl, 1), (6, .iconst 1, 1), (7, .isub, 1), (8, .ireturn, 1)]
theorem dd_19 : ∀ q ∈ dl_19, decode prog_5_method_4_code q.1 = .ok q.2 := by decide +kernel
theorem A_19_0 : jx_All (jx_mk D c0 c1 c2 c3 c4 H0 ga gl G) jx_mt md_19 K_19_0 := by
  refine jx_ac (s_iconst (jx_dc dd_19 0 rfl) rfl) ?_
  refine jx_ac (s_aload_n (jx_dc dd_19 1 rfl) rfl) ?_
  refine jx_ac (s_getfN kk_0 (k := 3) (Nat.le_of_ble_eq_true rfl) (jx_dc dd_19 2 rfl) w_130) ?_
  refine jx_ac (s_ishl (jx_dc dd_19 3 rfl)) ?_
  refine jx_ac (s_iconst (jx_dc dd_19 4 rfl) rfl) ?_
  refine jx_ac (s_isub (jx_dc dd_19 5 rfl)) ?_
  refine jx_ac (s_iret rfl (jx_dc dd_19 6 rfl)) ?_
  exact jx_an
theorem A_19 : jx_All (jx_mk D c0 c1 c2 c3 c4 H0 ga gl G) jx_mt md_19 K_19 :=  A_19_0
def dl_20 : List (Nat × Instr × Nat) := [(0, .iload_n 3, 1), (1, .aload_n 1, 1), (2, .getfield 18, 3), (5, .if_icmp .lt 5, 3), (8, .iconst 1, 1), (9, .ireturn, 1), (10, .aload_n 0, 1), (11, .getfield 9, 3), (14, .iload_n 3, 1), (15, .iaload, 1), (16, .iload 4, 2), (18, .iand, 1), (19, .istore 5, 2), (21, .iconst 0, 1), (22, .istore 6, 2), (24, .iload 6, 2), (26, .iload_n 3, 1), (27, .if_icmp .ge 41, 3), (30, .aload_n 1, 1), (31, .iload_n 3, 1), (32, .iload 6, 2), (34, .invokevirtual 62, 3), (37, .istore 7, 2), (39, .iload 7, 2), (41, .ifCond .eq 21, 3), (44, .iload 5, 2), (46, .aload_n 2, 1), (47, .aload_n 0, 1), (48, .getfield 15, 3), (51, .iload 6, 2), (53, .iaload, 1), (54, .iload 7, 2), (56, .invokevirtual 65, 3), (59, .iand, 1), (60, .istore 5, 2), (62, .iinc 6 1, 3), (65, .goto (-41), 3), (68, .iconst 0, 1), (69, .istore 6, 2), (71, .iload 6, 2), (73, .aload_n 2, 1), (74, .getfield 18, 3), (77, .if_icmp .ge 50, 3), (80, .iload 5, 2), (82, .iload 6, 2), (84, .ishr, 1), (85, .iconst 1, 1), (86, .iand, 1), (87, .ifCond .eq 34, 3), (90, .aload_n 0, 1), (91, .getfield 15, 3), (94, .iload_n 3, 1), (95, .iload 6, 2), (97, .iastore, 1), (98, .aload_n 0, 1), (99, .aload_n 1, 1), (100, .aload_n 2, 1), (101, .iload_n 3, 1), (102, .iconst 1, 1), (103, .iadd, 1), (104, .iload 4, 2), (106, .iconst 1, 1), (107, .iload 6, 2), (109, .ishl, 1), (110, .iconst (-1), 1), (111, .ixor, 1), (112, .iand, 1), (113, .invokevirtual 35, 3), (116, .ifCond .eq 5, 3), (119, .iconst 1, 1), (120, .ireturn, 1), (121, .iinc 6 1, 3), (124, .goto (-53), 3), (127, .iconst 0, 1), (128, .ireturn, 1)]
theorem dd_20 : ∀ q ∈ dl_20, decode prog_5_method_8_code q.1 = .ok q.2 := by decide +kernel
theorem A_20_0 : jx_All (jx_mk D c0 c1 c2 c3 c4 H0 ga gl G) jx_mt md_20 K_20_0 := by
  refine jx_ac (s_iload_n (jx_dc dd_20 0 rfl) rfl) ?_
  refine jx_ac (s_aload_n (jx_dc dd_20 1 rfl) rfl) ?_
  refine jx_ac (s_getfN kk_0 (k := 3) (Nat.le_of_ble_eq_true rfl) (jx_dc dd_20 2 rfl) w_130) ?_
  refine jx_ac (s_ilt (jx_dc dd_20 3 rfl) rfl) ?_
  refine jx_ac (s_iconst (jx_dc dd_20 4 rfl) rfl) ?_
  refine jx_ac (s_zret rfl (jx_dc dd_20 5 rfl)) ?_
  refine jx_ac (s_aload_n (jx_dc dd_20 6 rfl) rfl) ?_
  refine jx_ac (s_getf kk_2 (k := 0) (Nat.le_of_ble_eq_true rfl) (jx_dc dd_20 7 rfl) w_128) ?_
  refine jx_ac (s_iload_n (jx_dc dd_20 8 rfl) rfl) ?_
  refine jx_ac (s_iald rfl (jx_dc dd_20 9 rfl)) ?_
  refine jx_ac (s_iload (jx_dc dd_20 10 rfl)) ?_
  refine jx_ac (s_iand (jx_dc dd_20 11 rfl)) ?_
  refine jx_ac (s_istore (jx_dc dd_20 12 rfl)) ?_
  refine jx_ac (s_iconst (jx_dc dd_20 13 rfl) rfl) ?_
  refine jx_ac (s_istore (jx_dc dd_20 14 rfl)) ?_
  refine jx_ac (s_iload (jx_dc dd_20 15 rfl)) ?_
  refine jx_ac (s_iload_n (jx_dc dd_20 16 rfl) rfl) ?_
  refine jx_ac (s_ige (jx_dc dd_20 17 rfl) rfl) ?_
  refine jx_ac (s_aload_n (jx_dc dd_20 18 rfl) rfl) ?_
  refine jx_ac (s_iload_n (jx_dc dd_20 19 rfl) rfl) ?_
  refine jx_ac (s_iload (jx_dc dd_20 20 rfl)) ?_
  refine jx_ac (s_callv (ce := 4) kk_0 mc_4 (jx_dc dd_20 21 rfl) w_152 w_153 w_154 ⟨by decide, by decide⟩ np_4) ?_
  refine jx_ac (s_istore (jx_dc dd_20 22 rfl)) ?_
  refine jx_ac (s_iload (jx_dc dd_20 23 rfl)) ?_
  refine jx_ac (s_ifeq (jx_dc dd_20 24 rfl) rfl) ?_
  refine jx_ac (s_iload (jx_dc dd_20 25 rfl)) ?_
  refine jx_ac (s_aload_n (jx_dc dd_20 26 rfl) rfl) ?_
  refine jx_ac (s_aload_n (jx_dc dd_20 27 rfl) rfl) ?_
  refine jx_ac (s_getf kk_2 (k := 1) (Nat.le_of_ble_eq_true rfl) (jx_dc dd_20 28 rfl) w_129) ?_
  refine jx_ac (s_iload (jx_dc dd_20 29 rfl)) ?_
  refine jx_ac (s_iald rfl (jx_dc dd_20 30 rfl)) ?_
  refine jx_ac (s_iload (jx_dc dd_20 31 rfl)) ?_
  refine jx_ac (s_callv (ce := 10) kk_0 mc_10 (jx_dc dd_20 32 rfl) w_155 w_156 w_157 ⟨by decide, by decide⟩ np_10) ?_
  refine jx_ac (s_iand (jx_dc dd_20 33 rfl)) ?_
  refine jx_ac (s_istore (jx_dc dd_20 34 rfl)) ?_
  refine jx_ac (s_iinc (jx_dc dd_20 35 rfl) rfl) ?_
  refine jx_ac (s_goto (jx_dc dd_20 36 rfl) rfl) ?_
  refine jx_ac (s_iconst (jx_dc dd_20 37 rfl) rfl) ?_
  refine jx_ac (s_istore (jx_dc dd_20 38 rfl)) ?_
  refine jx_ac (s_iload (jx_dc dd_20 39 rfl)) ?_
  exact jx_an
theorem A_20_1 : jx_All (jx_mk D c0 c1 c2 c3 c4 H0 ga gl G) jx_mt md_20 K_20_1 := by
  refine jx_ac (s_aload_n (jx_dc dd_20 40 rfl) rfl) ?_
  refine jx_ac (s_getfN kk_0 (k := 3) (Nat.le_of_ble_eq_true rfl) (jx_dc dd_20 41 rfl) w_130) ?_
  refine jx_ac (s_ige (jx_dc dd_20 42 rfl) rfl) ?_
  refine jx_ac (s_iload (jx_dc dd_20 43 rfl)) ?_
  refine jx_ac (s_iload (jx_dc dd_20 44 rfl)) ?_
  refine jx_ac (s_ishr (jx_dc dd_20 45 rfl)) ?_
  refine jx_ac (s_iconst (jx_dc dd_20 46 rfl) rfl) ?_
  refine jx_ac (s_iand (jx_dc dd_20 47 rfl)) ?_
  refine jx_ac (s_ifeq (jx_dc dd_20 48 rfl) rfl) ?_
  refine jx_ac (s_aload_n (jx_dc dd_20 49 rfl) rfl) ?_
  refine jx_ac (s_getf kk_2 (k := 1) (Nat.le_of_ble_eq_true rfl) (jx_dc dd_20 50 rfl) w_129) ?_
  refine jx_ac (s_iload_n (jx_dc dd_20 51 rfl) rfl) ?_
  refine jx_ac (s_iload (jx_dc dd_20 52 rfl)) ?_
  refine jx_ac (s_iast rfl (jx_dc dd_20 53 rfl)) ?_
  refine jx_ac (s_aload_n (jx_dc dd_20 54 rfl) rfl) ?_
  refine jx_ac (s_aload_n (jx_dc dd_20 55 rfl) rfl) ?_
  refine jx_ac (s_aload_n (jx_dc dd_20 56 rfl) rfl) ?_
  refine jx_ac (s_iload_n (jx_dc dd_20 57 rfl) rfl) ?_
  refine jx_ac (s_iconst (jx_dc dd_20 58 rfl) rfl) ?_
  refine jx_ac (s_iadd (jx_dc dd_20 59 rfl)) ?_
  refine jx_ac (s_iload (jx_dc dd_20 60 rfl)) ?_
  refine jx_ac (s_iconst (jx_dc dd_20 61 rfl) rfl) ?_
  refine jx_ac (s_iload (jx_dc dd_20 62 rfl)) ?_
  refine jx_ac (s_ishl (jx_dc dd_20 63 rfl)) ?_
  refine jx_ac (s_iconst (jx_dc dd_20 64 rfl) rfl) ?_
  refine jx_ac (s_ixor (jx_dc dd_20 65 rfl)) ?_
  refine jx_ac (s_iand (jx_dc dd_20 66 rfl)) ?_
  refine jx_ac (s_callv (ce := 20) kk_2 mc_20 (jx_dc dd_20 67 rfl) w_138 w_139 w_140 ⟨by decide, by decide⟩ np_20) ?_
  refine jx_ac (s_ifeq (jx_dc dd_20 68 rfl) rfl) ?_
  refine jx_ac (s_iconst (jx_dc dd_20 69 rfl) rfl) ?_
  refine jx_ac (s_zret rfl (jx_dc dd_20 70 rfl)) ?_
  refine jx_ac (s_iinc (jx_dc dd_20 71 rfl) rfl) ?_
  refine jx_ac (s_goto (jx_dc dd_20 72 rfl) rfl) ?_
  refine jx_ac (s_iconst (jx_dc dd_20 73 rfl) rfl) ?_
  refine jx_ac (s_zret rfl (jx_dc dd_20 74 rfl)) ?_
  exact jx_an
theorem A_20 : jx_All (jx_mk D c0 c1 c2 c3 c4 H0 ga gl G) jx_mt md_20 K_20 := (jx_aa A_20_0 A_20_1)
end JT
end
