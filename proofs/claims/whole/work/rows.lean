section
-- ===== PART A: goes FIRST, ahead of the names: the tables' words, and 'selects' of the private methods out of them =====
/-- a private method of a class that the tables say can be made, by its rows of tables_1 -/
def lw_okq (q : MethodName × Nat) : Prop := (q.1.cls ≠ "java/lang/invoke/MethodHandle" ∧ q.1.cls ≠ "java/lang/invoke/VarHandle") ∧ Cond.instantiable q.1.cls q.2 ∈ tables_1 ∧ Cond.privateMethod q.1 ∈ tables_1 ∧ Cond.instanceMethod q.1 ∈ tables_1
theorem lw_p0 : lw_okq (⟨"MoleculeRegistry", "append", "(J)V"⟩, 11) := ⟨⟨by decide +kernel, by decide +kernel⟩, List.mem_of_getElem? (i := 27) (by decide +kernel), List.mem_of_getElem? (i := 225) (by decide +kernel), List.mem_of_getElem? (i := 226) (by decide +kernel)⟩
theorem lw_p1 : lw_okq (⟨"MoleculeRegistry", "carryOut", "()V"⟩, 11) := ⟨⟨by decide +kernel, by decide +kernel⟩, List.mem_of_getElem? (i := 27) (by decide +kernel), List.mem_of_getElem? (i := 245) (by decide +kernel), List.mem_of_getElem? (i := 246) (by decide +kernel)⟩
theorem lw_p2 : lw_okq (⟨"MoleculeRegistry", "visible", "(I)LMoleculeRegistry$Graph;"⟩, 11) := ⟨⟨by decide +kernel, by decide +kernel⟩, List.mem_of_getElem? (i := 27) (by decide +kernel), List.mem_of_getElem? (i := 281) (by decide +kernel), List.mem_of_getElem? (i := 282) (by decide +kernel)⟩
theorem lw_p3 : lw_okq (⟨"MoleculeRegistry", "readBuffer", "(Z)V"⟩, 11) := ⟨⟨by decide +kernel, by decide +kernel⟩, List.mem_of_getElem? (i := 27) (by decide +kernel), List.mem_of_getElem? (i := 313) (by decide +kernel), List.mem_of_getElem? (i := 314) (by decide +kernel)⟩
theorem lw_p4 : lw_okq (⟨"MoleculeRegistry", "refuseWhenDown", "()V"⟩, 11) := ⟨⟨by decide +kernel, by decide +kernel⟩, List.mem_of_getElem? (i := 27) (by decide +kernel), List.mem_of_getElem? (i := 317) (by decide +kernel), List.mem_of_getElem? (i := 318) (by decide +kernel)⟩
theorem lw_p5 : lw_okq (⟨"java/lang/Throwable", "fillInStackTrace", "(I)Ljava/lang/Throwable;"⟩, 6) := ⟨⟨by decide +kernel, by decide +kernel⟩, List.mem_of_getElem? (i := 361) (by decide +kernel), List.mem_of_getElem? (i := 359) (by decide +kernel), List.mem_of_getElem? (i := 360) (by decide +kernel)⟩
theorem lw_p6 : lw_okq (⟨"MoleculeRegistry$Reader", "readLink", "()I"⟩, 15) := ⟨⟨by decide +kernel, by decide +kernel⟩, List.mem_of_getElem? (i := 35) (by decide +kernel), List.mem_of_getElem? (i := 406) (by decide +kernel), List.mem_of_getElem? (i := 407) (by decide +kernel)⟩
theorem lw_p7 : lw_okq (⟨"MoleculeRegistry$Reader", "takes", "(C)Z"⟩, 15) := ⟨⟨by decide +kernel, by decide +kernel⟩, List.mem_of_getElem? (i := 35) (by decide +kernel), List.mem_of_getElem? (i := 410) (by decide +kernel), List.mem_of_getElem? (i := 411) (by decide +kernel)⟩
theorem lw_p8 : lw_okq (⟨"MoleculeRegistry$Reader", "readAtom", "()Z"⟩, 15) := ⟨⟨by decide +kernel, by decide +kernel⟩, List.mem_of_getElem? (i := 35) (by decide +kernel), List.mem_of_getElem? (i := 414) (by decide +kernel), List.mem_of_getElem? (i := 415) (by decide +kernel)⟩
theorem lw_p9 : lw_okq (⟨"MoleculeRegistry$Reader", "here", "()C"⟩, 15) := ⟨⟨by decide +kernel, by decide +kernel⟩, List.mem_of_getElem? (i := 35) (by decide +kernel), List.mem_of_getElem? (i := 418) (by decide +kernel), List.mem_of_getElem? (i := 419) (by decide +kernel)⟩
theorem lw_p10 : lw_okq (⟨"MoleculeRegistry$Reader", "readBrackets", "()Z"⟩, 15) := ⟨⟨by decide +kernel, by decide +kernel⟩, List.mem_of_getElem? (i := 35) (by decide +kernel), List.mem_of_getElem? (i := 422) (by decide +kernel), List.mem_of_getElem? (i := 423) (by decide +kernel)⟩
theorem lw_p11 : lw_okq (⟨"MoleculeRegistry$Reader", "readList", "(C)Z"⟩, 15) := ⟨⟨by decide +kernel, by decide +kernel⟩, List.mem_of_getElem? (i := 35) (by decide +kernel), List.mem_of_getElem? (i := 511) (by decide +kernel), List.mem_of_getElem? (i := 512) (by decide +kernel)⟩
theorem lw_p12 : lw_okq (⟨"MoleculeRegistry$Reader", "addAtom", "(II)Z"⟩, 15) := ⟨⟨by decide +kernel, by decide +kernel⟩, List.mem_of_getElem? (i := 35) (by decide +kernel), List.mem_of_getElem? (i := 515) (by decide +kernel), List.mem_of_getElem? (i := 516) (by decide +kernel)⟩
theorem lw_p13 : lw_okq (⟨"MoleculeRegistry$Reader", "readHydrogens", "()I"⟩, 15) := ⟨⟨by decide +kernel, by decide +kernel⟩, List.mem_of_getElem? (i := 35) (by decide +kernel), List.mem_of_getElem? (i := 519) (by decide +kernel), List.mem_of_getElem? (i := 520) (by decide +kernel)⟩
theorem lw_p14 : lw_okq (⟨"MoleculeRegistry$Reader", "readCharge", "()I"⟩, 15) := ⟨⟨by decide +kernel, by decide +kernel⟩, List.mem_of_getElem? (i := 35) (by decide +kernel), List.mem_of_getElem? (i := 523) (by decide +kernel), List.mem_of_getElem? (i := 524) (by decide +kernel)⟩
theorem lw_p15 : lw_okq (⟨"MoleculeRegistry$Reader", "bind", "(III)Z"⟩, 15) := ⟨⟨by decide +kernel, by decide +kernel⟩, List.mem_of_getElem? (i := 35) (by decide +kernel), List.mem_of_getElem? (i := 528) (by decide +kernel), List.mem_of_getElem? (i := 529) (by decide +kernel)⟩
def lw_privs_1 : List (MethodName × Nat) := [(⟨"MoleculeRegistry", "append", "(J)V"⟩, 11), (⟨"MoleculeRegistry", "carryOut", "()V"⟩, 11), (⟨"MoleculeRegistry", "visible", "(I)LMoleculeRegistry$Graph;"⟩, 11), (⟨"MoleculeRegistry", "readBuffer", "(Z)V"⟩, 11), (⟨"MoleculeRegistry", "refuseWhenDown", "()V"⟩, 11), (⟨"java/lang/Throwable", "fillInStackTrace", "(I)Ljava/lang/Throwable;"⟩, 6), (⟨"MoleculeRegistry$Reader", "readLink", "()I"⟩, 15), (⟨"MoleculeRegistry$Reader", "takes", "(C)Z"⟩, 15), (⟨"MoleculeRegistry$Reader", "readAtom", "()Z"⟩, 15), (⟨"MoleculeRegistry$Reader", "here", "()C"⟩, 15), (⟨"MoleculeRegistry$Reader", "readBrackets", "()Z"⟩, 15), (⟨"MoleculeRegistry$Reader", "readList", "(C)Z"⟩, 15), (⟨"MoleculeRegistry$Reader", "addAtom", "(II)Z"⟩, 15), (⟨"MoleculeRegistry$Reader", "readHydrogens", "()I"⟩, 15), (⟨"MoleculeRegistry$Reader", "readCharge", "()I"⟩, 15), (⟨"MoleculeRegistry$Reader", "bind", "(III)Z"⟩, 15)]
theorem lw_r1 : ∀ q ∈ lw_privs_1, lw_okq q := List.forall_mem_cons.mpr ⟨lw_p0, List.forall_mem_cons.mpr ⟨lw_p1, List.forall_mem_cons.mpr ⟨lw_p2, List.forall_mem_cons.mpr ⟨lw_p3, List.forall_mem_cons.mpr ⟨lw_p4, List.forall_mem_cons.mpr ⟨lw_p5, List.forall_mem_cons.mpr ⟨lw_p6, List.forall_mem_cons.mpr ⟨lw_p7, List.forall_mem_cons.mpr ⟨lw_p8, List.forall_mem_cons.mpr ⟨lw_p9, List.forall_mem_cons.mpr ⟨lw_p10, List.forall_mem_cons.mpr ⟨lw_p11, List.forall_mem_cons.mpr ⟨lw_p12, List.forall_mem_cons.mpr ⟨lw_p13, List.forall_mem_cons.mpr ⟨lw_p14, List.forall_mem_cons.mpr ⟨lw_p15, fun _ h => absurd h List.not_mem_nil⟩⟩⟩⟩⟩⟩⟩⟩⟩⟩⟩⟩⟩⟩⟩⟩
theorem lw_p16 : lw_okq (⟨"MoleculeRegistry$Reader", "kindFor", "(III)I"⟩, 15) := ⟨⟨by decide +kernel, by decide +kernel⟩, List.mem_of_getElem? (i := 35) (by decide +kernel), List.mem_of_getElem? (i := 532) (by decide +kernel), List.mem_of_getElem? (i := 533) (by decide +kernel)⟩
theorem lw_p17 : lw_okq (⟨"MoleculeRegistry$Reader", "areBound", "(II)Z"⟩, 15) := ⟨⟨by decide +kernel, by decide +kernel⟩, List.mem_of_getElem? (i := 35) (by decide +kernel), List.mem_of_getElem? (i := 536) (by decide +kernel), List.mem_of_getElem? (i := 537) (by decide +kernel)⟩
theorem lw_p18 : lw_okq (⟨"MoleculeRegistry$Reader", "readClosures", "(I)Z"⟩, 15) := ⟨⟨by decide +kernel, by decide +kernel⟩, List.mem_of_getElem? (i := 35) (by decide +kernel), List.mem_of_getElem? (i := 540) (by decide +kernel), List.mem_of_getElem? (i := 541) (by decide +kernel)⟩
theorem lw_p19 : lw_okq (⟨"MoleculeRegistry$Reader", "openOrClose", "(III)Z"⟩, 15) := ⟨⟨by decide +kernel, by decide +kernel⟩, List.mem_of_getElem? (i := 35) (by decide +kernel), List.mem_of_getElem? (i := 544) (by decide +kernel), List.mem_of_getElem? (i := 545) (by decide +kernel)⟩
theorem lw_p20 : lw_okq (⟨"MoleculeRegistry$Reader", "readPartEnds", "(I)I"⟩, 15) := ⟨⟨by decide +kernel, by decide +kernel⟩, List.mem_of_getElem? (i := 35) (by decide +kernel), List.mem_of_getElem? (i := 548) (by decide +kernel), List.mem_of_getElem? (i := 549) (by decide +kernel)⟩
theorem lw_p21 : lw_okq (⟨"MoleculeRegistry$Reader", "readPartStart", "(I)V"⟩, 15) := ⟨⟨by decide +kernel, by decide +kernel⟩, List.mem_of_getElem? (i := 35) (by decide +kernel), List.mem_of_getElem? (i := 552) (by decide +kernel), List.mem_of_getElem? (i := 553) (by decide +kernel)⟩
theorem lw_p22 : lw_okq (⟨"MoleculeRegistry$Graph", "joinOneWay", "(III)V"⟩, 5) := ⟨⟨by decide +kernel, by decide +kernel⟩, List.mem_of_getElem? (i := 91) (by decide +kernel), List.mem_of_getElem? (i := 610) (by decide +kernel), List.mem_of_getElem? (i := 611) (by decide +kernel)⟩
theorem lw_p23 : lw_okq (⟨"MoleculeRegistry", "idOfSame", "()I"⟩, 11) := ⟨⟨by decide +kernel, by decide +kernel⟩, List.mem_of_getElem? (i := 27) (by decide +kernel), List.mem_of_getElem? (i := 666) (by decide +kernel), List.mem_of_getElem? (i := 667) (by decide +kernel)⟩
theorem lw_p24 : lw_okq (⟨"MoleculeRegistry$Matcher", "findChoices", "(LMoleculeRegistry$Graph;LMoleculeRegistry$Graph;I)Z"⟩, 2) := ⟨⟨by decide +kernel, by decide +kernel⟩, List.mem_of_getElem? (i := 120) (by decide +kernel), List.mem_of_getElem? (i := 674) (by decide +kernel), List.mem_of_getElem? (i := 675) (by decide +kernel)⟩
theorem lw_p25 : lw_okq (⟨"MoleculeRegistry$Matcher", "canPlace", "(LMoleculeRegistry$Graph;LMoleculeRegistry$Graph;II)Z"⟩, 2) := ⟨⟨by decide +kernel, by decide +kernel⟩, List.mem_of_getElem? (i := 120) (by decide +kernel), List.mem_of_getElem? (i := 690) (by decide +kernel), List.mem_of_getElem? (i := 691) (by decide +kernel)⟩
theorem lw_p26 : lw_okq (⟨"MoleculeRegistry", "change", "(ZI)Z"⟩, 11) := ⟨⟨by decide +kernel, by decide +kernel⟩, List.mem_of_getElem? (i := 27) (by decide +kernel), List.mem_of_getElem? (i := 712) (by decide +kernel), List.mem_of_getElem? (i := 713) (by decide +kernel)⟩
theorem lw_p27 : lw_okq (⟨"MoleculeRegistryModel", "raise", "(I)I"⟩, 40) := ⟨⟨by decide +kernel, by decide +kernel⟩, List.mem_of_getElem? (i := 746) (by decide +kernel), List.mem_of_getElem? (i := 890) (by decide +kernel), List.mem_of_getElem? (i := 891) (by decide +kernel)⟩
theorem lw_p28 : lw_okq (⟨"MoleculeRegistryModel", "wrongness", "()I"⟩, 40) := ⟨⟨by decide +kernel, by decide +kernel⟩, List.mem_of_getElem? (i := 746) (by decide +kernel), List.mem_of_getElem? (i := 894) (by decide +kernel), List.mem_of_getElem? (i := 895) (by decide +kernel)⟩
theorem lw_p29 : lw_okq (⟨"MoleculeRegistryModel", "read", "(Z)Z"⟩, 40) := ⟨⟨by decide +kernel, by decide +kernel⟩, List.mem_of_getElem? (i := 746) (by decide +kernel), List.mem_of_getElem? (i := 898) (by decide +kernel), List.mem_of_getElem? (i := 899) (by decide +kernel)⟩
theorem lw_p30 : lw_okq (⟨"MoleculeRegistryModel", "ch", "(I)I"⟩, 40) := ⟨⟨by decide +kernel, by decide +kernel⟩, List.mem_of_getElem? (i := 746) (by decide +kernel), List.mem_of_getElem? (i := 902) (by decide +kernel), List.mem_of_getElem? (i := 903) (by decide +kernel)⟩
theorem lw_p31 : lw_okq (⟨"MoleculeRegistryModel", "atom", "(Z)Z"⟩, 40) := ⟨⟨by decide +kernel, by decide +kernel⟩, List.mem_of_getElem? (i := 746) (by decide +kernel), List.mem_of_getElem? (i := 909) (by decide +kernel), List.mem_of_getElem? (i := 910) (by decide +kernel)⟩
def lw_privs_2 : List (MethodName × Nat) := [(⟨"MoleculeRegistry$Reader", "kindFor", "(III)I"⟩, 15), (⟨"MoleculeRegistry$Reader", "areBound", "(II)Z"⟩, 15), (⟨"MoleculeRegistry$Reader", "readClosures", "(I)Z"⟩, 15), (⟨"MoleculeRegistry$Reader", "openOrClose", "(III)Z"⟩, 15), (⟨"MoleculeRegistry$Reader", "readPartEnds", "(I)I"⟩, 15), (⟨"MoleculeRegistry$Reader", "readPartStart", "(I)V"⟩, 15), (⟨"MoleculeRegistry$Graph", "joinOneWay", "(III)V"⟩, 5), (⟨"MoleculeRegistry", "idOfSame", "()I"⟩, 11), (⟨"MoleculeRegistry$Matcher", "findChoices", "(LMoleculeRegistry$Graph;LMoleculeRegistry$Graph;I)Z"⟩, 2), (⟨"MoleculeRegistry$Matcher", "canPlace", "(LMoleculeRegistry$Graph;LMoleculeRegistry$Graph;II)Z"⟩, 2), (⟨"MoleculeRegistry", "change", "(ZI)Z"⟩, 11), (⟨"MoleculeRegistryModel", "raise", "(I)I"⟩, 40), (⟨"MoleculeRegistryModel", "wrongness", "()I"⟩, 40), (⟨"MoleculeRegistryModel", "read", "(Z)Z"⟩, 40), (⟨"MoleculeRegistryModel", "ch", "(I)I"⟩, 40), (⟨"MoleculeRegistryModel", "atom", "(Z)Z"⟩, 40)]
theorem lw_r2 : ∀ q ∈ lw_privs_2, lw_okq q := List.forall_mem_cons.mpr ⟨lw_p16, List.forall_mem_cons.mpr ⟨lw_p17, List.forall_mem_cons.mpr ⟨lw_p18, List.forall_mem_cons.mpr ⟨lw_p19, List.forall_mem_cons.mpr ⟨lw_p20, List.forall_mem_cons.mpr ⟨lw_p21, List.forall_mem_cons.mpr ⟨lw_p22, List.forall_mem_cons.mpr ⟨lw_p23, List.forall_mem_cons.mpr ⟨lw_p24, List.forall_mem_cons.mpr ⟨lw_p25, List.forall_mem_cons.mpr ⟨lw_p26, List.forall_mem_cons.mpr ⟨lw_p27, List.forall_mem_cons.mpr ⟨lw_p28, List.forall_mem_cons.mpr ⟨lw_p29, List.forall_mem_cons.mpr ⟨lw_p30, List.forall_mem_cons.mpr ⟨lw_p31, fun _ h => absurd h List.not_mem_nil⟩⟩⟩⟩⟩⟩⟩⟩⟩⟩⟩⟩⟩⟩⟩⟩
theorem lw_p32 : lw_okq (⟨"MoleculeRegistryModel", "newAtom", "(IZ)V"⟩, 40) := ⟨⟨by decide +kernel, by decide +kernel⟩, List.mem_of_getElem? (i := 746) (by decide +kernel), List.mem_of_getElem? (i := 916) (by decide +kernel), List.mem_of_getElem? (i := 917) (by decide +kernel)⟩
theorem lw_p33 : lw_okq (⟨"MoleculeRegistryModel", "several", "()Z"⟩, 40) := ⟨⟨by decide +kernel, by decide +kernel⟩, List.mem_of_getElem? (i := 746) (by decide +kernel), List.mem_of_getElem? (i := 920) (by decide +kernel), List.mem_of_getElem? (i := 921) (by decide +kernel)⟩
theorem lw_p34 : lw_okq (⟨"MoleculeRegistryModel", "one", "()Z"⟩, 40) := ⟨⟨by decide +kernel, by decide +kernel⟩, List.mem_of_getElem? (i := 746) (by decide +kernel), List.mem_of_getElem? (i := 924) (by decide +kernel), List.mem_of_getElem? (i := 925) (by decide +kernel)⟩
theorem lw_p35 : lw_okq (⟨"MoleculeRegistryModel", "bind", "(III)V"⟩, 40) := ⟨⟨by decide +kernel, by decide +kernel⟩, List.mem_of_getElem? (i := 746) (by decide +kernel), List.mem_of_getElem? (i := 928) (by decide +kernel), List.mem_of_getElem? (i := 929) (by decide +kernel)⟩
theorem lw_p36 : lw_okq (⟨"MoleculeRegistryModel", "closures", "(IZ)V"⟩, 40) := ⟨⟨by decide +kernel, by decide +kernel⟩, List.mem_of_getElem? (i := 746) (by decide +kernel), List.mem_of_getElem? (i := 932) (by decide +kernel), List.mem_of_getElem? (i := 933) (by decide +kernel)⟩
theorem lw_p37 : lw_okq (⟨"MoleculeRegistryModel", "valences", "()Z"⟩, 40) := ⟨⟨by decide +kernel, by decide +kernel⟩, List.mem_of_getElem? (i := 746) (by decide +kernel), List.mem_of_getElem? (i := 936) (by decide +kernel), List.mem_of_getElem? (i := 937) (by decide +kernel)⟩
theorem lw_p38 : lw_okq (⟨"MoleculeRegistryModel", "orders", "(I)I"⟩, 40) := ⟨⟨by decide +kernel, by decide +kernel⟩, List.mem_of_getElem? (i := 746) (by decide +kernel), List.mem_of_getElem? (i := 940) (by decide +kernel), List.mem_of_getElem? (i := 941) (by decide +kernel)⟩
theorem lw_p39 : lw_okq (⟨"MoleculeRegistryModel", "most", "(I)I"⟩, 40) := ⟨⟨by decide +kernel, by decide +kernel⟩, List.mem_of_getElem? (i := 746) (by decide +kernel), List.mem_of_getElem? (i := 944) (by decide +kernel), List.mem_of_getElem? (i := 945) (by decide +kernel)⟩
theorem lw_p40 : lw_okq (⟨"MoleculeRegistryModel", "matching", "()Z"⟩, 40) := ⟨⟨by decide +kernel, by decide +kernel⟩, List.mem_of_getElem? (i := 746) (by decide +kernel), List.mem_of_getElem? (i := 948) (by decide +kernel), List.mem_of_getElem? (i := 949) (by decide +kernel)⟩
theorem lw_p41 : lw_okq (⟨"MoleculeRegistryModel", "pairs", "(I)Z"⟩, 40) := ⟨⟨by decide +kernel, by decide +kernel⟩, List.mem_of_getElem? (i := 746) (by decide +kernel), List.mem_of_getElem? (i := 952) (by decide +kernel), List.mem_of_getElem? (i := 953) (by decide +kernel)⟩
theorem lw_p42 : lw_okq (⟨"MoleculeRegistryModel", "free", "()I"⟩, 40) := ⟨⟨by decide +kernel, by decide +kernel⟩, List.mem_of_getElem? (i := 746) (by decide +kernel), List.mem_of_getElem? (i := 956) (by decide +kernel), List.mem_of_getElem? (i := 957) (by decide +kernel)⟩
theorem lw_p43 : lw_okq (⟨"MoleculeRegistryModel", "same", "()I"⟩, 40) := ⟨⟨by decide +kernel, by decide +kernel⟩, List.mem_of_getElem? (i := 746) (by decide +kernel), List.mem_of_getElem? (i := 960) (by decide +kernel), List.mem_of_getElem? (i := 961) (by decide +kernel)⟩
theorem lw_p44 : lw_okq (⟨"MoleculeRegistryModel", "canBePut", "(IZ)Z"⟩, 40) := ⟨⟨by decide +kernel, by decide +kernel⟩, List.mem_of_getElem? (i := 746) (by decide +kernel), List.mem_of_getElem? (i := 964) (by decide +kernel), List.mem_of_getElem? (i := 965) (by decide +kernel)⟩
theorem lw_p45 : lw_okq (⟨"MoleculeRegistryModel", "agrees", "(IIIZ)Z"⟩, 40) := ⟨⟨by decide +kernel, by decide +kernel⟩, List.mem_of_getElem? (i := 746) (by decide +kernel), List.mem_of_getElem? (i := 968) (by decide +kernel), List.mem_of_getElem? (i := 969) (by decide +kernel)⟩
theorem lw_p46 : lw_okq (⟨"MoleculeRegistryModel", "fits", "(IIIZ)Z"⟩, 40) := ⟨⟨by decide +kernel, by decide +kernel⟩, List.mem_of_getElem? (i := 746) (by decide +kernel), List.mem_of_getElem? (i := 972) (by decide +kernel), List.mem_of_getElem? (i := 973) (by decide +kernel)⟩
theorem lw_p47 : lw_okq (⟨"MoleculeRegistryModel", "keepText", "()V"⟩, 40) := ⟨⟨by decide +kernel, by decide +kernel⟩, List.mem_of_getElem? (i := 746) (by decide +kernel), List.mem_of_getElem? (i := 976) (by decide +kernel), List.mem_of_getElem? (i := 977) (by decide +kernel)⟩
def lw_privs_3 : List (MethodName × Nat) := [(⟨"MoleculeRegistryModel", "newAtom", "(IZ)V"⟩, 40), (⟨"MoleculeRegistryModel", "several", "()Z"⟩, 40), (⟨"MoleculeRegistryModel", "one", "()Z"⟩, 40), (⟨"MoleculeRegistryModel", "bind", "(III)V"⟩, 40), (⟨"MoleculeRegistryModel", "closures", "(IZ)V"⟩, 40), (⟨"MoleculeRegistryModel", "valences", "()Z"⟩, 40), (⟨"MoleculeRegistryModel", "orders", "(I)I"⟩, 40), (⟨"MoleculeRegistryModel", "most", "(I)I"⟩, 40), (⟨"MoleculeRegistryModel", "matching", "()Z"⟩, 40), (⟨"MoleculeRegistryModel", "pairs", "(I)Z"⟩, 40), (⟨"MoleculeRegistryModel", "free", "()I"⟩, 40), (⟨"MoleculeRegistryModel", "same", "()I"⟩, 40), (⟨"MoleculeRegistryModel", "canBePut", "(IZ)Z"⟩, 40), (⟨"MoleculeRegistryModel", "agrees", "(IIIZ)Z"⟩, 40), (⟨"MoleculeRegistryModel", "fits", "(IIIZ)Z"⟩, 40), (⟨"MoleculeRegistryModel", "keepText", "()V"⟩, 40)]
theorem lw_r3 : ∀ q ∈ lw_privs_3, lw_okq q := List.forall_mem_cons.mpr ⟨lw_p32, List.forall_mem_cons.mpr ⟨lw_p33, List.forall_mem_cons.mpr ⟨lw_p34, List.forall_mem_cons.mpr ⟨lw_p35, List.forall_mem_cons.mpr ⟨lw_p36, List.forall_mem_cons.mpr ⟨lw_p37, List.forall_mem_cons.mpr ⟨lw_p38, List.forall_mem_cons.mpr ⟨lw_p39, List.forall_mem_cons.mpr ⟨lw_p40, List.forall_mem_cons.mpr ⟨lw_p41, List.forall_mem_cons.mpr ⟨lw_p42, List.forall_mem_cons.mpr ⟨lw_p43, List.forall_mem_cons.mpr ⟨lw_p44, List.forall_mem_cons.mpr ⟨lw_p45, List.forall_mem_cons.mpr ⟨lw_p46, List.forall_mem_cons.mpr ⟨lw_p47, fun _ h => absurd h List.not_mem_nil⟩⟩⟩⟩⟩⟩⟩⟩⟩⟩⟩⟩⟩⟩⟩⟩
theorem lw_p48 : lw_okq (⟨"MoleculeRegistryModel", "change", "(II)Z"⟩, 40) := ⟨⟨by decide +kernel, by decide +kernel⟩, List.mem_of_getElem? (i := 746) (by decide +kernel), List.mem_of_getElem? (i := 980) (by decide +kernel), List.mem_of_getElem? (i := 981) (by decide +kernel)⟩
theorem lw_p49 : lw_okq (⟨"MoleculeRegistryModel", "perform", "()V"⟩, 40) := ⟨⟨by decide +kernel, by decide +kernel⟩, List.mem_of_getElem? (i := 746) (by decide +kernel), List.mem_of_getElem? (i := 984) (by decide +kernel), List.mem_of_getElem? (i := 985) (by decide +kernel)⟩
theorem lw_p50 : lw_okq (⟨"MoleculeRegistryModel", "placeOfId", "(I)I"⟩, 40) := ⟨⟨by decide +kernel, by decide +kernel⟩, List.mem_of_getElem? (i := 746) (by decide +kernel), List.mem_of_getElem? (i := 988) (by decide +kernel), List.mem_of_getElem? (i := 989) (by decide +kernel)⟩
theorem lw_p51 : lw_okq (⟨"MoleculeRegistryModel", "copyMolecule", "(II)V"⟩, 40) := ⟨⟨by decide +kernel, by decide +kernel⟩, List.mem_of_getElem? (i := 746) (by decide +kernel), List.mem_of_getElem? (i := 992) (by decide +kernel), List.mem_of_getElem? (i := 993) (by decide +kernel)⟩
def lw_privs_4 : List (MethodName × Nat) := [(⟨"MoleculeRegistryModel", "change", "(II)Z"⟩, 40), (⟨"MoleculeRegistryModel", "perform", "()V"⟩, 40), (⟨"MoleculeRegistryModel", "placeOfId", "(I)I"⟩, 40), (⟨"MoleculeRegistryModel", "copyMolecule", "(II)V"⟩, 40)]
theorem lw_r4 : ∀ q ∈ lw_privs_4, lw_okq q := List.forall_mem_cons.mpr ⟨lw_p48, List.forall_mem_cons.mpr ⟨lw_p49, List.forall_mem_cons.mpr ⟨lw_p50, List.forall_mem_cons.mpr ⟨lw_p51, fun _ h => absurd h List.not_mem_nil⟩⟩⟩⟩
def lw_privs : List (MethodName × Nat) := lw_privs_1 ++ (lw_privs_2 ++ (lw_privs_3 ++ (lw_privs_4)))
def lw_tbl : List Cond := k2_sels lw_privs ++ tables_1
theorem lw_privs_ok : ∀ q ∈ lw_privs, lw_okq q := by
  show ∀ q ∈ lw_privs_1 ++ (lw_privs_2 ++ (lw_privs_3 ++ (lw_privs_4))), lw_okq q
  exact List.forall_mem_append.mpr ⟨lw_r1, List.forall_mem_append.mpr ⟨lw_r2, List.forall_mem_append.mpr ⟨lw_r3, lw_r4⟩⟩⟩
end
section
/-! THE ABSTRACT MACHINE: memory is a function from places to cells (references are places), a method's code a table of operations; 'jx_run' runs it. -/
abbrev jx_C : Type := (Nat × vp_A) ⊕ (Nat × List Value)
abbrev jx_M : Type := (Nat → jx_C) × Nat × Nat × Nat
abbrev jx_L : Type := List (Option Value)
abbrev jx_R : Type := Option Value ⊕ Nat
abbrev jx_N : Type := (Nat × jx_L × List Value × jx_M) ⊕ (jx_R × jx_M) ⊕ (Nat × List Value × List Value × Nat)
abbrev jx_O : Type := Nat → jx_L → List Value → jx_M → Option jx_N
/-- places below jx_g are what the program finds there (its script, constants); the rest it makes -/
def jx_g : Nat := 16
def jx_dead : jx_C := .inr (9999, [])
def jx_up (h : Nat → jx_C) (k : Nat) (c : jx_C) : Nat → jx_C := fun j => if j = k then c else h j
def jx_st (M : jx_M) (k : Nat) (c : jx_C) : jx_M := (jx_up M.1 k c, M.2)
def jx_pu (M : jx_M) (c : jx_C) (w : Nat) : Option jx_M := if 1 ≤ M.2.2.1 ∧ w ≤ M.2.2.2 then some (jx_up M.1 M.2.1 c, M.2.1 + 1, M.2.2.1 - 1, M.2.2.2 - w) else none
def jx_c2 (o : Option Value) : Bool := match o with
  | some (.long _) => true
  | some (.double _) => true
  | _ => false
def jx_s1 (L : jx_L) (i : Nat) (v : Value) : Option jx_L := if i < L.length ∧ (i = 0 ∨ jx_c2 (L.getD (i - 1) none) = false) then some (L.set i (some v)) else none
def jx_s2 (L : jx_L) (i : Nat) (v : Value) : Option jx_L := if i + 1 < L.length ∧ (i = 0 ∨ jx_c2 (L.getD (i - 1) none) = false) then some ((L.set i (some v)).set (i + 1) none) else none
/-! operations -/
def o_push (v : Value) (len : Nat) : jx_O := fun pc L st M => some (.inl (pc + len, L, v :: st, M))
def o_ild (i len : Nat) : jx_O := fun pc L st M => match L.getD i none with
  | some (.int x) => some (.inl (pc + len, L, .int x :: st, M))
  | _ => none
def o_lld (i len : Nat) : jx_O := fun pc L st M => match L.getD i none with
  | some (.long x) => some (.inl (pc + len, L, .long x :: st, M))
  | _ => none
def o_ald (i len : Nat) : jx_O := fun pc L st M => match L.getD i none with
  | some (.ref x) => some (.inl (pc + len, L, .ref x :: st, M))
  | some .null => some (.inl (pc + len, L, .null :: st, M))
  | _ => none
def o_ist (i len : Nat) : jx_O := fun pc L st M => match st with
  | .int x :: r => (jx_s1 L i (.int x)).map fun L' => .inl (pc + len, L', r, M)
  | _ => none
def o_lst (i len : Nat) : jx_O := fun pc L st M => match st with
  | .long x :: r => (jx_s2 L i (.long x)).map fun L' => .inl (pc + len, L', r, M)
  | _ => none
def o_ast (i len : Nat) : jx_O := fun pc L st M => match st with
  | .ref x :: r => (jx_s1 L i (.ref x)).map fun L' => .inl (pc + len, L', r, M)
  | .null :: r => (jx_s1 L i .null).map fun L' => .inl (pc + len, L', r, M)
  | _ => none
def o_iinc (i : Nat) (k : Int32) : jx_O := fun pc L st M => match L.getD i none with
  | some (.int x) => (jx_s1 L i (.int (x + k))).map fun L' => .inl (pc + 3, L', st, M)
  | _ => none
def o_bin (f : Int32 → Int32 → Int32) : jx_O := fun pc L st M => match st with
  | .int y :: .int x :: r => some (.inl (pc + 1, L, .int (f x y) :: r, M))
  | _ => none
def o_un (f : Int32 → Int32) : jx_O := fun pc L st M => match st with
  | .int x :: r => some (.inl (pc + 1, L, .int (f x) :: r, M))
  | _ => none
def o_binl (f : Int64 → Int64 → Int64) : jx_O := fun pc L st M => match st with
  | .long y :: .long x :: r => some (.inl (pc + 1, L, .long (f x y) :: r, M))
  | _ => none
def o_shl (f : Int64 → Int32 → Int64) : jx_O := fun pc L st M => match st with
  | .int y :: .long x :: r => some (.inl (pc + 1, L, .long (f x y) :: r, M))
  | _ => none
def o_i2l : jx_O := fun pc L st M => match st with
  | .int x :: r => some (.inl (pc + 1, L, .long x.toInt64 :: r, M))
  | _ => none
def o_l2i : jx_O := fun pc L st M => match st with
  | .long x :: r => some (.inl (pc + 1, L, .int x.toInt32 :: r, M))
  | _ => none
def o_lcmp : jx_O := fun pc L st M => match st with
  | .long y :: .long x :: r => some (.inl (pc + 1, L, .int (lg_cmp x y) :: r, M))
  | _ => none
def jx_v1 (v : Value) : Bool := match v with
  | .long _ => false
  | .double _ => false
  | _ => true
def o_dup : jx_O := fun pc L st M => match st with
  | a :: r => if jx_v1 a = true then some (.inl (pc + 1, L, a :: a :: r, M)) else none
  | _ => none
def o_pop : jx_O := fun pc L st M => match st with
  | a :: r => if jx_v1 a = true then some (.inl (pc + 1, L, r, M)) else none
  | _ => none
def o_dup_x1 : jx_O := fun pc L st M => match st with
  | a :: b :: r => if jx_v1 a = true ∧ jx_v1 b = true then some (.inl (pc + 1, L, a :: b :: a :: r, M)) else none
  | _ => none
def o_dup2 : jx_O := fun pc L st M => match st with
  | a :: b :: r => if jx_v1 a = true ∧ jx_v1 b = true then some (.inl (pc + 1, L, a :: b :: a :: b :: r, M)) else none
  | _ => none
def o_goto (t : Nat) : jx_O := fun _ L st M => some (.inl (t, L, st, M))
def o_ifeq (t : Nat) : jx_O := fun pc L st M => match st with
  | .int x :: r => some (.inl (if x = 0 then t else pc + 3, L, r, M))
  | _ => none
def o_ifne (t : Nat) : jx_O := fun pc L st M => match st with
  | .int x :: r => some (.inl (if x = 0 then pc + 3 else t, L, r, M))
  | _ => none
def o_iflt (t : Nat) : jx_O := fun pc L st M => match st with
  | .int x :: r => some (.inl (if x < 0 then t else pc + 3, L, r, M))
  | _ => none
def o_ifge (t : Nat) : jx_O := fun pc L st M => match st with
  | .int x :: r => some (.inl (if x < 0 then pc + 3 else t, L, r, M))
  | _ => none
def o_ifgt (t : Nat) : jx_O := fun pc L st M => match st with
  | .int x :: r => some (.inl (if 0 < x then t else pc + 3, L, r, M))
  | _ => none
def o_ifle (t : Nat) : jx_O := fun pc L st M => match st with
  | .int x :: r => some (.inl (if 0 < x then pc + 3 else t, L, r, M))
  | _ => none
def o_ieq (t : Nat) : jx_O := fun pc L st M => match st with
  | .int y :: .int x :: r => some (.inl (if x = y then t else pc + 3, L, r, M))
  | _ => none
def o_ine (t : Nat) : jx_O := fun pc L st M => match st with
  | .int y :: .int x :: r => some (.inl (if x = y then pc + 3 else t, L, r, M))
  | _ => none
def o_ilt (t : Nat) : jx_O := fun pc L st M => match st with
  | .int y :: .int x :: r => some (.inl (if x < y then t else pc + 3, L, r, M))
  | _ => none
def o_ige (t : Nat) : jx_O := fun pc L st M => match st with
  | .int y :: .int x :: r => some (.inl (if x < y then pc + 3 else t, L, r, M))
  | _ => none
def o_igt (t : Nat) : jx_O := fun pc L st M => match st with
  | .int y :: .int x :: r => some (.inl (if y < x then t else pc + 3, L, r, M))
  | _ => none
def o_ile (t : Nat) : jx_O := fun pc L st M => match st with
  | .int y :: .int x :: r => some (.inl (if y < x then pc + 3 else t, L, r, M))
  | _ => none
def o_ifnull (t : Nat) : jx_O := fun pc L st M => match st with
  | .null :: r => some (.inl (t, L, r, M))
  | .ref _ :: r => some (.inl (pc + 3, L, r, M))
  | _ => none
def o_ifnonnull (t : Nat) : jx_O := fun pc L st M => match st with
  | .null :: r => some (.inl (pc + 3, L, r, M))
  | .ref _ :: r => some (.inl (t, L, r, M))
  | _ => none
/-- a switch over 0 .. ts.length - 1 -/
def o_table (dflt : Nat) (ts : List Nat) : jx_O := fun _ L st M => match st with
  | .int x :: r => some (.inl (if x < 0 then dflt else ts.getD x.toNatClampNeg dflt, L, r, M))
  | _ => none
def o_getf (ci k : Nat) : jx_O := fun pc L st M => match st with
  | .ref a :: r => match M.1 a with
    | .inr (c, fs) => if c = ci then (fs[k]?).map fun v => .inl (pc + 3, L, v :: r, M) else none
    | _ => none
  | _ => none
def o_putf (ci k : Nat) (ok : Value → Bool) : jx_O := fun pc L st M => match st with
  | v :: .ref a :: r => match M.1 a with
    | .inr (c, fs) => if c = ci ∧ ok v = true ∧ k < fs.length then some (.inl (pc + 3, L, r, jx_st M a (.inr (ci, fs.set k v)))) else none
    | _ => none
  | _ => none
def jx_ix (i : Int32) (n : Nat) : Bool := decide (¬ i < 0) && decide (i.toNatClampNeg < n)
def o_iald : jx_O := fun pc L st M => match st with
  | .int i :: .ref a :: r => match M.1 a with
    | .inl (t, n, .inl f) => if (t = 0 ∨ t = 9) ∧ jx_ix i n = true then some (.inl (pc + 1, L, .int (f i.toNatClampNeg) :: r, M)) else none
    | _ => none
  | _ => none
def o_xald (t0 : Nat) : jx_O := fun pc L st M => match st with
  | .int i :: .ref a :: r => match M.1 a with
    | .inl (t, n, .inl f) => if t = t0 ∧ jx_ix i n = true then some (.inl (pc + 1, L, .int (f i.toNatClampNeg) :: r, M)) else none
    | _ => none
  | _ => none
/-- a byte of a constant's array -/
def o_bald : jx_O := fun pc L st M => match st with
  | .int i :: .ref a :: r => match M.1 a with
    | .inl (t, n, .inl f) => if t = 10 ∧ jx_ix i n = true then some (.inl (pc + 1, L, .int (f i.toNatClampNeg) :: r, M)) else none
    | _ => none
  | _ => none
def o_lald : jx_O := fun pc L st M => match st with
  | .int i :: .ref a :: r => match M.1 a with
    | .inl (t, n, .inr (.inl f)) => if t = 3 ∧ jx_ix i n = true then some (.inl (pc + 1, L, .long (f i.toNatClampNeg) :: r, M)) else none
    | _ => none
  | _ => none
def o_aald : jx_O := fun pc L st M => match st with
  | .int i :: .ref a :: r => match M.1 a with
    | .inl (t, n, .inr (.inr (.inr (.inr f)))) => if t = 4 ∧ jx_ix i n = true then some (.inl (pc + 1, L, va_rf (f i.toNatClampNeg) :: r, M)) else none
    | _ => none
  | _ => none
def o_iast : jx_O := fun pc L st M => match st with
  | .int x :: .int i :: .ref a :: r => match M.1 a with
    | .inl (t, n, .inl f) => if t = 0 ∧ jx_ix i n = true then some (.inl (pc + 1, L, r, jx_st M a (.inl (0, n, .inl (upd f i.toNatClampNeg x))))) else none
    | _ => none
  | _ => none
def o_cast : jx_O := fun pc L st M => match st with
  | .int x :: .int i :: .ref a :: r => match M.1 a with
    | .inl (t, n, .inl f) => if t = 1 ∧ jx_ix i n = true then some (.inl (pc + 1, L, r, jx_st M a (.inl (1, n, .inl (upd f i.toNatClampNeg (vp_nar .char x)))))) else none
    | _ => none
  | _ => none
def o_zast : jx_O := fun pc L st M => match st with
  | .int x :: .int i :: .ref a :: r => match M.1 a with
    | .inl (t, n, .inl f) => if t = 2 ∧ jx_ix i n = true then some (.inl (pc + 1, L, r, jx_st M a (.inl (2, n, .inl (upd f i.toNatClampNeg (vp_nar .boolean x)))))) else none
    | _ => none
  | _ => none
def o_last : jx_O := fun pc L st M => match st with
  | .long x :: .int i :: .ref a :: r => match M.1 a with
    | .inl (t, n, .inr (.inl f)) => if t = 3 ∧ jx_ix i n = true then some (.inl (pc + 1, L, r, jx_st M a (.inl (3, n, .inr (.inl (vp_updL f i.toNatClampNeg x)))))) else none
    | _ => none
  | _ => none
/-- into an array of the objects of class ci -/
def o_aast (ci : Nat) : jx_O := fun pc L st M => match st with
  | .ref v :: .int i :: .ref a :: r => match M.1 a, M.1 v with
    | .inl (t, n, .inr (.inr (.inr (.inr f)))), .inr (c, _) => if t = 4 ∧ c = ci ∧ jx_ix i n = true then some (.inl (pc + 1, L, r, jx_st M a (.inl (4, n, .inr (.inr (.inr (.inr (va_up f i.toNatClampNeg (some v))))))))) else none
    | _, _ => none
  | _ => none
def o_alen : jx_O := fun pc L st M => match st with
  | .ref a :: r => match M.1 a with
    | .inl (t, n, _) => if t < 5 ∨ t = 9 ∨ t = 10 then some (.inl (pc + 1, L, .int (Int32.ofNat n) :: r, M)) else none
    | _ => none
  | _ => none
def o_new (ci : Nat) (fs : List Value) : jx_O := fun pc L st M =>
  (jx_pu M (.inr (ci, fs)) fs.length).map fun M' => .inl (pc + 3, L, .ref M.2.1 :: st, M')
def o_newa (t : Nat) (z : Nat → vp_A) : jx_O := fun pc L st M => match st with
  | .int n :: r => if ¬ n < 0 ∧ n.toNatClampNeg ≤ 100000 then (jx_pu M (.inl (t, z n.toNatClampNeg)) n.toNatClampNeg).map fun M' => .inl (pc + (if t = 4 then 3 else 2), L, .ref M.2.1 :: r, M') else none
  | _ => none
def jx_zi (n : Nat) : vp_A := (n, .inl fun _ => 0)
def jx_zl (n : Nat) : vp_A := (n, .inr (.inl fun _ => 0))
def jx_zq (n : Nat) : vp_A := (n, .inr (.inr (.inr (.inr fun _ => none))))
def o_ret : jx_O := fun _ _ st M => match st with
  | [] => some (.inr (.inl (.inl none, M)))
  | _ => none
def o_iret : jx_O := fun _ _ st M => match st with
  | [.int x] => some (.inr (.inl (.inl (some (.int x)), M)))
  | _ => none
/-- a boolean answer -/
def o_zret : jx_O := fun _ _ st M => match st with
  | [.int x] => if x = 0 ∨ x = 1 then some (.inr (.inl (.inl (some (.int x)), M))) else none
  | _ => none
def o_cret : jx_O := fun _ _ st M => match st with
  | [.int x] => if vp_nar .char x = x then some (.inr (.inl (.inl (some (.int x)), M))) else none
  | _ => none
def o_bret : jx_O := fun _ _ st M => match st with
  | [.int x] => if vp_nar .byte x = x then some (.inr (.inl (.inl (some (.int x)), M))) else none
  | _ => none
/-- System.arraycopy between two arrays of ints or of chars -/
def o_copy : jx_O := fun pc L st M => match st with
  | .int n :: .int dp :: .ref b :: .int sp :: .ref a :: r => match M.1 a, M.1 b with
    | .inl (t, n0, .inl f), .inl (t', n1, .inl g) => if (t = 0 ∨ t = 1 ∧ ((List.range n.toNatClampNeg).all fun i => fits .char (.int (f (sp.toNatClampNeg + i)))) = true) ∧ t' = t ∧ ¬ sp < 0 ∧ ¬ dp < 0 ∧ ¬ n < 0 ∧ sp.toNatClampNeg + n.toNatClampNeg ≤ n0 ∧ dp.toNatClampNeg + n.toNatClampNeg ≤ n1 ∧ r.length ≤ 4 then some (.inl (pc + 3, L, r, jx_st M b (.inl (t, n1, .inl (va_cpy f g sp.toNatClampNeg dp.toNatClampNeg n.toNatClampNeg))))) else none
    | _, _ => none
  | _ => none
def o_aret : jx_O := fun _ _ st M => match st with
  | [.ref a] => some (.inr (.inl (.inl (some (.ref a)), M)))
  | [.null] => some (.inr (.inl (.inl (some .null), M)))
  | _ => none
/-- a call: n values, the receiver among them -/
def o_call (ce n : Nat) : jx_O := fun pc _ st _ => if n ≤ st.length ∧ st.length ≤ n + 4 then some (.inr (.inr (ce, (st.take n).reverse, st.drop n, pc + 3))) else none
/-- a call on an object of class ci -/
def o_callv (ci ce n : Nat) : jx_O := fun pc _ st M => if n < st.length ∧ st.length ≤ n + 5 then match st.getD n .null with
  | .ref a => match M.1 a with
    | .inr (c, _) => if c = ci then some (.inr (.inr (ce, (st.take (n + 1)).reverse, st.drop (n + 1), pc + 3))) else none
    | _ => none
  | _ => none
  else none
/-- Object() -/
def o_oinit : jx_O := fun pc L st M => match st with
  | .ref _ :: r => if r.length ≤ 4 then some (.inl (pc + 3, L, r, M)) else none
  | _ => none
/-- new E(text), thrown: out of the method -/
def o_thr (ci : Nat) : jx_O := fun _ _ st M => if st.length ≤ 4 then (jx_pu M (.inr (ci, [])) 6).map fun M' => .inr (.inl (.inr M.2.1, M')) else none
/-! methods -/
/-- name, bytes, locals, answer, handlers (with the class that each takes) -/
abbrev jx_D : Type := MethodName × ByteArray × Nat × Option FieldType × List ((Nat × Nat × Nat × Nat) × String)
def jx_en (as : List Value) (n : Nat) : jx_L := (as.flatMap fun v => if jx_v1 v = true then [some v] else [some v, none]) ++ List.replicate (n - (as.flatMap fun v => if jx_v1 v = true then [some v] else [some v, none]).length) none
/-- handlers of a method as the abstract machine has them: start, end, handler, the class; none: it doesn't say; some none: no handler there -/
def jx_hf (pc ci : Nat) : List (Nat × Nat × Nat × Nat) → Option Nat
  | [] => none
  | h :: t => if h.1 ≤ pc ∧ pc < h.2.1 ∧ h.2.2.2 = ci then some h.2.2.1 else jx_hf pc ci t
def jx_ho (pc : Nat) : List (Nat × Nat × Nat × Nat) → Bool
  | [] => true
  | h :: t => if h.1 ≤ pc ∧ pc < h.2.1 then false else jx_ho pc t
def jx_hd (pc ci : Nat) (hs : List (Nat × Nat × Nat × Nat)) : Option (Option Nat) := if jx_ho pc hs = true then some none else (jx_hf pc ci hs).map some
def jx_cl (c : jx_C) : Nat := match c with
  | .inr (ci, _) => ci
  | _ => 9999
def jx_run (ml : Nat → Nat) (hs : Nat → List (Nat × Nat × Nat × Nat)) (cd : Nat → Nat → Option jx_O) : Nat → Nat → Nat → Nat → jx_L → List Value → jx_M → Option (jx_R × jx_M)
  | 0, _, _, _, _, _, _ => none
  | f + 1, d, mi, pc, L, st, M => match cd mi pc with
    | none => none
    | some op => match op pc L st M with
      | none => none
      | some (.inl (pc', L', st', M')) => jx_run ml hs cd f d mi pc' L' st' M'
      | some (.inr (.inl (r, M'))) => some (r, M')
      | some (.inr (.inr (ce, as, rest, pc'))) => match d with
        | 0 => none
        | d' + 1 => if (jx_en as (ml ce)).length = ml ce then match jx_run ml hs cd f d' ce 0 (jx_en as (ml ce)) [] M with
          | none => none
          | some (.inl v, M') => jx_run ml hs cd f (d' + 1) mi pc' L (v.toList ++ rest) M'
          | some (.inr k, M') => match jx_hd pc (jx_cl (M'.1 k)) (hs mi) with
            | none => none
            | some (some hp) => jx_run ml hs cd f (d' + 1) mi hp L [.ref k] M'
            | some none => some (.inr k, M')
          else none
end
section
/-! WHAT THE ABSTRACT MACHINE SAYS OF THE REAL ONE -/
/-- classes and fields; their names; array classes; the heap at the law's start; where the constants lie; what they are; the words; what else is so -/
abbrev jx_X : Type := va_G × List vw_C × List (ClassId × FieldType) × Heap × (Nat → Nat) × (Nat → jx_C) × List Cond × (State → Prop)
abbrev jx_X.D (X : jx_X) : va_G := X.1
abbrev jx_X.cl (X : jx_X) : List vw_C := X.2.1
abbrev jx_X.ty (X : jx_X) : List (ClassId × FieldType) := X.2.2.1
abbrev jx_X.H (X : jx_X) : Heap := X.2.2.2.1
abbrev jx_X.ga (X : jx_X) : Nat → Nat := X.2.2.2.2.1
abbrev jx_X.gl (X : jx_X) : Nat → jx_C := X.2.2.2.2.2.1
abbrev jx_X.W (X : jx_X) : List Cond := X.2.2.2.2.2.2.1
abbrev jx_X.G (X : jx_X) : State → Prop := X.2.2.2.2.2.2.2
def jx_ad (X : jx_X) (k : Nat) : Nat := if k < jx_g then X.ga k else X.H.size + (k - jx_g)
def jx_v (X : jx_X) (v : Value) : Value := match v with
  | .ref k => .ref (jx_ad X k)
  | v => v
def jx_q (X : jx_X) (r : Option Nat) : Option Nat := match r with
  | some k => some (jx_ad X k)
  | none => none
def jx_a (X : jx_X) (a : vp_A) : vp_A := match a with
  | (n, .inr (.inr (.inr (.inr f)))) => (n, .inr (.inr (.inr (.inr fun j => jx_q X (f j)))))
  | a => a
def jx_e (X : jx_X) (c : jx_C) : va_E := match c with
  | .inl (t, a) => .inl ((X.ty.getD t (0, .int)).1, jx_a X a)
  | .inr (ci, fs) => .inr (ci, fs.map (jx_v X))
theorem jx_v_int (X : jx_X) (x : Int32) : jx_v X (.int x) = .int x := rfl
theorem jx_v_long (X : jx_X) (x : Int64) : jx_v X (.long x) = .long x := rfl
theorem jx_v_null (X : jx_X) : jx_v X .null = .null := rfl
theorem jx_v_ref (X : jx_X) (k : Nat) : jx_v X (.ref k) = .ref (jx_ad X k) := rfl
theorem jx_v_cat (X : jx_X) (v : Value) : (jx_v X v).category = v.category := by cases v <;> rfl
theorem jx_v1_cat {v : Value} (h : jx_v1 v = true) : v.category = 1 := by cases v <;> first | rfl | cases h
theorem jx_v1_ncat {v : Value} (h : ¬ jx_v1 v = true) : v.category = 2 := by cases v <;> first | rfl | exact absurd rfl h
theorem jx_rf (X : jx_X) (r : Option Nat) : jx_v X (va_rf r) = va_rf (jx_q X r) := by cases r <;> rfl
theorem jx_ad_inj {X : jx_X} {a b : Nat} (ha : jx_g ≤ a) (hb : jx_g ≤ b) (h : jx_ad X a = jx_ad X b) : a = b := by
  unfold jx_ad at h
  rw [if_neg (by omega), if_neg (by omega)] at h
  omega
theorem jx_ad_ge {X : jx_X} {a : Nat} (ha : jx_g ≤ a) : jx_ad X a = X.H.size + (a - jx_g) := by
  unfold jx_ad
  rw [if_neg (by omega)]
/-- no constant's array -/
def jx_t9 (c : jx_C) : Bool := match c with
  | .inl (t, _) => t == 9 || t == 10
  | .inr _ => false
/-- the memory -/
def jx_H (X : jx_X) (M : jx_M) (H : Heap) : Prop :=
  jx_g ≤ M.2.1 ∧ H.size + jx_g = X.H.size + M.2.1 ∧ (∀ k, jx_g ≤ k → k < M.2.1 → jx_t9 (M.1 k) = false ∧ va_at X.D X.cl (jx_ad X k, jx_e X (M.1 k)) H) ∧ (∀ k, M.2.1 ≤ k → M.1 k = jx_dead) ∧
  (∀ q : Nat, q < X.H.size → H[q]? = X.H[q]?) ∧ ∀ k, k < jx_g → M.1 k = X.gl k
/-- the locals -/
def jx_lo (X : jx_X) (ls : Array Slot) (L : jx_L) : Prop := ls.size = L.length ∧ lv_wf ls ∧ ∀ (i : Nat) (v : Value), L.getD i none = some v → ls[i]? = some (.val (jx_v X v))
def jx_I (X : jx_X) (R : Room) (nl : Nat) (M : jx_M) (H : Heap) (ls : Array Slot) (L : jx_L) (locs : List Loc) (cells slots : Nat) : Prop :=
  jx_H X M H ∧ jx_lo X ls L ∧ (∀ x ∈ locs, X.H.size ≤ x.base) ∧ cells + M.2.2.1 ≤ R.cells ∧ slots + M.2.2.2 ≤ R.slots ∧ L.length = nl
/-- what is true of the constants -/
def jx_GL (X : jx_X) (s : State) : Prop := ∀ k, k < jx_g → match X.gl k with
  | .inl (t, n, .inl f) => (t = 9 ∨ t = 10) ∧ ∃ cell : Cell, X.H[X.ga k]? = some cell ∧ s.isArrayOf cell (if t = 9 then .int else .byte) ∧ cell.vm ≠ .unknown ∧ cell.slots.size = n ∧ ∀ j : Nat, j < n → cell.slots[j]? = some (.int (f j))
  | .inl _ => False
  | .inr (c, _) => 100 ≤ c
/-- where a method stands -/
def jx_B (X : jx_X) (md : jx_D) (p : Program) (l : Launch) (e : Env) (R : Room) (s : State) (m : MethodId) (args : Array Value) (meth : Method) (c : Code) (d : Nat) : Prop :=
  p.tables.exec = Jvm.exec ∧ e.platform.stackTraces = false ∧ (∀ w ∈ X.W, w.before args s = true) ∧ va_K X.D X.cl X.ty s ∧ jx_GL X s ∧ s.vm.findClass md.1.cls = some m.cls ∧ meth.name = md.1.name ∧
  c.code = md.2.1 ∧ c.maxLocals = md.2.2.1 ∧ meth.sig.returnType = md.2.2.2.1 ∧ meth.locks = false ∧
  c.exceptionTable.toList.map (fun x => (x.startPc, x.endPc, x.handlerPc, x.catchType)) = md.2.2.2.2.map (fun h => h.1) ∧ d + 10 ≤ R.frames ∧ 50 * d + 300 ≤ R.locals ∧
  (∀ (q : Nat) (cell : Cell), X.H.size ≤ q → s.heap[q]? = some cell → cell.vm.isStatics = false) ∧ (∀ (C : String) (cA : ClassId), X.ty[4]? = some (cA, .object C) → va_AO C s) ∧ X.G s
def jx_o (X : jx_X) (r : jx_R) (o : Outcome) : Prop := match r with
  | .inl v => o = .returned (v.map (jx_v X))
  | .inr k => o = .threw (jx_ad X k)
def jx_Q (X : jx_X) (R : Room) (below : List Frame) (s : State) (r : jx_R) (M : jx_M) : State → Prop := fun t =>
  ∃ (o : Outcome) (locs : List Loc) (cells slots : Nat), t.status = .running ∧ Ended t below o ∧ jx_o X r o ∧ jx_H X M t.heap ∧ s.WarmedH t.vm ∧ s.sameButNew ({ t with vm := s.vm } : State) locs cells slots ∧ (∀ x ∈ locs, X.H.size ≤ x.base) ∧ cells + M.2.2.1 ≤ R.cells ∧ slots + M.2.2.2 ≤ R.slots
/-- a method's code stands in the words -/
def jx_c (X : jx_X) (md : jx_D) : Prop := (((Cond.code md.1 md.2.1 md.2.2.1 md.2.2.2.1 : Cond) ∈ X.W ∧ md.2.2.2.2 = []) ∨ (Cond.codeWith md.1 md.2.1 md.2.2.1 md.2.2.2.1 (md.2.2.2.2.map fun h => h.1) : Cond) ∈ X.W) ∧ plainFor md.1 = true ∧ md.2.2.1 ≤ 30
/-- an operation is what the instruction at pc does -/
def jx_S (X : jx_X) (mt : Nat → jx_D) (md : jx_D) (pc : Nat) (op : jx_O) : Prop :=
  ∀ (p : Program) (l : Launch) (e : Env) (R : Room) (s : State) (m : MethodId) (args : Array Value) (below : List Frame) (meth : Method) (c : Code) (d : Nat), jx_B X md p l e R s m args meth c d →
  ∀ (L : jx_L) (st : List Value) (M : jx_M) (N : jx_N), op pc L st M = some N →
  ∀ (H : Heap) (ls : Array Slot) (locs : List Loc) (cells slots : Nat), jx_I X R md.2.2.1 M H ls L locs cells slots →
  match N with
  | .inl (pc', L', st', M') => ∀ Q : State → Prop, (∀ (H' : Heap) (ls' : Array Slot) (locs' : List Loc) (cells' slots' : Nat), jx_I X R md.2.2.1 M' H' ls' L' locs' cells' slots' → W p l e R s m args below meth c H' locs' cells' slots' Q (F0 m pc' ls' (st'.map (jx_v X)))) → W p l e R s m args below meth c H locs cells slots Q (F0 m pc ls (st.map (jx_v X)))
  | .inr (.inl (r, M')) => W p l e R s m args below meth c H locs cells slots (jx_Q X R below s r M') (F0 m pc ls (st.map (jx_v X)))
  | .inr (.inr (ce, as, rest, pc')) => ∀ T : State, T.heap = H → Stand p l e R s m args below meth c T locs cells slots → ∃ (vm₁ : Vm) (mk : MethodId) (ig : Instr), Stand p l e R s m args below meth c (T.setVm vm₁) locs cells slots ∧ s.methodNamed? (mt ce).1 = some mk ∧ decode c.code pc = .ok (ig, 3) ∧ pc' = pc + 3 ∧ rest.length ≤ 4 ∧ jx_c X (mt ce) ∧
      ∀ target, (∀ acts, Steps p.tables e below (doInvoke e ((T.setVm vm₁).setTop (F0 m pc ls (rest.map (jx_v X)))) acts mk (as.map (jx_v X)).toArray).1 target) → Steps p.tables e below (T.setTop (F0 m pc ls (st.map (jx_v X)))) target
/-! the memory, read and written -/
theorem jx_H.obj {X : jx_X} {M : jx_M} {H : Heap} {s : State} (h : jx_H X M H) (hg : jx_GL X s) {a ci : Nat} {fs : List Value} (ha : M.1 a = .inr (ci, fs)) (hc : ci < 100) : jx_g ≤ a ∧ a < M.2.1 ∧ va_at X.D X.cl (jx_ad X a, .inr (ci, fs.map (jx_v X))) H := by
  obtain ⟨h1, h2, h3, h4, h5, h6⟩ := h
  have g1 : jx_g ≤ a := by
    apply Nat.le_of_not_lt
    intro hlt
    have h7 := hg a hlt
    rw [← h6 a hlt, ha] at h7
    have h8 : 100 ≤ ci := h7
    omega
  have g2 : a < M.2.1 := by
    apply Nat.lt_of_not_le
    intro hle
    have h7 := h4 a hle
    rw [ha] at h7
    unfold jx_dead at h7
    have h8 : (ci, fs) = (9999, ([] : List Value)) := Sum.inr.inj h7
    have h9 : ci = 9999 := congrArg Prod.fst h8
    omega
  refine ⟨g1, g2, ?_⟩
  have h7 := (h3 a g1 g2).2
  rw [ha] at h7
  exact h7
theorem jx_H.arr {X : jx_X} {M : jx_M} {H : Heap} {s : State} (h : jx_H X M H) (hg : jx_GL X s) {a t : Nat} {v : vp_A} (ha : M.1 a = .inl (t, v)) (ht : t < 9) : jx_g ≤ a ∧ a < M.2.1 ∧ va_at X.D X.cl (jx_ad X a, .inl ((X.ty.getD t (0, .int)).1, jx_a X v)) H := by
  obtain ⟨h1, h2, h3, h4, h5, h6⟩ := h
  have g1 : jx_g ≤ a := by
    apply Nat.le_of_not_lt
    intro hlt
    have h7 := hg a hlt
    rw [← h6 a hlt, ha] at h7
    obtain ⟨n, f⟩ := v
    cases f with
    | inl f => have h8 := h7.1; omega
    | inr f => exact h7
  have g2 : a < M.2.1 := by
    apply Nat.lt_of_not_le
    intro hle
    have h7 := h4 a hle
    rw [ha] at h7
    cases h7
  refine ⟨g1, g2, ?_⟩
  have h7 := (h3 a g1 g2).2
  rw [ha] at h7
  exact h7
/-- a constant's array -/
theorem jx_H.con {X : jx_X} {M : jx_M} {H : Heap} {s : State} (h : jx_H X M H) (hg : jx_GL X s) {a t n : Nat} {f : Nat → Int32} (ha : M.1 a = .inl (t, n, .inl f)) (ht : t = 9 ∨ t = 10) :
    ∃ cell : Cell, H[jx_ad X a]? = some cell ∧ s.isArrayOf cell (if t = 9 then .int else .byte) ∧ cell.vm ≠ .unknown ∧ cell.slots.size = n ∧ ∀ j : Nat, j < n → cell.slots[j]? = some (.int (f j)) := by
  obtain ⟨h1, h2, h3, h4, h5, h6⟩ := h
  have g1 : a < jx_g := by
    apply Nat.lt_of_not_le
    intro hge
    by_cases hlt : a < M.2.1
    · have h7 := (h3 a hge hlt).1
      rw [ha] at h7
      rcases ht with rfl | rfl <;> cases h7
    · have h7 := h4 a (Nat.le_of_not_lt hlt)
      rw [ha] at h7
      cases h7
  have h7 := hg a g1
  rw [← h6 a g1, ha] at h7
  obtain ⟨-, cell, q1, q2⟩ := h7
  refine ⟨cell, ?_, q2⟩
  have hlt : X.ga a < X.H.size := (Array.getElem?_eq_some_iff.mp q1).1
  unfold jx_ad
  rw [if_pos g1, h5 _ hlt]
  exact q1
/-- an int table that may be read: one of the program's own, or a constant -/
theorem jx_H.tab {X : jx_X} {M : jx_M} {H : Heap} {s : State} (h : jx_H X M H) (hg : jx_GL X s) (hK : va_K X.D X.cl X.ty s) (h0 : ∃ cA, X.ty[0]? = some (cA, .int)) {a t n : Nat} {f : Nat → Int32} (ha : M.1 a = .inl (t, n, .inl f)) (ht : t = 0 ∨ t = 9) :
    ∃ cell : Cell, H[jx_ad X a]? = some cell ∧ s.isArrayOf cell .int ∧ cell.vm ≠ .unknown ∧ cell.slots.size = n ∧ ∀ j : Nat, j < n → cell.slots[j]? = some (.int (f j)) := by
  by_cases h9 : t = 9
  · subst h9
    exact h.con hg ha (Or.inl rfl)
  · obtain ⟨cA, hA⟩ := h0
    have ht0 : t = 0 := by omega
    subst ht0
    obtain ⟨-, -, q⟩ := h.arr hg ha (by omega)
    have e : (X.ty.getD 0 (0, .int)).1 = cA := by rw [List.getD_eq_getElem?_getD, hA]; rfl
    rw [e] at q
    have q : H[jx_ad X a]? = some (arrV cA n (fun j => .int (f j))) := q
    refine ⟨_, q, (hK.2 0 _ hA).1 n _, (fun h => by cases h), arrV_size _ _ _, fun j hj => arrV_read _ _ hj⟩
theorem jx_H.set {X : jx_X} {M : jx_M} {H H1 : Heap} (h : jx_H X M H) {a : Nat} (g1 : jx_g ≤ a) (g2 : a < M.2.1) {c : jx_C} (ht : jx_t9 c = false) (hz : H1.size = H.size) (ho : ∀ q : Nat, q ≠ jx_ad X a → H1[q]? = H[q]?) (hc : va_at X.D X.cl (jx_ad X a, jx_e X c) H1) : jx_H X (jx_st M a c) H1 := by
  obtain ⟨h1, h2, h3, h4, h5, h6⟩ := h
  refine ⟨h1, by rw [hz]; exact h2, fun k k1 k2 => ?_, fun k k1 => ?_, fun q hq => ?_, fun k hk => ?_⟩
  · show jx_t9 (jx_up M.1 a c k) = false ∧ va_at X.D X.cl (jx_ad X k, jx_e X (jx_up M.1 a c k)) H1
    by_cases e : k = a
    · subst e
      rw [show jx_up M.1 k c k = c from if_pos rfl]
      exact ⟨ht, hc⟩
    · rw [show jx_up M.1 a c k = M.1 k from if_neg e]
      refine ⟨(h3 k k1 k2).1, (h3 k k1 k2).2.kept (ho _ fun q => e (jx_ad_inj k1 g1 q))⟩
  · show jx_up M.1 a c k = jx_dead
    rw [show jx_up M.1 a c k = M.1 k from if_neg (by have : M.2.1 ≤ k := k1; omega)]
    exact h4 k k1
  · rw [ho q (by rw [jx_ad_ge g1]; omega)]
    exact h5 q hq
  · show jx_up M.1 a c k = X.gl k
    rw [show jx_up M.1 a c k = M.1 k from if_neg (by omega)]
    exact h6 k hk
theorem jx_H.push {X : jx_X} {M M' : jx_M} {H H1 : Heap} {w : Nat} {c : jx_C} (h : jx_H X M H) (hp : jx_pu M c w = some M') (ht : jx_t9 c = false) (hz : H1.size = H.size + 1) (ho : ∀ q : Nat, q < H.size → H1[q]? = H[q]?) (hc : va_at X.D X.cl (H.size, jx_e X c) H1) : jx_H X M' H1 ∧ jx_ad X M.2.1 = H.size ∧ 1 ≤ M.2.2.1 ∧ w ≤ M.2.2.2 ∧ M'.2.2.1 = M.2.2.1 - 1 ∧ M'.2.2.2 = M.2.2.2 - w := by
  obtain ⟨h1, h2, h3, h4, h5, h6⟩ := h
  unfold jx_pu at hp
  split at hp
  · rename_i hr
    cases hp
    have hn : jx_ad X M.2.1 = H.size := by rw [jx_ad_ge h1]; omega
    refine ⟨⟨by show jx_g ≤ M.2.1 + 1; omega, by show H1.size + jx_g = X.H.size + (M.2.1 + 1); omega, fun k k1 k2 => ?_, fun k k1 => ?_, fun q hq => ?_, fun k hk => ?_⟩, hn, hr.1, hr.2, rfl, rfl⟩
    · show jx_t9 (jx_up M.1 M.2.1 c k) = false ∧ va_at X.D X.cl (jx_ad X k, jx_e X (jx_up M.1 M.2.1 c k)) H1
      have k2 : k < M.2.1 + 1 := k2
      by_cases e : k = M.2.1
      · rw [e, show jx_up M.1 M.2.1 c M.2.1 = c from if_pos rfl, hn]
        exact ⟨ht, hc⟩
      · rw [show jx_up M.1 M.2.1 c k = M.1 k from if_neg e]
        have k3 := h3 k k1 (by omega)
        exact ⟨k3.1, k3.2.kept (ho _ k3.2.lt)⟩
    · show jx_up M.1 M.2.1 c k = jx_dead
      have k1 : M.2.1 + 1 ≤ k := k1
      rw [show jx_up M.1 M.2.1 c k = M.1 k from if_neg (by omega)]
      exact h4 k (by omega)
    · rw [ho q (by omega)]
      exact h5 q hq
    · show jx_up M.1 M.2.1 c k = X.gl k
      rw [show jx_up M.1 M.2.1 c k = M.1 k from if_neg (by omega)]
      exact h6 k hk
  · cases hp
/-! the locals -/
def jx_pr (X : jx_X) (L : jx_L) : List (Nat × Value) := (List.range L.length).filterMap fun i => (L.getD i none).map fun v => (i, jx_v X v)
theorem jx_pr_mem {X : jx_X} {L : jx_L} {q : Nat × Value} : q ∈ jx_pr X L ↔ ∃ v, L.getD q.1 none = some v ∧ q.2 = jx_v X v := by
  unfold jx_pr
  rw [List.mem_filterMap]
  constructor
  · rintro ⟨i, -, hi⟩
    obtain ⟨v, h1, h2⟩ := Option.map_eq_some_iff.mp hi
    subst h2
    exact ⟨v, h1, rfl⟩
  · rintro ⟨v, h1, h2⟩
    refine ⟨q.1, List.mem_range.mpr ?_, by rw [h1]; show some (q.1, jx_v X v) = some q; rw [← h2]⟩
    apply Nat.lt_of_not_le
    intro hle
    rw [List.getD_eq_getElem?_getD, List.getElem?_eq_none hle] at h1
    cases h1
theorem jx_lo.has {X : jx_X} {ls : Array Slot} {L : jx_L} (h : jx_lo X ls L) : lv_has ls L.length (jx_pr X L) := by
  refine ⟨h.1, h.2.1, fun q hq => ?_⟩
  obtain ⟨v, h1, h2⟩ := jx_pr_mem.mp hq
  rw [h2]
  exact h.2.2 _ _ h1
theorem jx_getD_set {L : jx_L} {i j : Nat} {o : Option Value} (hi : i < L.length) : (L.set i o).getD j none = if j = i then o else L.getD j none := by
  rw [List.getD_eq_getElem?_getD, List.getD_eq_getElem?_getD, List.getElem?_set]
  by_cases e : i = j
  · subst e
    rw [if_pos rfl, if_pos rfl, if_pos hi]
    rfl
  · rw [if_neg e, if_neg (fun q => e q.symm)]
theorem jx_c2_cat {X : jx_X} {v : Value} (h : jx_c2 (some v) = false) : ¬ (jx_v X v).category = 2 := by
  cases v <;> first | (intro q; cases q; done) | cases h
theorem jx_lo.set1 {X : jx_X} {ls' : Array Slot} {L L' : jx_L} {i : Nat} {v : Value} (hs : jx_s1 L i v = some L')
    (h' : lv_has ls' L.length ((i, jx_v X v) :: (jx_pr X L).filter (fun q => !(q.1 == i) && !(q.1 + 1 == i && q.2.category == 2)))) : jx_lo X ls' L' := by
  unfold jx_s1 at hs
  split at hs
  · rename_i hc
    cases hs
    refine ⟨by rw [List.length_set]; exact h'.1, h'.2.1, fun j w hw => ?_⟩
    rw [jx_getD_set hc.1] at hw
    by_cases e : j = i
    · rw [if_pos e] at hw
      cases hw
      subst e
      exact h'.2.2 _ List.mem_cons_self
    · rw [if_neg e] at hw
      refine h'.2.2 (j, jx_v X w) (List.mem_cons_of_mem _ (List.mem_filter.mpr ⟨jx_pr_mem.mpr ⟨w, hw, rfl⟩, ?_⟩))
      by_cases e2 : j + 1 = i
      · have h3 : jx_c2 (some w) = false := by
          rcases hc.2 with z | z
          · omega
          · rw [show i - 1 = j by omega, hw] at z
            exact z
        have h4 := jx_c2_cat (X := X) h3
        simp [e, h4]
      · simp [e, e2]
  · cases hs
theorem jx_lo.set2 {X : jx_X} {ls' : Array Slot} {L L' : jx_L} {i : Nat} {v : Value} (hs : jx_s2 L i v = some L')
    (h' : lv_has ls' L.length ((i, jx_v X v) :: (jx_pr X L).filter (fun q => !(q.1 == i) && (!(q.1 == i + 1) && !(q.1 + 1 == i && q.2.category == 2))))) : jx_lo X ls' L' := by
  unfold jx_s2 at hs
  split at hs
  · rename_i hc
    cases hs
    refine ⟨by rw [List.length_set, List.length_set]; exact h'.1, h'.2.1, fun j w hw => ?_⟩
    rw [jx_getD_set (by rw [List.length_set]; exact hc.1)] at hw
    by_cases e0 : j = i + 1
    · rw [if_pos e0] at hw
      cases hw
    · rw [if_neg e0, jx_getD_set (by omega)] at hw
      by_cases e : j = i
      · rw [if_pos e] at hw
        cases hw
        subst e
        exact h'.2.2 _ List.mem_cons_self
      · rw [if_neg e] at hw
        refine h'.2.2 (j, jx_v X w) (List.mem_cons_of_mem _ (List.mem_filter.mpr ⟨jx_pr_mem.mpr ⟨w, hw, rfl⟩, ?_⟩))
        by_cases e2 : j + 1 = i
        · have h3 : jx_c2 (some w) = false := by
            rcases hc.2 with z | z
            · omega
            · rw [show i - 1 = j by omega, hw] at z
              exact z
          have h4 := jx_c2_cat (X := X) h3
          simp [e, e0, h4]
        · simp [e, e0, e2]
  · cases hs
theorem jx_s1_len {L L' : jx_L} {i : Nat} {v : Value} (hs : jx_s1 L i v = some L') : L'.length = L.length := by
  unfold jx_s1 at hs
  split at hs
  · cases hs; rw [List.length_set]
  · cases hs
theorem jx_s2_len {L L' : jx_L} {i : Nat} {v : Value} (hs : jx_s2 L i v = some L') : L'.length = L.length := by
  unfold jx_s2 at hs
  split at hs
  · cases hs; rw [List.length_set, List.length_set]
  · cases hs
theorem jx_s1_lt {L L' : jx_L} {i : Nat} {v : Value} (hs : jx_s1 L i v = some L') : i < L.length := by
  unfold jx_s1 at hs
  split at hs
  · rename_i hc; exact hc.1
  · cases hs
theorem jx_s2_lt {L L' : jx_L} {i : Nat} {v : Value} (hs : jx_s2 L i v = some L') : i + 1 < L.length := by
  unfold jx_s2 at hs
  split at hs
  · rename_i hc; exact hc.1
  · cases hs
theorem jx_ix_in {i : Int32} {n : Nat} (h : jx_ix i n = true) : vp_in i n := by
  simp only [jx_ix, Bool.and_eq_true, decide_eq_true_eq] at h
  rintro (q | q)
  · exact h.1 q
  · omega
end
section
/-! EACH OPERATION IS WHAT ITS INSTRUCTION DOES -/
section JO
variable {X : jx_X} {mt : Nat → jx_D} {md : jx_D} {pc : Nat}
theorem s_iconst {n : Int} {v : Int32} (hd : decode md.2.1 pc = .ok (.iconst n, 1)) (hv : Int32.ofInt n = v) : jx_S X mt md pc (o_push (.int v) 1) := by
  intro p l e R s m args below meth c d B L st M N h H ls locs cells slots I
  cases h
  intro Q k
  obtain ⟨hx, -, -, -, -, -, -, hb, -⟩ := B
  exact lv_iconst hx hb hd hv (k _ _ _ _ _ I)
theorem s_bipush {n : Int} {v : Int32} (hd : decode md.2.1 pc = .ok (.bipush n, 2)) (hv : (Int8.ofInt n).toInt32 = v) : jx_S X mt md pc (o_push (.int v) 2) := by
  intro p l e R s m args below meth c d B L st M N h H ls locs cells slots I
  cases h
  intro Q k
  obtain ⟨hx, -, -, -, -, -, -, hb, -⟩ := B
  exact lv_bipush hx hb hd hv (k _ _ _ _ _ I)
theorem s_sipush {n : Int} {v : Int32} (hd : decode md.2.1 pc = .ok (.sipush n, 3)) (hv : (Int16.ofInt n).toInt32 = v) : jx_S X mt md pc (o_push (.int v) 3) := by
  intro p l e R s m args below meth c d B L st M N h H ls locs cells slots I
  cases h
  intro Q k
  obtain ⟨hx, -, -, -, -, -, -, hb, -⟩ := B
  exact lv_sipush hx hb hd hv (k _ _ _ _ _ I)
theorem s_null (hd : decode md.2.1 pc = .ok (.aconst_null, 1)) : jx_S X mt md pc (o_push .null 1) := by
  intro p l e R s m args below meth c d B L st M N h H ls locs cells slots I
  cases h
  intro Q k
  obtain ⟨hx, -, -, -, -, -, -, hb, -⟩ := B
  exact lv_null hx hb hd (k _ _ _ _ _ I)
theorem s_lconst {n : Fin 2} {v : Int64} (hd : decode md.2.1 pc = .ok (.lconst n, 1)) (hv : Int64.ofNat (n : Nat) = v) : jx_S X mt md pc (o_push (.long v) 1) := by
  intro p l e R s m args below meth c d B L st M N h H ls locs cells slots I
  cases h
  intro Q k
  obtain ⟨hx, -, -, -, -, -, -, hb, -⟩ := B
  exact lv_lconst hx hb hd hv (k _ _ _ _ _ I)
theorem s_ldc2 {i : Nat} {v : Int64} (hd : decode md.2.1 pc = .ok (.ldc2_w i, 3)) (hw : (Cond.constantLong md.1.cls i v : Cond) ∈ X.W) : jx_S X mt md pc (o_push (.long v) 3) := by
  intro p l e R s m args below meth c d B L st M N h H ls locs cells slots I
  cases h
  intro Q k
  obtain ⟨hx, -, hts, -, -, hown, -, hb, -⟩ := B
  exact lv_ldc2 hx hb hown (hts _ hw) hd (k _ _ _ _ _ I)
theorem s_ldc {i : Nat} {v : Int32} (hd : decode md.2.1 pc = .ok (.ldc i, 2)) (hw : (Cond.constant md.1.cls i v : Cond) ∈ X.W) : jx_S X mt md pc (o_push (.int v) 2) := by
  intro p l e R s m args below meth c d B L st M N h H ls locs cells slots I
  cases h
  intro Q k
  obtain ⟨hx, -, hts, -, -, hown, -, hb, -⟩ := B
  exact lv_ldc hx hb hown (hts _ hw) hd (k _ _ _ _ _ I)
theorem s_iload_n {i : Nat} {n : Fin 4} (hd : decode md.2.1 pc = .ok (.iload_n n, 1)) (hi : (n : Nat) = i) : jx_S X mt md pc (o_ild i 1) := by
  intro p l e R s m args below meth c d B L st M N h H ls locs cells slots I
  unfold o_ild at h
  split at h
  · rename_i x hx0
    cases h
    intro Q k
    obtain ⟨hx, -, -, -, -, -, -, hb, -⟩ := B
    exact lv_iload_n hx hb hd hi (I.2.1.2.2 _ _ hx0) (k _ _ _ _ _ I)
  · cases h
theorem s_iload {i : Nat} (hd : decode md.2.1 pc = .ok (.iload i, 2)) : jx_S X mt md pc (o_ild i 2) := by
  intro p l e R s m args below meth c d B L st M N h H ls locs cells slots I
  unfold o_ild at h
  split at h
  · rename_i x hx0
    cases h
    intro Q k
    obtain ⟨hx, -, -, -, -, -, -, hb, -⟩ := B
    exact lv_iload hx hb hd (I.2.1.2.2 _ _ hx0) (k _ _ _ _ _ I)
  · cases h
theorem s_lload_n {i : Nat} {n : Fin 4} (hd : decode md.2.1 pc = .ok (.lload_n n, 1)) (hi : (n : Nat) = i) : jx_S X mt md pc (o_lld i 1) := by
  intro p l e R s m args below meth c d B L st M N h H ls locs cells slots I
  unfold o_lld at h
  split at h
  · rename_i x hx0
    cases h
    intro Q k
    obtain ⟨hx, -, -, -, -, -, -, hb, -⟩ := B
    exact lv_lload_n hx hb hd hi (I.2.1.2.2 _ _ hx0) (k _ _ _ _ _ I)
  · cases h
theorem s_lload {i : Nat} (hd : decode md.2.1 pc = .ok (.lload i, 2)) : jx_S X mt md pc (o_lld i 2) := by
  intro p l e R s m args below meth c d B L st M N h H ls locs cells slots I
  unfold o_lld at h
  split at h
  · rename_i x hx0
    cases h
    intro Q k
    obtain ⟨hx, -, -, -, -, -, -, hb, -⟩ := B
    exact lv_lload hx hb hd (I.2.1.2.2 _ _ hx0) (k _ _ _ _ _ I)
  · cases h
theorem s_aload_n {i : Nat} {n : Fin 4} (hd : decode md.2.1 pc = .ok (.aload_n n, 1)) (hi : (n : Nat) = i) : jx_S X mt md pc (o_ald i 1) := by
  intro p l e R s m args below meth c d B L st M N h H ls locs cells slots I
  obtain ⟨hx, -, -, -, -, -, -, hb, -⟩ := B
  unfold o_ald at h
  split at h
  · rename_i x hx0
    cases h
    intro Q k
    exact lv_aload_n hx hb hd hi (I.2.1.2.2 _ _ hx0) (k _ _ _ _ _ I)
  · rename_i hx0
    cases h
    intro Q k
    exact lv_aload_nN hx hb hd hi (I.2.1.2.2 _ _ hx0) (k _ _ _ _ _ I)
  · cases h
theorem s_aload {i : Nat} (hd : decode md.2.1 pc = .ok (.aload i, 2)) : jx_S X mt md pc (o_ald i 2) := by
  intro p l e R s m args below meth c d B L st M N h H ls locs cells slots I
  obtain ⟨hx, -, -, -, -, -, -, hb, -⟩ := B
  unfold o_ald at h
  split at h
  · rename_i x hx0
    cases h
    intro Q k
    exact lv_aload hx hb hd (I.2.1.2.2 _ _ hx0) (k _ _ _ _ _ I)
  · rename_i hx0
    cases h
    intro Q k
    exact lv_aloadN hx hb hd (I.2.1.2.2 _ _ hx0) (k _ _ _ _ _ I)
  · cases h
theorem s_istore_n {i : Nat} {n : Fin 4} (hd : decode md.2.1 pc = .ok (.istore_n n, 1)) (hi : (n : Nat) = i) : jx_S X mt md pc (o_ist i 1) := by
  intro p l e R s m args below meth c d B L st M N h H ls locs cells slots I
  obtain ⟨hx, -, -, -, -, -, -, hb, -⟩ := B
  unfold o_ist at h
  split at h
  · obtain ⟨L', h1, h2⟩ := Option.map_eq_some_iff.mp h
    cases h2
    intro Q k
    exact lv_istore_n hx hb hd hi I.2.1.has (jx_s1_lt h1) rfl fun ls' h' => k _ _ _ _ _ ⟨I.1, jx_lo.set1 h1 h', I.2.2.1, I.2.2.2.1, I.2.2.2.2.1, (jx_s1_len h1).trans I.2.2.2.2.2⟩
  · cases h
theorem s_istore {i : Nat} (hd : decode md.2.1 pc = .ok (.istore i, 2)) : jx_S X mt md pc (o_ist i 2) := by
  intro p l e R s m args below meth c d B L st M N h H ls locs cells slots I
  obtain ⟨hx, -, -, -, -, -, -, hb, -⟩ := B
  unfold o_ist at h
  split at h
  · obtain ⟨L', h1, h2⟩ := Option.map_eq_some_iff.mp h
    cases h2
    intro Q k
    exact lv_istore hx hb hd I.2.1.has (jx_s1_lt h1) rfl fun ls' h' => k _ _ _ _ _ ⟨I.1, jx_lo.set1 h1 h', I.2.2.1, I.2.2.2.1, I.2.2.2.2.1, (jx_s1_len h1).trans I.2.2.2.2.2⟩
  · cases h
theorem s_lstore_n {i : Nat} {n : Fin 4} (hd : decode md.2.1 pc = .ok (.lstore_n n, 1)) (hi : (n : Nat) = i) : jx_S X mt md pc (o_lst i 1) := by
  intro p l e R s m args below meth c d B L st M N h H ls locs cells slots I
  obtain ⟨hx, -, -, -, -, -, -, hb, -⟩ := B
  unfold o_lst at h
  split at h
  · obtain ⟨L', h1, h2⟩ := Option.map_eq_some_iff.mp h
    cases h2
    intro Q k
    exact lv_lstore_n hx hb hd hi I.2.1.has (jx_s2_lt h1) rfl fun ls' h' => k _ _ _ _ _ ⟨I.1, jx_lo.set2 h1 h', I.2.2.1, I.2.2.2.1, I.2.2.2.2.1, (jx_s2_len h1).trans I.2.2.2.2.2⟩
  · cases h
theorem s_lstore {i : Nat} (hd : decode md.2.1 pc = .ok (.lstore i, 2)) : jx_S X mt md pc (o_lst i 2) := by
  intro p l e R s m args below meth c d B L st M N h H ls locs cells slots I
  obtain ⟨hx, -, -, -, -, -, -, hb, -⟩ := B
  unfold o_lst at h
  split at h
  · obtain ⟨L', h1, h2⟩ := Option.map_eq_some_iff.mp h
    cases h2
    intro Q k
    exact lv_lstore hx hb hd I.2.1.has (jx_s2_lt h1) rfl fun ls' h' => k _ _ _ _ _ ⟨I.1, jx_lo.set2 h1 h', I.2.2.1, I.2.2.2.1, I.2.2.2.2.1, (jx_s2_len h1).trans I.2.2.2.2.2⟩
  · cases h
theorem s_astore_n {i : Nat} {n : Fin 4} (hd : decode md.2.1 pc = .ok (.astore_n n, 1)) (hi : (n : Nat) = i) : jx_S X mt md pc (o_ast i 1) := by
  intro p l e R s m args below meth c d B L st M N h H ls locs cells slots I
  obtain ⟨hx, -, -, -, -, -, -, hb, -⟩ := B
  unfold o_ast at h
  split at h
  · obtain ⟨L', h1, h2⟩ := Option.map_eq_some_iff.mp h
    cases h2
    intro Q k
    exact lv_astore_n hx hb hd hi I.2.1.has (jx_s1_lt h1) rfl fun ls' h' => k _ _ _ _ _ ⟨I.1, jx_lo.set1 h1 h', I.2.2.1, I.2.2.2.1, I.2.2.2.2.1, (jx_s1_len h1).trans I.2.2.2.2.2⟩
  · obtain ⟨L', h1, h2⟩ := Option.map_eq_some_iff.mp h
    cases h2
    intro Q k
    exact lv_astore_nN hx hb hd hi I.2.1.has (jx_s1_lt h1) rfl fun ls' h' => k _ _ _ _ _ ⟨I.1, jx_lo.set1 h1 h', I.2.2.1, I.2.2.2.1, I.2.2.2.2.1, (jx_s1_len h1).trans I.2.2.2.2.2⟩
  · cases h
theorem s_astore {i : Nat} (hd : decode md.2.1 pc = .ok (.astore i, 2)) : jx_S X mt md pc (o_ast i 2) := by
  intro p l e R s m args below meth c d B L st M N h H ls locs cells slots I
  obtain ⟨hx, -, -, -, -, -, -, hb, -⟩ := B
  unfold o_ast at h
  split at h
  · obtain ⟨L', h1, h2⟩ := Option.map_eq_some_iff.mp h
    cases h2
    intro Q k
    exact lv_astore hx hb hd I.2.1.has (jx_s1_lt h1) rfl fun ls' h' => k _ _ _ _ _ ⟨I.1, jx_lo.set1 h1 h', I.2.2.1, I.2.2.2.1, I.2.2.2.2.1, (jx_s1_len h1).trans I.2.2.2.2.2⟩
  · obtain ⟨L', h1, h2⟩ := Option.map_eq_some_iff.mp h
    cases h2
    intro Q k
    exact lv_astoreN hx hb hd I.2.1.has (jx_s1_lt h1) rfl fun ls' h' => k _ _ _ _ _ ⟨I.1, jx_lo.set1 h1 h', I.2.2.1, I.2.2.2.1, I.2.2.2.2.1, (jx_s1_len h1).trans I.2.2.2.2.2⟩
  · cases h
theorem s_iinc {i : Nat} {n : Int} {v : Int32} (hd : decode md.2.1 pc = .ok (.iinc i n, 3)) (hv : Int32.ofInt n = v) : jx_S X mt md pc (o_iinc i v) := by
  intro p l e R s m args below meth c d B L st M N h H ls locs cells slots I
  obtain ⟨hx, -, -, -, -, -, -, hb, -⟩ := B
  unfold o_iinc at h
  split at h
  · rename_i x hx0
    obtain ⟨L', h1, h2⟩ := Option.map_eq_some_iff.mp h
    cases h2
    intro Q k
    have hm : (i, Value.int x) ∈ jx_pr X L := jx_pr_mem.mpr ⟨_, hx0, rfl⟩
    obtain ⟨j, hj⟩ := List.getElem?_of_mem hm
    exact lv_iinc hx hb hd I.2.1.has hj (by rw [hv]) (jx_s1_lt h1) rfl fun ls' h' => k _ _ _ _ _ ⟨I.1, jx_lo.set1 h1 h', I.2.2.1, I.2.2.2.1, I.2.2.2.2.1, (jx_s1_len h1).trans I.2.2.2.2.2⟩
  · cases h
theorem s_iadd (hd : decode md.2.1 pc = .ok (.iadd, 1)) : jx_S X mt md pc (o_bin fun x y => x + y) := by
  intro p l e R s m args below meth c d B L st M N h H ls locs cells slots I
  obtain ⟨hx, -, -, -, -, -, -, hb, -⟩ := B
  unfold o_bin at h
  split at h
  · cases h
    intro Q k
    exact lv_iadd hx hb hd (k _ _ _ _ _ I)
  · cases h
theorem s_isub (hd : decode md.2.1 pc = .ok (.isub, 1)) : jx_S X mt md pc (o_bin fun x y => x - y) := by
  intro p l e R s m args below meth c d B L st M N h H ls locs cells slots I
  obtain ⟨hx, -, -, -, -, -, -, hb, -⟩ := B
  unfold o_bin at h
  split at h
  · cases h
    intro Q k
    exact lv_isub hx hb hd (k _ _ _ _ _ I)
  · cases h
theorem s_imul (hd : decode md.2.1 pc = .ok (.imul, 1)) : jx_S X mt md pc (o_bin fun x y => x * y) := by
  intro p l e R s m args below meth c d B L st M N h H ls locs cells slots I
  obtain ⟨hx, -, -, -, -, -, -, hb, -⟩ := B
  unfold o_bin at h
  split at h
  · cases h
    intro Q k
    exact lv_imul hx hb hd (k _ _ _ _ _ I)
  · cases h
theorem s_iand (hd : decode md.2.1 pc = .ok (.iand, 1)) : jx_S X mt md pc (o_bin fun x y => x &&& y) := by
  intro p l e R s m args below meth c d B L st M N h H ls locs cells slots I
  obtain ⟨hx, -, -, -, -, -, -, hb, -⟩ := B
  unfold o_bin at h
  split at h
  · cases h
    intro Q k
    exact lv_iand hx hb hd (k _ _ _ _ _ I)
  · cases h
theorem s_ior (hd : decode md.2.1 pc = .ok (.ior, 1)) : jx_S X mt md pc (o_bin fun x y => x ||| y) := by
  intro p l e R s m args below meth c d B L st M N h H ls locs cells slots I
  obtain ⟨hx, -, -, -, -, -, -, hb, -⟩ := B
  unfold o_bin at h
  split at h
  · cases h
    intro Q k
    exact lv_ior hx hb hd (k _ _ _ _ _ I)
  · cases h
theorem s_ixor (hd : decode md.2.1 pc = .ok (.ixor, 1)) : jx_S X mt md pc (o_bin fun x y => x ^^^ y) := by
  intro p l e R s m args below meth c d B L st M N h H ls locs cells slots I
  obtain ⟨hx, -, -, -, -, -, -, hb, -⟩ := B
  unfold o_bin at h
  split at h
  · cases h
    intro Q k
    exact lv_ixor hx hb hd (k _ _ _ _ _ I)
  · cases h
theorem s_ishl (hd : decode md.2.1 pc = .ok (.ishl, 1)) : jx_S X mt md pc (o_bin fun x y => x <<< (y &&& 31)) := by
  intro p l e R s m args below meth c d B L st M N h H ls locs cells slots I
  obtain ⟨hx, -, -, -, -, -, -, hb, -⟩ := B
  unfold o_bin at h
  split at h
  · cases h
    intro Q k
    exact lv_ishl hx hb hd (k _ _ _ _ _ I)
  · cases h
theorem s_ishr (hd : decode md.2.1 pc = .ok (.ishr, 1)) : jx_S X mt md pc (o_bin fun x y => x >>> (y &&& 31)) := by
  intro p l e R s m args below meth c d B L st M N h H ls locs cells slots I
  obtain ⟨hx, -, -, -, -, -, -, hb, -⟩ := B
  unfold o_bin at h
  split at h
  · cases h
    intro Q k
    exact lv_ishr hx hb hd (k _ _ _ _ _ I)
  · cases h
theorem s_iushr (hd : decode md.2.1 pc = .ok (.iushr, 1)) : jx_S X mt md pc (o_bin fun x y => (x.toUInt32 >>> (y.toUInt32 &&& Int32.toUInt32 31)).toInt32) := by
  intro p l e R s m args below meth c d B L st M N h H ls locs cells slots I
  obtain ⟨hx, -, -, -, -, -, -, hb, -⟩ := B
  unfold o_bin at h
  split at h
  · cases h
    intro Q k
    exact lv_iushr hx hb hd rfl (k _ _ _ _ _ I)
  · cases h
theorem s_ineg (hd : decode md.2.1 pc = .ok (.ineg, 1)) : jx_S X mt md pc (o_un fun x => -x) := by
  intro p l e R s m args below meth c d B L st M N h H ls locs cells slots I
  obtain ⟨hx, -, -, -, -, -, -, hb, -⟩ := B
  unfold o_un at h
  split at h
  · cases h
    intro Q k
    exact lv_ineg hx hb hd (k _ _ _ _ _ I)
  · cases h
theorem s_i2c (hd : decode md.2.1 pc = .ok (.i2c, 1)) : jx_S X mt md pc (o_un fun x => (x.toUInt32 % 65536).toInt32) := by
  intro p l e R s m args below meth c d B L st M N h H ls locs cells slots I
  obtain ⟨hx, -, -, -, -, -, -, hb, -⟩ := B
  unfold o_un at h
  split at h
  · cases h
    intro Q k
    exact lv_i2c hx hb hd rfl (k _ _ _ _ _ I)
  · cases h
theorem s_ladd (hd : decode md.2.1 pc = .ok (.ladd, 1)) : jx_S X mt md pc (o_binl fun x y => x + y) := by
  intro p l e R s m args below meth c d B L st M N h H ls locs cells slots I
  obtain ⟨hx, -, -, -, -, -, -, hb, -⟩ := B
  unfold o_binl at h
  split at h
  · cases h
    intro Q k
    exact lv_ladd hx hb hd (k _ _ _ _ _ I)
  · cases h
theorem s_land (hd : decode md.2.1 pc = .ok (.land, 1)) : jx_S X mt md pc (o_binl fun x y => x &&& y) := by
  intro p l e R s m args below meth c d B L st M N h H ls locs cells slots I
  obtain ⟨hx, -, -, -, -, -, -, hb, -⟩ := B
  unfold o_binl at h
  split at h
  · cases h
    intro Q k
    exact lv_land hx hb hd (k _ _ _ _ _ I)
  · cases h
theorem s_lor (hd : decode md.2.1 pc = .ok (.lor, 1)) : jx_S X mt md pc (o_binl fun x y => x ||| y) := by
  intro p l e R s m args below meth c d B L st M N h H ls locs cells slots I
  obtain ⟨hx, -, -, -, -, -, -, hb, -⟩ := B
  unfold o_binl at h
  split at h
  · cases h
    intro Q k
    exact lv_lor hx hb hd (k _ _ _ _ _ I)
  · cases h
theorem s_lshl (hd : decode md.2.1 pc = .ok (.lshl, 1)) : jx_S X mt md pc (o_shl fun x y => x <<< (y.toInt64 &&& 63)) := by
  intro p l e R s m args below meth c d B L st M N h H ls locs cells slots I
  obtain ⟨hx, -, -, -, -, -, -, hb, -⟩ := B
  unfold o_shl at h
  split at h
  · cases h
    intro Q k
    exact lv_lshl hx hb hd rfl (k _ _ _ _ _ I)
  · cases h
theorem s_lushr (hd : decode md.2.1 pc = .ok (.lushr, 1)) : jx_S X mt md pc (o_shl fun x y => (x.toUInt64 >>> (y.toInt64.toUInt64 &&& Int64.toUInt64 63)).toInt64) := by
  intro p l e R s m args below meth c d B L st M N h H ls locs cells slots I
  obtain ⟨hx, -, -, -, -, -, -, hb, -⟩ := B
  unfold o_shl at h
  split at h
  · cases h
    intro Q k
    exact lv_lushr hx hb hd rfl (k _ _ _ _ _ I)
  · cases h
theorem s_i2l (hd : decode md.2.1 pc = .ok (.i2l, 1)) : jx_S X mt md pc o_i2l := by
  intro p l e R s m args below meth c d B L st M N h H ls locs cells slots I
  obtain ⟨hx, -, -, -, -, -, -, hb, -⟩ := B
  unfold o_i2l at h
  split at h
  · cases h
    intro Q k
    exact lv_i2l hx hb hd rfl (k _ _ _ _ _ I)
  · cases h
theorem s_l2i (hd : decode md.2.1 pc = .ok (.l2i, 1)) : jx_S X mt md pc o_l2i := by
  intro p l e R s m args below meth c d B L st M N h H ls locs cells slots I
  obtain ⟨hx, -, -, -, -, -, -, hb, -⟩ := B
  unfold o_l2i at h
  split at h
  · cases h
    intro Q k
    exact lv_l2i hx hb hd rfl (k _ _ _ _ _ I)
  · cases h
theorem s_lcmp (hd : decode md.2.1 pc = .ok (.lcmp, 1)) : jx_S X mt md pc o_lcmp := by
  intro p l e R s m args below meth c d B L st M N h H ls locs cells slots I
  obtain ⟨hx, -, -, -, -, -, -, hb, -⟩ := B
  unfold o_lcmp at h
  split at h
  · cases h
    intro Q k
    exact W.lcmp hx hb hd (k _ _ _ _ _ I)
  · cases h
theorem s_dup (hd : decode md.2.1 pc = .ok (.dup, 1)) : jx_S X mt md pc o_dup := by
  intro p l e R s m args below meth c d B L st M N h H ls locs cells slots I
  obtain ⟨hx, -, -, -, -, -, -, hb, -⟩ := B
  unfold o_dup at h
  split at h
  · split at h
    · rename_i hv
      cases h
      intro Q k
      exact lv_dup hx hb hd (by rw [jx_v_cat]; exact jx_v1_cat hv) (k _ _ _ _ _ I)
    · cases h
  · cases h
theorem s_pop (hd : decode md.2.1 pc = .ok (.pop, 1)) : jx_S X mt md pc o_pop := by
  intro p l e R s m args below meth c d B L st M N h H ls locs cells slots I
  obtain ⟨hx, -, -, -, -, -, -, hb, -⟩ := B
  unfold o_pop at h
  split at h
  · split at h
    · rename_i hv
      cases h
      intro Q k
      exact lv_pop hx hb hd (by rw [jx_v_cat]; exact jx_v1_cat hv) (k _ _ _ _ _ I)
    · cases h
  · cases h
theorem s_dup_x1 (hd : decode md.2.1 pc = .ok (.dup_x1, 1)) : jx_S X mt md pc o_dup_x1 := by
  intro p l e R s m args below meth c d B L st M N h H ls locs cells slots I
  obtain ⟨hx, -, -, -, -, -, -, hb, -⟩ := B
  unfold o_dup_x1 at h
  split at h
  · split at h
    · rename_i hv
      cases h
      intro Q k
      exact lv_dup_x1 hx hb hd (by rw [jx_v_cat]; exact jx_v1_cat hv.1) (by rw [jx_v_cat]; exact jx_v1_cat hv.2) (k _ _ _ _ _ I)
    · cases h
  · cases h
theorem s_dup2 (hd : decode md.2.1 pc = .ok (.dup2, 1)) : jx_S X mt md pc o_dup2 := by
  intro p l e R s m args below meth c d B L st M N h H ls locs cells slots I
  obtain ⟨hx, -, -, -, -, -, -, hb, -⟩ := B
  unfold o_dup2 at h
  split at h
  · split at h
    · rename_i hv
      cases h
      intro Q k
      exact lv_dup2_11 hx hb hd (by rw [jx_v_cat]; exact jx_v1_cat hv.1) (by rw [jx_v_cat]; exact jx_v1_cat hv.2) (k _ _ _ _ _ I)
    · cases h
  · cases h
theorem s_goto {off : Int} {t : Nat} (hd : decode md.2.1 pc = .ok (.goto off, 3)) (ht : (pc : Int) + off = (t : Int)) : jx_S X mt md pc (o_goto t) := by
  intro p l e R s m args below meth c d B L st M N h H ls locs cells slots I
  obtain ⟨hx, -, -, -, -, -, -, hb, -⟩ := B
  cases h
  intro Q k
  exact lv_goto hx hb hd ht (k _ _ _ _ _ I)
theorem s_ifeq {off : Int} {t : Nat} (hd : decode md.2.1 pc = .ok (.ifCond .eq off, 3)) (ht : (pc : Int) + off = (t : Int)) : jx_S X mt md pc (o_ifeq t) := by
  intro p l e R s m args below meth c d B L st M N h H ls locs cells slots I
  obtain ⟨hx, -, -, -, -, -, -, hb, -⟩ := B
  unfold o_ifeq at h
  split at h
  · cases h
    intro Q k
    refine lv_if_eq hx hb hd ht (fun q => ?_) (fun q => ?_)
    · have k2 := k _ _ _ _ _ I
      rw [if_pos q] at k2
      exact k2
    · have k2 := k _ _ _ _ _ I
      rw [if_neg q] at k2
      exact k2
  · cases h
theorem s_ifne {off : Int} {t : Nat} (hd : decode md.2.1 pc = .ok (.ifCond .ne off, 3)) (ht : (pc : Int) + off = (t : Int)) : jx_S X mt md pc (o_ifne t) := by
  intro p l e R s m args below meth c d B L st M N h H ls locs cells slots I
  obtain ⟨hx, -, -, -, -, -, -, hb, -⟩ := B
  unfold o_ifne at h
  split at h
  · cases h
    intro Q k
    refine lv_if_ne hx hb hd ht (fun q => ?_) (fun q => ?_)
    · have k2 := k _ _ _ _ _ I
      rw [if_neg q] at k2
      exact k2
    · have k2 := k _ _ _ _ _ I
      rw [if_pos q] at k2
      exact k2
  · cases h
theorem s_iflt {off : Int} {t : Nat} (hd : decode md.2.1 pc = .ok (.ifCond .lt off, 3)) (ht : (pc : Int) + off = (t : Int)) : jx_S X mt md pc (o_iflt t) := by
  intro p l e R s m args below meth c d B L st M N h H ls locs cells slots I
  obtain ⟨hx, -, -, -, -, -, -, hb, -⟩ := B
  unfold o_iflt at h
  split at h
  · cases h
    intro Q k
    refine lv_if_lt hx hb hd ht (fun q => ?_) (fun q => ?_)
    · have k2 := k _ _ _ _ _ I
      rw [if_pos q] at k2
      exact k2
    · have k2 := k _ _ _ _ _ I
      rw [if_neg q] at k2
      exact k2
  · cases h
theorem s_ifge {off : Int} {t : Nat} (hd : decode md.2.1 pc = .ok (.ifCond .ge off, 3)) (ht : (pc : Int) + off = (t : Int)) : jx_S X mt md pc (o_ifge t) := by
  intro p l e R s m args below meth c d B L st M N h H ls locs cells slots I
  obtain ⟨hx, -, -, -, -, -, -, hb, -⟩ := B
  unfold o_ifge at h
  split at h
  · cases h
    intro Q k
    refine lv_if_ge hx hb hd ht (fun q => ?_) (fun q => ?_)
    · have k2 := k _ _ _ _ _ I
      rw [if_neg (k2_nlt q)] at k2
      exact k2
    · have k2 := k _ _ _ _ _ I
      rw [if_pos (k2_lt q)] at k2
      exact k2
  · cases h
theorem s_ifgt {off : Int} {t : Nat} (hd : decode md.2.1 pc = .ok (.ifCond .gt off, 3)) (ht : (pc : Int) + off = (t : Int)) : jx_S X mt md pc (o_ifgt t) := by
  intro p l e R s m args below meth c d B L st M N h H ls locs cells slots I
  obtain ⟨hx, -, -, -, -, -, -, hb, -⟩ := B
  unfold o_ifgt at h
  split at h
  · cases h
    intro Q k
    refine lv_if_gt hx hb hd ht (fun q => ?_) (fun q => ?_)
    · have k2 := k _ _ _ _ _ I
      rw [if_pos q] at k2
      exact k2
    · have k2 := k _ _ _ _ _ I
      rw [if_neg q] at k2
      exact k2
  · cases h
theorem s_ifle {off : Int} {t : Nat} (hd : decode md.2.1 pc = .ok (.ifCond .le off, 3)) (ht : (pc : Int) + off = (t : Int)) : jx_S X mt md pc (o_ifle t) := by
  intro p l e R s m args below meth c d B L st M N h H ls locs cells slots I
  obtain ⟨hx, -, -, -, -, -, -, hb, -⟩ := B
  unfold o_ifle at h
  split at h
  · cases h
    intro Q k
    refine lv_if_le hx hb hd ht (fun q => ?_) (fun q => ?_)
    · have k2 := k _ _ _ _ _ I
      rw [if_neg (k2_nlt q)] at k2
      exact k2
    · have k2 := k _ _ _ _ _ I
      rw [if_pos (k2_lt q)] at k2
      exact k2
  · cases h
theorem s_ieq {off : Int} {t : Nat} (hd : decode md.2.1 pc = .ok (.if_icmp .eq off, 3)) (ht : (pc : Int) + off = (t : Int)) : jx_S X mt md pc (o_ieq t) := by
  intro p l e R s m args below meth c d B L st M N h H ls locs cells slots I
  obtain ⟨hx, -, -, -, -, -, -, hb, -⟩ := B
  unfold o_ieq at h
  split at h
  · cases h
    intro Q k
    refine lv_icmp_eq hx hb hd ht (fun q => ?_) (fun q => ?_)
    · have k2 := k _ _ _ _ _ I
      rw [if_pos q] at k2
      exact k2
    · have k2 := k _ _ _ _ _ I
      rw [if_neg q] at k2
      exact k2
  · cases h
theorem s_ine {off : Int} {t : Nat} (hd : decode md.2.1 pc = .ok (.if_icmp .ne off, 3)) (ht : (pc : Int) + off = (t : Int)) : jx_S X mt md pc (o_ine t) := by
  intro p l e R s m args below meth c d B L st M N h H ls locs cells slots I
  obtain ⟨hx, -, -, -, -, -, -, hb, -⟩ := B
  unfold o_ine at h
  split at h
  · cases h
    intro Q k
    refine lv_icmp_ne hx hb hd ht (fun q => ?_) (fun q => ?_)
    · have k2 := k _ _ _ _ _ I
      rw [if_neg q] at k2
      exact k2
    · have k2 := k _ _ _ _ _ I
      rw [if_pos q] at k2
      exact k2
  · cases h
theorem s_ilt {off : Int} {t : Nat} (hd : decode md.2.1 pc = .ok (.if_icmp .lt off, 3)) (ht : (pc : Int) + off = (t : Int)) : jx_S X mt md pc (o_ilt t) := by
  intro p l e R s m args below meth c d B L st M N h H ls locs cells slots I
  obtain ⟨hx, -, -, -, -, -, -, hb, -⟩ := B
  unfold o_ilt at h
  split at h
  · cases h
    intro Q k
    refine lv_icmp_lt hx hb hd ht (fun q => ?_) (fun q => ?_)
    · have k2 := k _ _ _ _ _ I
      rw [if_pos q] at k2
      exact k2
    · have k2 := k _ _ _ _ _ I
      rw [if_neg q] at k2
      exact k2
  · cases h
theorem s_ige {off : Int} {t : Nat} (hd : decode md.2.1 pc = .ok (.if_icmp .ge off, 3)) (ht : (pc : Int) + off = (t : Int)) : jx_S X mt md pc (o_ige t) := by
  intro p l e R s m args below meth c d B L st M N h H ls locs cells slots I
  obtain ⟨hx, -, -, -, -, -, -, hb, -⟩ := B
  unfold o_ige at h
  split at h
  · cases h
    intro Q k
    refine lv_icmp_ge hx hb hd ht (fun q => ?_) (fun q => ?_)
    · have k2 := k _ _ _ _ _ I
      rw [if_neg (k2_nlt q)] at k2
      exact k2
    · have k2 := k _ _ _ _ _ I
      rw [if_pos (k2_lt q)] at k2
      exact k2
  · cases h
theorem s_igt {off : Int} {t : Nat} (hd : decode md.2.1 pc = .ok (.if_icmp .gt off, 3)) (ht : (pc : Int) + off = (t : Int)) : jx_S X mt md pc (o_igt t) := by
  intro p l e R s m args below meth c d B L st M N h H ls locs cells slots I
  obtain ⟨hx, -, -, -, -, -, -, hb, -⟩ := B
  unfold o_igt at h
  split at h
  · cases h
    intro Q k
    refine lv_icmp_gt hx hb hd ht (fun q => ?_) (fun q => ?_)
    · have k2 := k _ _ _ _ _ I
      rw [if_pos q] at k2
      exact k2
    · have k2 := k _ _ _ _ _ I
      rw [if_neg q] at k2
      exact k2
  · cases h
theorem s_ile {off : Int} {t : Nat} (hd : decode md.2.1 pc = .ok (.if_icmp .le off, 3)) (ht : (pc : Int) + off = (t : Int)) : jx_S X mt md pc (o_ile t) := by
  intro p l e R s m args below meth c d B L st M N h H ls locs cells slots I
  obtain ⟨hx, -, -, -, -, -, -, hb, -⟩ := B
  unfold o_ile at h
  split at h
  · cases h
    intro Q k
    refine lv_icmp_le hx hb hd ht (fun q => ?_) (fun q => ?_)
    · have k2 := k _ _ _ _ _ I
      rw [if_neg (k2_nlt q)] at k2
      exact k2
    · have k2 := k _ _ _ _ _ I
      rw [if_pos (k2_lt q)] at k2
      exact k2
  · cases h
theorem s_ifnull {off : Int} {t : Nat} (hd : decode md.2.1 pc = .ok (.ifnull off, 3)) (ht : (pc : Int) + off = (t : Int)) : jx_S X mt md pc (o_ifnull t) := by
  intro p l e R s m args below meth c d B L st M N h H ls locs cells slots I
  obtain ⟨hx, -, -, -, -, -, -, hb, -⟩ := B
  unfold o_ifnull at h
  split at h
  · cases h
    intro Q k
    exact lv_ifnullN hx hb hd ht (k _ _ _ _ _ I)
  · cases h
    intro Q k
    exact lv_ifnull hx hb hd (k _ _ _ _ _ I)
  · cases h
theorem s_ifnonnull {off : Int} {t : Nat} (hd : decode md.2.1 pc = .ok (.ifnonnull off, 3)) (ht : (pc : Int) + off = (t : Int)) : jx_S X mt md pc (o_ifnonnull t) := by
  intro p l e R s m args below meth c d B L st M N h H ls locs cells slots I
  obtain ⟨hx, -, -, -, -, -, -, hb, -⟩ := B
  unfold o_ifnonnull at h
  split at h
  · cases h
    intro Q k
    exact lv_ifnonnullN hx hb hd (k _ _ _ _ _ I)
  · cases h
    intro Q k
    exact lv_ifnonnull hx hb hd ht (k _ _ _ _ _ I)
  · cases h
end JO
end
section
/-! THE OPERATIONS THAT TOUCH THE MEMORY -/
/-- a class of the program: its name, its fields -/
def jx_k (X : jx_X) (ci : Nat) (C : String) (T : u_T) (N : Nat) (ty : Nat → FieldType) : Prop :=
  X.cl[ci]? = some (C, T, N) ∧ ci < 100 ∧ (∀ w ∈ u_ws C T N, w ∈ X.W) ∧ (∀ k, k < N → parseFieldDescriptor (T k).2.2.1 = some (ty k)) ∧ ∀ a, a < N → ∀ b, b < N → a ≠ b → (T a).2.1 ≠ (T b).2.1
theorem jx_P1 {D : va_G} {cl : List vw_C} {q : Nat × va_E} {H : Heap} (h : va_at D cl q H) : va_P D cl [q] H := by
  intro k x hx
  have hz : k < 1 := (List.getElem?_eq_some_iff.mp hx).1
  rw [show k = 0 by omega] at hx
  cases hx
  exact h
/-- what a field of that type takes -/
def jx_okI (v : Value) : Bool := match v with
  | .int _ => true
  | _ => false
def jx_okZ (v : Value) : Bool := match v with
  | .int x => x == 0 || x == 1
  | _ => false
def jx_okR (v : Value) : Bool := match v with
  | .ref _ => true
  | .null => true
  | _ => false
theorem jx_okI_n (X : jx_X) {v : Value} (h : jx_okI v = true) : narrow .int (jx_v X v) = jx_v X v ∧ fits .int (jx_v X v) = true := by
  cases v <;> first | exact ⟨rfl, rfl⟩ | cases h
theorem jx_okZ_n (X : jx_X) {v : Value} (h : jx_okZ v = true) : narrow .boolean (jx_v X v) = jx_v X v ∧ fits .boolean (jx_v X v) = true := by
  cases v with
  | int x =>
    simp only [jx_okZ, Bool.or_eq_true, beq_iff_eq] at h
    rcases h with rfl | rfl
    · exact ⟨rfl, rfl⟩
    · exact ⟨rfl, rfl⟩
  | _ => cases h
theorem jx_okR_n (X : jx_X) (C : String) {v : Value} (h : jx_okR v = true) : narrow (.object C) (jx_v X v) = jx_v X v ∧ fits (.object C) (jx_v X v) = true := by
  cases v <;> first | exact ⟨rfl, rfl⟩ | cases h
theorem jx_okA_n (X : jx_X) (t : FieldType) {v : Value} (h : jx_okR v = true) : narrow (.array t) (jx_v X v) = jx_v X v ∧ fits (.array t) (jx_v X v) = true := by
  cases v <;> first | exact ⟨rfl, rfl⟩ | cases h
section JW
variable {p : Program} {l : Launch} {e : Env} {R : Room} {s : State} {m : MethodId} {args : Array Value} {below : List Frame} {meth : Method} {c : Code} {H : Heap} {locs : List Loc} {cells slots : Nat} {Q : State → Prop}
variable {cc : ByteArray} {pc : Nat} {ls : Array Slot} {rest : List Value} {D : va_G} {cl : List vw_C} {a : Nat} {tys : List (ClassId × FieldType)}
/-- a field is written: what the heap is then -/
theorem jx_wput (hx : p.tables.exec = Jvm.exec) (hb : c.code = cc) {own C : String} {T : u_T} {N ci index : Nat} {Ts : List Cond} (hts : ∀ w ∈ Ts, w.before args s = true) (hin : ∀ w ∈ u_ws C T N, w ∈ Ts) (ty0 : Nat → FieldType) (hty : ∀ k, k < N → parseFieldDescriptor (T k).2.2.1 = some (ty0 k)) (hnm : ∀ a, a < N → ∀ b, b < N → a ≠ b → (T a).2.1 ≠ (T b).2.1) (hown : s.vm.findClass own = some m.cls) (hK : va_K D cl tys s) {fs : List Value} (hP : va_at D cl (a, .inr (ci, fs)) H) (hc : cl[ci]? = some (C, T, N)) {k : Nat} (hk : k < N) (hl : k < fs.length)
    (hlink : ((T k).2.2.2 = false ∧ (Cond.fieldLink own index (T k).1 (T k).2.1 (T k).2.2.1).before args s = true) ∨ ((T k).2.2.2 = false ∧ ∃ host, (Cond.fieldLinkNest own index (T k).1 (T k).2.1 (T k).2.2.1 host).before args s = true) ∨ ((T k).2.2.2 = true ∧ meth.name = "<init>" ∧ (T k).1 = own ∧ (Cond.fieldLink own index (T k).1 (T k).2.1 (T k).2.2.1).before args s = true))
    {v : Value} (hv : narrow (ty0 k) v = v ∧ fits (ty0 k) v = true) (hdg : decode cc pc = .ok (.putfield index, 3))
    (kk : ∀ (H1 : Heap) (sl : Nat), H1.size = H.size → (∀ q : Nat, q ≠ a → H1[q]? = H[q]?) → va_at D cl (a, .inr (ci, fs.set k v)) H1 → W p l e R s m args below meth c H1 (locs ++ [⟨a, sl⟩]) cells slots Q (F0 m (pc + 3) ls rest)) : W p l e R s m args below meth c H locs cells slots Q (F0 m pc ls (v :: .ref a :: rest)) := by
  have hap := va_apart (own := own) hts hin ty0 hty hnm hK hc
  obtain ⟨r, h1, cell, q1, q2, q3, q4⟩ := hP
  have hr : r = (C, T, N) := Option.some.inj (h1.symm.trans hc)
  subst hr
  obtain ⟨hS, hfc, kC, hkC, hkind⟩ := hK.1 ci _ hc
  obtain ⟨cf, kf, fi, f, hi, hsl⟩ := hS k hk
  have hlay := hts _ (hin _ (u_in_lay hk))
  have hst := (u_facts hfc hkC (u_lays hts hin hk) hi).1
  have hd := hty k hk
  have fin : ∀ H' : Heap, H'[a]? = some (cell.setSlot f.slot v) → H'.size = H.size → (∀ q, q ≠ a → H'[q]? = H[q]?) → W p l e R s m args below meth c H' (locs ++ [⟨a, f.slot⟩]) cells slots Q (F0 m (pc + 3) ls rest) := by
    intro H' e1 e2 e3
    refine kk H' _ e2 e3 ⟨_, hc, t_OB.to (V := updV (vp_V fs) k v) ⟨_, e1, q2, q3, ?_⟩ (fun j _ => vp_updV_set hl v j)⟩
    rw [hsl]
    exact t_set q4 hap hk v
  rcases hlink with ⟨hf, hlink⟩ | ⟨hf, host, hlink⟩ | ⟨hf, hin2, hdecl, hlink⟩
  · unfold u_lay at hlay
    rw [if_neg (by rw [hf]; decide)] at hlay
    have h6 := u_store hfc hkC hkind hlay hi hd hv.1 hv.2
    exact W.putK hx hb (f := f) ⟨hown, hlink, ⟨_, _, _, hi⟩, hst⟩ (by rw [q2]; exact h6) q1 q3 (by rw [hsl]; exact k2_hasslot (q4 k hk)) rfl rfl hdg fin
  · unfold u_lay at hlay
    rw [if_neg (by rw [hf]; decide)] at hlay
    have h6 := u_store hfc hkC hkind hlay hi hd hv.1 hv.2
    exact va_WputK hx hb (f := f) hown hlink hi hst (by rw [q2]; exact h6) q1 q3 (by rw [hsl]; exact k2_hasslot (q4 k hk)) rfl rfl hdg fin
  · unfold u_lay at hlay
    rw [if_pos hf] at hlay
    have hcf : m.cls = cf := by
      obtain ⟨_, _, c', _, _, _, -, -, hf', -, -, -, hown2, -⟩ := Cond.laysFinal_spec hlay
      have e1 : c' = cf := by have := hi.symm.trans hf'; simp at this; exact this.1.symm
      rw [hdecl] at hown2
      rw [← e1]; exact Option.some.inj (hown.symm.trans hown2)
    have h6 := u_fits hfc hkC hkind (Or.inr hlay) hi hd hv.1 hv.2
    exact W.putFinK hx hb hown hlink hi hst hcf hin2 (by rw [q2]; exact h6) q1 q3 (by rw [hsl]; exact k2_hasslot (q4 k hk)) rfl rfl hdg fin
end JW
section JM
variable {X : jx_X} {mt : Nat → jx_D} {md : jx_D} {pc : Nat}
theorem jx_fget {ci k : Nat} {C : String} {T : u_T} {N i : Nat} {ty : Nat → FieldType} (hk : jx_k X ci C T N ty) (hkN : k < N) (hd : decode md.2.1 pc = .ok (.getfield i, 3))
    (hl : ∀ (args : Array Value) (s : State), (∀ w ∈ X.W, w.before args s = true) → (Cond.fieldLink md.1.cls i (T k).1 (T k).2.1 (T k).2.2.1).before args s = true ∨ ∃ host, (Cond.fieldLinkNest md.1.cls i (T k).1 (T k).2.1 (T k).2.2.1 host).before args s = true) : jx_S X mt md pc (o_getf ci k) := by
  intro p l e R s m args below meth c d B L st M N h H ls locs cells slots I
  obtain ⟨hx, -, hts, hK, hG, hown, -, hb, -⟩ := B
  unfold o_getf at h
  split at h
  · split at h
    · rename_i a r _ c0 fs hcell
      split at h
      · rename_i hc0
        subst hc0
        obtain ⟨v, h1, h2⟩ := Option.map_eq_some_iff.mp h
        cases h2
        intro Q kk
        obtain ⟨hc, hci, hin, hty, hnm⟩ := hk
        obtain ⟨-, -, hP⟩ := I.1.obj hG hcell hci
        have hv : (fs.map (jx_v X))[k]? = some (jx_v X v) := by rw [List.getElem?_map, h1]; rfl
        rcases hl args s hts with hlink | ⟨host, hlink⟩
        · exact va_get hx hb hts hin hown hK (jx_P1 hP) 0 rfl hc k hkN hlink (fun _ q => q) hv hd (kk _ _ _ _ _ I)
        · exact va_getN hx hb hts hin hown hK (jx_P1 hP) 0 rfl hc k hkN hlink (fun _ q => q) hv hd (kk _ _ _ _ _ I)
      · cases h
    · cases h
  · cases h
theorem s_getf {ci k : Nat} {C : String} {T : u_T} {N i : Nat} {ty : Nat → FieldType} (hk : jx_k X ci C T N ty) (hkN : k < N) (hd : decode md.2.1 pc = .ok (.getfield i, 3)) (hw : (Cond.fieldLink md.1.cls i (T k).1 (T k).2.1 (T k).2.2.1 : Cond) ∈ X.W) : jx_S X mt md pc (o_getf ci k) :=
  jx_fget hk hkN hd fun _ _ h => Or.inl (h _ hw)
theorem s_getfN {ci k : Nat} {C host : String} {T : u_T} {N i : Nat} {ty : Nat → FieldType} (hk : jx_k X ci C T N ty) (hkN : k < N) (hd : decode md.2.1 pc = .ok (.getfield i, 3)) (hw : (Cond.fieldLinkNest md.1.cls i (T k).1 (T k).2.1 (T k).2.2.1 host : Cond) ∈ X.W) : jx_S X mt md pc (o_getf ci k) :=
  jx_fget hk hkN hd fun _ _ h => Or.inr ⟨host, h _ hw⟩
theorem jx_fput {ci k : Nat} {C : String} {T : u_T} {N i : Nat} {ty : Nat → FieldType} {ok : Value → Bool} (hk : jx_k X ci C T N ty) (hkN : k < N) (hd : decode md.2.1 pc = .ok (.putfield i, 3)) (hok : ∀ v, ok v = true → narrow (ty k) (jx_v X v) = jx_v X v ∧ fits (ty k) (jx_v X v) = true)
    (hl : ∀ (args : Array Value) (s : State) (meth : Method), (∀ w ∈ X.W, w.before args s = true) → meth.name = md.1.name → ((T k).2.2.2 = false ∧ (Cond.fieldLink md.1.cls i (T k).1 (T k).2.1 (T k).2.2.1).before args s = true) ∨ ((T k).2.2.2 = false ∧ ∃ host, (Cond.fieldLinkNest md.1.cls i (T k).1 (T k).2.1 (T k).2.2.1 host).before args s = true) ∨ ((T k).2.2.2 = true ∧ meth.name = "<init>" ∧ (T k).1 = md.1.cls ∧ (Cond.fieldLink md.1.cls i (T k).1 (T k).2.1 (T k).2.2.1).before args s = true)) : jx_S X mt md pc (o_putf ci k ok) := by
  intro p l e R s m args below meth c d B L st M N h H ls locs cells slots I
  obtain ⟨hx, -, hts, hK, hG, hown, hnm0, hb, -⟩ := B
  unfold o_putf at h
  split at h
  · split at h
    · rename_i v a r _ c0 fs hcell
      split at h
      · rename_i hc0
        obtain ⟨e0, hv, hlen⟩ := hc0
        subst e0
        cases h
        intro Q kk
        obtain ⟨hc, hci, hin, hty, hnm⟩ := hk
        obtain ⟨g1, g2, hP⟩ := I.1.obj hG hcell hci
        refine jx_wput hx hb hts hin ty hty hnm hown hK hP hc hkN (by rw [List.length_map]; exact hlen) (hl args s meth hts hnm0) (hok v hv) hd fun H1 sl z o at1 => ?_
        refine kk _ _ _ _ _ ⟨I.1.set g1 g2 rfl z o ?_, I.2.1, fun x hx => ?_, I.2.2.2.1, I.2.2.2.2⟩
        · show va_at X.D X.cl (jx_ad X a, .inr (c0, (fs.set k v).map (jx_v X))) H1
          rw [List.map_set]
          exact at1
        · rcases List.mem_append.mp hx with q | q
          · exact I.2.2.1 x q
          · rw [List.mem_singleton.mp q]
            show X.H.size ≤ jx_ad X a
            rw [jx_ad_ge g1]
            omega
      · cases h
    · cases h
  · cases h
theorem s_putf {ci k : Nat} {C : String} {T : u_T} {N i : Nat} {ty : Nat → FieldType} {ok : Value → Bool} (hk : jx_k X ci C T N ty) (hkN : k < N) (hd : decode md.2.1 pc = .ok (.putfield i, 3)) (hok : ∀ v, ok v = true → narrow (ty k) (jx_v X v) = jx_v X v ∧ fits (ty k) (jx_v X v) = true) (hf : (T k).2.2.2 = false) (hw : (Cond.fieldLink md.1.cls i (T k).1 (T k).2.1 (T k).2.2.1 : Cond) ∈ X.W) : jx_S X mt md pc (o_putf ci k ok) :=
  jx_fput hk hkN hd hok fun _ _ _ h _ => Or.inl ⟨hf, h _ hw⟩
theorem s_putfN {ci k : Nat} {C host : String} {T : u_T} {N i : Nat} {ty : Nat → FieldType} {ok : Value → Bool} (hk : jx_k X ci C T N ty) (hkN : k < N) (hd : decode md.2.1 pc = .ok (.putfield i, 3)) (hok : ∀ v, ok v = true → narrow (ty k) (jx_v X v) = jx_v X v ∧ fits (ty k) (jx_v X v) = true) (hf : (T k).2.2.2 = false) (hw : (Cond.fieldLinkNest md.1.cls i (T k).1 (T k).2.1 (T k).2.2.1 host : Cond) ∈ X.W) : jx_S X mt md pc (o_putf ci k ok) :=
  jx_fput hk hkN hd hok fun _ _ _ h _ => Or.inr (Or.inl ⟨hf, host, h _ hw⟩)
theorem s_putfF {ci k : Nat} {C : String} {T : u_T} {N i : Nat} {ty : Nat → FieldType} {ok : Value → Bool} (hk : jx_k X ci C T N ty) (hkN : k < N) (hd : decode md.2.1 pc = .ok (.putfield i, 3)) (hok : ∀ v, ok v = true → narrow (ty k) (jx_v X v) = jx_v X v ∧ fits (ty k) (jx_v X v) = true) (hf : (T k).2.2.2 = true) (hn : md.1.name = "<init>") (ho : (T k).1 = md.1.cls) (hw : (Cond.fieldLink md.1.cls i (T k).1 (T k).2.1 (T k).2.2.1 : Cond) ∈ X.W) : jx_S X mt md pc (o_putf ci k ok) :=
  jx_fput hk hkN hd hok fun _ _ _ h h2 => Or.inr (Or.inr ⟨hf, h2.trans hn, ho, h _ hw⟩)
theorem s_iald {cA : ClassId} (hT : X.ty[0]? = some (cA, .int)) (hd : decode md.2.1 pc = .ok (.iaload, 1)) : jx_S X mt md pc o_iald := by
  intro p l e R s m args below meth c d B L st M N h H ls locs cells slots I
  obtain ⟨hx, -, hts, hK, hG, hown, -, hb, -⟩ := B
  unfold o_iald at h
  split at h
  · split at h
    · rename_i i a r _ t n f hcell
      split at h
      · rename_i hc
        cases h
        intro Q kk
        obtain ⟨cell, q1, q2, q3, q4, q5⟩ := I.1.tab hG hK ⟨cA, hT⟩ hcell hc.1
        have hin := jx_ix_in hc.2
        refine W.iald hx hb q1 q2 q3 (by rw [q4]; exact hin) (q5 _ (Nat.not_le.mp fun q => hin (Or.inr q))) rfl rfl hd (kk _ _ _ _ _ I)
      · cases h
    · cases h
  · cases h
theorem jx_ty0 {t : Nat} {cA : ClassId} {ty : FieldType} (hT : X.ty[t]? = some (cA, ty)) : (X.ty.getD t (0, .int)).1 = cA := by
  rw [List.getD_eq_getElem?_getD, hT]; rfl
theorem s_cald {cA : ClassId} (hT : X.ty[1]? = some (cA, .char)) (hd : decode md.2.1 pc = .ok (.caload, 1)) : jx_S X mt md pc (o_xald 1) := by
  intro p l e R s m args below meth c d B L st M N h H ls locs cells slots I
  obtain ⟨hx, -, hts, hK, hG, hown, -, hb, -⟩ := B
  unfold o_xald at h
  split at h
  · split at h
    · rename_i i a r _ t n f hcell
      split at h
      · rename_i hc
        cases h
        intro Q kk
        obtain ⟨e0, hin⟩ := hc
        subst e0
        obtain ⟨-, -, hP⟩ := I.1.arr hG hcell (by decide)
        rw [jx_ty0 hT] at hP
        exact va_cald hx hb hK (jx_P1 hP) 0 1 rfl hT (jx_ix_in hin) hd (kk _ _ _ _ _ I)
      · cases h
    · cases h
  · cases h
theorem s_zald {cA : ClassId} (hT : X.ty[2]? = some (cA, .boolean)) (hd : decode md.2.1 pc = .ok (.baload, 1)) : jx_S X mt md pc (o_xald 2) := by
  intro p l e R s m args below meth c d B L st M N h H ls locs cells slots I
  obtain ⟨hx, -, hts, hK, hG, hown, -, hb, -⟩ := B
  unfold o_xald at h
  split at h
  · split at h
    · rename_i i a r _ t n f hcell
      split at h
      · rename_i hc
        cases h
        intro Q kk
        obtain ⟨e0, hin⟩ := hc
        subst e0
        obtain ⟨-, -, hP⟩ := I.1.arr hG hcell (by decide)
        rw [jx_ty0 hT] at hP
        exact va_zald hx hb hK (jx_P1 hP) 0 2 rfl hT (jx_ix_in hin) hd (kk _ _ _ _ _ I)
      · cases h
    · cases h
  · cases h
theorem s_lald {cA : ClassId} (hT : X.ty[3]? = some (cA, .long)) (hd : decode md.2.1 pc = .ok (.laload, 1)) : jx_S X mt md pc o_lald := by
  intro p l e R s m args below meth c d B L st M N h H ls locs cells slots I
  obtain ⟨hx, -, hts, hK, hG, hown, -, hb, -⟩ := B
  unfold o_lald at h
  split at h
  · split at h
    · rename_i i a r _ t n f hcell
      split at h
      · rename_i hc
        cases h
        intro Q kk
        obtain ⟨e0, hin⟩ := hc
        subst e0
        obtain ⟨-, -, hP⟩ := I.1.arr hG hcell (by decide)
        rw [jx_ty0 hT] at hP
        exact va_lald hx hb hK (jx_P1 hP) 0 3 rfl hT (jx_ix_in hin) hd (kk _ _ _ _ _ I)
      · cases h
    · cases h
  · cases h
theorem s_aald {cA : ClassId} {C : String} (hT : X.ty[4]? = some (cA, .object C)) (hd : decode md.2.1 pc = .ok (.aaload, 1)) : jx_S X mt md pc o_aald := by
  intro p l e R s m args below meth c d B L st M N h H ls locs cells slots I
  obtain ⟨hx, -, hts, hK, hG, hown, -, hb, -⟩ := B
  unfold o_aald at h
  split at h
  · split at h
    · rename_i i a r _ t n f hcell
      split at h
      · rename_i hc
        cases h
        intro Q kk
        obtain ⟨e0, hin⟩ := hc
        subst e0
        obtain ⟨-, -, hP⟩ := I.1.arr hG hcell (by decide)
        rw [jx_ty0 hT] at hP
        have k2 := kk _ _ _ _ _ I
        rw [List.map_cons, jx_rf] at k2
        exact va_aldq hx hb hK (jx_P1 hP) 0 4 rfl hT (jx_ix_in hin) hd k2
      · cases h
    · cases h
  · cases h
theorem jx_locs {X : jx_X} {locs : List Loc} {a j : Nat} (h : ∀ x ∈ locs, X.H.size ≤ x.base) (g1 : jx_g ≤ a) : ∀ x ∈ locs ++ [⟨jx_ad X a, j⟩], X.H.size ≤ x.base := by
  intro x hx
  rcases List.mem_append.mp hx with q | q
  · exact h x q
  · rw [List.mem_singleton.mp q]
    show X.H.size ≤ jx_ad X a
    rw [jx_ad_ge g1]
    omega
theorem s_iast {cA : ClassId} (hT : X.ty[0]? = some (cA, .int)) (hd : decode md.2.1 pc = .ok (.iastore, 1)) : jx_S X mt md pc o_iast := by
  intro p l e R s m args below meth c d B L st M N h H ls locs cells slots I
  obtain ⟨hx, -, hts, hK, hG, hown, -, hb, -⟩ := B
  unfold o_iast at h
  split at h
  · split at h
    · rename_i x i a r _ t n f hcell
      split at h
      · rename_i hc
        cases h
        intro Q kk
        obtain ⟨e0, hin⟩ := hc
        subst e0
        obtain ⟨g1, g2, hP⟩ := I.1.arr hG hcell (by decide)
        rw [jx_ty0 hT] at hP
        refine W.iast hx hb hP ((hK.2 0 _ hT).1 n (fun j => .int (f j))) (fun q => by cases q) (by show ¬ (i < 0 ∨ (arrV _ _ _).slots.size ≤ _); rw [arrV_size]; exact jx_ix_in hin) rfl rfl hd fun H1 e1 z oq => ?_
        refine kk _ _ _ _ _ ⟨I.1.set g1 g2 rfl z oq ?_, I.2.1, jx_locs I.2.2.1 g1, I.2.2.2.1, I.2.2.2.2⟩
        show H1[jx_ad X a]? = some (vp_cell (X.ty.getD 0 (0, .int)).1 (n, .inl (upd f i.toNatClampNeg x)))
        rw [jx_ty0 hT, e1]
        exact congrArg some (arr_store cA n _ f x)
      · cases h
    · cases h
  · cases h
theorem s_cast {cA : ClassId} (hT : X.ty[1]? = some (cA, .char)) (hd : decode md.2.1 pc = .ok (.castore, 1)) : jx_S X mt md pc o_cast := by
  intro p l e R s m args below meth c d B L st M N h H ls locs cells slots I
  obtain ⟨hx, -, hts, hK, hG, hown, -, hb, -⟩ := B
  unfold o_cast at h
  split at h
  · split at h
    · rename_i x i a r _ t n f hcell
      split at h
      · rename_i hc
        cases h
        intro Q kk
        obtain ⟨e0, hin⟩ := hc
        subst e0
        obtain ⟨g1, g2, hP⟩ := I.1.arr hG hcell (by decide)
        rw [jx_ty0 hT] at hP
        refine W.cast hx hb hP ((hK.2 1 _ hT).1 n (fun j => .int (f j))) (fun q => by cases q) (by show ¬ (i < 0 ∨ (arrV _ _ _).slots.size ≤ _); rw [arrV_size]; exact jx_ix_in hin) rfl rfl hd fun H1 e1 z oq => ?_
        refine kk _ _ _ _ _ ⟨I.1.set g1 g2 rfl z oq ?_, I.2.1, jx_locs I.2.2.1 g1, I.2.2.2.1, I.2.2.2.2⟩
        show H1[jx_ad X a]? = some (vp_cell (X.ty.getD 1 (0, .int)).1 (n, .inl (upd f i.toNatClampNeg (vp_nar .char x))))
        rw [jx_ty0 hT, e1]
        exact congrArg some (arr_store cA n _ f (vp_nar .char x))
      · cases h
    · cases h
  · cases h
theorem s_zast {cA : ClassId} (hT : X.ty[2]? = some (cA, .boolean)) (hd : decode md.2.1 pc = .ok (.bastore, 1)) : jx_S X mt md pc o_zast := by
  intro p l e R s m args below meth c d B L st M N h H ls locs cells slots I
  obtain ⟨hx, -, hts, hK, hG, hown, -, hb, -⟩ := B
  unfold o_zast at h
  split at h
  · split at h
    · rename_i x i a r _ t n f hcell
      split at h
      · rename_i hc
        cases h
        intro Q kk
        obtain ⟨e0, hin⟩ := hc
        subst e0
        obtain ⟨g1, g2, hP⟩ := I.1.arr hG hcell (by decide)
        rw [jx_ty0 hT] at hP
        refine W.zast hx hb hP ((hK.2 2 _ hT).1 n (fun j => .int (f j))) (fun q => by cases q) (by show ¬ (i < 0 ∨ (arrV _ _ _).slots.size ≤ _); rw [arrV_size]; exact jx_ix_in hin) rfl rfl hd fun H1 e1 z oq => ?_
        refine kk _ _ _ _ _ ⟨I.1.set g1 g2 rfl z oq ?_, I.2.1, jx_locs I.2.2.1 g1, I.2.2.2.1, I.2.2.2.2⟩
        show H1[jx_ad X a]? = some (vp_cell (X.ty.getD 2 (0, .int)).1 (n, .inl (upd f i.toNatClampNeg (vp_nar .boolean x))))
        rw [jx_ty0 hT, e1]
        exact congrArg some (arr_store cA n _ f (vp_nar .boolean x))
      · cases h
    · cases h
  · cases h
theorem s_last {cA : ClassId} (hT : X.ty[3]? = some (cA, .long)) (hd : decode md.2.1 pc = .ok (.lastore, 1)) : jx_S X mt md pc o_last := by
  intro p l e R s m args below meth c d B L st M N h H ls locs cells slots I
  obtain ⟨hx, -, hts, hK, hG, hown, -, hb, -⟩ := B
  unfold o_last at h
  split at h
  · split at h
    · rename_i x i a r _ t n f hcell
      split at h
      · rename_i hc
        cases h
        intro Q kk
        obtain ⟨e0, hin⟩ := hc
        subst e0
        obtain ⟨g1, g2, hP⟩ := I.1.arr hG hcell (by decide)
        rw [jx_ty0 hT] at hP
        refine W.last hx hb hP ((hK.2 3 _ hT).1 n (fun j => .long (f j))) (fun q => by cases q) (by show ¬ (i < 0 ∨ (arrV _ _ _).slots.size ≤ _); rw [arrV_size]; exact jx_ix_in hin) rfl rfl hd fun H1 e1 z oq => ?_
        refine kk _ _ _ _ _ ⟨I.1.set g1 g2 rfl z oq ?_, I.2.1, jx_locs I.2.2.1 g1, I.2.2.2.1, I.2.2.2.2⟩
        show H1[jx_ad X a]? = some (vp_cell (X.ty.getD 3 (0, .int)).1 (n, .inr (.inl (vp_updL f i.toNatClampNeg x))))
        rw [jx_ty0 hT, e1]
        show some ((arrV cA n (fun j => .long (f j))).setSlot _ _) = some (arrV cA n (fun j => .long (vp_updL f i.toNatClampNeg x j)))
        rw [arrV_store]
        congr 2
        funext q
        by_cases hq : q = i.toNatClampNeg
        · subst hq
          simp [updV, vp_updL]
        · simp [updV, vp_updL, hq]
      · cases h
    · cases h
  · cases h
theorem s_aast {ci : Nat} {C : String} {T : u_T} {N : Nat} {ty : Nat → FieldType} {cA : ClassId} (hk : jx_k X ci C T N ty) (hT : X.ty[4]? = some (cA, .object C)) (hd : decode md.2.1 pc = .ok (.aastore, 1)) : jx_S X mt md pc (o_aast ci) := by
  intro p l e R s m args below meth c d B L st M N h H ls locs cells slots I
  obtain ⟨hx, -, hts, hK, hG, hown, -, hb, -⟩ := B
  unfold o_aast at h
  split at h
  · split at h
    · rename_i v i a r _ _ t n f c0 fs hcell hcv
      split at h
      · rename_i hc
        cases h
        intro Q kk
        obtain ⟨e0, e1, hin⟩ := hc
        subst e0
        subst e1
        obtain ⟨hcl, hci, -⟩ := hk
        obtain ⟨g1, g2, hP⟩ := I.1.arr hG hcell (by decide)
        obtain ⟨-, -, r', hr', cellV, v1, v2, v3, -⟩ := I.1.obj hG hcv hci
        rw [jx_ty0 hT] at hP
        have hin := jx_ix_in hin
        have hcls := (hK.1 c0 _ hcl).2
        obtain ⟨kA, comp, k1, k2, k3, -⟩ := (hK.2 4 _ hT).2
        have hcomp : comp = X.D.1 c0 := Option.some.inj (k3.symm.trans hcls.1)
        subst hcomp
        obtain ⟨kC, hkC, -⟩ := id hcls.2
        refine W.aast hx hb hP (fun q h => by cases h) (fun h => by cases h) k1 k2 rfl hkC ⟨fun q => hin (Or.inl q), by show _ < (arrV _ _ _).slots.size; rw [arrV_size]; exact Nat.not_le.mp fun q => hin (Or.inr q)⟩ v1 (fun q h => by rw [v3] at h; cases h) (by rw [v2]; exact hkC) (by rw [v2]; exact va_assign hcls) rfl rfl hd fun H1 e1 z oq => ?_
        refine kk _ _ _ _ _ ⟨I.1.set g1 g2 rfl z oq ?_, I.2.1, jx_locs I.2.2.1 g1, I.2.2.2.1, I.2.2.2.2⟩
        show H1[jx_ad X a]? = some (vp_cell (X.ty.getD 4 (0, .int)).1 (n, .inr (.inr (.inr (.inr fun j => jx_q X (va_up f i.toNatClampNeg (some v) j))))))
        rw [jx_ty0 hT, e1]
        show some ((arrV cA n (fun j => va_rf (jx_q X (f j)))).setSlot _ _) = some (arrV cA n (fun j => va_rf (jx_q X (va_up f i.toNatClampNeg (some v) j))))
        rw [arrV_store]
        congr 2
        funext q
        by_cases hq : q = i.toNatClampNeg
        · subst hq
          simp [updV, va_up, va_rf, jx_q]
        · simp [updV, va_up, hq]
      · cases h
    · cases h
  · cases h
end JM
end
section
/-! NEW CELLS, LENGTHS, ANSWERS, SWITCHES -/
theorem jx_mono {p : Program} {l : Launch} {e : Env} {R : Room} {s : State} {m : MethodId} {args : Array Value} {below : List Frame} {meth : Method} {c : Code} {H : Heap} {locs : List Loc} {cells slots : Nat} {Q Q' : State → Prop} {g : JFrame} (h : W p l e R s m args below meth c H locs cells slots Q g) (hq : ∀ t, Q t → Q' t) : W p l e R s m args below meth c H locs cells slots Q' g := by
  intro T hT X
  obtain ⟨t, a, b⟩ := h T hT X
  exact ⟨t, a, hq t b⟩
theorem jx_end {X : jx_X} {R : Room} {args : Array Value} {s t : State} {below : List Frame} {M : jx_M} {H : Heap} {v : Option Value} {locs : List Loc} {cells slots : Nat} {ls : Array Slot} {L : jx_L} {nl : Nat} (I : jx_I X R nl M H ls L locs cells slots)
    (h : MQ below (fun _ _ o t => o = .returned (v.map (jx_v X)) ∧ t.heap = H) args s cells slots (fun q => X.H.size ≤ q) t) : jx_Q X R below s (.inl v) M t := by
  obtain ⟨o, h1, h2, ⟨h3, h4⟩, L', hF, hL⟩ := h
  exact ⟨o, L', cells, slots, h1, h2, h3, by rw [h4]; exact I.1, hF.2.1, hF.2.2, hL, I.2.2.2.1, I.2.2.2.2.1⟩
section JM2
variable {X : jx_X} {mt : Nat → jx_D} {md : jx_D} {pc : Nat}
theorem s_ret (hr0 : md.2.2.2.1 = none) (hd : decode md.2.1 pc = .ok (.return_, 1)) : jx_S X mt md pc o_ret := by
  intro p l e R s m args below meth c d B L st M N h H ls locs cells slots I
  obtain ⟨hx, -, hts, hK, hG, hown, -, hb, hml, hr, hlk, -⟩ := B
  unfold o_ret at h
  split at h
  · cases h
    exact jx_mono (W.vret (free := fun q => X.H.size ≤ q) hx hb (hr.trans hr0) (fun t ht hW => ⟨rfl, ht⟩) I.2.2.1 hd hlk) fun t ht => jx_end I ht
  · cases h
theorem s_iret (hr0 : md.2.2.2.1 = some .int) (hd : decode md.2.1 pc = .ok (.ireturn, 1)) : jx_S X mt md pc o_iret := by
  intro p l e R s m args below meth c d B L st M N h H ls locs cells slots I
  obtain ⟨hx, -, hts, hK, hG, hown, -, hb, hml, hr, hlk, -⟩ := B
  unfold o_iret at h
  split at h
  · cases h
    exact jx_mono (W.zret (free := fun q => X.H.size ≤ q) hx hb (hr.trans hr0) rfl (fun t ht hW => ⟨rfl, ht⟩) I.2.2.1 hd hlk) fun t ht => jx_end I ht
  · cases h
theorem s_zret (hr0 : md.2.2.2.1 = some .boolean) (hd : decode md.2.1 pc = .ok (.ireturn, 1)) : jx_S X mt md pc o_zret := by
  intro p l e R s m args below meth c d B L st M N h H ls locs cells slots I
  obtain ⟨hx, -, hts, hK, hG, hown, -, hb, hml, hr, hlk, -⟩ := B
  unfold o_zret at h
  split at h
  · split at h
    · rename_i x hx01
      cases h
      have hn : narrow .boolean (.int x) = .int x := by
        rcases hx01 with rfl | rfl
        · rfl
        · rfl
      exact jx_mono (W.zret (free := fun q => X.H.size ≤ q) hx hb (hr.trans hr0) hn (fun t ht hW => ⟨rfl, ht⟩) I.2.2.1 hd hlk) fun t ht => jx_end I ht
    · cases h
  · cases h
theorem s_cret (hr0 : md.2.2.2.1 = some .char) (hd : decode md.2.1 pc = .ok (.ireturn, 1)) : jx_S X mt md pc o_cret := by
  intro p l e R s m args below meth c d B L st M N h H ls locs cells slots I
  obtain ⟨hx, -, hts, hK, hG, hown, -, hb, hml, hr, hlk, -⟩ := B
  unfold o_cret at h
  split at h
  · split at h
    · rename_i x hx01
      cases h
      have hn : narrow .char (.int x) = .int x := by
        rw [show narrow .char (.int x) = .int (vp_nar .char x) from rfl, hx01]
      exact jx_mono (W.zret (free := fun q => X.H.size ≤ q) hx hb (hr.trans hr0) hn (fun t ht hW => ⟨rfl, ht⟩) I.2.2.1 hd hlk) fun t ht => jx_end I ht
    · cases h
  · cases h
theorem s_aret {rt : FieldType} (hr0 : md.2.2.2.1 = some rt) (hrt : (∃ n, rt = .object n) ∨ ∃ t, rt = .array t) (hd : decode md.2.1 pc = .ok (.areturn, 1)) : jx_S X mt md pc o_aret := by
  intro p l e R s m args below meth c d B L st M N h H ls locs cells slots I
  obtain ⟨hx, -, hts, hK, hG, hown, -, hb, hml, hr, hlk, -⟩ := B
  unfold o_aret at h
  split at h
  · cases h
    exact jx_mono (W.aret (free := fun q => X.H.size ≤ q) hx hb (hr.trans hr0) hrt (Or.inr ⟨_, rfl⟩) (fun t ht hW => ⟨rfl, ht⟩) I.2.2.1 hd hlk) fun t ht => jx_end I ht
  · cases h
    exact jx_mono (W.aret (free := fun q => X.H.size ≤ q) hx hb (hr.trans hr0) hrt (Or.inl rfl) (fun t ht hW => ⟨rfl, ht⟩) I.2.2.1 hd hlk) fun t ht => jx_end I ht
  · cases h
theorem s_table {dflt lo hi : Int} {offs : Array Int} {len dn : Nat} {ts : List Nat} (hd : decode md.2.1 pc = .ok (.tableswitch dflt lo hi offs, len)) (hlo : lo = 0) (hhi : hi + 1 = (ts.length : Int)) (hdf : (pc : Int) + dflt = (dn : Int)) (hof : offs.toList.map (fun o => (pc : Int) + o) = ts.map (fun (t : Nat) => (t : Int))) : jx_S X mt md pc (o_table dn ts) := by
  intro p l e R s m args below meth c d B L st M N h H ls locs cells slots I
  obtain ⟨hx, -, hts, hK, hG, hown, -, hb, -⟩ := B
  unfold o_table at h
  split at h
  · rename_i x r
    cases h
    intro Q kk
    have k2 := kk _ _ _ _ _ I
    subst hlo
    by_cases hneg : x < 0
    · rw [if_pos hneg] at k2
      exact lv_tableOut hx hb hd (Or.inl (by simpa using Int32.lt_iff_toInt_lt.mp hneg)) hdf k2
    · rw [if_neg hneg] at k2
      have h0 : (0 : Int) ≤ x.toInt := by simpa using Int32.le_iff_toInt_le.mp (Int32.not_lt.mp hneg)
      have hcl : x.toNatClampNeg = x.toInt.toNat := rfl
      by_cases hge : ts.length ≤ x.toNatClampNeg
      · rw [List.getD_eq_getElem?_getD, List.getElem?_eq_none hge] at k2
        exact lv_tableOut hx hb hd (Or.inr (by omega)) hdf k2
      · have hlt : x.toNatClampNeg < ts.length := Nat.lt_of_not_le hge
        rw [List.getD_eq_getElem?_getD, List.getElem?_eq_getElem hlt] at k2
        have hlen : offs.toList.length = ts.length := by
          have := congrArg List.length hof
          simpa using this
        have ho : offs.toList[x.toNatClampNeg]? = some (offs.toList[x.toNatClampNeg]'(by omega)) := List.getElem?_eq_getElem _
        have hv : (pc : Int) + offs.toList[x.toNatClampNeg]'(by omega) = ((ts[x.toNatClampNeg]'hlt : Nat) : Int) := by
          have h1 := congrArg (fun z => z[x.toNatClampNeg]?) hof
          simp only [List.getElem?_map, ho, List.getElem?_eq_getElem hlt, Option.map_some] at h1
          exact Option.some.inj h1
        refine lv_tableIn hx hb hd (by omega) (by omega) (off := offs.toList[x.toNatClampNeg]'(by omega)) ?_ hv k2
        rw [show (x.toInt - 0).toNat = x.toNatClampNeg by rw [hcl]; omega, ← Array.getElem?_toList]
        exact ho
  · cases h
theorem s_alen (hT : ∀ t, t < 5 → ∃ q, X.ty[t]? = some q) (hd : decode md.2.1 pc = .ok (.arraylength, 1)) : jx_S X mt md pc o_alen := by
  intro p l e R s m args below meth c d B L st M N h H ls locs cells slots I
  obtain ⟨hx, -, hts, hK, hG, hown, -, hb, -⟩ := B
  unfold o_alen at h
  split at h
  · split at h
    · rename_i a r _ t n f hcell
      split at h
      · rename_i hc
        cases h
        intro Q kk
        by_cases h9 : t < 5
        · obtain ⟨⟨cA, ty⟩, hty⟩ := hT t h9
          obtain ⟨-, -, hP⟩ := I.1.arr hG hcell (by omega)
          rw [jx_ty0 hty] at hP
          exact va_alen hx hb hK (jx_P1 hP) 0 t rfl hty (v := Int32.ofNat n) (by cases f with | inl f => rfl | inr f => cases f with | inl f => rfl | inr f => cases f with | inl f => rfl | inr f => cases f with | inl f => rfl | inr f => rfl) hd (kk _ _ _ _ _ I)
        · cases f with
          | inl f =>
            obtain ⟨cell, q1, q2, q3, q4, -⟩ := I.1.con hG hcell (by omega)
            exact W.alen hx hb q1 q2 (by rw [q4]) rfl rfl hd (kk _ _ _ _ _ I)
          | inr f =>
            exfalso
            obtain ⟨h1, h2, h3, h4, h5, h6⟩ := I.1
            by_cases hge : jx_g ≤ a
            · by_cases hlt : a < M.2.1
              · have h7 := (h3 a hge hlt).1
                rw [hcell] at h7
                rcases (show t = 9 ∨ t = 10 by omega) with rfl | rfl <;> cases h7
              · have h7 := h4 a (Nat.le_of_not_lt hlt)
                rw [hcell] at h7
                cases h7
            · have h7 := hG a (Nat.lt_of_not_le hge)
              rw [← h6 a (Nat.lt_of_not_le hge), hcell] at h7
              exact h7
      · cases h
    · cases h
  · cases h
theorem jx_v_def (X : jx_X) (t : FieldType) : jx_v X (defaultValue t) = defaultValue t := by cases t <;> rfl
theorem s_new {ci : Nat} {C : String} {T : u_T} {N i : Nat} {ty : Nat → FieldType} {fs : List Value} (hk : jx_k X ci C T N ty) (hd : decode md.2.1 pc = .ok (.new i, 3)) (hw1 : (Cond.classLink md.1.cls i C : Cond) ∈ X.W) (hw2 : (Cond.instantiable C N : Cond) ∈ X.W) (hw3 : (Cond.initialized C : Cond) ∈ X.W) (hfs : fs = (List.range N).map fun j => defaultValue (ty j)) : jx_S X mt md pc (o_new ci fs) := by
  intro p l e R s m args below meth c d B L st M N' h H ls locs cells slots I
  obtain ⟨hx, -, hts, hK, hG, hown, -, hb, -⟩ := B
  unfold o_new at h
  obtain ⟨M', h1, h2⟩ := Option.map_eq_some_iff.mp h
  cases h2
  intro Q kk
  obtain ⟨hc, hci, hin, hty, hnm⟩ := hk
  have hKn := hK.1 ci _ hc
  have hlen : fs.length = N := by rw [hfs]; simp
  have hroom : 1 ≤ M.2.2.1 ∧ N ≤ M.2.2.2 := by
    unfold jx_pu at h1
    split at h1
    · rename_i hr; rw [hlen] at hr; exact hr
    · cases h1
  have hI := I.2.2.2
  refine W.newcK hx hb hown (hts _ hw1) (hts _ hw2) (hts _ hw3) rfl hd (by omega) (by omega) hKn.2.1 rfl fun H1 kC hkC e1 z1 o1 => ?_
  have hmap : fs.map (jx_v X) = fs := by
    rw [hfs, List.map_map]
    exact List.map_congr_left fun j _ => jx_v_def X _
  obtain ⟨p1, p2, p3, p4, p5, p6⟩ := I.1.push h1 rfl z1 o1 (by
    show va_at X.D X.cl (H.size, .inr (ci, fs.map (jx_v X))) H1
    rw [hmap]
    refine ⟨_, hc, (u_born ty hts hin hKn hkC e1 hty).to fun j hj => ?_⟩
    rw [hfs]
    simp [vp_V, hj])
  have k2 := kk H1 ls locs (cells + 1) (slots + N) ⟨p1, I.2.1, I.2.2.1, by omega, by omega, I.2.2.2.2.2⟩
  rw [List.map_cons, jx_v_ref, p2] at k2
  exact k2
theorem s_newa {t : Nat} {atype : ArrayType} {ty : FieldType} {cA : ClassId} {z : Nat → vp_A} (hT : X.ty[t]? = some (cA, ty)) (hat : newarray.typeOf atype = ty) (ht : t < 4) (hd : decode md.2.1 pc = .ok (.newarray atype, 2)) (hw : (Cond.arrayClass ty : Cond) ∈ X.W) (hz : ∀ (n : Nat) (cA : ClassId), vp_cell cA (z n) = arrV cA n (fun _ => defaultValue ty)) (hzx : ∀ n, jx_a X (z n) = z n) (hby : componentBytes ty ≤ 8) (hRA : ∀ (s : State) (cA : ClassId), va_RA s cA ty → s.vm.findClass ("[" ++ ty.toString) = some cA) : jx_S X mt md pc (o_newa t z) := by
  intro p l e R s m args below meth c d B L st M N' h H ls locs cells slots I
  obtain ⟨hx, -, hts, hK, hG, hown, -, hb, -⟩ := B
  unfold o_newa at h
  split at h
  · rename_i n r
    split at h
    · rename_i hn
      obtain ⟨M', h1, h2⟩ := Option.map_eq_some_iff.mp h
      cases h2
      intro Q kk
      have hroom : 1 ≤ M.2.2.1 ∧ n.toNatClampNeg ≤ M.2.2.2 := by
        unfold jx_pu at h1
        split at h1
        · rename_i hr; exact hr
        · cases h1
      have hI := I.2.2.2
      subst hat
      have hmul : n.toNatClampNeg * componentBytes (newarray.typeOf atype) ≤ 100000 * 8 := Nat.mul_le_mul hn.2 hby
      refine va_newaK hx hb (hts _ hw) rfl hd rfl hn.1 rfl (by omega) (by omega) (by omega) rfl fun H1 cA' e1 z1 o1 hAr hNm => ?_
      have hcA : cA' = cA := Option.some.inj (hNm.symm.trans (hRA s cA (hK.2 t _ hT).2))
      subst hcA
      obtain ⟨p1, p2, p3, p4, p5, p6⟩ := I.1.push h1 (by show (t == 9 || t == 10) = false; simp; omega) z1 o1 (by
        show H1[H.size]? = some (vp_cell (X.ty.getD t (0, .int)).1 (jx_a X (z n.toNatClampNeg)))
        rw [jx_ty0 hT, hzx, hz]
        exact e1)
      have k2 := kk H1 ls locs (cells + 1) (slots + n.toNatClampNeg) ⟨p1, I.2.1, I.2.2.1, by omega, by omega, I.2.2.2.2.2⟩
      rw [List.map_cons, jx_v_ref, p2, if_neg (by omega)] at k2
      exact k2
    · cases h
  · cases h
theorem s_newq {i : Nat} {C : String} {cA : ClassId} (hT : X.ty[4]? = some (cA, .object C)) (hd : decode md.2.1 pc = .ok (.anewarray i, 3)) (hw : (Cond.classLink md.1.cls i C : Cond) ∈ X.W) : jx_S X mt md pc (o_newa 4 jx_zq) := by
  intro p l e R s m args below meth c d B L st M N' h H ls locs cells slots I
  obtain ⟨hx, -, hts, hK, hG, hown, -, hb, -, -, -, -, -, -, -, hao, -⟩ := B
  unfold o_newa at h
  split at h
  · rename_i n r
    split at h
    · rename_i hn
      obtain ⟨M', h1, h2⟩ := Option.map_eq_some_iff.mp h
      cases h2
      intro Q kk
      have hroom : 1 ≤ M.2.2.1 ∧ n.toNatClampNeg ≤ M.2.2.2 := by
        unfold jx_pu at h1
        split at h1
        · rename_i hr; exact hr
        · cases h1
      have hI := I.2.2.2
      refine W.anew hx hb hown (hts _ hw) (va_AO.use (hao C cA hT)) rfl hd rfl hn.1 (by omega) (by omega) (by omega) fun cA' kA comp f1 f2 f3 f4 => ?_
      obtain ⟨kA', comp', -, -, -, hnm⟩ := (hK.2 4 _ hT).2
      have hcA : cA' = cA := Option.some.inj (f1.symm.trans hnm)
      subst hcA
      generalize hH1 : H.push ({ cls := cA', slots := Array.replicate n.toNatClampNeg .null, vm := .none } : Cell) = H1
      have z1 : H1.size = H.size + 1 := by rw [← hH1, Array.size_push]
      have e1 : H1[H.size]? = some (arrV cA' n.toNatClampNeg (fun _ => .null)) := by rw [← hH1, Array.getElem?_push_size, ← arrV_new]
      have o1 : ∀ q : Nat, q < H.size → H1[q]? = H[q]? := fun q hq => by rw [← hH1, Array.getElem?_push, if_neg (Nat.ne_of_lt hq)]
      obtain ⟨p1, p2, p3, p4, p5, p6⟩ := I.1.push h1 rfl z1 o1 (by
        show H1[H.size]? = some (vp_cell (X.ty.getD 4 (0, .int)).1 (n.toNatClampNeg, .inr (.inr (.inr (.inr fun j => jx_q X none)))))
        rw [jx_ty0 hT]
        exact e1)
      have k2 := kk H1 ls locs (cells + 1) (slots + n.toNatClampNeg) ⟨p1, I.2.1, I.2.2.1, by omega, by omega, I.2.2.2.2.2⟩
      rw [List.map_cons, jx_v_ref, p2, if_pos rfl] at k2
      exact k2
    · cases h
  · cases h
end JM2
section JM3
variable {X : jx_X} {mt : Nat → jx_D} {md : jx_D} {pc : Nat}
theorem s_bret (hr0 : md.2.2.2.1 = some .byte) (hd : decode md.2.1 pc = .ok (.ireturn, 1)) : jx_S X mt md pc o_bret := by
  intro p l e R s m args below meth c d B L st M N h H ls locs cells slots I
  obtain ⟨hx, -, hts, hK, hG, hown, -, hb, hml, hr, hlk, -⟩ := B
  unfold o_bret at h
  split at h
  · split at h
    · rename_i x hx01
      cases h
      have hn : narrow .byte (.int x) = .int x := by
        rw [show narrow .byte (.int x) = .int (vp_nar .byte x) from rfl, hx01]
      exact jx_mono (W.zret (free := fun q => X.H.size ≤ q) hx hb (hr.trans hr0) hn (fun t ht hW => ⟨rfl, ht⟩) I.2.2.1 hd hlk) fun t ht => jx_end I ht
    · cases h
  · cases h
theorem s_bald (hd : decode md.2.1 pc = .ok (.baload, 1)) : jx_S X mt md pc o_bald := by
  intro p l e R s m args below meth c d B L st M N h H ls locs cells slots I
  obtain ⟨hx, -, hts, hK, hG, hown, -, hb, -⟩ := B
  unfold o_bald at h
  split at h
  · split at h
    · rename_i i a r _ t n f hcell
      split at h
      · rename_i hc
        cases h
        intro Q kk
        obtain ⟨e0, hin⟩ := hc
        subst e0
        obtain ⟨cell, q1, q2, q3, q4, q5⟩ := I.1.con hG hcell (Or.inr rfl)
        have hin := jx_ix_in hin
        exact W.bald hx hb q1 q2 q3 (by rw [q4]; exact hin) (q5 _ (Nat.not_le.mp fun q => hin (Or.inr q))) rfl rfl hd (kk _ _ _ _ _ I)
      · cases h
    · cases h
  · cases h
theorem s_i2b (hd : decode md.2.1 pc = .ok (.i2b, 1)) : jx_S X mt md pc (o_un fun x => x.toInt8.toInt32) := by
  intro p l e R s m args below meth c d B L st M N h H ls locs cells slots I
  obtain ⟨hx, -, -, -, -, -, -, hb, -⟩ := B
  unfold o_un at h
  split at h
  · cases h
    intro Q k
    exact lv_i2b hx hb hd rfl (k _ _ _ _ _ I)
  · cases h
theorem s_ldc_w {i : Nat} {v : Int32} (hd : decode md.2.1 pc = .ok (.ldc_w i, 3)) (hw : (Cond.constant md.1.cls i v : Cond) ∈ X.W) : jx_S X mt md pc (o_push (.int v) 3) := by
  intro p l e R s m args below meth c d B L st M N h H ls locs cells slots I
  cases h
  intro Q k
  obtain ⟨hx, -, hts, -, -, hown, -, hb, -⟩ := B
  exact lv_ldcw hx hb hown (hts _ hw) hd (k _ _ _ _ _ I)
end JM3
end
section
/-! CALLS, AND THE WHOLE -/
theorem jx_c.spec {X : jx_X} {md : jx_D} {args : Array Value} {s : State} (h : jx_c X md) (hts : ∀ w ∈ X.W, w.before args s = true) :
    ∃ mk meth c, s.methodNamed? md.1 = some mk ∧ s.vm.method? mk = some meth ∧ meth.code = some c ∧ c.code = md.2.1 ∧ c.maxLocals = md.2.2.1 ∧ meth.sig.returnType = md.2.2.2.1 ∧ meth.locks = false ∧
      c.exceptionTable.toList.map (fun x => (x.startPc, x.endPc, x.handlerPc, x.catchType)) = md.2.2.2.2.map (fun h => h.1) ∧ parseMethodDescriptor md.1.desc = some meth.sig := by
  rcases h.1 with ⟨hw, he⟩ | hw
  · have h1 := hts _ hw
    obtain ⟨mk, hn⟩ := Cond.code_named h1
    obtain ⟨meth, c, q1, q2, q3, q4, q5, q6, q7, q8⟩ := Cond.code_spec hn h1
    refine ⟨mk, meth, c, hn, q1, q2, q3, q4, q5, q6, ?_, q8⟩
    rw [he, Array.isEmpty_iff.mp q7]
    rfl
  · obtain ⟨mk, meth, c, q0, q1, q2, q3, q4, q5, q6, q7, q8⟩ := Cond.codeWith_spec (hts _ hw)
    exact ⟨mk, meth, c, q0, q1, q2, q3, q4, q6, q7, q5, q8⟩
theorem jx_cut {X : jx_X} {st : List Value} {n : Nat} : st.map (jx_v X) = (((st.take n).reverse).map (jx_v X)).reverse ++ (st.drop n).map (jx_v X) := by
  rw [List.map_reverse, List.reverse_reverse, ← List.map_append, List.take_append_drop]
theorem jx_cut1 {st : List Value} {n a : Nat} (h : n < st.length) (ha : st.getD n .null = .ref a) : (st.take (n + 1)).reverse = .ref a :: (st.take n).reverse ∧ st = st.take n ++ .ref a :: st.drop (n + 1) := by
  have h1 : st[n] = .ref a := by
    rw [List.getD_eq_getElem?_getD, List.getElem?_eq_getElem h] at ha
    exact ha
  refine ⟨?_, ?_⟩
  · rw [List.take_succ_eq_append_getElem h, List.reverse_append, h1]
    rfl
  · conv => lhs; rw [← List.take_append_drop n st, List.drop_eq_getElem_cons h, h1]
section JC
variable {X : jx_X} {mt : Nat → jx_D} {md : jx_D} {pc : Nat}
theorem jx_fcS {ce n i : Nat} (hc : jx_c X (mt ce)) (hd : decode md.2.1 pc = .ok (.invokestatic i, 3))  (hw2 : (Cond.static (mt ce).1 : Cond) ∈ X.W) (hw3 : (Cond.initialized (mt ce).1.cls : Cond) ∈ X.W)
    (hm : (mt ce).1.cls ≠ "java/lang/invoke/MethodHandle" ∧ (mt ce).1.cls ≠ "java/lang/invoke/VarHandle") (hn : (parseMethodDescriptor (mt ce).1.desc).map (fun d => d.parameters.length) = some n)
    (hl : ∀ (args : Array Value) (s : State), (∀ w ∈ X.W, w.before args s = true) → (Cond.methodLink md.1.cls i (mt ce).1).before args s = true ∨ ∃ host, (Cond.methodLinkNest md.1.cls i (mt ce).1 host).before args s = true) : jx_S X mt md pc (o_call ce n) := by
  intro p l e R s m args below meth c d B L st M N h H ls locs cells slots I
  obtain ⟨hx, -, hts, hK, hG, hown, -, hb, -⟩ := B
  unfold o_call at h
  split at h
  · rename_i hlen
    cases h
    intro T hT St
    obtain ⟨mk, methM, cM, hnamed, hmethM, -, -, -, -, -, -, hsigM⟩ := hc.spec hts
    have hstatic : methM.isStatic = true := Cond.static_spec hnamed hmethM (hts _ hw2)
    obtain ⟨kP, hkP, -⟩ := className_of_methodNamed hnamed
    have hinitP : kP.init = .initialized := Cond.initialized_spec (findClass_of_methodNamed hnamed) hkP (hts _ hw3)
    have hln : (((st.take n).reverse).map (jx_v X)).length = methM.sig.parameters.length := by
      rw [hsigM] at hn
      have h2 : methM.sig.parameters.length = n := Option.some.inj hn
      rw [h2, List.length_map, List.length_reverse, List.length_take]
      omega
    rcases hl args s hts with hlink | ⟨host, hlink⟩
    · obtain ⟨vm₁, X₁, st₁⟩ := St.invokestatic hx hown hlink hnamed hmethM hstatic hkP hinitP hm (g := F0 m pc ls (st.map (jx_v X))) rfl hln jx_cut (by rw [hb]; exact hd)
      exact ⟨vm₁, mk, _, X₁, hnamed, by rw [hb]; exact hd, rfl, by rw [List.length_drop]; omega, hc, st₁⟩
    · obtain ⟨vm₁, X₁, st₁⟩ := St.invokestaticNest hx hown hlink hnamed hmethM hstatic hkP hinitP hm (g := F0 m pc ls (st.map (jx_v X))) rfl hln jx_cut (by rw [hb]; exact hd)
      exact ⟨vm₁, mk, _, X₁, hnamed, by rw [hb]; exact hd, rfl, by rw [List.length_drop]; omega, hc, st₁⟩
  · cases h
theorem s_calls {ce n i : Nat} (hc : jx_c X (mt ce)) (hd : decode md.2.1 pc = .ok (.invokestatic i, 3)) (hw1 : (Cond.methodLink md.1.cls i (mt ce).1 : Cond) ∈ X.W) (hw2 : (Cond.static (mt ce).1 : Cond) ∈ X.W) (hw3 : (Cond.initialized (mt ce).1.cls : Cond) ∈ X.W)
    (hm : (mt ce).1.cls ≠ "java/lang/invoke/MethodHandle" ∧ (mt ce).1.cls ≠ "java/lang/invoke/VarHandle") (hn : (parseMethodDescriptor (mt ce).1.desc).map (fun d => d.parameters.length) = some n) : jx_S X mt md pc (o_call ce n) :=
  jx_fcS hc hd hw2 hw3 hm hn fun _ _ h => Or.inl (h _ hw1)
theorem s_callsN {ce n i : Nat} {host : String} (hc : jx_c X (mt ce)) (hd : decode md.2.1 pc = .ok (.invokestatic i, 3)) (hw1 : (Cond.methodLinkNest md.1.cls i (mt ce).1 host : Cond) ∈ X.W) (hw2 : (Cond.static (mt ce).1 : Cond) ∈ X.W) (hw3 : (Cond.initialized (mt ce).1.cls : Cond) ∈ X.W)
    (hm : (mt ce).1.cls ≠ "java/lang/invoke/MethodHandle" ∧ (mt ce).1.cls ≠ "java/lang/invoke/VarHandle") (hn : (parseMethodDescriptor (mt ce).1.desc).map (fun d => d.parameters.length) = some n) : jx_S X mt md pc (o_call ce n) :=
  jx_fcS hc hd hw2 hw3 hm hn fun _ _ h => Or.inr ⟨host, h _ hw1⟩
/-- the receiver's object -/
theorem jx_recv {s : State} {H : Heap} {M : jx_M} {a ci : Nat} {fs : List Value} {C : String} {T : u_T} {N : Nat} {ty : Nat → FieldType} (hk : jx_k X ci C T N ty) (hK : va_K X.D X.cl X.ty s) (hG : jx_GL X s) (hH : jx_H X M H) (ha : M.1 a = .inr (ci, fs)) : ∃ cell : Cell, H[jx_ad X a]? = some cell ∧ cell.vm.isStatics = false ∧ s.vm.findClass C = some cell.cls := by
  obtain ⟨-, -, hP⟩ := hH.obj hG ha hk.2.1
  exact va_recv hK (jx_P1 hP) hk.1 (q0 := 0) rfl
theorem jx_fcV {ce n i ci : Nat} {C : String} {T : u_T} {N : Nat} {ty : Nat → FieldType} (hk : jx_k X ci C T N ty) (hc : jx_c X (mt ce)) (hd : decode md.2.1 pc = .ok (.invokevirtual i, 3))  (hw2 : (Cond.instanceMethod (mt ce).1 : Cond) ∈ X.W) (hw3 : (Cond.selects C (mt ce).1 (mt ce).1 : Cond) ∈ X.W)
    (hm : (mt ce).1.cls ≠ "java/lang/invoke/MethodHandle" ∧ (mt ce).1.cls ≠ "java/lang/invoke/VarHandle") (hn : (parseMethodDescriptor (mt ce).1.desc).map (fun d => d.parameters.length) = some n)
    (hl : ∀ (args : Array Value) (s : State), (∀ w ∈ X.W, w.before args s = true) → (Cond.methodLink md.1.cls i (mt ce).1).before args s = true ∨ ∃ host, (Cond.methodLinkNest md.1.cls i (mt ce).1 host).before args s = true) : jx_S X mt md pc (o_callv ci ce n) := by
  intro p l e R s m args below meth c d B L st M N0 h H ls locs cells slots I
  obtain ⟨hx, -, hts, hK, hG, hown, -, hb, -⟩ := B
  unfold o_callv at h
  split at h
  · rename_i hlen
    split at h
    · rename_i a ha
      split at h
      · rename_i c0 fs hcell
        split at h
        · rename_i e0
          subst e0
          cases h
          intro T hT St
          obtain ⟨cellB, hcB, hoB, hclB⟩ := jx_recv hk hK hG I.1 hcell
          obtain ⟨q1, q2⟩ := jx_cut1 hlen.1 ha
          obtain ⟨mk, methM, cM, hnamed, hmethM, -, -, -, -, -, -, hsigM⟩ := hc.spec hts
          obtain ⟨mk', methM', hnamed', hmethM', hstM, habM⟩ := Cond.instanceMethod_spec (hts _ hw2)
          cases hnamed.symm.trans hnamed'
          cases hmethM.symm.trans hmethM'
          obtain ⟨c2, r2, m2, z1, z2, z3, z4, kP, hkP, hkPi⟩ := Cond.selects_spec (hts _ hw3)
          cases hclB.symm.trans z1
          cases (State.methodFound?_of_named hnamed hm).symm.trans z2
          cases hnamed.symm.trans z3
          have hselP : selectMethod e.platform s.vm cellB.cls mk = .method mk := by rw [Launch.admits_selectMethod St.admits]; exact z4
          have hln : (((st.take n).reverse).map (jx_v X)).length = methM.sig.parameters.length := by
            rw [hsigM] at hn
            have h2 : methM.sig.parameters.length = n := Option.some.inj hn
            rw [h2, List.length_map, List.length_reverse, List.length_take]
            omega
          have hst : (F0 m pc ls (st.map (jx_v X))).stack = (((st.take n).reverse).map (jx_v X)).reverse ++ .ref (jx_ad X a) :: (st.drop (n + 1)).map (jx_v X) := by
            show st.map (jx_v X) = _
            rw [List.map_reverse, List.reverse_reverse]
            conv => lhs; rw [q2]
            rw [List.map_append]
            rfl
          rcases hl args s hts with hlink | ⟨host, hlink⟩
          · obtain ⟨vm₁, X₁, st₁⟩ := St.invokevirtual hx hown hlink hnamed hmethM hstM hkP hkPi hm (a := jx_ad X a) (cell := cellB) (by rw [hT]; exact hcB) (fun z h => by rw [h] at hoB; cases hoB) hselP hmethM habM hkP hkPi (g := F0 m pc ls (st.map (jx_v X))) rfl hln hst (by rw [hb]; exact hd)
            refine ⟨vm₁, mk, _, X₁, hnamed, by rw [hb]; exact hd, rfl, by rw [List.length_drop]; omega, hc, fun tg ht => st₁ tg fun acts => ?_⟩
            have h9 := ht acts
            rw [q1] at h9
            exact h9
          · obtain ⟨vm₁, X₁, st₁⟩ := St.invokevirtualNest hx hown hlink hnamed hmethM hstM hkP hkPi hm (a := jx_ad X a) (cell := cellB) (by rw [hT]; exact hcB) (fun z h => by rw [h] at hoB; cases hoB) hselP hmethM habM hkP hkPi (g := F0 m pc ls (st.map (jx_v X))) rfl hln hst (by rw [hb]; exact hd)
            refine ⟨vm₁, mk, _, X₁, hnamed, by rw [hb]; exact hd, rfl, by rw [List.length_drop]; omega, hc, fun tg ht => st₁ tg fun acts => ?_⟩
            have h9 := ht acts
            rw [q1] at h9
            exact h9
        · cases h
      · cases h
    · cases h
  · cases h
theorem s_callv {ce n i ci : Nat} {C : String} {T : u_T} {N : Nat} {ty : Nat → FieldType} (hk : jx_k X ci C T N ty) (hc : jx_c X (mt ce)) (hd : decode md.2.1 pc = .ok (.invokevirtual i, 3)) (hw1 : (Cond.methodLink md.1.cls i (mt ce).1 : Cond) ∈ X.W) (hw2 : (Cond.instanceMethod (mt ce).1 : Cond) ∈ X.W) (hw3 : (Cond.selects C (mt ce).1 (mt ce).1 : Cond) ∈ X.W)
    (hm : (mt ce).1.cls ≠ "java/lang/invoke/MethodHandle" ∧ (mt ce).1.cls ≠ "java/lang/invoke/VarHandle") (hn : (parseMethodDescriptor (mt ce).1.desc).map (fun d => d.parameters.length) = some n) : jx_S X mt md pc (o_callv ci ce n) :=
  jx_fcV hk hc hd hw2 hw3 hm hn fun _ _ h => Or.inl (h _ hw1)
theorem s_callvN {ce n i ci : Nat} {C host : String} {T : u_T} {N : Nat} {ty : Nat → FieldType} (hk : jx_k X ci C T N ty) (hc : jx_c X (mt ce)) (hd : decode md.2.1 pc = .ok (.invokevirtual i, 3)) (hw1 : (Cond.methodLinkNest md.1.cls i (mt ce).1 host : Cond) ∈ X.W) (hw2 : (Cond.instanceMethod (mt ce).1 : Cond) ∈ X.W) (hw3 : (Cond.selects C (mt ce).1 (mt ce).1 : Cond) ∈ X.W)
    (hm : (mt ce).1.cls ≠ "java/lang/invoke/MethodHandle" ∧ (mt ce).1.cls ≠ "java/lang/invoke/VarHandle") (hn : (parseMethodDescriptor (mt ce).1.desc).map (fun d => d.parameters.length) = some n) : jx_S X mt md pc (o_callv ci ce n) :=
  jx_fcV hk hc hd hw2 hw3 hm hn fun _ _ h => Or.inr ⟨host, h _ hw1⟩
/-- a constructor -/
theorem jx_fcI {ce n i ci : Nat} (hc : jx_c X (mt ce)) (hwc : (Cond.code (mt ce).1 (mt ce).2.1 (mt ce).2.2.1 none : Cond) ∈ X.W) (hd : decode md.2.1 pc = .ok (.invokespecial i, 3)) (hw2 : (Cond.instanceMethod (mt ce).1 : Cond) ∈ X.W) (hni : (mt ce).1.name = "<init>")
    (hm : (mt ce).1.cls ≠ "java/lang/invoke/MethodHandle" ∧ (mt ce).1.cls ≠ "java/lang/invoke/VarHandle") (hn : (parseMethodDescriptor (mt ce).1.desc).map (fun d => d.parameters.length) = some n)
    (hl : ∀ (args : Array Value) (s : State), (∀ w ∈ X.W, w.before args s = true) → (Cond.methodLink md.1.cls i (mt ce).1).before args s = true ∨ ∃ host, (Cond.methodLinkNest md.1.cls i (mt ce).1 host).before args s = true) : jx_S X mt md pc (o_callv ci ce n) := by
  intro p l e R s m args below meth c d B L st M N0 h H ls locs cells slots I
  obtain ⟨hx, -, hts, hK, hG, hown, -, hb, -⟩ := B
  unfold o_callv at h
  split at h
  · rename_i hlen
    split at h
    · rename_i a ha
      split at h
      · rename_i c0 fs hcell
        split at h
        · rename_i e0
          subst e0
          cases h
          intro T hT St
          obtain ⟨q1, q2⟩ := jx_cut1 hlen.1 ha
          have hpl : e.platform.magicAccessors = ({} : Platform).magicAccessors := by rw [St.admits.platform]
          have hln : ∀ sig, parseMethodDescriptor (mt ce).1.desc = some sig → (((st.take n).reverse).map (jx_v X)).length = sig.parameters.length := by
            intro sig hsig
            rw [hsig] at hn
            have h2 : sig.parameters.length = n := Option.some.inj hn
            rw [h2, List.length_map, List.length_reverse, List.length_take]
            omega
          have hst : (F0 m pc ls (st.map (jx_v X))).stack = (((st.take n).reverse).map (jx_v X)).reverse ++ .ref (jx_ad X a) :: (st.drop (n + 1)).map (jx_v X) := by
            show st.map (jx_v X) = _
            rw [List.map_reverse, List.reverse_reverse]
            conv => lhs; rw [q2]
            rw [List.map_append]
            rfl
          rcases hl args s hts with hlink | ⟨host, hlink⟩
          · obtain ⟨mk, methM, cM, kP, vm₁, hnamed, -, -, -, -, -, -, -, hW₁, hstep₁⟩ := Steps.initColdArgs (e := e) St.here hx St.warmed hpl hown hni hm hlink (hts _ hw2) (hts _ hwc) (f := F0 m pc ls (st.map (jx_v X))) rfl hln hst (by rw [hb]; exact hd)
            refine ⟨vm₁, mk, _, St.noted hW₁, hnamed, by rw [hb]; exact hd, rfl, by rw [List.length_drop]; omega, hc, fun tg ht => hstep₁ tg fun acts => ?_⟩
            have h9 := ht acts
            rw [q1] at h9
            exact h9
          · obtain ⟨mk, methM, cM, kP, vm₁, hnamed, -, -, -, -, -, -, -, hW₁, hstep₁⟩ := Steps.initColdArgsNest (e := e) St.here hx St.warmed hpl hown hni hm hlink (hts _ hw2) (hts _ hwc) (f := F0 m pc ls (st.map (jx_v X))) rfl hln hst (by rw [hb]; exact hd)
            refine ⟨vm₁, mk, _, St.noted hW₁, hnamed, by rw [hb]; exact hd, rfl, by rw [List.length_drop]; omega, hc, fun tg ht => hstep₁ tg fun acts => ?_⟩
            have h9 := ht acts
            rw [q1] at h9
            exact h9
        · cases h
      · cases h
    · cases h
  · cases h
theorem s_calli {ce n i ci : Nat} (hc : jx_c X (mt ce)) (hwc : (Cond.code (mt ce).1 (mt ce).2.1 (mt ce).2.2.1 none : Cond) ∈ X.W) (hd : decode md.2.1 pc = .ok (.invokespecial i, 3)) (hw1 : (Cond.methodLink md.1.cls i (mt ce).1 : Cond) ∈ X.W) (hw2 : (Cond.instanceMethod (mt ce).1 : Cond) ∈ X.W) (hni : (mt ce).1.name = "<init>")
    (hm : (mt ce).1.cls ≠ "java/lang/invoke/MethodHandle" ∧ (mt ce).1.cls ≠ "java/lang/invoke/VarHandle") (hn : (parseMethodDescriptor (mt ce).1.desc).map (fun d => d.parameters.length) = some n) : jx_S X mt md pc (o_callv ci ce n) :=
  jx_fcI hc hwc hd hw2 hni hm hn fun _ _ h => Or.inl (h _ hw1)
theorem s_calliN {ce n i ci : Nat} {host : String} (hc : jx_c X (mt ce)) (hwc : (Cond.code (mt ce).1 (mt ce).2.1 (mt ce).2.2.1 none : Cond) ∈ X.W) (hd : decode md.2.1 pc = .ok (.invokespecial i, 3)) (hw1 : (Cond.methodLinkNest md.1.cls i (mt ce).1 host : Cond) ∈ X.W) (hw2 : (Cond.instanceMethod (mt ce).1 : Cond) ∈ X.W) (hni : (mt ce).1.name = "<init>")
    (hm : (mt ce).1.cls ≠ "java/lang/invoke/MethodHandle" ∧ (mt ce).1.cls ≠ "java/lang/invoke/VarHandle") (hn : (parseMethodDescriptor (mt ce).1.desc).map (fun d => d.parameters.length) = some n) : jx_S X mt md pc (o_callv ci ce n) :=
  jx_fcI hc hwc hd hw2 hni hm hn fun _ _ h => Or.inr ⟨host, h _ hw1⟩
theorem jx_cats {st : List Value} (h : st.length ≤ 4) : (st.map fun v => v.category).sum ≤ 8 := by
  have h1 : ∀ l : List Value, (l.map fun v => v.category).sum ≤ 2 * l.length := by
    intro l
    induction l with
    | nil => simp
    | cons a r ih =>
      have h2 : a.category ≤ 2 := by cases a <;> simp [Value.category]
      simp only [List.map_cons, List.sum_cons, List.length_cons]
      omega
  have := h1 st
  omega
theorem s_oinit {i : Nat} (hd : decode md.2.1 pc = .ok (.invokespecial i, 3)) (hw1 : (Cond.methodLink md.1.cls i Lib.objectInit : Cond) ∈ X.W) (hw2 : (Cond.instanceMethod Lib.objectInit : Cond) ∈ X.W) (hw3 : (Cond.code Lib.objectInit ⟨#[0xb1]⟩ 1 none : Cond) ∈ X.W) : jx_S X mt md pc o_oinit := by
  intro p l e R s m args below meth c d B L st M N h H ls locs cells slots I
  obtain ⟨hx, -, hts, hK, hG, hown, -, hb, hml, -, -, -, hRf, hRl, -⟩ := B
  unfold o_oinit at h
  split at h
  · split at h
    · rename_i a r hr
      cases h
      intro Q kk
      have hsum : ((r.map (jx_v X)).map fun v => v.category).sum ≤ 8 := jx_cats (by rw [List.length_map]; exact hr)
      refine W.objInit hx hb hown (hts _ hw1) (hts _ hw2) (hts _ hw3) rfl ?_ rfl hd (by omega) (by show 2 * 0 + _ + 12 ≤ _; omega) (kk _ _ _ _ _ I)
      show ls.size = c.maxLocals
      rw [I.2.1.1, I.2.2.2.2.2, hml]
    · cases h
  · cases h
end JC
theorem jx_steps {tb : Tables} {e : Env} {mid below : List Frame} {a b : State} (h : Steps tb e (mid ++ below) a b) : Steps tb e below a b := by
  obtain ⟨n, hn, w⟩ := h
  exact ⟨n, hn, fun k hk => (w k hk).weaken⟩
theorem jx_H.ns {X : jx_X} {M : jx_M} {H : Heap} (h : jx_H X M H) {q : Nat} {cell : Cell} (hq : X.H.size ≤ q) (hc : H[q]? = some cell) : cell.vm.isStatics = false := by
  obtain ⟨h1, h2, h3, h4, h5, h6⟩ := h
  have hlt : q < H.size := (Array.getElem?_eq_some_iff.mp hc).1
  have hk := (h3 (q - X.H.size + jx_g) (by omega) (by omega)).2
  have ha : jx_ad X (q - X.H.size + jx_g) = q := by rw [jx_ad_ge (by omega)]; omega
  rw [ha] at hk
  cases hm : jx_e X (M.1 (q - X.H.size + jx_g)) with
  | inl z =>
    rw [hm] at hk
    have hk : H[q]? = some (vp_cell z.1 z.2) := hk
    rw [hc] at hk
    cases hk
    obtain ⟨cA, n, f⟩ := z
    cases f with
    | inl f => rfl
    | inr f => cases f with
      | inl f => rfl
      | inr f => cases f with
        | inl f => rfl
        | inr f => cases f with
          | inl f => rfl
          | inr f => rfl
  | inr z =>
    rw [hm] at hk
    obtain ⟨r, -, cell', g1, -, g3, -⟩ := hk
    have g1 : H[q]? = some cell' := g1
    rw [hc] at g1
    cases g1
    rw [g3]
    rfl
theorem jx_GL.moved {X : jx_X} {s U : State} (hvm : s.vm.Alike U.vm) (h : jx_GL X s) : jx_GL X U := by
  intro k hk
  have h1 := h k hk
  cases hg : X.gl k with
  | inr z => rw [hg] at h1; exact h1
  | inl z =>
    rw [hg] at h1
    obtain ⟨t, n, f⟩ := z
    cases f with
    | inr f => exact h1
    | inl f =>
      obtain ⟨e0, cell, q1, q2, q3⟩ := h1
      exact ⟨e0, cell, q1, State.isArrayOf_alike hvm q2, q3⟩
theorem jx_en_sl (X : jx_X) (as : List Value) : (as.flatMap fun v => if jx_v1 v = true then [some v] else [some v, none]).length = (lg_sl (as.map (jx_v X))).length ∧
    ∀ (i : Nat) (v : Value), (as.flatMap fun v => if jx_v1 v = true then [some v] else [some v, none]).getD i none = some v → (lg_sl (as.map (jx_v X)))[i]? = some (.val (jx_v X v)) := by
  induction as with
  | nil => exact ⟨rfl, fun i v h => by simp at h⟩
  | cons a r ih =>
    have hsl : lg_sl ((a :: r).map (jx_v X)) = (if (jx_v X a).category = 2 then [Slot.val (jx_v X a), .second] else [.val (jx_v X a)]) ++ lg_sl (r.map (jx_v X)) := by
      simp [lg_sl]
    rw [hsl, List.flatMap_cons]
    by_cases h1 : jx_v1 a = true
    · rw [if_pos h1, if_neg (by rw [jx_v_cat, jx_v1_cat h1]; decide)]
      refine ⟨by simp [ih.1], fun i v h => ?_⟩
      cases i with
      | zero => simp at h; subst h; rfl
      | succ j => exact ih.2 j v (by simpa using h)
    · rw [if_neg h1, if_pos (by rw [jx_v_cat, jx_v1_ncat h1])]
      refine ⟨by simp [ih.1], fun i v h => ?_⟩
      cases i with
      | zero => simp at h; subst h; rfl
      | succ j =>
        cases j with
        | zero => simp at h
        | succ k => exact ih.2 k v (by simpa using h)
theorem jx_lo.entry {X : jx_X} {as : List Value} {n : Nat} (h : (jx_en as n).length = n) : jx_lo X ((lg_sl (as.map (jx_v X)) ++ List.replicate (n - (lg_sl (as.map (jx_v X))).length) Slot.unset).toArray) (jx_en as n) := by
  obtain ⟨e1, e2⟩ := jx_en_sl X as
  have hle : (lg_sl (as.map (jx_v X))).length ≤ n := by
    unfold jx_en at h
    rw [List.length_append, List.length_replicate, e1] at h
    omega
  obtain ⟨a1, a2, -⟩ := lv_entry (as.map (jx_v X)) hle
  refine ⟨by rw [a1, h], a2, fun i v hv => ?_⟩
  unfold jx_en at hv
  rw [List.getD_eq_getElem?_getD] at hv
  by_cases hi : i < (as.flatMap fun v => if jx_v1 v = true then [some v] else [some v, none]).length
  · rw [List.getElem?_append_left hi, ← List.getD_eq_getElem?_getD] at hv
    have h2 := e2 i v hv
    rw [List.getElem?_toArray, List.getElem?_append_left (by rw [← e1]; exact hi)]
    exact h2
  · rw [List.getElem?_append_right (by omega)] at hv
    rw [List.getElem?_replicate] at hv
    split at hv <;> cases hv
/-- a handler takes an exception -/
def jx_ct (X : jx_X) (md : jx_D) (hs : List (Nat × Nat × Nat × Nat)) : Prop :=
  ∀ (p : Program) (l : Launch) (e : Env) (R : Room) (s : State) (m : MethodId) (args : Array Value) (below : List Frame) (meth : Method) (c : Code) (d : Nat), jx_B X md p l e R s m args meth c d →
  ∀ (pc k hp : Nat) (M : jx_M), jx_hf pc (jx_cl (M.1 k)) hs = some hp → ∀ (T : State) (locs : List Loc) (cells slots : Nat) (ls : Array Slot) (st : List Value), Stand p l e R s m args below meth c T locs cells slots → jx_H X M T.heap →
  ∃ vm₁ : Vm, Stand p l e R s m args below meth c (T.setVm vm₁) locs cells slots ∧ ∀ target, Steps p.tables e below ((T.setVm vm₁).setTop (F0 m hp ls [.ref (jx_ad X k)])) target → Steps p.tables e below ((T.setTop (F0 m pc ls st)).pushFrame (.throwing (jx_ad X k))) target
theorem jx_ho_out {pc : Nat} : ∀ {hs : List (Nat × Nat × Nat × Nat)}, jx_ho pc hs = true → ∀ h ∈ hs, ¬ (h.1 ≤ pc ∧ pc < h.2.1)
  | [], _, h, hm => by cases hm
  | a :: t, hh, h, hm => by
    unfold jx_ho at hh
    split at hh
    · cases hh
    · rename_i hn
      rcases List.mem_cons.mp hm with rfl | hm
      · exact hn
      · exact jx_ho_out hh h hm
/-- a word that stays when the tables are warmer -/
def jx_mv (w : Cond) : Prop := ∀ (s U : State) (a a' : Array Value), s.WarmedH U.vm → w.before a s = true → w.before a' U = true
def jx_gw (w : Cond) : Bool := match w with
  | .fieldLinkNest .. => true
  | .methodLinkNest .. => true
  | w => goodWord w
theorem jx_gw_mv {w : Cond} (h : jx_gw w = true) : jx_mv w := by
  intro s U a a' hW hb
  by_cases hg : goodWord w = true
  · exact word_at hW (good_of_word hg) hb
  · cases w with
    | fieldLinkNest x i b n d y => exact va_Nw.use rfl (va_Nw.warmF hW (va_Nw.of rfl hb))
    | methodLinkNest x i b y => exact va_Nw.use rfl (va_Nw.warmM hW (va_Nw.of rfl hb))
    | _ => exact absurd h hg
end
section
/-! RUNS OF THE ABSTRACT MACHINE, GOAL FIRST -/
abbrev jx_P : Type := (Nat → Nat) × (Nat → List (Nat × Nat × Nat × Nat)) × (Nat → Nat → Option jx_O)
theorem jx_mf {ml : Nat → Nat} {hs : Nat → List (Nat × Nat × Nat × Nat)} {cd : Nat → Nat → Option jx_O} : ∀ (f d mi pc : Nat) (L : jx_L) (st : List Value) (M : jx_M) (x : jx_R × jx_M), jx_run ml hs cd f d mi pc L st M = some x → jx_run ml hs cd (f + 1) d mi pc L st M = some x := by
  intro f
  induction f with
  | zero => intro d mi pc L st M x h; cases h
  | succ f ih =>
    intro d mi pc L st M x h
    rw [jx_run] at h
    rw [jx_run]
    cases hc : cd mi pc with
    | none => rw [hc] at h; cases h
    | some op =>
      rw [hc] at h
      dsimp only at h ⊢
      cases ho : op pc L st M with
      | none => rw [ho] at h; cases h
      | some N =>
        rw [ho] at h
        rcases N with ⟨pc', L', st', M1⟩ | ⟨r, M1⟩ | ⟨ce, as, rest, pc'⟩
        · exact ih _ _ _ _ _ _ _ h
        · exact h
        · cases d with
          | zero => cases h
          | succ d' =>
            dsimp only at h ⊢
            by_cases hen : (jx_en as (ml ce)).length = ml ce
            · rw [if_pos hen] at h ⊢
              cases hr : jx_run ml hs cd f d' ce 0 (jx_en as (ml ce)) [] M with
              | none => rw [hr] at h; cases h
              | some y =>
                rw [hr] at h
                rw [ih _ _ _ _ _ _ _ hr]
                rcases y with ⟨v | k, M1⟩
                · exact ih _ _ _ _ _ _ _ h
                · dsimp only at h ⊢
                  cases hh : jx_hd pc (jx_cl (M1.1 k)) (hs mi) with
                  | none => rw [hh] at h; cases h
                  | some z =>
                    rw [hh] at h
                    cases z with
                    | none => exact h
                    | some hp => exact ih _ _ _ _ _ _ _ h
            · rw [if_neg hen] at h; cases h
theorem jx_mfs {ml : Nat → Nat} {hs : Nat → List (Nat × Nat × Nat × Nat)} {cd : Nat → Nat → Option jx_O} {f d mi pc : Nat} {L : jx_L} {st : List Value} {M : jx_M} {x : jx_R × jx_M} (g : Nat) (h : jx_run ml hs cd f d mi pc L st M = some x) : jx_run ml hs cd (f + g) d mi pc L st M = some x := by
  induction g with
  | zero => exact h
  | succ g ih => exact jx_mf _ _ _ _ _ _ _ _ ih
/-- the machine, at this place, comes to an end with 'post' -/
def jx_Z (P : jx_P) (d mi pc : Nat) (L : jx_L) (st : List Value) (M : jx_M) (post : jx_R → jx_M → Prop) : Prop := ∃ (f : Nat) (r : jx_R) (M' : jx_M), jx_run P.1 P.2.1 P.2.2 f d mi pc L st M = some (r, M') ∧ post r M'
section JZ
variable {P : jx_P} {d mi pc : Nat} {L : jx_L} {st : List Value} {M : jx_M} {post : jx_R → jx_M → Prop}
theorem jx_Z.mono {post' : jx_R → jx_M → Prop} (h : jx_Z P d mi pc L st M post) (k : ∀ r M', post r M' → post' r M') : jx_Z P d mi pc L st M post' := by
  obtain ⟨f, r, M', h1, h2⟩ := h
  exact ⟨f, r, M', h1, k r M' h2⟩
theorem jx_go (pc' : Nat) (L' : jx_L) (st' : List Value) (M1 : jx_M) {op : jx_O} (hc : P.2.2 mi pc = some op) (ho : op pc L st M = some (.inl (pc', L', st', M1))) (k : jx_Z P d mi pc' L' st' M1 post) : jx_Z P d mi pc L st M post := by
  obtain ⟨f, r, M', h1, h2⟩ := k
  refine ⟨f + 1, r, M', ?_, h2⟩
  rw [jx_run, hc]
  dsimp only
  rw [ho]
  exact h1
theorem jx_fin {r : jx_R} {M1 : jx_M} {op : jx_O} (hc : P.2.2 mi pc = some op) (ho : op pc L st M = some (.inr (.inl (r, M1)))) (k : post r M1) : jx_Z P d mi pc L st M post := by
  refine ⟨1, r, M1, ?_, k⟩
  rw [jx_run, hc]
  dsimp only
  rw [ho]
theorem jx_do {ce pc' : Nat} {as rest : List Value} {op : jx_O} (hc : P.2.2 mi pc = some op) (ho : op pc L st M = some (.inr (.inr (ce, as, rest, pc')))) (hen : (jx_en as (P.1 ce)).length = P.1 ce)
    (k : jx_Z P d ce 0 (jx_en as (P.1 ce)) [] M fun r M1 => match r with
      | .inl v => jx_Z P (d + 1) mi pc' L (v.toList ++ rest) M1 post
      | .inr x => match jx_hd pc (jx_cl (M1.1 x)) (P.2.1 mi) with
        | none => False
        | some none => post (.inr x) M1
        | some (some hp) => jx_Z P (d + 1) mi hp L [.ref x] M1 post) : jx_Z P (d + 1) mi pc L st M post := by
  obtain ⟨f, r, M1, h1, h2⟩ := k
  cases r with
  | inl v =>
    obtain ⟨g, r', M', h3, h4⟩ := h2
    refine ⟨f + g + 1, r', M', ?_, h4⟩
    rw [jx_run, hc]
    dsimp only
    rw [ho]
    dsimp only
    rw [if_pos hen, jx_mfs g h1]
    dsimp only
    rw [Nat.add_comm f g]
    exact jx_mfs f h3
  | inr x =>
    dsimp only at h2
    cases hh : jx_hd pc (jx_cl (M1.1 x)) (P.2.1 mi) with
    | none => rw [hh] at h2; exact absurd h2 id
    | some z =>
      rw [hh] at h2
      cases z with
      | none =>
        refine ⟨f + 1, .inr x, M1, ?_, h2⟩
        rw [jx_run, hc]
        dsimp only
        rw [ho]
        dsimp only
        rw [if_pos hen, h1]
        dsimp only
        rw [hh]
      | some hp =>
        obtain ⟨g, r', M', h3, h4⟩ := h2
        refine ⟨f + g + 1, r', M', ?_, h4⟩
        rw [jx_run, hc]
        dsimp only
        rw [ho]
        dsimp only
        rw [if_pos hen, jx_mfs g h1]
        dsimp only
        rw [hh]
        dsimp only
        rw [Nat.add_comm f g]
        exact jx_mfs f h3
end JZ
end
section
set_option maxHeartbeats 4000000 in
theorem jx_sound {X : jx_X} {mt : Nat → jx_D} {ml : Nat → Nat} {hs : Nat → List (Nat × Nat × Nat × Nat)} {cd : Nat → Nat → Option jx_O} {l : Launch} (hml : ∀ mi, ml mi = (mt mi).2.2.1) (hhs : ∀ mi, (hs mi).map (fun h => (h.1, h.2.1)) = (mt mi).2.2.2.2.map (fun h => (h.1.1, h.1.2.1)))
    (hS : ∀ mi pc op, cd mi pc = some op → jx_S X mt (mt mi) pc op) (hWd : ∀ w ∈ X.W, jx_mv w) (hGm : ∀ (s U : State), s.WarmedH U.vm → (∀ q : Nat, q < X.H.size → U.heap[q]? = X.H[q]?) → X.G s → X.G U) (hct : ∀ mi, jx_ct X (mt mi) (hs mi)) :
    ∀ (f d mi pc : Nat) (L : jx_L) (st : List Value) (M : jx_M) (r : jx_R) (M' : jx_M), jx_run ml hs cd f d mi pc L st M = some (r, M') →
    ∀ (p : Program) (e : Env) (R : Room) (s : State) (m : MethodId) (args : Array Value) (below : List Frame) (meth : Method) (c : Code), jx_B X (mt mi) p l e R s m args meth c d →
    ∀ (H : Heap) (ls : Array Slot) (locs : List Loc) (cells slots : Nat), jx_I X R (mt mi).2.2.1 M H ls L locs cells slots → W p l e R s m args below meth c H locs cells slots (jx_Q X R below s r M') (F0 m pc ls (st.map (jx_v X))) := by
  intro f
  induction f with
  | zero => intro d mi pc L st M r M' h; cases h
  | succ f ih =>
    intro d mi pc L st M r M' h p e R s m args below meth c B H ls locs cells slots I
    unfold jx_run at h
    split at h
    · cases h
    · rename_i op hop
      have hSop := hS mi pc op hop p l e R s m args below meth c d B L st M
      split at h
      · cases h
      · rename_i pc' L' st' M1 hN
        exact hSop _ hN H ls locs cells slots I _ fun H' ls' locs' cells' slots' I' => ih _ _ _ _ _ _ _ _ h _ _ _ _ _ _ _ _ _ B _ _ _ _ _ I'
      · rename_i r1 M1 hN
        cases h
        exact hSop _ hN H ls locs cells slots I
      · rename_i ce as rest pc' hN
        have hcall := hSop _ hN H ls locs cells slots I
        split at h
        · cases h
        · rename_i d'
          split at h
          · rename_i hen
            intro T hT St
            obtain ⟨vm₁, mk, ig, St1, hnamed, hdec, hpc', hrl, hcc, hgo⟩ := hcall T hT St
            have B0 := B
            obtain ⟨hx, htr, hts, hK, hG, hown, hnm, hb, hmxl, hr, hlk, hex, hRf, hRl, hns, hao, hGs⟩ := B
            obtain ⟨mk', methk, ck, hnamed', hmk, hck, hbk, hlck, hrk, hlkk, hexk, hsigk⟩ := hcc.spec hts
            cases hnamed.symm.trans hnamed'
            have hal : s.vm.Alike vm₁ := St1.warmed.alike
            have hmk1 : (T.setVm vm₁).vm.method? mk = some methk := by
              show vm₁.method? mk = some methk
              rw [hal.method?]
              exact hmk
            have hnamed1 : (T.setVm vm₁).methodNamed? (mt ce).1 = some mk := by
              show (s.setVm vm₁).methodNamed? (mt ce).1 = some mk
              rw [State.methodNamed?_setVm hal]
              exact hnamed
            have hsum : ((rest.map (jx_v X)).map fun v => v.category).sum ≤ 8 := jx_cats (by rw [List.length_map]; exact hrl)
            have hsz : (F0 m pc ls (rest.map (jx_v X))).locals.size = c.maxLocals := by
              show ls.size = c.maxLocals
              rw [I.2.1.1, I.2.2.2.2.2, hmxl]
            have hml30 := hcc.2.2
            have hIr := I.2.2.2
            obtain ⟨Sk, hdo⟩ := St1.into (g := F0 m pc ls (rest.map (jx_v X))) rfl hsz hdec (as.map (jx_v X)).toArray (R' := { frames := R.frames - 1, cells := M.2.2.1, slots := M.2.2.2, locals := R.locals - 50 }) hmk1 hck hlkk (State.plainMethod.of_named hcc.2.1 hnamed1 hmk1) (by show R.frames - 1 + 1 ≤ R.frames; omega) (by show 2 * 0 + ((rest.map (jx_v X)).map fun v => v.category).sum + (ck.maxLocals + 11) + (R.locals - 50) ≤ R.locals; rw [hlck]; omega) (by show cells + M.2.2.1 ≤ R.cells; omega) (by show slots + M.2.2.2 ≤ R.slots; omega)
            generalize hT2 : ((T.setVm vm₁).setTop (F0 m pc ls (rest.map (jx_v X)))).pushFrame (.java (entryFrame mk (as.map (jx_v X)).toArray ck.maxLocals)) = T2 at Sk hdo
            have hT2h : T2.heap = H := by rw [← hT2]; exact hT
            generalize hs' : (T.setVm vm₁).calling (F0 m pc ls (rest.map (jx_v X))) mk (as.map (jx_v X)).toArray = s' at Sk
            have hvm' : s'.vm = vm₁ := by rw [← hs']; rfl
            have hhp' : s'.heap = H := by rw [← hs']; exact hT
            have Bk : jx_B X (mt ce) p l e { frames := R.frames - 1, cells := M.2.2.1, slots := M.2.2.2, locals := R.locals - 50 } s' mk (as.map (jx_v X)).toArray methk ck d' := by
              refine ⟨hx, htr, fun w hw => hWd w hw s s' _ _ (by rw [hvm']; exact St1.warmed) (hts w hw), va_K.moved (by rw [hvm']; exact hal) hK, jx_GL.moved (by rw [hvm']; exact hal) hG, ?_, (name_of_methodNamed hnamed hmk).1, hbk, hlck, hrk, hlkk, hexk, by show d' + 10 ≤ R.frames - 1; omega, by show 50 * d' + 300 ≤ R.locals - 50; omega, fun q cell hq hc => ?_, fun C cA h4 => va_AO.moved (by rw [hvm']; exact hal) (hao C cA h4), hGm s s' (by rw [hvm']; exact St1.warmed) (fun q hq => by rw [hhp']; exact I.1.2.2.2.2.1 q hq) hGs⟩
              · rw [hvm', hal.findClass]
                exact findClass_of_methodNamed hnamed
              · rw [hhp'] at hc
                exact I.1.ns hq hc
            have run : ∀ (rk : jx_R) (Mk : jx_M), jx_run ml hs cd f d' ce 0 (jx_en as (ml ce)) [] M = some (rk, Mk) → ∃ t, Steps p.tables e below (T.setTop (F0 m pc ls (st.map (jx_v X)))) t ∧ jx_Q X { frames := R.frames - 1, cells := M.2.2.1, slots := M.2.2.2, locals := R.locals - 50 } (.java (F0 m pc ls (rest.map (jx_v X))) :: below) s' rk Mk t := by
              intro rk Mk hk
              rw [hml ce] at hk hen
              have hw := ih _ _ _ _ _ _ _ _ hk p e _ s' mk _ (.java (F0 m pc ls (rest.map (jx_v X))) :: below) methk ck Bk H _ [] 0 0 ⟨I.1, jx_lo.entry hen, (fun x hx => by cases hx), by show 0 + M.2.2.1 ≤ M.2.2.1; omega, by show 0 + M.2.2.2 ≤ M.2.2.2; omega, hen⟩
              obtain ⟨t, t1, t2⟩ := hw T2 hT2h Sk
              refine ⟨t, hgo t fun acts => ?_, t2⟩
              rw [hdo acts, hlck, lg_entry_eq]
              exact jx_steps (mid := [.java (F0 m pc ls (rest.map (jx_v X)))]) t1
            subst hpc'
            split at h
            · cases h
            · rename_i v Mk hk
              obtain ⟨t, t1, o, locs', kc, ks, q1, q2, q3, q4, q5, q6, q7, q8, q9⟩ := run _ _ hk
              have q3 : o = .returned (v.map (jx_v X)) := q3
              subst q3
              rw [← hs'] at q5 q6
              obtain ⟨T', St', -, -, ht⟩ := St1.outOf (g := F0 m pc ls (rest.map (jx_v X))) (mk := mk) (a := (as.map (jx_v X)).toArray) (t := t) (v := v.map (jx_v X)) (L := locs') (k := kc) (n := ks) rfl hdec q2 q5 q6
              have hheap : t.heap = T'.heap := by rw [ht]; rfl
              rw [hheap] at q4
              have q8 : kc + Mk.2.2.1 ≤ M.2.2.1 := q8
              have q9 : ks + Mk.2.2.2 ≤ M.2.2.2 := q9
              have hlocs : ∀ x ∈ locs ++ locs', X.H.size ≤ x.base := fun x hx => by
                rcases List.mem_append.mp hx with z | z
                · exact I.2.2.1 x z
                · exact q7 x z
              have hw := ih _ _ _ _ _ _ _ _ h p e R s m args below meth c B0 T'.heap ls (locs ++ locs') (cells + kc) (slots + ks) ⟨q4, I.2.1, hlocs, by omega, by omega, I.2.2.2.2.2⟩
              obtain ⟨t2, z1, z2⟩ := hw T' rfl St'
              refine ⟨t2, t1.trans ?_, z2⟩
              rw [ht]
              have hmap : (v.toList ++ rest).map (jx_v X) = (v.map (jx_v X)).toList ++ rest.map (jx_v X) := by cases v <;> rfl
              rw [hmap] at z1
              exact z1
            · rename_i k Mk hk
              obtain ⟨t, t1, o, locs', kc, ks, q1, q2, q3, q4, q5, q6, q7, q8, q9⟩ := run _ _ hk
              have q3 : o = .threw (jx_ad X k) := q3
              subst q3
              rw [← hs'] at q5 q6
              obtain ⟨T', St', -, -, ht⟩ := St1.outOfThrown (g := F0 m pc ls (rest.map (jx_v X))) (mk := mk) (a := (as.map (jx_v X)).toArray) (t := t) (x := jx_ad X k) (L := locs') (k := kc) (n := ks) rfl q2 q5 q6
              have hheap : t.heap = T'.heap := by rw [ht]; rfl
              rw [hheap] at q4
              have q8 : kc + Mk.2.2.1 ≤ M.2.2.1 := q8
              have q9 : ks + Mk.2.2.2 ≤ M.2.2.2 := q9
              have hlocs : ∀ x ∈ locs ++ locs', X.H.size ≤ x.base := fun x hx => by
                rcases List.mem_append.mp hx with z | z
                · exact I.2.2.1 x z
                · exact q7 x z
              split at h
              · cases h
              · rename_i hp hh
                have hhf : jx_hf pc (jx_cl (Mk.1 k)) (hs mi) = some hp := by
                  unfold jx_hd at hh
                  split at hh
                  · cases hh
                  · obtain ⟨z, z1, z2⟩ := Option.map_eq_some_iff.mp hh
                    cases z2
                    exact z1
                obtain ⟨vm₂, St2, hgo2⟩ := hct mi p l e R s m args below meth c (d' + 1) B0 pc k hp Mk hhf T' _ _ _ ls (rest.map (jx_v X)) St' q4
                have hw := ih _ _ _ _ _ _ _ _ h p e R s m args below meth c B0 T'.heap ls (locs ++ locs') (cells + kc) (slots + ks) ⟨q4, I.2.1, hlocs, by omega, by omega, I.2.2.2.2.2⟩
                obtain ⟨t2, z1, z2⟩ := hw (T'.setVm vm₂) rfl St2
                refine ⟨t2, t1.trans ?_, z2⟩
                rw [ht]
                exact hgo2 _ z1
              · rename_i hh
                cases h
                have hho : jx_ho pc (hs mi) = true := by
                  unfold jx_hd at hh
                  split at hh
                  · rename_i z; exact z
                  · obtain ⟨z, z1, z2⟩ := Option.map_eq_some_iff.mp hh
                    cases z2
                have hout : ∀ x ∈ c.exceptionTable.toList, covers x pc = false := by
                  intro x hx0
                  have z1 : (x.startPc, x.endPc) ∈ (c.exceptionTable.toList.map fun x => (x.startPc, x.endPc, x.handlerPc, x.catchType)).map fun z => (z.1, z.2.1) := by
                    rw [List.map_map]
                    exact List.mem_map.mpr ⟨x, hx0, rfl⟩
                  rw [hex, List.map_map] at z1
                  have z2 : (x.startPc, x.endPc) ∈ (hs mi).map fun h => (h.1, h.2.1) := by
                    rw [hhs mi]
                    exact z1
                  obtain ⟨hd0, z3, z4⟩ := List.mem_map.mp z2
                  have z5 := jx_ho_out hho hd0 z3
                  have z6 : hd0.1 = x.startPc := congrArg Prod.fst z4
                  have z7 : hd0.2.1 = x.endPc := congrArg Prod.snd z4
                  rw [z6, z7] at z5
                  simp only [covers, Bool.and_eq_false_iff, decide_eq_false_iff_not]
                  by_cases z8 : x.startPc ≤ pc
                  · exact Or.inr fun z9 => z5 ⟨z8, z9⟩
                  · exact Or.inl z8
                obtain ⟨hwalk, e1, e2, e3, e4⟩ := St'.leaveThrown (jx_ad X k) (g := F0 m pc ls (rest.map (jx_v X))) rfl rfl rfl hout hlk
                refine ⟨_, t1.trans ?_, .threw (jx_ad X k), locs ++ locs', cells + kc, slots + ks, e1, e2, rfl, q4, e3, e4, hlocs, by omega, by omega⟩
                rw [ht]
                exact hwalk
          · cases h
end
section
/-! COPIES, CONSTANTS, TEXTS -/
theorem jx_adg {X : jx_X} {g : Nat} (h : g < jx_g) : jx_ad X g = X.ga g := by
  unfold jx_ad
  rw [if_pos h]
section JG
variable {X : jx_X} {mt : Nat → jx_D} {md : jx_D} {pc : Nat}
theorem jx_nn {z : Int32} (hz : ¬ z < 0) : z.toInt = (z.toNatClampNeg : Int) := by
  have hz0 : (0 : Int) ≤ z.toInt := by simpa using Int32.le_iff_toInt_le.mp (Int32.not_lt.mp hz)
  show z.toInt = ((z.toInt.toNat : Nat) : Int)
  omega
set_option maxHeartbeats 2000000 in
theorem s_copy {c0 c1 : ClassId} {i : Nat} (hT0 : X.ty[0]? = some (c0, .int)) (hT1 : X.ty[1]? = some (c1, .char)) (hd : decode md.2.1 pc = .ok (.invokestatic i, 3)) (hw1 : (Cond.methodLink md.1.cls i arraycopyName : Cond) ∈ X.W) (hw2 : (Cond.native arraycopyName : Cond) ∈ X.W) (hw3 : (Cond.static arraycopyName : Cond) ∈ X.W) (hw4 : (Cond.initialized "java/lang/System" : Cond) ∈ X.W) : jx_S X mt md pc o_copy := by
  intro p l e R s m args below meth c d B L st M N h H ls locs cells slots I
  obtain ⟨hx, -, hts, hK, hG, hown, -, hb, hml, -, -, -, hRf, hRl, -⟩ := B
  unfold o_copy at h
  split at h
  · split at h
    · rename_i n dp b sp a r _ _ t n0 f t' n1 g ha0 hb0
      split at h
      · rename_i hc
        cases h
        intro Q kk
        obtain ⟨ht, e0, h1, h2, h3, h4, h5, hr⟩ := hc
        subst e0
        have ht9 : t' < 9 := by omega
        obtain ⟨cA, ty, hT, hpr, hfit⟩ : ∃ cA ty, X.ty[t']? = some (cA, ty) ∧ refKind ty = false ∧ ∀ i, i < n.toNatClampNeg → fits ty (.int (f (sp.toNatClampNeg + i))) = true := by
          rcases ht with rfl | ⟨rfl, hall⟩
          · exact ⟨c0, .int, hT0, rfl, fun _ _ => rfl⟩
          · exact ⟨c1, .char, hT1, rfl, fun j hj => List.all_eq_true.mp hall j (List.mem_range.mpr hj)⟩
        obtain ⟨-, -, hPa⟩ := I.1.arr hG ha0 ht9
        obtain ⟨g1, g2, hPb⟩ := I.1.arr hG hb0 ht9
        rw [jx_ty0 hT] at hPa hPb
        have hc0 : H[jx_ad X a]? = some (arrV cA n0 (fun j => .int (f j))) := hPa
        have hc1 : H[jx_ad X b]? = some (arrV cA n1 (fun j => .int (g j))) := hPb
        obtain ⟨-, k0, hk0, cm0, hkk0⟩ := (hK.2 t' _ hT).1 n0 (fun j => .int (f j))
        have hsum : ((r.map (jx_v X)).map fun v => v.category).sum ≤ 8 := jx_cats (by rw [List.length_map]; exact hr)
        have hnw : nativeFrameWords "java/lang/System" "arraycopy" 5 ≤ 200 := by decide +kernel
        intro T hT' St
        obtain ⟨vm', St', step⟩ := St.arraycopy hx hown (hts _ hw1) (hts _ hw2) (hts _ hw3) (hts _ hw4) (src := jx_ad X a) (dst := jx_ad X b) (cs := arrV cA n0 (fun j => .int (f j))) (cd := arrV cA n1 (fun j => .int (g j))) (srcPos := sp) (destPos := dp) (n := n) (by rw [hT']; exact hc0) (by rw [hT']; exact hc1)
          (fun _ h => by cases h) (fun _ h => by cases h) (fun h => by cases h) (fun h => by cases h) hk0 hk0 hkk0 hkk0 (by simp [hpr]) h1 h2 h3
          (by rw [jx_nn h1, jx_nn h3, arrV_size]; omega) (by rw [jx_nn h2, jx_nn h3, arrV_size]; omega)
          (fun vm₁ _ i hi => by
            have e1 : (arrV cA n0 (fun j => .int (f j))).slots.getD (sp.toNatClampNeg + i) .null = .int (f (sp.toNatClampNeg + i)) := by
              rw [Array.getD_eq_getD_getElem?, arrV_read _ _ (by omega)]
              rfl
            rw [e1]
            exact ⟨hfit i hi, trivial⟩)
          (g := F0 m pc ls (.int n :: .int dp :: .ref (jx_ad X b) :: .int sp :: .ref (jx_ad X a) :: r.map (jx_v X))) rfl (by show ls.size = c.maxLocals; rw [I.2.1.1, I.2.2.2.2.2, hml]) (rest := r.map (jx_v X)) rfl (by rw [hb]; exact hd) (by omega) (by show 2 * 0 + _ + _ ≤ _; omega)
        have e1 : copied (arrV cA n0 (fun j => .int (f j))) (arrV cA n1 (fun j => .int (g j))) sp dp n = arrV cA n1 (fun j => .int (va_cpy f g sp.toNatClampNeg dp.toNatClampNeg n.toNatClampNeg j)) := va_copied (fun z => .int z) cA cA f g h4
        rw [e1] at St' step
        have hl : jx_ad X b < H.size := (Array.getElem?_eq_some_iff.mp hc1).1
        have hheap : ((T.setVm vm').setCell (jx_ad X b) (arrV cA n1 (fun j => .int (va_cpy f g sp.toNatClampNeg dp.toNatClampNeg n.toNatClampNeg j)))).heap = H.setIfInBounds (jx_ad X b) (arrV cA n1 (fun j => .int (va_cpy f g sp.toNatClampNeg dp.toNatClampNeg n.toNatClampNeg j))) := by rw [← hT']; rfl
        obtain ⟨t2, a1, b1⟩ := kk _ ls _ cells slots ⟨I.1.set g1 g2 (c := .inl (t', n1, .inl (va_cpy f g sp.toNatClampNeg dp.toNatClampNeg n.toNatClampNeg))) (by show (t' == 9 || t' == 10) = false; simp; omega) (H1 := H.setIfInBounds (jx_ad X b) (arrV cA n1 (fun j => .int (va_cpy f g sp.toNatClampNeg dp.toNatClampNeg n.toNatClampNeg j)))) (by simp) (fun q hq => by simp [Array.getElem?_setIfInBounds, Ne.symm hq]) (by
            show (H.setIfInBounds (jx_ad X b) _)[jx_ad X b]? = some (vp_cell (X.ty.getD t' (0, .int)).1 (n1, .inl (va_cpy f g sp.toNatClampNeg dp.toNatClampNeg n.toNatClampNeg)))
            rw [jx_ty0 hT]
            simp [Array.getElem?_setIfInBounds, hl]
            rfl), I.2.1, (fun x hx0 => by
            rcases List.mem_append.mp hx0 with q | q
            · exact I.2.2.1 x q
            · obtain ⟨z, -, hz⟩ := List.mem_map.mp q
              rw [← hz]
              show X.H.size ≤ jx_ad X b
              rw [jx_ad_ge g1]
              omega), I.2.2.2.1, I.2.2.2.2⟩ _ hheap St'
        exact ⟨t2, step t2 a1, b1⟩
      · cases h
    · cases h
  · cases h
/-- a text that the program has as a constant -/
theorem s_ldcS {i g : Nat} {tx : String} (hd : decode md.2.1 pc = .ok (.ldc i, 2)) (hg : g < jx_g) (hR : ∀ s, X.G s → vk_R md.1.cls i tx (X.ga g) s) : jx_S X mt md pc (o_push (.ref g) 2) := by
  intro p l e R s m args below meth c d B L st M N h H ls locs cells slots I
  cases h
  intro Q k
  obtain ⟨hx, -, hts, -, -, hown, -, hb, -, -, -, -, -, -, -, -, hGs⟩ := B
  have k2 := k _ _ _ _ _ I
  rw [List.map_cons, jx_v_ref, jx_adg hg] at k2
  exact va_ldcS hx hb hown (hR s hGs) hd k2
/-- a static field that keeps its value -/
theorem s_gets {i : Nat} {C n dsc : String} {v : Value} (hd : decode md.2.1 pc = .ok (.getstatic i, 3)) (hw : (Cond.fieldLink md.1.cls i C n dsc : Cond) ∈ X.W) (hZ : ∀ s, X.G s → va_Z C n dsc (jx_v X v) (fun q => X.H.size ≤ q) s X.H) : jx_S X mt md pc (o_push v 3) := by
  intro p l e R s m args below meth c d B L st M N h H ls locs cells slots I
  cases h
  intro Q k
  obtain ⟨hx, -, hts, -, -, hown, -, hb, -, -, -, -, -, -, -, -, hGs⟩ := B
  obtain ⟨cf, kf, fi, f, a, cell, h1, h2, h3, h4, h5, h6, h7, h8⟩ := hZ s hGs
  exact W.gets hx hb hown (hts _ hw) h1 h2 h3 h4 (by rw [I.1.2.2.2.2.1 a (Array.getElem?_eq_some_iff.mp h5).1]; exact h5) (fun e => by rw [e] at h6; cases h6) h7 rfl hd (k _ _ _ _ _ I)
/-- an object that is a constant stands among the constants -/
theorem jx_H.big {X : jx_X} {M : jx_M} {H : Heap} (h : jx_H X M H) {a ci : Nat} {fs : List Value} (ha : M.1 a = .inr (ci, fs)) (hc : X.cl.length ≤ ci) (hc2 : ci < 9999) : a < jx_g ∧ X.gl a = .inr (ci, fs) := by
  obtain ⟨h1, h2, h3, h4, h5, h6⟩ := h
  have g1 : a < jx_g := by
    apply Nat.lt_of_not_le
    intro hge
    by_cases hlt : a < M.2.1
    · have h7 := (h3 a hge hlt).2
      rw [ha] at h7
      obtain ⟨r, hr, -⟩ := h7
      have h8 := (List.getElem?_eq_some_iff.mp hr).1
      have h9 : ci < X.cl.length := h8
      omega
    · have h7 := h4 a (Nat.le_of_not_lt hlt)
      rw [ha] at h7
      have h8 : (ci, fs) = (9999, ([] : List Value)) := Sum.inr.inj h7
      have h9 : ci = 9999 := congrArg Prod.fst h8
      omega
  exact ⟨g1, by rw [← h6 a g1]; exact ha⟩
theorem s_getfS {ci k i : Nat} {o n dsc : String} (hcl : X.cl.length ≤ ci) (hci : ci < 9999) (hd : decode md.2.1 pc = .ok (.getfield i, 3)) (hw : (Cond.fieldLink md.1.cls i o n dsc : Cond) ∈ X.W)
    (hF : ∀ s, X.G s → ∀ (a : Nat) (fs : List Value) (v : Value), a < jx_g → X.gl a = .inr (ci, fs) → fs[k]? = some v → va_OF o n dsc (jx_v X v) (X.ga a) (fun q => X.H.size ≤ q) s X.H) : jx_S X mt md pc (o_getf ci k) := by
  intro p l e R s m args below meth c d B L st M N h H ls locs cells slots I
  obtain ⟨hx, -, hts, hK, hG, hown, -, hb, -, -, -, -, -, -, -, -, hGs⟩ := B
  unfold o_getf at h
  split at h
  · split at h
    · rename_i a r _ c0 fs hcell
      split at h
      · rename_i hc0
        subst hc0
        obtain ⟨v, h1, h2⟩ := Option.map_eq_some_iff.mp h
        cases h2
        intro Q kk
        obtain ⟨g1, g2⟩ := I.1.big hcell hcl hci
        obtain ⟨cf, kf, fi, f, cell, z1, z2, z3, z4, z5, z6⟩ := hF s hGs a fs v g1 g2 h1
        show W p l e R s m args below meth c H locs cells slots Q (F0 m pc ls (.ref (jx_ad X a) :: r.map (jx_v X)))
        rw [jx_adg g1]
        exact W.getf hx hb hown (hts _ hw) z1 z2 (by rw [I.1.2.2.2.2.1 _ (Array.getElem?_eq_some_iff.mp z3).1]; exact z3) z4 (v := jx_v X v) z5 rfl rfl hd (kk _ _ _ _ _ I)
      · cases h
    · cases h
  · cases h
theorem s_callvS {ce n i ci : Nat} {C : String} (hcl : X.cl.length ≤ ci) (hci : ci < 9999) (hO : ∀ s, X.G s → ∀ (a : Nat) (fs : List Value), a < jx_g → X.gl a = .inr (ci, fs) → va_O C (X.ga a) (fun q => X.H.size ≤ q) s X.H) (hc : jx_c X (mt ce)) (hd : decode md.2.1 pc = .ok (.invokevirtual i, 3)) (hw1 : (Cond.methodLink md.1.cls i (mt ce).1 : Cond) ∈ X.W) (hw2 : (Cond.instanceMethod (mt ce).1 : Cond) ∈ X.W) (hw3 : (Cond.selects C (mt ce).1 (mt ce).1 : Cond) ∈ X.W)
    (hm : (mt ce).1.cls ≠ "java/lang/invoke/MethodHandle" ∧ (mt ce).1.cls ≠ "java/lang/invoke/VarHandle") (hn : (parseMethodDescriptor (mt ce).1.desc).map (fun d => d.parameters.length) = some n) : jx_S X mt md pc (o_callv ci ce n) := by
  intro p l e R s m args below meth c d B L st M N0 h H ls locs cells slots I
  obtain ⟨hx, -, hts, hK, hG, hown, -, hb, -, -, -, -, -, -, -, -, hGs⟩ := B
  unfold o_callv at h
  split at h
  · rename_i hlen
    split at h
    · rename_i a ha
      split at h
      · rename_i c0 fs hcell
        split at h
        · rename_i e0
          subst e0
          cases h
          intro T hT St
          obtain ⟨g1, g2⟩ := I.1.big hcell hcl hci
          obtain ⟨cellB, hcB, hoB, hclB, -⟩ := hO s hGs a fs g1 g2
          have hcB : H[jx_ad X a]? = some cellB := by
            rw [jx_adg g1, I.1.2.2.2.2.1 _ (Array.getElem?_eq_some_iff.mp hcB).1]
            exact hcB
          obtain ⟨q1, q2⟩ := jx_cut1 hlen.1 ha
          obtain ⟨mk, methM, cM, hnamed, hmethM, -, -, -, -, -, -, hsigM⟩ := hc.spec hts
          obtain ⟨mk', methM', hnamed', hmethM', hstM, habM⟩ := Cond.instanceMethod_spec (hts _ hw2)
          cases hnamed.symm.trans hnamed'
          cases hmethM.symm.trans hmethM'
          obtain ⟨c2, r2, m2, z1, z2, z3, z4, kP, hkP, hkPi⟩ := Cond.selects_spec (hts _ hw3)
          cases hclB.symm.trans z1
          cases (State.methodFound?_of_named hnamed hm).symm.trans z2
          cases hnamed.symm.trans z3
          have hselP : selectMethod e.platform s.vm cellB.cls mk = .method mk := by rw [Launch.admits_selectMethod St.admits]; exact z4
          have hln : (((st.take n).reverse).map (jx_v X)).length = methM.sig.parameters.length := by
            rw [hsigM] at hn
            have h2 : methM.sig.parameters.length = n := Option.some.inj hn
            rw [h2, List.length_map, List.length_reverse, List.length_take]
            omega
          have hst : (F0 m pc ls (st.map (jx_v X))).stack = (((st.take n).reverse).map (jx_v X)).reverse ++ .ref (jx_ad X a) :: (st.drop (n + 1)).map (jx_v X) := by
            show st.map (jx_v X) = _
            rw [List.map_reverse, List.reverse_reverse]
            conv => lhs; rw [q2]
            rw [List.map_append]
            rfl
          obtain ⟨vm₁, X₁, st₁⟩ := St.invokevirtual hx hown (hts _ hw1) hnamed hmethM hstM hkP hkPi hm (a := jx_ad X a) (cell := cellB) (by rw [hT]; exact hcB) (fun z h => by rw [h] at hoB; cases hoB) hselP hmethM habM hkP hkPi (g := F0 m pc ls (st.map (jx_v X))) rfl hln hst (by rw [hb]; exact hd)
          refine ⟨vm₁, mk, _, X₁, hnamed, by rw [hb]; exact hd, rfl, by rw [List.length_drop]; omega, hc, fun tg ht => st₁ tg fun acts => ?_⟩
          have h9 := ht acts
          rw [q1] at h9
          exact h9
        · cases h
      · cases h
    · cases h
  · cases h
end JG
end
section
/-! EXCEPTIONS: MADE AND THROWN, CAUGHT -/
/-- the same place, seen from the state that stands there: nothing has been written or made since -/
theorem jx_rebase {p : Program} {l : Launch} {e : Env} {R : Room} {s : State} {m : MethodId} {args : Array Value} {below : List Frame} {meth : Method} {c : Code} {T : State} {locs : List Loc} {cells slots kc ks : Nat} (X : Stand p l e R s m args below meth c T locs cells slots) (hc : cells + kc ≤ R.cells) (hs : slots + ks ≤ R.slots) :
    Stand p l e { frames := R.frames, cells := kc, slots := ks, locals := R.locals } (T.setFrames (.invoking m args :: below)) m args below meth c T [] 0 0 := by
  obtain ⟨g₀, hfr⟩ := X.frames_eq
  have hcurT : T.cur < T.threads.size := State.cur_lt_of_frames hfr
  have hcur : (T.setFrames (.invoking m args :: below)).cur < (T.setFrames (.invoking m args :: below)).threads.size := by simpa [State.setFrames] using hcurT
  have hf : (T.setFrames (.invoking m args :: below)).frames = .invoking m args :: below := State.frames_setFrames _ hcurT
  have hm : (T.setFrames (.invoking m args :: below)).vm.method? m = some meth := X.method'
  obtain ⟨t, ht, -⟩ := State.frames_cons hf
  obtain ⟨t₀, ht₀, -⟩ := State.frames_cons hfr
  obtain ⟨hh1, hh2⟩ := X.heapHas hc hs
  have hlim : e.platform.stackLimits (T.setFrames (.invoking m args :: below)).me = e.platform.stackLimits s.me := by rw [State.stackLimits_setFrames]; exact X.limits
  have hby : (T.setFrames (.invoking m args :: below)).me.stackBytes = s.me.stackBytes := by rw [State.stackBytes_setFrames]; exact X.bytes
  have hloc : (T.setFrames (.invoking m args :: below)).localsInUse = s.localsInUse := by
    rw [State.localsInUse_invoking hf hm X.code, State.localsInUse_invoking X.frames X.method X.code]
  refine ⟨X.admits, X.cas, X.clock, hf, ?_, ?_, hm, X.code, X.here, X.tail, State.WarmedH.refl _, ?_, ?_, ?_⟩
  · have hr := X.room
    simp only [State.hasRoom, Bool.and_eq_true, decide_eq_true_eq] at hr ⊢
    obtain ⟨⟨⟨⟨r1, r2⟩, r3⟩, r4⟩, r5⟩ := hr
    refine ⟨⟨⟨⟨?_, ?_⟩, ?_⟩, ?_⟩, ?_⟩
    · rw [hloc]; exact r1
    · rw [hloc, hlim, hby, hf]
      rw [X.frames] at r2
      exact r2
    · exact hh1
    · exact hh2
    · exact X.book
  · have h1 := X.hears
    have hcode : ∀ mm, (T.setFrames (.invoking m args :: below)).code? mm = s.code? mm := by
      intro mm
      rw [State.code?_eq, State.code?_eq]
      show (T.vm.method? mm).bind _ = _
      rw [X.warmed.alike.method?]
    cases below with
    | nil =>
      unfold State.hears at h1 ⊢
      show (T.vm.method? m).any _ = true
      rw [X.warmed.alike.method?]
      exact h1
    | cons f r =>
      cases f <;> first
        | (unfold State.hears at h1 ⊢; dsimp only at h1 ⊢; rw [hcode]; exact h1)
        | (unfold State.hears at h1 ⊢; exact h1)
        | (unfold State.hears at h1 ⊢; dsimp only at h1 ⊢; show (T.vm.method? m).any _ = true; rw [X.warmed.alike.method?]; exact h1)
  · rw [State.stackLimits_setFrames]
  · rw [State.stackBytes_setFrames]
  · have h := (State.sameButNew.refl (T.setFrames (.invoking m args :: below)) ht).setFrames T.frames hcur
    rw [State.setFrames_setFrames, State.setFrames_self ht₀] at h
    exact h
section JTh
variable {X : jx_X} {mt : Nat → jx_D} {md : jx_D} {pc : Nat}
set_option maxHeartbeats 4000000 in
theorem s_thr {ci i j ic : Nat} {C tx : String} {T : u_T} {names : List String} (hcl : X.cl[ci]? = some (C, T, 0)) (hWd : ∀ w ∈ X.W, jx_mv w) (hGm : ∀ (s U : State), s.WarmedH U.vm → (∀ q : Nat, q < X.H.size → U.heap[q]? = X.H[q]?) → X.G s → X.G U)
    (hd0 : decode md.2.1 pc = .ok (.new i, 3)) (hd1 : decode md.2.1 (pc + 3) = .ok (.dup, 1)) (hd2 : decode md.2.1 (pc + 4) = .ok (.ldc j, 2)) (hd3 : decode md.2.1 (pc + 6) = .ok (.invokespecial ic, 3)) (hd4 : decode md.2.1 (pc + 9) = .ok (.athrow, 1))
    (hw1 : (Cond.classLink md.1.cls i C : Cond) ∈ X.W) (hw2 : (Cond.instantiable C 6 : Cond) ∈ X.W) (hw3 : (Cond.initialized C : Cond) ∈ X.W)
    (hR : ∀ s, X.G s → ∃ q, vk_R md.1.cls j tx q s) (hA : ∀ (s : State) (args : Array Value), X.G s → (∀ w ∈ X.W, w.before args s = true) → ∀ a ∈ Bundle.ownAtoms md.1.cls ic C names, a.before args s = true)
    (hfit : Bundle.fit C = true) (hnames : ∀ n ∈ names, Bundle.fit n = true) (hnl : names.length ≤ 2) (hh : md.2.2.2.2 = []) : jx_S X mt md pc (o_thr ci) := by
  intro p l e R s m args below meth c d B L st M N h H ls locs cells slots I
  obtain ⟨hx, htr, hts, hK, hG, hown, hnm, hb, hmxl, hr, hlk, hex, hRf, hRl, hns, hao, hGs⟩ := B
  unfold o_thr at h
  split at h
  case isFalse => cases h
  rename_i hstl
  obtain ⟨M', h1, h2⟩ := Option.map_eq_some_iff.mp h
  cases h2
  have hroom : 1 ≤ M.2.2.1 ∧ 6 ≤ M.2.2.2 := by
    unfold jx_pu at h1
    split at h1
    · rename_i hr; exact hr
    · cases h1
  have hI := I.2.2.2
  have hI3 : slots + M.2.2.2 ≤ R.slots := I.2.2.2.2.1
  show W p l e R s m args below meth c H locs cells slots (jx_Q X R below s (.inr M.2.1) M') (F0 m pc ls (st.map (jx_v X)))
  intro T0 hT0 St0
  have St' := jx_rebase (kc := 1) (ks := 6) St0 (by omega) (by omega)
  generalize hs' : T0.setFrames (.invoking m args :: below) = s' at St'
  have hvm' : s'.vm = T0.vm := by rw [← hs']; rfl
  have hhp' : s'.heap = H := by rw [← hs']; exact hT0
  have hal : s.vm.Alike T0.vm := St0.warmed.alike
  have hts' : ∀ w ∈ X.W, w.before args s' = true := fun w hw => hWd w hw s s' _ _ (by rw [hvm']; exact St0.warmed) (hts w hw)
  have hown' : s'.vm.findClass md.1.cls = some m.cls := by rw [hvm', hal.findClass]; exact hown
  have hGs' : X.G s' := hGm s s' (by rw [hvm']; exact St0.warmed) (fun q hq => by rw [hhp']; exact I.1.2.2.2.2.1 q hq) hGs
  have hK' : va_K X.D X.cl X.ty s' := va_K.moved (by rw [hvm']; exact hal) hK
  have hKn := hK'.1 ci _ hcl
  obtain ⟨q, hq⟩ := hR s' hGs'
  have hsum : ((st.map (jx_v X)).map fun v => v.category).sum ≤ 8 := jx_cats (by rw [List.length_map]; exact hstl)
  have hsz : ls.size = c.maxLocals := by rw [I.2.1.1, I.2.2.2.2.2, hmxl]
  have hout : ∀ x ∈ c.exceptionTable.toList, covers x (pc + 9) = false := by
    rw [hh] at hex
    intro x hx0
    rw [List.map_eq_nil_iff.mp hex] at hx0
    cases hx0
  have key : W p l e { frames := R.frames, cells := 1, slots := 6, locals := R.locals } s' m args below meth c H [] 0 0 (fun U => U.status = .running ∧ Ended U below (.threw H.size) ∧ s'.WarmedH U.vm ∧ s'.sameButNew ({ U with vm := s'.vm } : State) [] 1 6 ∧ ∃ ce, U.heap[H.size]? = some ce ∧ Bundle.OwnCell args s' C H.size (.ref q) ce) (F0 m pc ls (st.map (jx_v X))) := by
    refine W.newcK hx hb hown' (hts' _ hw1) (hts' _ hw2) (hts' _ hw3) rfl hd0 (by show 0 + 1 ≤ 1; omega) (by show 0 + 6 ≤ 6; omega) hKn.2.1 rfl fun H1 kC hkC e1 z1 o1 => ?_
    refine lv_dup hx hb hd1 rfl ?_
    refine va_ldcS hx hb hown' hq hd2 ?_
    intro T hT St
    obtain ⟨U, u1, u2, u3, u4, u5, ce, u6, u7⟩ := St.ctorThrowS hx htr (own := md.1.cls) (cls := C) (names := names) (ic := ic) hown' hfit hnames (hA s' args hGs' hts') (fun x hx => by cases hx) (a := H.size) hKn.2.1 hkC (by rw [hT]; exact e1) (by rw [hhp']; exact Nat.le_refl _) (msg := .ref q) rfl
      (g := F0 m (pc + 3 + 1 + 2) ls (.ref q :: .ref H.size :: .ref H.size :: st.map (jx_v X))) rfl hsz rfl rfl (rest := st.map (jx_v X)) rfl (by rw [hb]; exact hd3) (by rw [hb]; exact hd4) hout (by show names.length + 3 < R.frames; omega) (by
        show 2 * 0 + (1 + ((st.map (jx_v X)).map fun v => v.category).sum) + (13 * (names.length + 1) + 42) ≤ R.locals
        omega) hlk
    exact ⟨U, u1, u2, u3, u4, u5, ce, u6, u7⟩
  obtain ⟨U, u1, u2, u3, u4, u5, ce, u6, u7⟩ := key T0 hT0 St'
  have u5' : T0.sameButNew ({ U with vm := T0.vm } : State) [] 1 6 := by
    rw [← hs'] at u5
    obtain ⟨e1, rest⟩ := u5
    refine ⟨?_, rest⟩
    rw [State.setFrames_setFrames] at e1
    exact e1
  have hn : jx_ad X M.2.1 = H.size := by
    have g1 := I.1.1
    have g2 := I.1.2.1
    rw [jx_ad_ge g1]
    omega
  have hlt : H.size < U.heap.size := (Array.getElem?_eq_some_iff.mp u6).1
  have hle : U.heap.size ≤ T0.heap.size + 1 := u5'.2.2.1
  rw [hT0] at hle
  have hold : ∀ z : Nat, z < H.size → U.heap[z]? = H[z]? := by
    intro z hz
    have h3 : T0.heap[z]? = some H[z] := by rw [hT0]; exact Array.getElem?_eq_getElem hz
    obtain ⟨c', c1, c2, c3, c4⟩ := u5'.2.2.2.2.2 z _ h3
    have c1 : U.heap[z]? = some c' := c1
    rw [c1, Array.getElem?_eq_getElem hz]
    congr 1
    rw [c2]
    have hsl : c'.slots = H[z].slots := by
      apply Array.ext_getElem?
      intro k
      exact c4 k (by simp)
    rw [hsl]
  obtain ⟨p1, p2, p3, p4, p5, p6⟩ := I.1.push h1 rfl (by omega) hold (by
    refine ⟨_, hcl, ce, u6, ?_, u7.vm, fun k hk => by cases hk⟩
    exact Option.some.inj (u7.cls.symm.trans hKn.2.1))
  refine ⟨U, u1, .threw (jx_ad X M.2.1), locs, cells + 1, slots + 6, u2, by rw [hn]; exact u3, rfl, p1, ?_, ?_, I.2.2.1, by omega, by omega⟩
  · rw [← hs'] at u4
    exact State.WarmedH.trans St0.warmed u4
  · have h9 := St0.same.trans (u5'.setVm s.vm)
    rw [List.append_nil] at h9
    exact h9
end JTh
/-! a handler is looked for: the catch types may not be resolved yet -/
theorem jx_go_cold {E : CtlPost} {e : Env} {d : Bool} {acts : List Action} {s : State} {f : JFrame} {a : Addr} {Q : Handler → Pre} {x : ExceptionTableEntry} {t : List ExceptionTableEntry} {c : ClassId} {cell : Cell} {vm' : Vm} (hx : covers x f.pc = true) (h0 : x.catchType ≠ 0)
    (hg : (Jvm.resolveClass f.method.cls x.catchType).Gives e.toSetting s.vm (.ok c) vm') (hsz : vm'.classes.size ≤ s.vm.classes.size) (hcell : s.heap[a]? = some cell) (hobj : ∀ k, cell.vm ≠ .statics k)
    (hk : ∃ k, vm'.classes[cell.cls]? = some k) (hc : ∃ k, vm'.classes[c]? = some k) :
    wp (findHandler.go f a (x :: t)) Q E e d acts s ↔
      if vm'.assignable cell.cls c = true then Q (.found x.handlerPc) d acts (s.setVm vm') else wp (findHandler.go f a t) Q E e d acts (s.setVm vm') := by
  simp only [covers] at hx
  obtain ⟨ha, ht⟩ := hg.op (op := VmOp.resolveClass f.method.cls x.catchType) rfl
  cases hfit : vm'.assignable cell.cls c <;>
    simp [findHandler.go, hx, h0, ha, ht, hsz, hcell, hobj, hk, hc, hfit, VmOp.dirties, VmOp.acts]
theorem jx_stepc {e : Env} {s s' : State} {a : Addr} {f : JFrame} {r : List Frame} {pc : Nat} (hfind : ∀ (Q : Handler → Pre) (E : CtlPost) (d : Bool) (acts : List Action), wp (findHandler f a) Q E e d acts s ↔ Q (.found pc) d acts s') :
    (stepThrowing e s a (.java f :: r)).Is (s'.setFrames (.java { f with pc := pc, stack := [.ref a] } :: r)) [] := by
  simp only [stepThrowing, searchFrame, vmDo]
  generalize hr : Sem.go _ e false [] s = res
  obtain ⟨as, rfl, ha⟩ := Sem.eq_ok_of hr (a := Handler.found pc) (s' := s') (acts' := []) (by simp [hfind _ _ _ _])
  exact ⟨rfl, ha⟩
theorem jx_caught {tb : Tables} {e : Env} {s target : State} {g : JFrame} {c : Code} {below : List Frame} {a : Addr} {vm₁ : Vm} (h : At s g.method c below) {pc : Nat}
    (hfind : ∀ (Q : Handler → Pre) (E : CtlPost) (d : Bool) (acts : List Action), wp (findHandler g a) Q E e d acts ((s.setTop g).pushFrame (.throwing a)) ↔ Q (.found pc) d acts (((s.setTop g).pushFrame (.throwing a)).setVm vm₁))
    (hrest : Steps tb e below ((s.setVm vm₁).setTop { g with pc := pc, stack := [.ref a] }) target) : Steps tb e below ((s.setTop g).pushFrame (.throwing a)) target := by
  obtain ⟨hgo, hw⟩ := h.throwing a
  refine Steps.head hgo hw ?_
  rw [stepThread_throwing (frames_entered h.top _), (jx_stepc hfind).1]
  obtain ⟨g₀, hg⟩ := Option.isSome_iff_exists.mp h.top
  obtain ⟨r, hr⟩ := State.topJava?_eq_some.mp hg
  have hr' : (s.setVm vm₁).frames = .java g₀ :: r := hr
  rw [State.setTop_of_frames _ hr'] at hrest
  have he : (((s.setTop g).pushFrame (.throwing a)).setVm vm₁).setFrames (.java { g with pc := pc, stack := [.ref a] } :: s.frames.tail) = (s.setVm vm₁).setFrames (.java { g with pc := pc, stack := [.ref a] } :: r) := by
    rw [State.pushFrame, State.setTop_of_frames _ hr, State.setFrames_setFrames, hr]
    show (((s.setFrames _).setVm vm₁).setFrames _) = _
    exact State.setFrames_setFrames (s.setVm vm₁) _ _
  rw [he]
  exact hrest
theorem jx_search {e : Env} {S s : State} {f : JFrame} {a : Addr} {cell : Cell} {pc cx hp : Nat} {dc : Nat → ClassId} (hpc : f.pc = pc) (hcell : S.heap[a]? = some cell) (hobj : ∀ k, cell.vm ≠ .statics k) (hkc : ∃ k, s.vm.classes[cell.cls]? = some k)
    (hyes : s.vm.assignable cell.cls (dc cx) = true) : ∀ (HL : List ((Nat × Nat × Nat × Nat) × Nat)) (xs : List ExceptionTableEntry), xs.map (fun x => (x.startPc, x.endPc, x.handlerPc, x.catchType)) = HL.map (fun q => q.1) →
    (∀ q ∈ HL, q.1.2.2.2 ≠ 0 ∧ s.vm.ClassLinks e.platform f.method.cls q.1.2.2.2 (dc q.2) ∧ (∃ k, s.vm.classes[dc q.2]? = some k) ∧ (q.2 ≠ cx → s.vm.assignable cell.cls (dc q.2) = false)) →
    jx_hf pc cx (HL.map fun q => (q.1.1, q.1.2.1, q.1.2.2.1, q.2)) = some hp →
    ∀ vm : Vm, s.WarmedH vm → ∃ vm' : Vm, s.WarmedH vm' ∧ ∀ (Q : Handler → Pre) (E : CtlPost) (d : Bool) (acts : List Action), wp (findHandler.go f a xs) Q E e d acts (S.setVm vm) ↔ Q (.found hp) d acts (S.setVm vm')
  | [], _, _, _, h => by cases h
  | q :: HL, [], h, _, _ => by cases h
  | q :: HL, x :: xs, hm, hall, hf => by
    intro vm hW
    rw [List.map_cons, List.map_cons] at hm
    obtain ⟨hm1, hm2⟩ := List.cons.inj hm
    obtain ⟨q0, q1, q2, q3⟩ := hall q List.mem_cons_self
    have e1 : x.startPc = q.1.1 := congrArg Prod.fst hm1
    have e2 : x.endPc = q.1.2.1 := congrArg (fun z => z.2.1) hm1
    have e3 : x.handlerPc = q.1.2.2.1 := congrArg (fun z => z.2.2.1) hm1
    have e4 : x.catchType = q.1.2.2.2 := congrArg (fun z => z.2.2.2) hm1
    have ih := jx_search (hp := hp) hpc hcell hobj hkc hyes HL xs hm2 (fun z hz => hall z (List.mem_cons_of_mem _ hz))
    rw [List.map_cons] at hf
    unfold jx_hf at hf
    by_cases hcov : covers x f.pc = true
    · have hcv : q.1.1 ≤ pc ∧ pc < q.1.2.1 := by
        simp only [covers, Bool.and_eq_true, decide_eq_true_eq] at hcov
        rw [← e1, ← e2, ← hpc]
        exact hcov
      obtain ⟨hg₁, hwarm₁, hready₁⟩ := State.classEntry (e := e) hW q1
      have hal : s.vm.Alike (vm.noted f.method.cls q.1.2.2.2 (.cls (dc q.2))) := hwarm₁.alike
      have hsz : (vm.noted f.method.cls q.1.2.2.2 (.cls (dc q.2))).classes.size ≤ vm.classes.size := by simp [Vm.noted]
      generalize vm.noted f.method.cls q.1.2.2.2 (.cls (dc q.2)) = vm₁ at hg₁ hwarm₁ hready₁ hal hsz
      have hgo : ∀ (Q : Handler → Pre) (E : CtlPost) (d : Bool) (acts : List Action), wp (findHandler.go f a (x :: xs)) Q E e d acts (S.setVm vm) ↔ if vm₁.assignable cell.cls (dc q.2) = true then Q (.found x.handlerPc) d acts (S.setVm vm₁) else wp (findHandler.go f a xs) Q E e d acts (S.setVm vm₁) := by
        intro Q E d acts
        refine jx_go_cold (s := S.setVm vm) (vm' := vm₁) hcov (by rw [e4]; exact q0) (by rw [e4]; exact hg₁) hsz hcell hobj ?_ ?_
        · obtain ⟨k, hk⟩ := hkc
          obtain ⟨k', hk', -⟩ := hal.2.2 _ _ hk
          exact ⟨k', hk'⟩
        · obtain ⟨k, hk⟩ := q2
          obtain ⟨k', hk', -⟩ := hal.2.2 _ _ hk
          exact ⟨k', hk'⟩
      by_cases hcx : q.2 = cx
      · rw [if_pos ⟨hcv.1, hcv.2, hcx⟩] at hf
        have hp0 : q.1.2.2.1 = hp := Option.some.inj hf
        refine ⟨vm₁, hwarm₁, fun Q E d acts => ?_⟩
        rw [hgo, if_pos (by rw [hal.assignable, hcx]; exact hyes), e3, hp0]
      · rw [if_neg (fun z => hcx z.2.2)] at hf
        obtain ⟨vm', w1, w2⟩ := ih hf vm₁ hwarm₁
        refine ⟨vm', w1, fun Q E d acts => ?_⟩
        rw [hgo, if_neg (by rw [hal.assignable, q3 hcx]; decide)]
        exact w2 Q E d acts
    · have hcov : covers x f.pc = false := by simpa using hcov
      have hncv : ¬ (q.1.1 ≤ pc ∧ pc < q.1.2.1 ∧ q.2 = cx) := by
        intro z
        simp only [covers, Bool.and_eq_false_iff, decide_eq_false_iff_not] at hcov
        rw [e1, e2, hpc] at hcov
        rcases hcov with h | h
        · exact h z.1
        · exact h z.2.1
      rw [if_neg hncv] at hf
      obtain ⟨vm', w1, w2⟩ := ih hf vm hW
      refine ⟨vm', w1, fun Q E d acts => ?_⟩
      rw [W.findHandler_go_skip hcov]
      exact w2 Q E d acts
theorem jx_hf_mem {pc ci hp : Nat} : ∀ {hs : List (Nat × Nat × Nat × Nat)}, jx_hf pc ci hs = some hp → ∃ h ∈ hs, h.2.2.2 = ci
  | [], h => by cases h
  | a :: t, h => by
    unfold jx_hf at h
    split at h
    · rename_i hc
      exact ⟨a, List.mem_cons_self, hc.2.2⟩
    · obtain ⟨z, h1, h2⟩ := jx_hf_mem h
      exact ⟨z, List.mem_cons_of_mem _ h1, h2⟩
theorem jx_ct_of {X : jx_X} {md : jx_D} (HL : List ((Nat × Nat × Nat × Nat) × String × Nat)) (hmd : md.2.2.2.2 = HL.map fun q => (q.1, q.2.1))
    (hq : ∀ q ∈ HL, q.1.2.2.2 ≠ 0 ∧ (Cond.classLink md.1.cls q.1.2.2.2 q.2.1 : Cond) ∈ X.W ∧ q.2.2 < 100 ∧ ∃ T, X.cl[q.2.2]? = some (q.2.1, T, 0))
    (hno : ∀ s, X.G s → ∀ q ∈ HL, ∀ q' ∈ HL, q.2.2 ≠ q'.2.2 → ∀ c c', s.vm.findClass q.2.1 = some c → s.vm.findClass q'.2.1 = some c' → s.vm.assignable c c' = false) : jx_ct X md (HL.map fun q => (q.1.1, q.1.2.1, q.1.2.2.1, q.2.2)) := by
  intro p l e R s m args below meth c d B pc k hp M hf T locs cells slots ls st St hH
  obtain ⟨hx, htr, hts, hK, hG, hown, hnm, hb, hmxl, hr, hlk, hex, hRf, hRl, hns, hao, hGs⟩ := B
  have hpl : e.platform.magicAccessors = ({} : Platform).magicAccessors := by rw [St.admits.platform]
  obtain ⟨h0, hm0, hc0⟩ := jx_hf_mem hf
  obtain ⟨q0, hq0, hqe⟩ := List.mem_map.mp hm0
  obtain ⟨a1, a2, a3, T0, a4⟩ := hq q0 hq0
  have hci : q0.2.2 = jx_cl (M.1 k) := by rw [← hc0, ← hqe]
  obtain ⟨fs, hM⟩ : ∃ fs, M.1 k = .inr (q0.2.2, fs) := by
    cases hM : M.1 k with
    | inl z => rw [hM] at hci; have h9 : q0.2.2 = 9999 := hci; omega
    | inr z =>
      rw [hM] at hci
      have h9 : q0.2.2 = z.1 := hci
      exact ⟨z.2, by rw [h9]⟩
  obtain ⟨-, -, r, hr0, cell, c1, c2, c3, -⟩ := hH.obj hG hM a3
  have hcA := (hK.1 q0.2.2 _ a4).2
  obtain ⟨kC, hkC, hkd⟩ := id hcA.2
  have hcls : ∀ q ∈ HL, s.vm.findClass q.2.1 = some (X.D.1 q.2.2) := fun q hqm => by
    obtain ⟨-, -, -, T1, b4⟩ := hq q hqm
    exact (hK.1 q.2.2 _ b4).2.1
  obtain ⟨vm', w1, w2⟩ := jx_search (e := e) (S := (T.setTop (F0 m pc ls st)).pushFrame (.throwing (jx_ad X k))) (s := s) (f := F0 m pc ls st) (a := jx_ad X k) (cell := cell) (pc := pc) (cx := q0.2.2) (hp := hp) (dc := X.D.1) rfl c1 (fun z hz => by rw [c3] at hz; cases hz) ⟨kC, by rw [c2]; exact hkC⟩ (by rw [c2]; exact va_assign hcA)
    (HL.map fun q => (q.1, q.2.2)) c.exceptionTable.toList (by
      rw [hex, hmd, List.map_map, List.map_map]
      rfl) (fun z hz => by
      obtain ⟨q, hqm, rfl⟩ := List.mem_map.mp hz
      obtain ⟨b1, b2, b3, T1, b4⟩ := hq q hqm
      obtain ⟨cc, hcc, hlk2⟩ := Cond.classLink_spec hown (hts _ b2) e.platform hpl
      cases hcc.symm.trans (hcls q hqm)
      obtain ⟨kq, hkq, -⟩ := (hK.1 q.2.2 _ b4).2.2
      refine ⟨b1, hlk2, ⟨kq, hkq⟩, fun hne => ?_⟩
      rw [c2]
      exact hno s hGs q0 hq0 q hqm (fun h => hne h.symm) _ _ hcA.1 (hcls q hqm)) (by
      rw [List.map_map]
      rw [← hci] at hf
      exact hf) T.vm St.warmed
  refine ⟨vm', St.noted w1, fun target h => ?_⟩
  refine jx_caught (vm₁ := vm') (g := F0 m pc ls st) St.here (pc := hp) (fun Q E d acts => ?_) h
  rw [W.findHandler_eq (meth := meth) (code := c) St.method' St.code]
  exact w2 Q E d acts
end
section
/-! WHAT ELSE THE START GIVES: statics, texts, which exception is no other -/
/-- a static field, its cell as it is in the heap H0 -/
def jx_sf (C n d : String) (v : Value) (H0 : Heap) (U : State) : Prop := ∃ (c : ClassId) (k : Class) (i : Nat) (f : Field) (a : Nat) (cell : Cell), U.vm.findClass C = some c ∧ U.fieldFound? C n d = some (c, k, i, f) ∧ f.isStatic = true ∧ k.init = .initialized ∧ k.statics = some a ∧ H0[a]? = some cell ∧ cell.vm.isStatics = true ∧ cell.cls = c ∧ f.slot < cell.slots.size ∧ k.staticTypes[f.slot]? = some f.type ∧ cell.slots[f.slot]? = some v
theorem jx_sf.moved {C n d : String} {v : Value} {H0 : Heap} {u U : State} (hvm : u.vm.Alike U.vm) (h : jx_sf C n d v H0 u) : jx_sf C n d v H0 U := by
  obtain ⟨c, k, i, f, a, cell, h0, h1, h2, h3, h4, h5, h6, h7, h8, h9, h10⟩ := h
  obtain ⟨k', hi', he⟩ := State.fieldFound?_setVm hvm h1
  exact ⟨c, k', i, f, a, cell, by rw [hvm.findClass]; exact h0, hi', h2, by rw [he]; exact h3, by rw [he]; exact h4, h5, h6, h7, h8, by rw [he]; exact h9, h10⟩
theorem jx_sf.Z {C n d : String} {v : Value} {H0 : Heap} {U : State} (h : jx_sf C n d v H0 U) : va_Z C n d v (fun q => H0.size ≤ q) U H0 := by
  obtain ⟨c, k, i, f, a, cell, h0, h1, h2, h3, h4, h5, h6, h7, h8, h9, h10⟩ := h
  exact ⟨c, k, i, f, a, cell, h1, h2, h3, h4, h5, h6, h10, fun q => by have := (Array.getElem?_eq_some_iff.mp h5).1; have q : H0.size ≤ a := q; omega⟩
theorem jx_sf.ls {C n d : String} {v : Value} {H0 : Heap} {U : State} {args : Array Value} (h : jx_sf C n d v H0 U) (hq : ∀ q : Nat, q < H0.size → U.heap[q]? = H0[q]?) : (Cond.laysStatic C n d).before args U = true := by
  obtain ⟨c, k, i, f, a, cell, h0, h1, h2, h3, h4, h5, h6, h7, h8, h9, h10⟩ := h
  have h5' : U.heap[a]? = some cell := by rw [hq a (Array.getElem?_eq_some_iff.mp h5).1]; exact h5
  simp [Cond.before, Cond.holds, Cond.value, h0, h1, h2, h4, h5', h6, h7, h8, h9]
theorem jx_sf.ir {C n d : String} {v : Value} {H0 : Heap} {U : State} {args : Array Value} (h : jx_sf C n d v H0 U) (hv : v.isRef = true) (hq : ∀ q : Nat, q < H0.size → U.heap[q]? = H0[q]?) : (Cond.isRef (.static C n d)).before args U = true := by
  obtain ⟨c, k, i, f, a, cell, h0, h1, h2, h3, h4, h5, h6, h7, h8, h9, h10⟩ := h
  have h5' : U.heap[a]? = some cell := by rw [hq a (Array.getElem?_eq_some_iff.mp h5).1]; exact h5
  have he : (Term.static C n d).eval args U none [] U = some v := by
    simp [Term.eval, State.fieldNamed?, h1, h2, h4, h5', h6, h10]
  cases v <;> first | (simp [Cond.before, Cond.holds, Cond.value, he]; done) | (simp [Value.isRef] at hv; done)
theorem jx_sf.of {C n d : String} {v : Value} {s : State} {args : Array Value} (hl : (Cond.laysStatic C n d).before args s = true) (hini : (Cond.initialized C).before args s = true) (hv : (Term.static C n d).eval args s none [] s = some v) : jx_sf C n d v s.heap s := by
  obtain ⟨c, k, i, f, a, cell, hc, hi, hst, ha, hcell, hs, hcls, hlt, hty⟩ := Cond.laysStatic_spec hl
  obtain ⟨-, a', cell', ha', hcell', -, hslot⟩ := Term.static_spec hi hv
  cases ha.symm.trans ha'
  cases hcell.symm.trans hcell'
  have hk : s.vm.classes[c]? = some k := (State.fieldFound?_spec hi).1
  exact ⟨c, k, i, f, a, cell, hc, hi, hst, Cond.initialized_spec hc hk hini, ha, hcell, hs, hcls, hlt, hty, hslot⟩
def jx_bv (l : List Int32) : Nat → Int32 := fun j => l.getD j 0
/-- the constants: the script, VALENCES, the two texts, their bytes -/
def jx_gl (L : Nat) (xs : Nat → Int32) (k : Nat) : jx_C := match k with
  | 0 => .inl (9, L, .inl xs)
  | 1 => .inl (9, 5, .inl (jx_bv [4, 3, 2, 2, 1]))
  | 2 => .inr (200, [.ref 4, .int 0])
  | 3 => .inr (200, [.ref 5, .int 0])
  | 4 => .inl (10, 5, .inl (jx_bv [67, 78, 79, 83, 70]))
  | 5 => .inl (10, 4, .inl (jx_bv [99, 110, 111, 115]))
  | _ => .inr (300, [])
def jx_exc : List String := ["java/lang/IllegalStateException", "java/lang/IllegalArgumentException", "java/lang/UnsupportedOperationException", "java/lang/ArithmeticException", "java/lang/IndexOutOfBoundsException"]
def jx_strs : List (String × Nat × String × Nat) := [("MoleculeRegistry$Reader", 146, "CNOSF", 2), ("MoleculeRegistry$Reader", 139, "cnos", 3), ("MoleculeRegistry$Chemistry", 39, "CNOSF", 2), ("MoleculeRegistry$Matcher", 50, "CNOSF", 2)]
def jx_msgs : List (Nat × String) := [(144, "the registry is down"), (160, "the text is not of the form, or has a bond that can't be"), (166, "the text has too many atoms"), (184, "an atom can't have these bonds"), (80, "the registry is full")]
def jx_G0 (H0 : Heap) (ga : Nat → Nat) (s : State) : Prop :=
  (∀ q : Nat, q < H0.size → s.heap[q]? = H0[q]?) ∧ (∀ q ∈ jx_strs, vk_R q.1 q.2.1 q.2.2.1 (ga q.2.2.2) s) ∧ (∀ q ∈ jx_msgs, ∃ a, vk_R "MoleculeRegistry" q.1 q.2 a s) ∧
  (∀ k, k = 2 ∨ k = 3 → va_O "java/lang/String" (ga k) (fun q => H0.size ≤ q) s H0 ∧ va_OF "java/lang/String" "value" "[B" (.ref (ga (k + 2))) (ga k) (fun q => H0.size ≤ q) s H0 ∧ va_OF "java/lang/String" "coder" "B" (.int 0) (ga k) (fun q => H0.size ≤ q) s H0) ∧
  jx_sf "MoleculeRegistry" "VALENCES" "[I" (.ref (ga 1)) H0 s ∧ jx_sf "java/lang/String" "COMPACT_STRINGS" "Z" (.int 1) H0 s ∧
  (∃ v, v.isRef = true ∧ jx_sf "java/lang/Throwable" "UNASSIGNED_STACK" "[Ljava/lang/StackTraceElement;" v H0 s) ∧ (∃ v, v.isRef = true ∧ jx_sf "java/lang/Throwable" "SUPPRESSED_SENTINEL" "Ljava/util/List;" v H0 s) ∧
  ∀ E ∈ jx_exc, ∀ E' ∈ jx_exc, E ≠ E' → ∀ c c', s.vm.findClass E = some c → s.vm.findClass E' = some c' → s.vm.assignable c c' = false
theorem jx_G0.moved {H0 : Heap} {ga : Nat → Nat} {s U : State} (hW : s.WarmedH U.vm) (hq : ∀ q : Nat, q < H0.size → U.heap[q]? = H0[q]?) (h : jx_G0 H0 ga s) : jx_G0 H0 ga U := by
  obtain ⟨h1, h2, h3, h4, h5, h6, ⟨v1, e1, h7⟩, ⟨v2, e2, h8⟩, h9⟩ := h
  have hal := hW.alike
  refine ⟨hq, fun q hm => vk_R.warm hW (h2 q hm), fun q hm => ?_, fun k hk => ?_, h5.moved hal, h6.moved hal, ⟨v1, e1, h7.moved hal⟩, ⟨v2, e2, h8.moved hal⟩, fun E hE E' hE' hne c c' hc hc' => ?_⟩
  · obtain ⟨a, ha⟩ := h3 q hm
    exact ⟨a, vk_R.warm hW ha⟩
  · obtain ⟨k1, k2, k3⟩ := h4 k hk
    exact ⟨k1.moved hal, k2.moved hal, k3.moved hal⟩
  · rw [hal.findClass] at hc hc'
    rw [hal.assignable]
    exact h9 E hE E' hE' hne c c' hc hc'
end
