section
-- ===== PART A: goes FIRST, ahead of the names: the tables' words, and 'selects' of the private methods out of them =====
/-- a private method of a class that the tables say can be made, by its rows of tables_1 -/
def lw_okq (q : MethodName × Nat) : Prop := (q.1.cls ≠ "java/lang/invoke/MethodHandle" ∧ q.1.cls ≠ "java/lang/invoke/VarHandle") ∧ Cond.instantiable q.1.cls q.2 ∈ tables_1 ∧ Cond.privateMethod q.1 ∈ tables_1 ∧ Cond.instanceMethod q.1 ∈ tables_1
theorem lw_p0 : lw_okq (⟨"AlikeArrows$Reader", "skipBlanks", "()V"⟩, 3) := ⟨⟨by decide +kernel, by decide +kernel⟩, List.mem_of_getElem? (i := 46) (by decide +kernel), List.mem_of_getElem? (i := 387) (by decide +kernel), List.mem_of_getElem? (i := 388) (by decide +kernel)⟩
theorem lw_p1 : lw_okq (⟨"AlikeArrows$Reader", "readItem", "(LAlikeArrows$Gear;)Z"⟩, 3) := ⟨⟨by decide +kernel, by decide +kernel⟩, List.mem_of_getElem? (i := 46) (by decide +kernel), List.mem_of_getElem? (i := 395) (by decide +kernel), List.mem_of_getElem? (i := 396) (by decide +kernel)⟩
theorem lw_p2 : lw_okq (⟨"AlikeArrows$Reader", "takeWord", "(Ljava/lang/String;)Z"⟩, 3) := ⟨⟨by decide +kernel, by decide +kernel⟩, List.mem_of_getElem? (i := 46) (by decide +kernel), List.mem_of_getElem? (i := 400) (by decide +kernel), List.mem_of_getElem? (i := 401) (by decide +kernel)⟩
theorem lw_p3 : lw_okq (⟨"AlikeArrows$Reader", "readStick", "(LAlikeArrows$Gear;)Z"⟩, 3) := ⟨⟨by decide +kernel, by decide +kernel⟩, List.mem_of_getElem? (i := 46) (by decide +kernel), List.mem_of_getElem? (i := 453) (by decide +kernel), List.mem_of_getElem? (i := 454) (by decide +kernel)⟩
theorem lw_p4 : lw_okq (⟨"AlikeArrows$Reader", "takeNumbers", "([I[I)Z"⟩, 3) := ⟨⟨by decide +kernel, by decide +kernel⟩, List.mem_of_getElem? (i := 46) (by decide +kernel), List.mem_of_getElem? (i := 461) (by decide +kernel), List.mem_of_getElem? (i := 462) (by decide +kernel)⟩
theorem lw_p5 : lw_okq (⟨"AlikeArrows$Reader", "takeNumber", "(II)I"⟩, 3) := ⟨⟨by decide +kernel, by decide +kernel⟩, List.mem_of_getElem? (i := 46) (by decide +kernel), List.mem_of_getElem? (i := 465) (by decide +kernel), List.mem_of_getElem? (i := 466) (by decide +kernel)⟩
theorem lw_p6 : lw_okq (⟨"AlikeArrows$Reader", "takeEnd", "()Z"⟩, 3) := ⟨⟨by decide +kernel, by decide +kernel⟩, List.mem_of_getElem? (i := 46) (by decide +kernel), List.mem_of_getElem? (i := 472) (by decide +kernel), List.mem_of_getElem? (i := 473) (by decide +kernel)⟩
theorem lw_p7 : lw_okq (⟨"AlikeArrows$Reader", "readBow", "(LAlikeArrows$Gear;)Z"⟩, 3) := ⟨⟨by decide +kernel, by decide +kernel⟩, List.mem_of_getElem? (i := 46) (by decide +kernel), List.mem_of_getElem? (i := 481) (by decide +kernel), List.mem_of_getElem? (i := 482) (by decide +kernel)⟩
theorem lw_p8 : lw_okq (⟨"AlikeArrows$Reader", "readArcher", "(LAlikeArrows$Gear;)Z"⟩, 3) := ⟨⟨by decide +kernel, by decide +kernel⟩, List.mem_of_getElem? (i := 46) (by decide +kernel), List.mem_of_getElem? (i := 494) (by decide +kernel), List.mem_of_getElem? (i := 495) (by decide +kernel)⟩
theorem lw_p9 : lw_okq (⟨"AlikeArrows$LeastActs", "isFewer", "(I)Z"⟩, 5) := ⟨⟨by decide +kernel, by decide +kernel⟩, List.mem_of_getElem? (i := 137) (by decide +kernel), List.mem_of_getElem? (i := 604) (by decide +kernel), List.mem_of_getElem? (i := 605) (by decide +kernel)⟩
theorem lw_p10 : lw_okq (⟨"AlikeArrows$LeastActs", "note", "(IIII)V"⟩, 5) := ⟨⟨by decide +kernel, by decide +kernel⟩, List.mem_of_getElem? (i := 137) (by decide +kernel), List.mem_of_getElem? (i := 626) (by decide +kernel), List.mem_of_getElem? (i := 627) (by decide +kernel)⟩
theorem lw_p11 : lw_okq (⟨"AlikeArrows$Flock", "tryFrom", "(IIII)V"⟩, 6) := ⟨⟨by decide +kernel, by decide +kernel⟩, List.mem_of_getElem? (i := 110) (by decide +kernel), List.mem_of_getElem? (i := 706) (by decide +kernel), List.mem_of_getElem? (i := 707) (by decide +kernel)⟩
theorem lw_p12 : lw_okq (⟨"AlikeArrows$Sheet", "weigh", "([I)V"⟩, 10) := ⟨⟨by decide +kernel, by decide +kernel⟩, List.mem_of_getElem? (i := 72) (by decide +kernel), List.mem_of_getElem? (i := 771) (by decide +kernel), List.mem_of_getElem? (i := 772) (by decide +kernel)⟩
theorem lw_p13 : lw_okq (⟨"AlikeArrows$Sheet", "addUp", "([I)V"⟩, 10) := ⟨⟨by decide +kernel, by decide +kernel⟩, List.mem_of_getElem? (i := 72) (by decide +kernel), List.mem_of_getElem? (i := 775) (by decide +kernel), List.mem_of_getElem? (i := 776) (by decide +kernel)⟩
theorem lw_p14 : lw_okq (⟨"AlikeArrows$Sheet", "addFraction", "(JJ)V"⟩, 10) := ⟨⟨by decide +kernel, by decide +kernel⟩, List.mem_of_getElem? (i := 72) (by decide +kernel), List.mem_of_getElem? (i := 779) (by decide +kernel), List.mem_of_getElem? (i := 780) (by decide +kernel)⟩
theorem lw_p15 : lw_okq (⟨"AlikeArrows$Kinds", "ofFlight", "(LAlikeArrows$Stick;)I"⟩, 2) := ⟨⟨by decide +kernel, by decide +kernel⟩, List.mem_of_getElem? (i := 159) (by decide +kernel), List.mem_of_getElem? (i := 820) (by decide +kernel), List.mem_of_getElem? (i := 821) (by decide +kernel)⟩
def lw_privs_1 : List (MethodName × Nat) := [(⟨"AlikeArrows$Reader", "skipBlanks", "()V"⟩, 3), (⟨"AlikeArrows$Reader", "readItem", "(LAlikeArrows$Gear;)Z"⟩, 3), (⟨"AlikeArrows$Reader", "takeWord", "(Ljava/lang/String;)Z"⟩, 3), (⟨"AlikeArrows$Reader", "readStick", "(LAlikeArrows$Gear;)Z"⟩, 3), (⟨"AlikeArrows$Reader", "takeNumbers", "([I[I)Z"⟩, 3), (⟨"AlikeArrows$Reader", "takeNumber", "(II)I"⟩, 3), (⟨"AlikeArrows$Reader", "takeEnd", "()Z"⟩, 3), (⟨"AlikeArrows$Reader", "readBow", "(LAlikeArrows$Gear;)Z"⟩, 3), (⟨"AlikeArrows$Reader", "readArcher", "(LAlikeArrows$Gear;)Z"⟩, 3), (⟨"AlikeArrows$LeastActs", "isFewer", "(I)Z"⟩, 5), (⟨"AlikeArrows$LeastActs", "note", "(IIII)V"⟩, 5), (⟨"AlikeArrows$Flock", "tryFrom", "(IIII)V"⟩, 6), (⟨"AlikeArrows$Sheet", "weigh", "([I)V"⟩, 10), (⟨"AlikeArrows$Sheet", "addUp", "([I)V"⟩, 10), (⟨"AlikeArrows$Sheet", "addFraction", "(JJ)V"⟩, 10), (⟨"AlikeArrows$Kinds", "ofFlight", "(LAlikeArrows$Stick;)I"⟩, 2)]
theorem lw_r1 : ∀ q ∈ lw_privs_1, lw_okq q := List.forall_mem_cons.mpr ⟨lw_p0, List.forall_mem_cons.mpr ⟨lw_p1, List.forall_mem_cons.mpr ⟨lw_p2, List.forall_mem_cons.mpr ⟨lw_p3, List.forall_mem_cons.mpr ⟨lw_p4, List.forall_mem_cons.mpr ⟨lw_p5, List.forall_mem_cons.mpr ⟨lw_p6, List.forall_mem_cons.mpr ⟨lw_p7, List.forall_mem_cons.mpr ⟨lw_p8, List.forall_mem_cons.mpr ⟨lw_p9, List.forall_mem_cons.mpr ⟨lw_p10, List.forall_mem_cons.mpr ⟨lw_p11, List.forall_mem_cons.mpr ⟨lw_p12, List.forall_mem_cons.mpr ⟨lw_p13, List.forall_mem_cons.mpr ⟨lw_p14, List.forall_mem_cons.mpr ⟨lw_p15, fun _ h => absurd h List.not_mem_nil⟩⟩⟩⟩⟩⟩⟩⟩⟩⟩⟩⟩⟩⟩⟩⟩
theorem lw_p16 : lw_okq (⟨"AlikeArrows$Kinds", "ofClean", "(LAlikeArrows$Stick;)I"⟩, 2) := ⟨⟨by decide +kernel, by decide +kernel⟩, List.mem_of_getElem? (i := 159) (by decide +kernel), List.mem_of_getElem? (i := 825) (by decide +kernel), List.mem_of_getElem? (i := 826) (by decide +kernel)⟩
theorem lw_p17 : lw_okq (⟨"AlikeArrows$Kinds", "ofStiff", "(LAlikeArrows$Stick;LAlikeArrows$Bow;)I"⟩, 2) := ⟨⟨by decide +kernel, by decide +kernel⟩, List.mem_of_getElem? (i := 159) (by decide +kernel), List.mem_of_getElem? (i := 830) (by decide +kernel), List.mem_of_getElem? (i := 831) (by decide +kernel)⟩
theorem lw_p18 : lw_okq (⟨"AlikeArrows$Kinds", "ofWindy", "(LAlikeArrows$Stick;)I"⟩, 2) := ⟨⟨by decide +kernel, by decide +kernel⟩, List.mem_of_getElem? (i := 159) (by decide +kernel), List.mem_of_getElem? (i := 836) (by decide +kernel), List.mem_of_getElem? (i := 837) (by decide +kernel)⟩
theorem lw_p19 : lw_okq (⟨"AlikeArrows$Kinds", "ofSlapped", "(LAlikeArrows$Stick;LAlikeArrows$Bow;)I"⟩, 2) := ⟨⟨by decide +kernel, by decide +kernel⟩, List.mem_of_getElem? (i := 159) (by decide +kernel), List.mem_of_getElem? (i := 842) (by decide +kernel), List.mem_of_getElem? (i := 843) (by decide +kernel)⟩
theorem lw_p20 : lw_okq (⟨"AlikeArrows$Kinds", "ofSoft", "(LAlikeArrows$Stick;)I"⟩, 2) := ⟨⟨by decide +kernel, by decide +kernel⟩, List.mem_of_getElem? (i := 159) (by decide +kernel), List.mem_of_getElem? (i := 847) (by decide +kernel), List.mem_of_getElem? (i := 848) (by decide +kernel)⟩
theorem lw_p21 : lw_okq (⟨"AlikeArrows", "imageAt", "(I)LAlikeArrows$Image;"⟩, 12) := ⟨⟨by decide +kernel, by decide +kernel⟩, List.mem_of_getElem? (i := 22) (by decide +kernel), List.mem_of_getElem? (i := 857) (by decide +kernel), List.mem_of_getElem? (i := 858) (by decide +kernel)⟩
theorem lw_p22 : lw_okq (⟨"AlikeArrowsModel", "advances", "()V"⟩, 36) := ⟨⟨by decide +kernel, by decide +kernel⟩, List.mem_of_getElem? (i := 889) (by decide +kernel), List.mem_of_getElem? (i := 1021) (by decide +kernel), List.mem_of_getElem? (i := 1022) (by decide +kernel)⟩
theorem lw_p23 : lw_okq (⟨"AlikeArrowsModel", "byteAt", "(I)I"⟩, 36) := ⟨⟨by decide +kernel, by decide +kernel⟩, List.mem_of_getElem? (i := 889) (by decide +kernel), List.mem_of_getElem? (i := 1025) (by decide +kernel), List.mem_of_getElem? (i := 1026) (by decide +kernel)⟩
theorem lw_p24 : lw_okq (⟨"AlikeArrowsModel", "isWell", "()Z"⟩, 36) := ⟨⟨by decide +kernel, by decide +kernel⟩, List.mem_of_getElem? (i := 889) (by decide +kernel), List.mem_of_getElem? (i := 1039) (by decide +kernel), List.mem_of_getElem? (i := 1040) (by decide +kernel)⟩
theorem lw_p25 : lw_okq (⟨"AlikeArrowsModel", "takes", "(Z)I"⟩, 36) := ⟨⟨by decide +kernel, by decide +kernel⟩, List.mem_of_getElem? (i := 889) (by decide +kernel), List.mem_of_getElem? (i := 1043) (by decide +kernel), List.mem_of_getElem? (i := 1044) (by decide +kernel)⟩
theorem lw_p26 : lw_okq (⟨"AlikeArrowsModel", "readsItem", "(I)V"⟩, 36) := ⟨⟨by decide +kernel, by decide +kernel⟩, List.mem_of_getElem? (i := 889) (by decide +kernel), List.mem_of_getElem? (i := 1047) (by decide +kernel), List.mem_of_getElem? (i := 1048) (by decide +kernel)⟩
theorem lw_p27 : lw_okq (⟨"AlikeArrowsModel", "number", "(II)I"⟩, 36) := ⟨⟨by decide +kernel, by decide +kernel⟩, List.mem_of_getElem? (i := 889) (by decide +kernel), List.mem_of_getElem? (i := 1051) (by decide +kernel), List.mem_of_getElem? (i := 1052) (by decide +kernel)⟩
theorem lw_p28 : lw_okq (⟨"AlikeArrowsModel", "isStick", "(I)Z"⟩, 36) := ⟨⟨by decide +kernel, by decide +kernel⟩, List.mem_of_getElem? (i := 889) (by decide +kernel), List.mem_of_getElem? (i := 1059) (by decide +kernel), List.mem_of_getElem? (i := 1060) (by decide +kernel)⟩
theorem lw_p29 : lw_okq (⟨"AlikeArrowsModel", "isBow", "(I)Z"⟩, 36) := ⟨⟨by decide +kernel, by decide +kernel⟩, List.mem_of_getElem? (i := 889) (by decide +kernel), List.mem_of_getElem? (i := 1067) (by decide +kernel), List.mem_of_getElem? (i := 1068) (by decide +kernel)⟩
theorem lw_p30 : lw_okq (⟨"AlikeArrowsModel", "mayScrape", "([III)Z"⟩, 36) := ⟨⟨by decide +kernel, by decide +kernel⟩, List.mem_of_getElem? (i := 889) (by decide +kernel), List.mem_of_getElem? (i := 1088) (by decide +kernel), List.mem_of_getElem? (i := 1089) (by decide +kernel)⟩
theorem lw_p31 : lw_okq (⟨"AlikeArrowsModel", "tries", "(IIIII)Z"⟩, 36) := ⟨⟨by decide +kernel, by decide +kernel⟩, List.mem_of_getElem? (i := 889) (by decide +kernel), List.mem_of_getElem? (i := 1107) (by decide +kernel), List.mem_of_getElem? (i := 1108) (by decide +kernel)⟩
def lw_privs_2 : List (MethodName × Nat) := [(⟨"AlikeArrows$Kinds", "ofClean", "(LAlikeArrows$Stick;)I"⟩, 2), (⟨"AlikeArrows$Kinds", "ofStiff", "(LAlikeArrows$Stick;LAlikeArrows$Bow;)I"⟩, 2), (⟨"AlikeArrows$Kinds", "ofWindy", "(LAlikeArrows$Stick;)I"⟩, 2), (⟨"AlikeArrows$Kinds", "ofSlapped", "(LAlikeArrows$Stick;LAlikeArrows$Bow;)I"⟩, 2), (⟨"AlikeArrows$Kinds", "ofSoft", "(LAlikeArrows$Stick;)I"⟩, 2), (⟨"AlikeArrows", "imageAt", "(I)LAlikeArrows$Image;"⟩, 12), (⟨"AlikeArrowsModel", "advances", "()V"⟩, 36), (⟨"AlikeArrowsModel", "byteAt", "(I)I"⟩, 36), (⟨"AlikeArrowsModel", "isWell", "()Z"⟩, 36), (⟨"AlikeArrowsModel", "takes", "(Z)I"⟩, 36), (⟨"AlikeArrowsModel", "readsItem", "(I)V"⟩, 36), (⟨"AlikeArrowsModel", "number", "(II)I"⟩, 36), (⟨"AlikeArrowsModel", "isStick", "(I)Z"⟩, 36), (⟨"AlikeArrowsModel", "isBow", "(I)Z"⟩, 36), (⟨"AlikeArrowsModel", "mayScrape", "([III)Z"⟩, 36), (⟨"AlikeArrowsModel", "tries", "(IIIII)Z"⟩, 36)]
theorem lw_r2 : ∀ q ∈ lw_privs_2, lw_okq q := List.forall_mem_cons.mpr ⟨lw_p16, List.forall_mem_cons.mpr ⟨lw_p17, List.forall_mem_cons.mpr ⟨lw_p18, List.forall_mem_cons.mpr ⟨lw_p19, List.forall_mem_cons.mpr ⟨lw_p20, List.forall_mem_cons.mpr ⟨lw_p21, List.forall_mem_cons.mpr ⟨lw_p22, List.forall_mem_cons.mpr ⟨lw_p23, List.forall_mem_cons.mpr ⟨lw_p24, List.forall_mem_cons.mpr ⟨lw_p25, List.forall_mem_cons.mpr ⟨lw_p26, List.forall_mem_cons.mpr ⟨lw_p27, List.forall_mem_cons.mpr ⟨lw_p28, List.forall_mem_cons.mpr ⟨lw_p29, List.forall_mem_cons.mpr ⟨lw_p30, List.forall_mem_cons.mpr ⟨lw_p31, fun _ h => absurd h List.not_mem_nil⟩⟩⟩⟩⟩⟩⟩⟩⟩⟩⟩⟩⟩⟩⟩⟩
theorem lw_p32 : lw_okq (⟨"AlikeArrowsModel", "lays", "(I)V"⟩, 36) := ⟨⟨by decide +kernel, by decide +kernel⟩, List.mem_of_getElem? (i := 889) (by decide +kernel), List.mem_of_getElem? (i := 1111) (by decide +kernel), List.mem_of_getElem? (i := 1112) (by decide +kernel)⟩
theorem lw_p33 : lw_okq (⟨"AlikeArrowsModel", "flies", "(II)V"⟩, 36) := ⟨⟨by decide +kernel, by decide +kernel⟩, List.mem_of_getElem? (i := 889) (by decide +kernel), List.mem_of_getElem? (i := 1115) (by decide +kernel), List.mem_of_getElem? (i := 1116) (by decide +kernel)⟩
theorem lw_p34 : lw_okq (⟨"AlikeArrowsModel", "kindOf", "(I)I"⟩, 36) := ⟨⟨by decide +kernel, by decide +kernel⟩, List.mem_of_getElem? (i := 889) (by decide +kernel), List.mem_of_getElem? (i := 1119) (by decide +kernel), List.mem_of_getElem? (i := 1120) (by decide +kernel)⟩
theorem lw_p35 : lw_okq (⟨"AlikeArrowsModel", "bareOf", "(I)I"⟩, 36) := ⟨⟨by decide +kernel, by decide +kernel⟩, List.mem_of_getElem? (i := 889) (by decide +kernel), List.mem_of_getElem? (i := 1126) (by decide +kernel), List.mem_of_getElem? (i := 1127) (by decide +kernel)⟩
theorem lw_p36 : lw_okq (⟨"AlikeArrowsModel", "fliesWith", "(II)V"⟩, 36) := ⟨⟨by decide +kernel, by decide +kernel⟩, List.mem_of_getElem? (i := 889) (by decide +kernel), List.mem_of_getElem? (i := 1134) (by decide +kernel), List.mem_of_getElem? (i := 1135) (by decide +kernel)⟩
theorem lw_p37 : lw_okq (⟨"AlikeArrowsModel", "fliesAll", "(I)V"⟩, 36) := ⟨⟨by decide +kernel, by decide +kernel⟩, List.mem_of_getElem? (i := 889) (by decide +kernel), List.mem_of_getElem? (i := 1153) (by decide +kernel), List.mem_of_getElem? (i := 1154) (by decide +kernel)⟩
theorem lw_p38 : lw_okq (⟨"AlikeArrowsModel", "manyOf", "(I)I"⟩, 36) := ⟨⟨by decide +kernel, by decide +kernel⟩, List.mem_of_getElem? (i := 889) (by decide +kernel), List.mem_of_getElem? (i := 1157) (by decide +kernel), List.mem_of_getElem? (i := 1158) (by decide +kernel)⟩
theorem lw_p39 : lw_okq (⟨"AlikeArrowsModel", "areAlike", "(III)Z"⟩, 36) := ⟨⟨by decide +kernel, by decide +kernel⟩, List.mem_of_getElem? (i := 889) (by decide +kernel), List.mem_of_getElem? (i := 1161) (by decide +kernel), List.mem_of_getElem? (i := 1162) (by decide +kernel)⟩
theorem lw_p40 : lw_okq (⟨"AlikeArrowsModel", "parts", "(I)V"⟩, 36) := ⟨⟨by decide +kernel, by decide +kernel⟩, List.mem_of_getElem? (i := 889) (by decide +kernel), List.mem_of_getElem? (i := 1199) (by decide +kernel), List.mem_of_getElem? (i := 1200) (by decide +kernel)⟩
theorem lw_p41 : lw_okq (⟨"AlikeArrowsModel", "adds", "(JJ)V"⟩, 36) := ⟨⟨by decide +kernel, by decide +kernel⟩, List.mem_of_getElem? (i := 889) (by decide +kernel), List.mem_of_getElem? (i := 1203) (by decide +kernel), List.mem_of_getElem? (i := 1204) (by decide +kernel)⟩
def lw_privs_3 : List (MethodName × Nat) := [(⟨"AlikeArrowsModel", "lays", "(I)V"⟩, 36), (⟨"AlikeArrowsModel", "flies", "(II)V"⟩, 36), (⟨"AlikeArrowsModel", "kindOf", "(I)I"⟩, 36), (⟨"AlikeArrowsModel", "bareOf", "(I)I"⟩, 36), (⟨"AlikeArrowsModel", "fliesWith", "(II)V"⟩, 36), (⟨"AlikeArrowsModel", "fliesAll", "(I)V"⟩, 36), (⟨"AlikeArrowsModel", "manyOf", "(I)I"⟩, 36), (⟨"AlikeArrowsModel", "areAlike", "(III)Z"⟩, 36), (⟨"AlikeArrowsModel", "parts", "(I)V"⟩, 36), (⟨"AlikeArrowsModel", "adds", "(JJ)V"⟩, 36)]
theorem lw_r3 : ∀ q ∈ lw_privs_3, lw_okq q := List.forall_mem_cons.mpr ⟨lw_p32, List.forall_mem_cons.mpr ⟨lw_p33, List.forall_mem_cons.mpr ⟨lw_p34, List.forall_mem_cons.mpr ⟨lw_p35, List.forall_mem_cons.mpr ⟨lw_p36, List.forall_mem_cons.mpr ⟨lw_p37, List.forall_mem_cons.mpr ⟨lw_p38, List.forall_mem_cons.mpr ⟨lw_p39, List.forall_mem_cons.mpr ⟨lw_p40, List.forall_mem_cons.mpr ⟨lw_p41, fun _ h => absurd h List.not_mem_nil⟩⟩⟩⟩⟩⟩⟩⟩⟩⟩
def lw_privs : List (MethodName × Nat) := lw_privs_1 ++ (lw_privs_2 ++ (lw_privs_3))
def lw_tbl : List Cond := k2_sels lw_privs ++ tables_1
theorem lw_privs_ok : ∀ q ∈ lw_privs, lw_okq q := by
  show ∀ q ∈ lw_privs_1 ++ (lw_privs_2 ++ (lw_privs_3)), lw_okq q
  exact List.forall_mem_append.mpr ⟨lw_r1, List.forall_mem_append.mpr ⟨lw_r2, lw_r3⟩⟩
end
section
def RX0 : String := "AlikeArrows$Archer"
def TX0 : u_T := fun k => match k with
  | 0 => ("AlikeArrows$Archer", "aim", "I", false)
  | _ => ("AlikeArrows$Archer", "wander", "I", false)
def tyX0 : Nat → FieldType := fun k => match k with
  | 0 => .int
  | _ => .int
abbrev wsX00 : List Cond := u_ws RX0 TX0 2
theorem nmX0 : ∀ a, a < 2 → ∀ b, b < 2 → a ≠ b → (TX0 a).2.1 ≠ (TX0 b).2.1 := by decide +kernel
theorem tyX0_ok : ∀ k, k < 2 → parseFieldDescriptor (TX0 k).2.2.1 = some (tyX0 k) := by decide +kernel
abbrev cX0_init : ByteArray := prog_2_method_1_code
def yX0_init : MethodName := ⟨RX0, "<init>", "()V"⟩
def RX1 : String := "AlikeArrows$Bow"
def TX1 : u_T := fun k => match k with
  | 0 => ("AlikeArrows$Bow", "draw", "I", false)
  | _ => ("AlikeArrows$Bow", "wide", "I", false)
def tyX1 : Nat → FieldType := fun k => match k with
  | 0 => .int
  | _ => .int
abbrev wsX10 : List Cond := u_ws RX1 TX1 2
theorem nmX1 : ∀ a, a < 2 → ∀ b, b < 2 → a ≠ b → (TX1 a).2.1 ≠ (TX1 b).2.1 := by decide +kernel
theorem tyX1_ok : ∀ k, k < 2 → parseFieldDescriptor (TX1 k).2.2.1 = some (tyX1 k) := by decide +kernel
abbrev cX1_init : ByteArray := prog_3_method_1_code
def yX1_init : MethodName := ⟨RX1, "<init>", "()V"⟩
abbrev cX1_need : ByteArray := prog_3_method_2_code
def yX1_need : MethodName := ⟨RX1, "need", "()I"⟩
abbrev cX1_dropOf : ByteArray := prog_3_method_3_code
def yX1_dropOf : MethodName := ⟨RX1, "dropOf", "(LAlikeArrows$Stick;I)I"⟩
def RX2 : String := "AlikeArrows$Flock"
def TX2 : u_T := fun k => match k with
  | 0 => ("AlikeArrows$Flock", "goes0", "[I", true)
  | 1 => ("AlikeArrows$Flock", "goes1", "[I", true)
  | 2 => ("AlikeArrows$Flock", "drops", "[I", true)
  | 3 => ("AlikeArrows$Flock", "size", "I", false)
  | 4 => ("AlikeArrows$Flock", "bestSet", "I", false)
  | _ => ("AlikeArrows$Flock", "bestSize", "I", false)
def tyX2 : Nat → FieldType := fun k => match k with
  | 0 => .array .int
  | 1 => .array .int
  | 2 => .array .int
  | 3 => .int
  | 4 => .int
  | _ => .int
abbrev wsX20 : List Cond := u_ws RX2 TX2 6
theorem nmX2 : ∀ a, a < 6 → ∀ b, b < 6 → a ≠ b → (TX2 a).2.1 ≠ (TX2 b).2.1 := by decide +kernel
theorem tyX2_ok : ∀ k, k < 6 → parseFieldDescriptor (TX2 k).2.2.1 = some (tyX2 k) := by decide +kernel
abbrev cX2_init : ByteArray := prog_4_method_1_code
def yX2_init : MethodName := ⟨RX2, "<init>", "()V"⟩
abbrev cX2_gather : ByteArray := prog_4_method_2_code
def yX2_gather : MethodName := ⟨RX2, "gather", "(LAlikeArrows$Gear;LAlikeArrows$Bow;LAlikeArrows$Tunes;Z)V"⟩
abbrev cX2_find : ByteArray := prog_4_method_3_code
def yX2_find : MethodName := ⟨RX2, "find", "(II)V"⟩
abbrev cX2_tryFrom : ByteArray := prog_4_method_4_code
def yX2_tryFrom : MethodName := ⟨RX2, "tryFrom", "(IIII)V"⟩
def RX3 : String := "AlikeArrows$Gear"
def TX3 : u_T := fun k => match k with
  | 0 => ("AlikeArrows$Gear", "sticks", "[LAlikeArrows$Stick;", true)
  | 1 => ("AlikeArrows$Gear", "bows", "[LAlikeArrows$Bow;", true)
  | 2 => ("AlikeArrows$Gear", "archers", "[LAlikeArrows$Archer;", true)
  | 3 => ("AlikeArrows$Gear", "stickCount", "I", false)
  | 4 => ("AlikeArrows$Gear", "bowCount", "I", false)
  | _ => ("AlikeArrows$Gear", "archerCount", "I", false)
def tyX3 : Nat → FieldType := fun k => match k with
  | 0 => .array (.object "AlikeArrows$Stick")
  | 1 => .array (.object "AlikeArrows$Bow")
  | 2 => .array (.object "AlikeArrows$Archer")
  | 3 => .int
  | 4 => .int
  | _ => .int
abbrev wsX30 : List Cond := u_ws RX3 TX3 6
theorem nmX3 : ∀ a, a < 6 → ∀ b, b < 6 → a ≠ b → (TX3 a).2.1 ≠ (TX3 b).2.1 := by decide +kernel
theorem tyX3_ok : ∀ k, k < 6 → parseFieldDescriptor (TX3 k).2.2.1 = some (tyX3 k) := by decide +kernel
abbrev cX3_init : ByteArray := prog_5_method_1_code
def yX3_init : MethodName := ⟨RX3, "<init>", "()V"⟩
abbrev cX3_empty : ByteArray := prog_5_method_2_code
def yX3_empty : MethodName := ⟨RX3, "empty", "()V"⟩
abbrev cX3_stickAt : ByteArray := prog_5_method_3_code
def yX3_stickAt : MethodName := ⟨RX3, "stickAt", "(I)LAlikeArrows$Stick;"⟩
abbrev cX3_bowAt : ByteArray := prog_5_method_4_code
def yX3_bowAt : MethodName := ⟨RX3, "bowAt", "(I)LAlikeArrows$Bow;"⟩
abbrev cX3_archerAt : ByteArray := prog_5_method_5_code
def yX3_archerAt : MethodName := ⟨RX3, "archerAt", "(I)LAlikeArrows$Archer;"⟩
abbrev cX3_addStick : ByteArray := prog_5_method_6_code
def yX3_addStick : MethodName := ⟨RX3, "addStick", "()LAlikeArrows$Stick;"⟩
abbrev cX3_addBow : ByteArray := prog_5_method_7_code
def yX3_addBow : MethodName := ⟨RX3, "addBow", "()LAlikeArrows$Bow;"⟩
abbrev cX3_addArcher : ByteArray := prog_5_method_8_code
def yX3_addArcher : MethodName := ⟨RX3, "addArcher", "()LAlikeArrows$Archer;"⟩
def RX4 : String := "AlikeArrows$Image"
def TX4 : u_T := fun k => match k with
  | 0 => ("AlikeArrows$Image", "sticks", "[LAlikeArrows$Stick;", true)
  | 1 => ("AlikeArrows$Image", "sheet", "LAlikeArrows$Sheet;", true)
  | 2 => ("AlikeArrows$Image", "lotThen", "I", false)
  | _ => ("AlikeArrows$Image", "kept", "Z", false)
def tyX4 : Nat → FieldType := fun k => match k with
  | 0 => .array (.object "AlikeArrows$Stick")
  | 1 => .object "AlikeArrows$Sheet"
  | 2 => .int
  | _ => .boolean
abbrev wsX40 : List Cond := u_ws RX4 TX4 4
theorem nmX4 : ∀ a, a < 4 → ∀ b, b < 4 → a ≠ b → (TX4 a).2.1 ≠ (TX4 b).2.1 := by decide +kernel
theorem tyX4_ok : ∀ k, k < 4 → parseFieldDescriptor (TX4 k).2.2.1 = some (tyX4 k) := by decide +kernel
abbrev cX4_init : ByteArray := prog_6_method_1_code
def yX4_init : MethodName := ⟨RX4, "<init>", "()V"⟩
abbrev cX4_take : ByteArray := prog_6_method_2_code
def yX4_take : MethodName := ⟨RX4, "take", "(LAlikeArrows$Gear;LAlikeArrows$Sheet;I)V"⟩
abbrev cX4_give : ByteArray := prog_6_method_3_code
def yX4_give : MethodName := ⟨RX4, "give", "(LAlikeArrows$Gear;LAlikeArrows$Sheet;)V"⟩
def RX5 : String := "AlikeArrows$Kinds"
def TX5 : u_T := fun k => match k with
  | 0 => ("AlikeArrows$Kinds", "tunes", "LAlikeArrows$Tunes;", true)
  | _ => ("AlikeArrows$Kinds", "traced", "J", false)
def tyX5 : Nat → FieldType := fun k => match k with
  | 0 => .object "AlikeArrows$Tunes"
  | _ => .long
abbrev wsX50 : List Cond := u_ws RX5 TX5 2
theorem nmX5 : ∀ a, a < 2 → ∀ b, b < 2 → a ≠ b → (TX5 a).2.1 ≠ (TX5 b).2.1 := by decide +kernel
theorem tyX5_ok : ∀ k, k < 2 → parseFieldDescriptor (TX5 k).2.2.1 = some (tyX5 k) := by decide +kernel
abbrev cX5_init : ByteArray := prog_7_method_1_code
def yX5_init : MethodName := ⟨RX5, "<init>", "(LAlikeArrows$Tunes;)V"⟩
abbrev cX5_rateAs : ByteArray := prog_7_method_2_code
def yX5_rateAs : MethodName := ⟨RX5, "rateAs", "(ILAlikeArrows$Stick;LAlikeArrows$Bow;)I"⟩
abbrev cX5_ofFlight : ByteArray := prog_7_method_3_code
def yX5_ofFlight : MethodName := ⟨RX5, "ofFlight", "(LAlikeArrows$Stick;)I"⟩
abbrev cX5_ofClean : ByteArray := prog_7_method_4_code
def yX5_ofClean : MethodName := ⟨RX5, "ofClean", "(LAlikeArrows$Stick;)I"⟩
abbrev cX5_ofStiff : ByteArray := prog_7_method_5_code
def yX5_ofStiff : MethodName := ⟨RX5, "ofStiff", "(LAlikeArrows$Stick;LAlikeArrows$Bow;)I"⟩
abbrev cX5_ofWindy : ByteArray := prog_7_method_6_code
def yX5_ofWindy : MethodName := ⟨RX5, "ofWindy", "(LAlikeArrows$Stick;)I"⟩
abbrev cX5_ofSlapped : ByteArray := prog_7_method_7_code
def yX5_ofSlapped : MethodName := ⟨RX5, "ofSlapped", "(LAlikeArrows$Stick;LAlikeArrows$Bow;)I"⟩
abbrev cX5_ofSoft : ByteArray := prog_7_method_8_code
def yX5_ofSoft : MethodName := ⟨RX5, "ofSoft", "(LAlikeArrows$Stick;)I"⟩
def RX6 : String := "AlikeArrows$LeastActs"
def TX6 : u_T := fun k => match k with
  | 0 => ("AlikeArrows$LeastActs", "total", "I", false)
  | 1 => ("AlikeArrows$LeastActs", "cuts", "I", false)
  | 2 => ("AlikeArrows$LeastActs", "scrapes", "I", false)
  | 3 => ("AlikeArrows$LeastActs", "loads", "I", false)
  | _ => ("AlikeArrows$LeastActs", "turns", "I", false)
def tyX6 : Nat → FieldType := fun k => match k with
  | 0 => .int
  | 1 => .int
  | 2 => .int
  | 3 => .int
  | _ => .int
abbrev wsX60 : List Cond := u_ws RX6 TX6 5
theorem nmX6 : ∀ a, a < 5 → ∀ b, b < 5 → a ≠ b → (TX6 a).2.1 ≠ (TX6 b).2.1 := by decide +kernel
theorem tyX6_ok : ∀ k, k < 5 → parseFieldDescriptor (TX6 k).2.2.1 = some (tyX6 k) := by decide +kernel
abbrev cX6_init : ByteArray := prog_8_method_1_code
def yX6_init : MethodName := ⟨RX6, "<init>", "()V"⟩
abbrev cX6_tell : ByteArray := prog_8_method_2_code
def yX6_tell : MethodName := ⟨RX6, "tell", "(I)I"⟩
abbrev cX6_find : ByteArray := prog_8_method_3_code
def yX6_find : MethodName := ⟨RX6, "find", "(LAlikeArrows$Stick;ILAlikeArrows$Tunes;II)V"⟩
abbrev cX6_isFewer : ByteArray := prog_8_method_4_code
def yX6_isFewer : MethodName := ⟨RX6, "isFewer", "(I)Z"⟩
abbrev cX6_note : ByteArray := prog_8_method_5_code
def yX6_note : MethodName := ⟨RX6, "note", "(IIII)V"⟩
def RX7 : String := "AlikeArrows$Reader"
def TX7 : u_T := fun k => match k with
  | 0 => ("AlikeArrows$Reader", "text", "LAlikeArrows$Text;", true)
  | 1 => ("AlikeArrows$Reader", "numbers", "[I", true)
  | _ => ("AlikeArrows$Reader", "place", "I", false)
def tyX7 : Nat → FieldType := fun k => match k with
  | 0 => .object "AlikeArrows$Text"
  | 1 => .array .int
  | _ => .int
abbrev wsX70 : List Cond := u_ws RX7 TX7 3
theorem nmX7 : ∀ a, a < 3 → ∀ b, b < 3 → a ≠ b → (TX7 a).2.1 ≠ (TX7 b).2.1 := by decide +kernel
theorem tyX7_ok : ∀ k, k < 3 → parseFieldDescriptor (TX7 k).2.2.1 = some (tyX7 k) := by decide +kernel
abbrev cX7_init : ByteArray := prog_9_method_1_code
def yX7_init : MethodName := ⟨RX7, "<init>", "(LAlikeArrows$Text;)V"⟩
abbrev cX7_readAll : ByteArray := prog_9_method_2_code
def yX7_readAll : MethodName := ⟨RX7, "readAll", "(LAlikeArrows$Gear;)I"⟩
abbrev cX7_readItem : ByteArray := prog_9_method_3_code
def yX7_readItem : MethodName := ⟨RX7, "readItem", "(LAlikeArrows$Gear;)Z"⟩
abbrev cX7_readStick : ByteArray := prog_9_method_4_code
def yX7_readStick : MethodName := ⟨RX7, "readStick", "(LAlikeArrows$Gear;)Z"⟩
abbrev cX7_readBow : ByteArray := prog_9_method_5_code
def yX7_readBow : MethodName := ⟨RX7, "readBow", "(LAlikeArrows$Gear;)Z"⟩
abbrev cX7_readArcher : ByteArray := prog_9_method_6_code
def yX7_readArcher : MethodName := ⟨RX7, "readArcher", "(LAlikeArrows$Gear;)Z"⟩
abbrev cX7_skipBlanks : ByteArray := prog_9_method_7_code
def yX7_skipBlanks : MethodName := ⟨RX7, "skipBlanks", "()V"⟩
abbrev cX7_takeWord : ByteArray := prog_9_method_8_code
def yX7_takeWord : MethodName := ⟨RX7, "takeWord", "(Ljava/lang/String;)Z"⟩
abbrev cX7_takeNumbers : ByteArray := prog_9_method_9_code
def yX7_takeNumbers : MethodName := ⟨RX7, "takeNumbers", "([I[I)Z"⟩
abbrev cX7_takeNumber : ByteArray := prog_9_method_10_code
def yX7_takeNumber : MethodName := ⟨RX7, "takeNumber", "(II)I"⟩
abbrev cX7_takeEnd : ByteArray := prog_9_method_11_code
def yX7_takeEnd : MethodName := ⟨RX7, "takeEnd", "()Z"⟩
def RX8 : String := "AlikeArrows$Sheet"
def TX8 : u_T := fun k => match k with
  | 0 => ("AlikeArrows$Sheet", "sticks", "[I", true)
  | 1 => ("AlikeArrows$Sheet", "bows", "[I", true)
  | 2 => ("AlikeArrows$Sheet", "archers", "[I", true)
  | 3 => ("AlikeArrows$Sheet", "xs", "[I", true)
  | 4 => ("AlikeArrows$Sheet", "ys", "[I", true)
  | 5 => ("AlikeArrows$Sheet", "sums", "[I", true)
  | 6 => ("AlikeArrows$Sheet", "counts", "[I", true)
  | 7 => ("AlikeArrows$Sheet", "partUp", "J", false)
  | 8 => ("AlikeArrows$Sheet", "partBy", "J", false)
  | _ => ("AlikeArrows$Sheet", "size", "I", false)
def tyX8 : Nat → FieldType := fun k => match k with
  | 0 => .array .int
  | 1 => .array .int
  | 2 => .array .int
  | 3 => .array .int
  | 4 => .array .int
  | 5 => .array .int
  | 6 => .array .int
  | 7 => .long
  | 8 => .long
  | _ => .int
abbrev wsX80 : List Cond := u_ws RX8 TX8 10
theorem nmX8 : ∀ a, a < 10 → ∀ b, b < 10 → a ≠ b → (TX8 a).2.1 ≠ (TX8 b).2.1 := by decide +kernel
theorem tyX8_ok : ∀ k, k < 10 → parseFieldDescriptor (TX8 k).2.2.1 = some (tyX8 k) := by decide +kernel
abbrev cX8_init : ByteArray := prog_10_method_1_code
def yX8_init : MethodName := ⟨RX8, "<init>", "()V"⟩
abbrev cX8_add : ByteArray := prog_10_method_2_code
def yX8_add : MethodName := ⟨RX8, "add", "(IIIII)V"⟩
abbrev cX8_tell : ByteArray := prog_10_method_3_code
def yX8_tell : MethodName := ⟨RX8, "tell", "(II)I"⟩
abbrev cX8_empty : ByteArray := prog_10_method_4_code
def yX8_empty : MethodName := ⟨RX8, "empty", "()I"⟩
abbrev cX8_copy : ByteArray := prog_10_method_5_code
def yX8_copy : MethodName := ⟨RX8, "copy", "(LAlikeArrows$Sheet;)V"⟩
abbrev cX8_partedBy : ByteArray := prog_10_method_6_code
def yX8_partedBy : MethodName := ⟨RX8, "partedBy", "()I"⟩
abbrev cX8_weigh : ByteArray := prog_10_method_7_code
def yX8_weigh : MethodName := ⟨RX8, "weigh", "([I)V"⟩
abbrev cX8_addUp : ByteArray := prog_10_method_8_code
def yX8_addUp : MethodName := ⟨RX8, "addUp", "([I)V"⟩
abbrev cX8_addFraction : ByteArray := prog_10_method_9_code
def yX8_addFraction : MethodName := ⟨RX8, "addFraction", "(JJ)V"⟩
abbrev cX8_commonDivisor : ByteArray := prog_10_method_10_code
def yX8_commonDivisor : MethodName := ⟨RX8, "commonDivisor", "(JJ)J"⟩
abbrev cX8_spreadOf : ByteArray := prog_10_method_11_code
def yX8_spreadOf : MethodName := ⟨RX8, "spreadOf", "(I)I"⟩
abbrev cX8_mayLeave : ByteArray := prog_10_method_12_code
def yX8_mayLeave : MethodName := ⟨RX8, "mayLeave", "(II)I"⟩
def RX9 : String := "AlikeArrows$Stick"
def TX9 : u_T := fun k => match k with
  | 0 => ("AlikeArrows$Stick", "length", "I", false)
  | 1 => ("AlikeArrows$Stick", "weight", "I", false)
  | 2 => ("AlikeArrows$Stick", "stiff0", "I", false)
  | 3 => ("AlikeArrows$Stick", "stiff1", "I", false)
  | 4 => ("AlikeArrows$Stick", "tip", "I", false)
  | 5 => ("AlikeArrows$Stick", "feather", "I", false)
  | _ => ("AlikeArrows$Stick", "notch", "I", false)
def tyX9 : Nat → FieldType := fun k => match k with
  | 0 => .int
  | 1 => .int
  | 2 => .int
  | 3 => .int
  | 4 => .int
  | 5 => .int
  | _ => .int
abbrev wsX90 : List Cond := u_ws RX9 TX9 7
theorem nmX9 : ∀ a, a < 7 → ∀ b, b < 7 → a ≠ b → (TX9 a).2.1 ≠ (TX9 b).2.1 := by decide +kernel
theorem tyX9_ok : ∀ k, k < 7 → parseFieldDescriptor (TX9 k).2.2.1 = some (tyX9 k) := by decide +kernel
abbrev cX9_init : ByteArray := prog_11_method_1_code
def yX9_init : MethodName := ⟨RX9, "<init>", "()V"⟩
abbrev cX9_copy : ByteArray := prog_11_method_2_code
def yX9_copy : MethodName := ⟨RX9, "copy", "(LAlikeArrows$Stick;)V"⟩
abbrev cX9_spine : ByteArray := prog_11_method_3_code
def yX9_spine : MethodName := ⟨RX9, "spine", "()I"⟩
abbrev cX9_spineBy : ByteArray := prog_11_method_4_code
def yX9_spineBy : MethodName := ⟨RX9, "spineBy", "(I)I"⟩
abbrev cX9_stiffBy : ByteArray := prog_11_method_5_code
def yX9_stiffBy : MethodName := ⟨RX9, "stiffBy", "(I)I"⟩
abbrev cX9_mass : ByteArray := prog_11_method_6_code
def yX9_mass : MethodName := ⟨RX9, "mass", "()I"⟩
abbrev cX9_mostCuts : ByteArray := prog_11_method_7_code
def yX9_mostCuts : MethodName := ⟨RX9, "mostCuts", "()I"⟩
abbrev cX9_mostScrapes : ByteArray := prog_11_method_8_code
def yX9_mostScrapes : MethodName := ⟨RX9, "mostScrapes", "()I"⟩
abbrev cX9_mostLoads : ByteArray := prog_11_method_9_code
def yX9_mostLoads : MethodName := ⟨RX9, "mostLoads", "()I"⟩
def RX10 : String := "AlikeArrows$Text"
def TX10 : u_T := fun k => match k with
  | 0 => ("AlikeArrows$Text", "bytes", "[I", true)
  | _ => ("AlikeArrows$Text", "size", "I", false)
def tyX10 : Nat → FieldType := fun k => match k with
  | 0 => .array .int
  | _ => .int
abbrev wsX100 : List Cond := u_ws RX10 TX10 2
theorem nmX10 : ∀ a, a < 2 → ∀ b, b < 2 → a ≠ b → (TX10 a).2.1 ≠ (TX10 b).2.1 := by decide +kernel
theorem tyX10_ok : ∀ k, k < 2 → parseFieldDescriptor (TX10 k).2.2.1 = some (tyX10 k) := by decide +kernel
abbrev cX10_init : ByteArray := prog_12_method_1_code
def yX10_init : MethodName := ⟨RX10, "<init>", "()V"⟩
abbrev cX10_add : ByteArray := prog_12_method_2_code
def yX10_add : MethodName := ⟨RX10, "add", "(I)V"⟩
abbrev cX10_at : ByteArray := prog_12_method_3_code
def yX10_at : MethodName := ⟨RX10, "at", "(I)I"⟩
abbrev cX10_empty : ByteArray := prog_12_method_4_code
def yX10_empty : MethodName := ⟨RX10, "empty", "()I"⟩
def RX11 : String := "AlikeArrows$Tunes"
def TX11 : u_T := fun k => match k with
  | _ => ("AlikeArrows$Tunes", "values", "[I", true)
def tyX11 : Nat → FieldType := fun k => match k with
  | _ => .array .int
abbrev wsX110 : List Cond := u_ws RX11 TX11 1
theorem nmX11 : ∀ a, a < 1 → ∀ b, b < 1 → a ≠ b → (TX11 a).2.1 ≠ (TX11 b).2.1 := by decide +kernel
theorem tyX11_ok : ∀ k, k < 1 → parseFieldDescriptor (TX11 k).2.2.1 = some (tyX11 k) := by decide +kernel
abbrev cX11_init : ByteArray := prog_13_method_1_code
def yX11_init : MethodName := ⟨RX11, "<init>", "()V"⟩
abbrev cX11_change : ByteArray := prog_13_method_2_code
def yX11_change : MethodName := ⟨RX11, "change", "(II)I"⟩
abbrev cX11_wind : ByteArray := prog_13_method_3_code
def yX11_wind : MethodName := ⟨RX11, "wind", "()I"⟩
abbrev cX11_isClean : ByteArray := prog_13_method_4_code
def yX11_isClean : MethodName := ⟨RX11, "isClean", "(I)Z"⟩
abbrev cX11_flightOf : ByteArray := prog_13_method_5_code
def yX11_flightOf : MethodName := ⟨RX11, "flightOf", "(I)I"⟩
abbrev cX11_bareOf : ByteArray := prog_13_method_6_code
def yX11_bareOf : MethodName := ⟨RX11, "bareOf", "(I)I"⟩
abbrev cX11_feathered : ByteArray := prog_13_method_7_code
def yX11_feathered : MethodName := ⟨RX11, "feathered", "(II)I"⟩
abbrev cX11_goesOf : ByteArray := prog_13_method_8_code
def yX11_goesOf : MethodName := ⟨RX11, "goesOf", "(LAlikeArrows$Stick;II)I"⟩
def RX12 : String := "AlikeArrows"
def TX12 : u_T := fun k => match k with
  | 0 => ("AlikeArrows", "text", "LAlikeArrows$Text;", true)
  | 1 => ("AlikeArrows", "reader", "LAlikeArrows$Reader;", true)
  | 2 => ("AlikeArrows", "tunes", "LAlikeArrows$Tunes;", true)
  | 3 => ("AlikeArrows", "sheet", "LAlikeArrows$Sheet;", true)
  | 4 => ("AlikeArrows", "flock", "LAlikeArrows$Flock;", true)
  | 5 => ("AlikeArrows", "leastActs", "LAlikeArrows$LeastActs;", true)
  | 6 => ("AlikeArrows", "kinds", "LAlikeArrows$Kinds;", true)
  | 7 => ("AlikeArrows", "image0", "LAlikeArrows$Image;", true)
  | 8 => ("AlikeArrows", "image1", "LAlikeArrows$Image;", true)
  | 9 => ("AlikeArrows", "gear", "LAlikeArrows$Gear;", false)
  | 10 => ("AlikeArrows", "spare", "LAlikeArrows$Gear;", false)
  | _ => ("AlikeArrows", "lotNow", "I", false)
def tyX12 : Nat → FieldType := fun k => match k with
  | 0 => .object "AlikeArrows$Text"
  | 1 => .object "AlikeArrows$Reader"
  | 2 => .object "AlikeArrows$Tunes"
  | 3 => .object "AlikeArrows$Sheet"
  | 4 => .object "AlikeArrows$Flock"
  | 5 => .object "AlikeArrows$LeastActs"
  | 6 => .object "AlikeArrows$Kinds"
  | 7 => .object "AlikeArrows$Image"
  | 8 => .object "AlikeArrows$Image"
  | 9 => .object "AlikeArrows$Gear"
  | 10 => .object "AlikeArrows$Gear"
  | _ => .int
abbrev wsX120 : List Cond := u_ws RX12 TX12 12
theorem nmX12 : ∀ a, a < 12 → ∀ b, b < 12 → a ≠ b → (TX12 a).2.1 ≠ (TX12 b).2.1 := by decide +kernel
theorem tyX12_ok : ∀ k, k < 12 → parseFieldDescriptor (TX12 k).2.2.1 = some (tyX12 k) := by decide +kernel
abbrev cX12_init : ByteArray := prog_1_method_1_code
def yX12_init : MethodName := ⟨RX12, "<init>", "()V"⟩
abbrev cX12_type : ByteArray := prog_1_method_2_code
def yX12_type : MethodName := ⟨RX12, "type", "(JI)I"⟩
abbrev cX12_clear : ByteArray := prog_1_method_3_code
def yX12_clear : MethodName := ⟨RX12, "clear", "()I"⟩
abbrev cX12_arrows : ByteArray := prog_1_method_4_code
def yX12_arrows : MethodName := ⟨RX12, "arrows", "()I"⟩
abbrev cX12_stick : ByteArray := prog_1_method_5_code
def yX12_stick : MethodName := ⟨RX12, "stick", "(II)I"⟩
abbrev cX12_bow : ByteArray := prog_1_method_6_code
def yX12_bow : MethodName := ⟨RX12, "bow", "(II)I"⟩
abbrev cX12_archer : ByteArray := prog_1_method_7_code
def yX12_archer : MethodName := ⟨RX12, "archer", "(II)I"⟩
abbrev cX12_tune : ByteArray := prog_1_method_8_code
def yX12_tune : MethodName := ⟨RX12, "tune", "(II)I"⟩
abbrev cX12_cut : ByteArray := prog_1_method_9_code
def yX12_cut : MethodName := ⟨RX12, "cut", "(I)I"⟩
abbrev cX12_scrape : ByteArray := prog_1_method_10_code
def yX12_scrape : MethodName := ⟨RX12, "scrape", "(I)I"⟩
abbrev cX12_load : ByteArray := prog_1_method_11_code
def yX12_load : MethodName := ⟨RX12, "load", "(I)I"⟩
abbrev cX12_turn : ByteArray := prog_1_method_12_code
def yX12_turn : MethodName := ⟨RX12, "turn", "(I)I"⟩
abbrev cX12_least : ByteArray := prog_1_method_13_code
def yX12_least : MethodName := ⟨RX12, "least", "(IIIII)I"⟩
abbrev cX12_flight : ByteArray := prog_1_method_14_code
def yX12_flight : MethodName := ⟨RX12, "flight", "(III)I"⟩
abbrev cX12_band : ByteArray := prog_1_method_15_code
def yX12_band : MethodName := ⟨RX12, "band", "(IIII)I"⟩
abbrev cX12_says : ByteArray := prog_1_method_16_code
def yX12_says : MethodName := ⟨RX12, "says", "(III)I"⟩
abbrev cX12_alike : ByteArray := prog_1_method_17_code
def yX12_alike : MethodName := ⟨RX12, "alike", "(IIII)I"⟩
abbrev cX12_turned : ByteArray := prog_1_method_18_code
def yX12_turned : MethodName := ⟨RX12, "turned", "(III)I"⟩
abbrev cX12_wreck : ByteArray := prog_1_method_19_code
def yX12_wreck : MethodName := ⟨RX12, "wreck", "(III)I"⟩
abbrev cX12_feather : ByteArray := prog_1_method_20_code
def yX12_feather : MethodName := ⟨RX12, "feather", "(III)I"⟩
abbrev cX12_warm : ByteArray := prog_1_method_21_code
def yX12_warm : MethodName := ⟨RX12, "warm", "(III)I"⟩
abbrev cX12_shoot : ByteArray := prog_1_method_22_code
def yX12_shoot : MethodName := ⟨RX12, "shoot", "(III)I"⟩
abbrev cX12_shot : ByteArray := prog_1_method_23_code
def yX12_shot : MethodName := ⟨RX12, "shot", "(II)I"⟩
abbrev cX12_wipe : ByteArray := prog_1_method_24_code
def yX12_wipe : MethodName := ⟨RX12, "wipe", "()I"⟩
abbrev cX12_parted : ByteArray := prog_1_method_25_code
def yX12_parted : MethodName := ⟨RX12, "parted", "()I"⟩
abbrev cX12_spread : ByteArray := prog_1_method_26_code
def yX12_spread : MethodName := ⟨RX12, "spread", "(I)I"⟩
abbrev cX12_out : ByteArray := prog_1_method_27_code
def yX12_out : MethodName := ⟨RX12, "out", "(II)I"⟩
abbrev cX12_lot : ByteArray := prog_1_method_28_code
def yX12_lot : MethodName := ⟨RX12, "lot", "(I)I"⟩
abbrev cX12_rate : ByteArray := prog_1_method_29_code
def yX12_rate : MethodName := ⟨RX12, "rate", "(II)I"⟩
abbrev cX12_keep : ByteArray := prog_1_method_30_code
def yX12_keep : MethodName := ⟨RX12, "keep", "(I)I"⟩
abbrev cX12_back : ByteArray := prog_1_method_31_code
def yX12_back : MethodName := ⟨RX12, "back", "(I)I"⟩
abbrev cX12_count : ByteArray := prog_1_method_32_code
def yX12_count : MethodName := ⟨RX12, "count", "(I)I"⟩
abbrev cX12_trace : ByteArray := prog_1_method_33_code
def yX12_trace : MethodName := ⟨RX12, "trace", "()J"⟩
abbrev cX12_imageAt : ByteArray := prog_1_method_34_code
def yX12_imageAt : MethodName := ⟨RX12, "imageAt", "(I)LAlikeArrows$Image;"⟩
abbrev cX12_within : ByteArray := prog_1_method_35_code
def yX12_within : MethodName := ⟨RX12, "within", "(III)Z"⟩
abbrev cX12_divided : ByteArray := prog_1_method_36_code
def yX12_divided : MethodName := ⟨RX12, "divided", "(II)I"⟩
abbrev cX12_leftOver : ByteArray := prog_1_method_37_code
def yX12_leftOver : MethodName := ⟨RX12, "leftOver", "(II)I"⟩
abbrev cX12_spineOf : ByteArray := prog_1_method_38_code
def yX12_spineOf : MethodName := ⟨RX12, "spineOf", "(III)I"⟩
abbrev cX12_needOf : ByteArray := prog_1_method_39_code
def yX12_needOf : MethodName := ⟨RX12, "needOf", "(II)I"⟩
def RX13 : String := "AlikeArrowsModel"
def TX13 : u_T := fun k => match k with
  | 0 => ("AlikeArrowsModel", "thrown", "I", false)
  | 1 => ("AlikeArrowsModel", "trace", "J", false)
  | 2 => ("AlikeArrowsModel", "text", "[I", true)
  | 3 => ("AlikeArrowsModel", "typed", "I", false)
  | 4 => ("AlikeArrowsModel", "next", "I", false)
  | 5 => ("AlikeArrowsModel", "token", "I", false)
  | 6 => ("AlikeArrowsModel", "place", "I", false)
  | 7 => ("AlikeArrowsModel", "value", "I", false)
  | 8 => ("AlikeArrowsModel", "fault", "I", false)
  | 9 => ("AlikeArrowsModel", "s", "[I", true)
  | 10 => ("AlikeArrowsModel", "kept", "[I", true)
  | 11 => ("AlikeArrowsModel", "isKept", "[Z", true)
  | 12 => ("AlikeArrowsModel", "sticks", "I", false)
  | 13 => ("AlikeArrowsModel", "bows", "I", false)
  | 14 => ("AlikeArrowsModel", "archers", "I", false)
  | 15 => ("AlikeArrowsModel", "bow", "[I", true)
  | 16 => ("AlikeArrowsModel", "archer", "[I", true)
  | 17 => ("AlikeArrowsModel", "draftStick", "[I", true)
  | 18 => ("AlikeArrowsModel", "draftBow", "[I", true)
  | 19 => ("AlikeArrowsModel", "draftArcher", "[I", true)
  | 20 => ("AlikeArrowsModel", "draftSticks", "I", false)
  | 21 => ("AlikeArrowsModel", "draftBows", "I", false)
  | 22 => ("AlikeArrowsModel", "draftArchers", "I", false)
  | 23 => ("AlikeArrowsModel", "tunes", "[I", true)
  | 24 => ("AlikeArrowsModel", "one", "[I", true)
  | 25 => ("AlikeArrowsModel", "spine", "I", false)
  | 26 => ("AlikeArrowsModel", "off", "I", false)
  | 27 => ("AlikeArrowsModel", "bare", "I", false)
  | 28 => ("AlikeArrowsModel", "goes", "I", false)
  | 29 => ("AlikeArrowsModel", "drop", "I", false)
  | 30 => ("AlikeArrowsModel", "kind", "I", false)
  | 31 => ("AlikeArrowsModel", "goesOf", "[I", true)
  | 32 => ("AlikeArrowsModel", "dropOf", "[I", true)
  | 33 => ("AlikeArrowsModel", "acts", "[I", true)
  | 34 => ("AlikeArrowsModel", "up", "J", false)
  | _ => ("AlikeArrowsModel", "down", "J", false)
def tyX13 : Nat → FieldType := fun k => match k with
  | 0 => .int
  | 1 => .long
  | 2 => .array .int
  | 3 => .int
  | 4 => .int
  | 5 => .int
  | 6 => .int
  | 7 => .int
  | 8 => .int
  | 9 => .array .int
  | 10 => .array .int
  | 11 => .array .boolean
  | 12 => .int
  | 13 => .int
  | 14 => .int
  | 15 => .array .int
  | 16 => .array .int
  | 17 => .array .int
  | 18 => .array .int
  | 19 => .array .int
  | 20 => .int
  | 21 => .int
  | 22 => .int
  | 23 => .array .int
  | 24 => .array .int
  | 25 => .int
  | 26 => .int
  | 27 => .int
  | 28 => .int
  | 29 => .int
  | 30 => .int
  | 31 => .array .int
  | 32 => .array .int
  | 33 => .array .int
  | 34 => .long
  | _ => .long
abbrev wsX130 : List Cond := u_ws RX13 TX13 36
theorem nmX13 : ∀ a, a < 36 → ∀ b, b < 36 → a ≠ b → (TX13 a).2.1 ≠ (TX13 b).2.1 := by decide +kernel
theorem tyX13_ok : ∀ k, k < 36 → parseFieldDescriptor (TX13 k).2.2.1 = some (tyX13 k) := by decide +kernel
abbrev cX13_init : ByteArray := prog_15_method_1_code
def yX13_init : MethodName := ⟨RX13, "<init>", "()V"⟩
abbrev cX13_in : ByteArray := prog_15_method_3_code
def yX13_in : MethodName := ⟨RX13, "in", "(III)Z"⟩
abbrev cX13_size : ByteArray := prog_15_method_4_code
def yX13_size : MethodName := ⟨RX13, "size", "(I)I"⟩
abbrev cX13_type : ByteArray := prog_15_method_5_code
def yX13_type : MethodName := ⟨RX13, "type", "(JI)I"⟩
abbrev cX13_clear : ByteArray := prog_15_method_6_code
def yX13_clear : MethodName := ⟨RX13, "clear", "()I"⟩
abbrev cX13_byteAt : ByteArray := prog_15_method_7_code
def yX13_byteAt : MethodName := ⟨RX13, "byteAt", "(I)I"⟩
abbrev cX13_add : ByteArray := prog_15_method_8_code
def yX13_add : MethodName := ⟨RX13, "add", "(JI)J"⟩
abbrev cX13_named : ByteArray := prog_15_method_9_code
def yX13_named : MethodName := ⟨RX13, "named", "(IIIIII)J"⟩
abbrev cX13_wordOf : ByteArray := prog_15_method_10_code
def yX13_wordOf : MethodName := ⟨RX13, "wordOf", "(J)I"⟩
abbrev cX13_advances : ByteArray := prog_15_method_11_code
def yX13_advances : MethodName := ⟨RX13, "advances", "()V"⟩
abbrev cX13_isWell : ByteArray := prog_15_method_12_code
def yX13_isWell : MethodName := ⟨RX13, "isWell", "()Z"⟩
abbrev cX13_takes : ByteArray := prog_15_method_13_code
def yX13_takes : MethodName := ⟨RX13, "takes", "(Z)I"⟩
abbrev cX13_number : ByteArray := prog_15_method_14_code
def yX13_number : MethodName := ⟨RX13, "number", "(II)I"⟩
abbrev cX13_readsItem : ByteArray := prog_15_method_15_code
def yX13_readsItem : MethodName := ⟨RX13, "readsItem", "(I)V"⟩
abbrev cX13_arrows : ByteArray := prog_15_method_16_code
def yX13_arrows : MethodName := ⟨RX13, "arrows", "()I"⟩
abbrev cX13_isStick : ByteArray := prog_15_method_17_code
def yX13_isStick : MethodName := ⟨RX13, "isStick", "(I)Z"⟩
abbrev cX13_isBow : ByteArray := prog_15_method_18_code
def yX13_isBow : MethodName := ⟨RX13, "isBow", "(I)Z"⟩
abbrev cX13_stick : ByteArray := prog_15_method_19_code
def yX13_stick : MethodName := ⟨RX13, "stick", "(II)I"⟩
abbrev cX13_bow : ByteArray := prog_15_method_20_code
def yX13_bow : MethodName := ⟨RX13, "bow", "(II)I"⟩
abbrev cX13_archer : ByteArray := prog_15_method_21_code
def yX13_archer : MethodName := ⟨RX13, "archer", "(II)I"⟩
abbrev cX13_tune : ByteArray := prog_15_method_22_code
def yX13_tune : MethodName := ⟨RX13, "tune", "(II)I"⟩
abbrev cX13_cut : ByteArray := prog_15_method_23_code
def yX13_cut : MethodName := ⟨RX13, "cut", "(I)I"⟩
abbrev cX13_mayScrape : ByteArray := prog_15_method_24_code
def yX13_mayScrape : MethodName := ⟨RX13, "mayScrape", "([III)Z"⟩
abbrev cX13_scrape : ByteArray := prog_15_method_25_code
def yX13_scrape : MethodName := ⟨RX13, "scrape", "(I)I"⟩
abbrev cX13_load : ByteArray := prog_15_method_26_code
def yX13_load : MethodName := ⟨RX13, "load", "(I)I"⟩
abbrev cX13_turn : ByteArray := prog_15_method_27_code
def yX13_turn : MethodName := ⟨RX13, "turn", "(I)I"⟩
abbrev cX13_tries : ByteArray := prog_15_method_28_code
def yX13_tries : MethodName := ⟨RX13, "tries", "(IIIII)Z"⟩
abbrev cX13_isAct : ByteArray := prog_15_method_29_code
def yX13_isAct : MethodName := ⟨RX13, "isAct", "(I)Z"⟩
abbrev cX13_least : ByteArray := prog_15_method_30_code
def yX13_least : MethodName := ⟨RX13, "least", "(IIIII)I"⟩
abbrev cX13_lays : ByteArray := prog_15_method_31_code
def yX13_lays : MethodName := ⟨RX13, "lays", "(I)V"⟩
abbrev cX13_kindOf : ByteArray := prog_15_method_32_code
def yX13_kindOf : MethodName := ⟨RX13, "kindOf", "(I)I"⟩
abbrev cX13_bareOf : ByteArray := prog_15_method_33_code
def yX13_bareOf : MethodName := ⟨RX13, "bareOf", "(I)I"⟩
abbrev cX13_flies : ByteArray := prog_15_method_34_code
def yX13_flies : MethodName := ⟨RX13, "flies", "(II)V"⟩
abbrev cX13_fliesWith : ByteArray := prog_15_method_35_code
def yX13_fliesWith : MethodName := ⟨RX13, "fliesWith", "(II)V"⟩
abbrev cX13_flight : ByteArray := prog_15_method_36_code
def yX13_flight : MethodName := ⟨RX13, "flight", "(III)I"⟩
abbrev cX13_band : ByteArray := prog_15_method_37_code
def yX13_band : MethodName := ⟨RX13, "band", "(IIII)I"⟩
abbrev cX13_says : ByteArray := prog_15_method_38_code
def yX13_says : MethodName := ⟨RX13, "says", "(III)I"⟩
abbrev cX13_areSame : ByteArray := prog_15_method_39_code
def yX13_areSame : MethodName := ⟨RX13, "areSame", "(II)Z"⟩
abbrev cX13_fliesAll : ByteArray := prog_15_method_40_code
def yX13_fliesAll : MethodName := ⟨RX13, "fliesAll", "(I)V"⟩
abbrev cX13_areAlike : ByteArray := prog_15_method_41_code
def yX13_areAlike : MethodName := ⟨RX13, "areAlike", "(III)Z"⟩
abbrev cX13_manyOf : ByteArray := prog_15_method_42_code
def yX13_manyOf : MethodName := ⟨RX13, "manyOf", "(I)I"⟩
abbrev cX13_alike : ByteArray := prog_15_method_43_code
def yX13_alike : MethodName := ⟨RX13, "alike", "(IIII)I"⟩
abbrev cX13_turned : ByteArray := prog_15_method_44_code
def yX13_turned : MethodName := ⟨RX13, "turned", "(III)I"⟩
abbrev cX13_wreck : ByteArray := prog_15_method_45_code
def yX13_wreck : MethodName := ⟨RX13, "wreck", "(III)I"⟩
abbrev cX13_feather : ByteArray := prog_15_method_46_code
def yX13_feather : MethodName := ⟨RX13, "feather", "(III)I"⟩
abbrev cX13_warm : ByteArray := prog_15_method_47_code
def yX13_warm : MethodName := ⟨RX13, "warm", "(III)I"⟩
abbrev cX13_shoot : ByteArray := prog_15_method_48_code
def yX13_shoot : MethodName := ⟨RX13, "shoot", "(III)I"⟩
abbrev cX13_shot : ByteArray := prog_15_method_49_code
def yX13_shot : MethodName := ⟨RX13, "shot", "(II)I"⟩
abbrev cX13_wipe : ByteArray := prog_15_method_50_code
def yX13_wipe : MethodName := ⟨RX13, "wipe", "()I"⟩
abbrev cX13_gcd : ByteArray := prog_15_method_51_code
def yX13_gcd : MethodName := ⟨RX13, "gcd", "(JJ)J"⟩
abbrev cX13_adds : ByteArray := prog_15_method_52_code
def yX13_adds : MethodName := ⟨RX13, "adds", "(JJ)V"⟩
abbrev cX13_parts : ByteArray := prog_15_method_53_code
def yX13_parts : MethodName := ⟨RX13, "parts", "(I)V"⟩
abbrev cX13_parted : ByteArray := prog_15_method_54_code
def yX13_parted : MethodName := ⟨RX13, "parted", "()I"⟩
abbrev cX13_spread : ByteArray := prog_15_method_55_code
def yX13_spread : MethodName := ⟨RX13, "spread", "(I)I"⟩
abbrev cX13_out : ByteArray := prog_15_method_56_code
def yX13_out : MethodName := ⟨RX13, "out", "(II)I"⟩
abbrev cX13_lot : ByteArray := prog_15_method_57_code
def yX13_lot : MethodName := ⟨RX13, "lot", "(I)I"⟩
abbrev cX13_rate : ByteArray := prog_15_method_58_code
def yX13_rate : MethodName := ⟨RX13, "rate", "(II)I"⟩
abbrev cX13_keep : ByteArray := prog_15_method_59_code
def yX13_keep : MethodName := ⟨RX13, "keep", "(I)I"⟩
abbrev cX13_back : ByteArray := prog_15_method_60_code
def yX13_back : MethodName := ⟨RX13, "back", "(I)I"⟩
abbrev cX13_count : ByteArray := prog_15_method_61_code
def yX13_count : MethodName := ⟨RX13, "count", "(I)I"⟩
abbrev cX13_trace : ByteArray := prog_15_method_62_code
def yX13_trace : MethodName := ⟨RX13, "trace", "()J"⟩
def RJ6 : String := "java/lang/Integer"
abbrev cJ6_bitCount_0f7a4 : ByteArray := prog_16_method_49_code
def yJ6_bitCount_0f7a4 : MethodName := ⟨RJ6, "bitCount", "(I)I"⟩
def RJ9 : String := "java/lang/Math"
abbrev cJ9_abs_0f7a4 : ByteArray := prog_17_method_59_code
def yJ9_abs_0f7a4 : MethodName := ⟨RJ9, "abs", "(I)I"⟩
abbrev cJ9_abs_067f4 : ByteArray := prog_17_method_61_code
def yJ9_abs_067f4 : MethodName := ⟨RJ9, "abs", "(J)J"⟩
abbrev cJ9_max_7cf53 : ByteArray := prog_17_method_65_code
def yJ9_max_7cf53 : MethodName := ⟨RJ9, "max", "(II)I"⟩
abbrev cJ9_min_7cf53 : ByteArray := prog_17_method_69_code
def yJ9_min_7cf53 : MethodName := ⟨RJ9, "min", "(II)I"⟩
def RJ0 : String := "java/lang/String"
abbrev cJ0_length_8abf5 : ByteArray := prog_18_method_54_code
def yJ0_length_8abf5 : MethodName := ⟨RJ0, "length", "()I"⟩
abbrev cJ0_charAt_5068e : ByteArray := prog_18_method_56_code
def yJ0_charAt_5068e : MethodName := ⟨RJ0, "charAt", "(I)C"⟩
abbrev cJ0_coder_7d493 : ByteArray := prog_18_method_152_code
def yJ0_coder_7d493 : MethodName := ⟨RJ0, "coder", "()B"⟩
abbrev cJ0_isLatin1_aae02 : ByteArray := prog_18_method_154_code
def yJ0_isLatin1_aae02 : MethodName := ⟨RJ0, "isLatin1", "()Z"⟩
abbrev cJ0_checkIndex_df160 : ByteArray := prog_18_method_155_code
def yJ0_checkIndex_df160 : MethodName := ⟨RJ0, "checkIndex", "(II)V"⟩
def RJ1 : String := "java/lang/StringLatin1"
abbrev cJ1_charAt_3b067 : ByteArray := prog_19_method_2_code
def yJ1_charAt_3b067 : MethodName := ⟨RJ1, "charAt", "([BI)C"⟩
def RJ2 : String := "java/lang/StringUTF16"
abbrev cJ2_getChar_3b067 : ByteArray := prog_20_method_5_code
def yJ2_getChar_3b067 : MethodName := ⟨RJ2, "getChar", "([BI)C"⟩
abbrev cJ2_length_9d52b : ByteArray := prog_20_method_6_code
def yJ2_length_9d52b : MethodName := ⟨RJ2, "length", "([B)I"⟩
abbrev cJ2_charAt_3b067 : ByteArray := prog_20_method_83_code
def yJ2_charAt_3b067 : MethodName := ⟨RJ2, "charAt", "([BI)C"⟩
abbrev cJ2_checkIndex_2214a : ByteArray := prog_20_method_91_code
def yJ2_checkIndex_2214a : MethodName := ⟨RJ2, "checkIndex", "(I[B)V"⟩
def RJ3 : String := "jdk/internal/util/Preconditions"
abbrev cJ3_checkIndex_8e157 : ByteArray := prog_21_method_11_code
def yJ3_checkIndex_8e157 : MethodName := ⟨RJ3, "checkIndex", "(IILjava/util/function/BiFunction;)I"⟩
def RL : String := "AlikeArrowsLaw"
abbrev cL_law : ByteArray := code
def yL_law : MethodName := ⟨RL, "law", "([I)Z"⟩
abbrev vwCl : List vw_C := [(RX0, TX0, 2), (RX1, TX1, 2), (RX2, TX2, 6), (RX3, TX3, 6), (RX4, TX4, 4), (RX5, TX5, 2), (RX6, TX6, 5), (RX7, TX7, 3), (RX8, TX8, 10), (RX9, TX9, 7), (RX10, TX10, 2), (RX11, TX11, 1), (RX12, TX12, 12), (RX13, TX13, 36)]
end
section
theorem dX0_init_0 : decode cX0_init 0 = .ok (.aload_n 0, 1) := by decide +kernel
theorem dX0_init_1 : decode cX0_init 1 = .ok (.invokespecial 1, 3) := by decide +kernel
theorem dX0_init_4 : decode cX0_init 4 = .ok (.return_, 1) := by decide +kernel
theorem dX1_init_0 : decode cX1_init 0 = .ok (.aload_n 0, 1) := by decide +kernel
theorem dX1_init_1 : decode cX1_init 1 = .ok (.invokespecial 1, 3) := by decide +kernel
theorem dX1_init_4 : decode cX1_init 4 = .ok (.return_, 1) := by decide +kernel
theorem dX1_need_0 : decode cX1_need 0 = .ok (.aload_n 0, 1) := by decide +kernel
theorem dX1_need_1 : decode cX1_need 1 = .ok (.getfield 7, 3) := by decide +kernel
theorem dX1_need_4 : decode cX1_need 4 = .ok (.aload_n 0, 1) := by decide +kernel
theorem dX1_need_5 : decode cX1_need 5 = .ok (.getfield 13, 3) := by decide +kernel
theorem dX1_need_8 : decode cX1_need 8 = .ok (.invokestatic 16, 3) := by decide +kernel
theorem dX1_need_11 : decode cX1_need 11 = .ok (.ireturn, 1) := by decide +kernel
theorem dX1_dropOf_0 : decode cX1_dropOf 0 = .ok (.bipush 10, 2) := by decide +kernel
theorem dX1_dropOf_2 : decode cX1_dropOf 2 = .ok (.aload_n 1, 1) := by decide +kernel
theorem dX1_dropOf_3 : decode cX1_dropOf 3 = .ok (.invokevirtual 22, 3) := by decide +kernel
theorem dX1_dropOf_6 : decode cX1_dropOf 6 = .ok (.imul, 1) := by decide +kernel
theorem dX1_dropOf_7 : decode cX1_dropOf 7 = .ok (.aload_n 0, 1) := by decide +kernel
theorem dX1_dropOf_8 : decode cX1_dropOf 8 = .ok (.getfield 7, 3) := by decide +kernel
theorem dX1_dropOf_11 : decode cX1_dropOf 11 = .ok (.invokestatic 28, 3) := by decide +kernel
theorem dX1_dropOf_14 : decode cX1_dropOf 14 = .ok (.iload_n 2, 1) := by decide +kernel
theorem dX1_dropOf_15 : decode cX1_dropOf 15 = .ok (.iadd, 1) := by decide +kernel
theorem dX1_dropOf_16 : decode cX1_dropOf 16 = .ok (.ireturn, 1) := by decide +kernel
theorem dX2_init_0 : decode cX2_init 0 = .ok (.aload_n 0, 1) := by decide +kernel
theorem dX2_init_1 : decode cX2_init 1 = .ok (.invokespecial 3, 3) := by decide +kernel
theorem dX2_init_4 : decode cX2_init 4 = .ok (.aload_n 0, 1) := by decide +kernel
theorem dX2_init_5 : decode cX2_init 5 = .ok (.bipush 12, 2) := by decide +kernel
theorem dX2_init_7 : decode cX2_init 7 = .ok (.newarray .int, 2) := by decide +kernel
theorem dX2_init_9 : decode cX2_init 9 = .ok (.putfield 9, 3) := by decide +kernel
theorem dX2_init_12 : decode cX2_init 12 = .ok (.aload_n 0, 1) := by decide +kernel
theorem dX2_init_13 : decode cX2_init 13 = .ok (.bipush 12, 2) := by decide +kernel
theorem dX2_init_15 : decode cX2_init 15 = .ok (.newarray .int, 2) := by decide +kernel
theorem dX2_init_17 : decode cX2_init 17 = .ok (.putfield 15, 3) := by decide +kernel
theorem dX2_init_20 : decode cX2_init 20 = .ok (.aload_n 0, 1) := by decide +kernel
theorem dX2_init_21 : decode cX2_init 21 = .ok (.bipush 12, 2) := by decide +kernel
theorem dX2_init_23 : decode cX2_init 23 = .ok (.newarray .int, 2) := by decide +kernel
theorem dX2_init_25 : decode cX2_init 25 = .ok (.putfield 18, 3) := by decide +kernel
theorem dX2_init_28 : decode cX2_init 28 = .ok (.return_, 1) := by decide +kernel
theorem dX2_gather_0 : decode cX2_gather 0 = .ok (.aload_n 0, 1) := by decide +kernel
theorem dX2_gather_1 : decode cX2_gather 1 = .ok (.iconst 0, 1) := by decide +kernel
theorem dX2_gather_2 : decode cX2_gather 2 = .ok (.putfield 21, 3) := by decide +kernel
theorem dX2_gather_5 : decode cX2_gather 5 = .ok (.iconst 0, 1) := by decide +kernel
theorem dX2_gather_6 : decode cX2_gather 6 = .ok (.istore 5, 2) := by decide +kernel
theorem dX2_gather_8 : decode cX2_gather 8 = .ok (.iload 5, 2) := by decide +kernel
theorem dX2_gather_10 : decode cX2_gather 10 = .ok (.aload_n 1, 1) := by decide +kernel
theorem dX2_gather_11 : decode cX2_gather 11 = .ok (.getfield 25, 3) := by decide +kernel
theorem dX2_gather_14 : decode cX2_gather 14 = .ok (.if_icmp .ge 148, 3) := by decide +kernel
theorem dX2_gather_17 : decode cX2_gather 17 = .ok (.iload 5, 2) := by decide +kernel
theorem dX2_gather_19 : decode cX2_gather 19 = .ok (.aload_n 0, 1) := by decide +kernel
theorem dX2_gather_20 : decode cX2_gather 20 = .ok (.getfield 18, 3) := by decide +kernel
theorem dX2_gather_23 : decode cX2_gather 23 = .ok (.arraylength, 1) := by decide +kernel
theorem dX2_gather_24 : decode cX2_gather 24 = .ok (.if_icmp .ge 138, 3) := by decide +kernel
theorem dX2_gather_27 : decode cX2_gather 27 = .ok (.aload_n 1, 1) := by decide +kernel
theorem dX2_gather_28 : decode cX2_gather 28 = .ok (.getfield 30, 3) := by decide +kernel
theorem dX2_gather_31 : decode cX2_gather 31 = .ok (.iload 5, 2) := by decide +kernel
theorem dX2_gather_33 : decode cX2_gather 33 = .ok (.aaload, 1) := by decide +kernel
theorem dX2_gather_34 : decode cX2_gather 34 = .ok (.astore 6, 2) := by decide +kernel
theorem dX2_gather_36 : decode cX2_gather 36 = .ok (.iload 4, 2) := by decide +kernel
theorem dX2_gather_38 : decode cX2_gather 38 = .ok (.ifCond .eq 7, 3) := by decide +kernel
theorem dX2_gather_41 : decode cX2_gather 41 = .ok (.iconst 0, 1) := by decide +kernel
theorem dX2_gather_42 : decode cX2_gather 42 = .ok (.goto 8, 3) := by decide +kernel
theorem dX2_gather_45 : decode cX2_gather 45 = .ok (.aload 6, 2) := by decide +kernel
theorem dX2_gather_47 : decode cX2_gather 47 = .ok (.getfield 34, 3) := by decide +kernel
theorem dX2_gather_50 : decode cX2_gather 50 = .ok (.istore 7, 2) := by decide +kernel
theorem dX2_gather_52 : decode cX2_gather 52 = .ok (.iload 4, 2) := by decide +kernel
theorem dX2_gather_54 : decode cX2_gather 54 = .ok (.ifCond .eq 7, 3) := by decide +kernel
theorem dX2_gather_57 : decode cX2_gather 57 = .ok (.iconst 1, 1) := by decide +kernel
theorem dX2_gather_58 : decode cX2_gather 58 = .ok (.goto 8, 3) := by decide +kernel
theorem dX2_gather_61 : decode cX2_gather 61 = .ok (.aload 6, 2) := by decide +kernel
theorem dX2_gather_63 : decode cX2_gather 63 = .ok (.getfield 34, 3) := by decide +kernel
theorem dX2_gather_66 : decode cX2_gather 66 = .ok (.istore 8, 2) := by decide +kernel
theorem dX2_gather_68 : decode cX2_gather 68 = .ok (.aload_n 0, 1) := by decide +kernel
theorem dX2_gather_69 : decode cX2_gather 69 = .ok (.getfield 9, 3) := by decide +kernel
theorem dX2_gather_72 : decode cX2_gather 72 = .ok (.iload 5, 2) := by decide +kernel
theorem dX2_gather_74 : decode cX2_gather 74 = .ok (.aload_n 3, 1) := by decide +kernel
theorem dX2_gather_75 : decode cX2_gather 75 = .ok (.aload 6, 2) := by decide +kernel
theorem dX2_gather_77 : decode cX2_gather 77 = .ok (.aload 6, 2) := by decide +kernel
theorem dX2_gather_79 : decode cX2_gather 79 = .ok (.iload 7, 2) := by decide +kernel
theorem dX2_gather_81 : decode cX2_gather 81 = .ok (.invokevirtual 39, 3) := by decide +kernel
theorem dX2_gather_84 : decode cX2_gather 84 = .ok (.aload_n 2, 1) := by decide +kernel
theorem dX2_gather_85 : decode cX2_gather 85 = .ok (.invokevirtual 43, 3) := by decide +kernel
theorem dX2_gather_88 : decode cX2_gather 88 = .ok (.isub, 1) := by decide +kernel
theorem dX2_gather_89 : decode cX2_gather 89 = .ok (.aload 6, 2) := by decide +kernel
theorem dX2_gather_91 : decode cX2_gather 91 = .ok (.getfield 49, 3) := by decide +kernel
theorem dX2_gather_94 : decode cX2_gather 94 = .ok (.invokevirtual 52, 3) := by decide +kernel
theorem dX2_gather_97 : decode cX2_gather 97 = .ok (.iastore, 1) := by decide +kernel
theorem dX2_gather_98 : decode cX2_gather 98 = .ok (.aload_n 0, 1) := by decide +kernel
theorem dX2_gather_99 : decode cX2_gather 99 = .ok (.getfield 15, 3) := by decide +kernel
theorem dX2_gather_102 : decode cX2_gather 102 = .ok (.iload 5, 2) := by decide +kernel
theorem dX2_gather_104 : decode cX2_gather 104 = .ok (.aload_n 3, 1) := by decide +kernel
theorem dX2_gather_105 : decode cX2_gather 105 = .ok (.aload 6, 2) := by decide +kernel
theorem dX2_gather_107 : decode cX2_gather 107 = .ok (.aload 6, 2) := by decide +kernel
theorem dX2_gather_109 : decode cX2_gather 109 = .ok (.iload 8, 2) := by decide +kernel
theorem dX2_gather_111 : decode cX2_gather 111 = .ok (.invokevirtual 39, 3) := by decide +kernel
theorem dX2_gather_114 : decode cX2_gather 114 = .ok (.aload_n 2, 1) := by decide +kernel
theorem dX2_gather_115 : decode cX2_gather 115 = .ok (.invokevirtual 43, 3) := by decide +kernel
theorem dX2_gather_118 : decode cX2_gather 118 = .ok (.isub, 1) := by decide +kernel
theorem dX2_gather_119 : decode cX2_gather 119 = .ok (.aload 6, 2) := by decide +kernel
theorem dX2_gather_121 : decode cX2_gather 121 = .ok (.getfield 49, 3) := by decide +kernel
theorem dX2_gather_124 : decode cX2_gather 124 = .ok (.invokevirtual 52, 3) := by decide +kernel
theorem dX2_gather_127 : decode cX2_gather 127 = .ok (.iastore, 1) := by decide +kernel
theorem dX2_gather_128 : decode cX2_gather 128 = .ok (.aload_n 0, 1) := by decide +kernel
theorem dX2_gather_129 : decode cX2_gather 129 = .ok (.getfield 18, 3) := by decide +kernel
theorem dX2_gather_132 : decode cX2_gather 132 = .ok (.iload 5, 2) := by decide +kernel
theorem dX2_gather_134 : decode cX2_gather 134 = .ok (.aload_n 2, 1) := by decide +kernel
theorem dX2_gather_135 : decode cX2_gather 135 = .ok (.aload 6, 2) := by decide +kernel
theorem dX2_gather_137 : decode cX2_gather 137 = .ok (.aload 6, 2) := by decide +kernel
theorem dX2_gather_139 : decode cX2_gather 139 = .ok (.getfield 49, 3) := by decide +kernel
theorem dX2_gather_142 : decode cX2_gather 142 = .ok (.invokevirtual 58, 3) := by decide +kernel
theorem dX2_gather_145 : decode cX2_gather 145 = .ok (.iastore, 1) := by decide +kernel
theorem dX2_gather_146 : decode cX2_gather 146 = .ok (.aload_n 0, 1) := by decide +kernel
theorem dX2_gather_147 : decode cX2_gather 147 = .ok (.dup, 1) := by decide +kernel
theorem dX2_gather_148 : decode cX2_gather 148 = .ok (.getfield 21, 3) := by decide +kernel
theorem dX2_gather_151 : decode cX2_gather 151 = .ok (.iconst 1, 1) := by decide +kernel
theorem dX2_gather_152 : decode cX2_gather 152 = .ok (.iadd, 1) := by decide +kernel
theorem dX2_gather_153 : decode cX2_gather 153 = .ok (.putfield 21, 3) := by decide +kernel
theorem dX2_gather_156 : decode cX2_gather 156 = .ok (.iinc 5 1, 3) := by decide +kernel
theorem dX2_gather_159 : decode cX2_gather 159 = .ok (.goto (-151), 3) := by decide +kernel
theorem dX2_gather_162 : decode cX2_gather 162 = .ok (.return_, 1) := by decide +kernel
theorem dX2_find_0 : decode cX2_find 0 = .ok (.aload_n 0, 1) := by decide +kernel
theorem dX2_find_1 : decode cX2_find 1 = .ok (.iconst 0, 1) := by decide +kernel
theorem dX2_find_2 : decode cX2_find 2 = .ok (.putfield 62, 3) := by decide +kernel
theorem dX2_find_5 : decode cX2_find 5 = .ok (.aload_n 0, 1) := by decide +kernel
theorem dX2_find_6 : decode cX2_find 6 = .ok (.iconst 0, 1) := by decide +kernel
theorem dX2_find_7 : decode cX2_find 7 = .ok (.putfield 65, 3) := by decide +kernel
theorem dX2_find_10 : decode cX2_find 10 = .ok (.iconst 0, 1) := by decide +kernel
theorem dX2_find_11 : decode cX2_find 11 = .ok (.istore_n 3, 1) := by decide +kernel
theorem dX2_find_12 : decode cX2_find 12 = .ok (.iload_n 3, 1) := by decide +kernel
theorem dX2_find_13 : decode cX2_find 13 = .ok (.aload_n 0, 1) := by decide +kernel
theorem dX2_find_14 : decode cX2_find 14 = .ok (.getfield 21, 3) := by decide +kernel
theorem dX2_find_17 : decode cX2_find 17 = .ok (.if_icmp .ge 65, 3) := by decide +kernel
theorem dX2_find_20 : decode cX2_find 20 = .ok (.iconst 0, 1) := by decide +kernel
theorem dX2_find_21 : decode cX2_find 21 = .ok (.istore 4, 2) := by decide +kernel
theorem dX2_find_23 : decode cX2_find 23 = .ok (.iload 4, 2) := by decide +kernel
theorem dX2_find_25 : decode cX2_find 25 = .ok (.aload_n 0, 1) := by decide +kernel
theorem dX2_find_26 : decode cX2_find 26 = .ok (.getfield 21, 3) := by decide +kernel
theorem dX2_find_29 : decode cX2_find 29 = .ok (.if_icmp .ge 47, 3) := by decide +kernel
theorem dX2_find_32 : decode cX2_find 32 = .ok (.aload_n 0, 1) := by decide +kernel
theorem dX2_find_33 : decode cX2_find 33 = .ok (.aload_n 0, 1) := by decide +kernel
theorem dX2_find_34 : decode cX2_find 34 = .ok (.getfield 9, 3) := by decide +kernel
theorem dX2_find_37 : decode cX2_find 37 = .ok (.iload_n 3, 1) := by decide +kernel
theorem dX2_find_38 : decode cX2_find 38 = .ok (.iaload, 1) := by decide +kernel
theorem dX2_find_39 : decode cX2_find 39 = .ok (.iload_n 1, 1) := by decide +kernel
theorem dX2_find_40 : decode cX2_find 40 = .ok (.aload_n 0, 1) := by decide +kernel
theorem dX2_find_41 : decode cX2_find 41 = .ok (.getfield 18, 3) := by decide +kernel
theorem dX2_find_44 : decode cX2_find 44 = .ok (.iload 4, 2) := by decide +kernel
theorem dX2_find_46 : decode cX2_find 46 = .ok (.iaload, 1) := by decide +kernel
theorem dX2_find_47 : decode cX2_find 47 = .ok (.iload_n 2, 1) := by decide +kernel
theorem dX2_find_48 : decode cX2_find 48 = .ok (.invokevirtual 68, 3) := by decide +kernel
theorem dX2_find_51 : decode cX2_find 51 = .ok (.aload_n 0, 1) := by decide +kernel
theorem dX2_find_52 : decode cX2_find 52 = .ok (.aload_n 0, 1) := by decide +kernel
theorem dX2_find_53 : decode cX2_find 53 = .ok (.getfield 15, 3) := by decide +kernel
theorem dX2_find_56 : decode cX2_find 56 = .ok (.iload_n 3, 1) := by decide +kernel
theorem dX2_find_57 : decode cX2_find 57 = .ok (.iaload, 1) := by decide +kernel
theorem dX2_find_58 : decode cX2_find 58 = .ok (.iload_n 1, 1) := by decide +kernel
theorem dX2_find_59 : decode cX2_find 59 = .ok (.aload_n 0, 1) := by decide +kernel
theorem dX2_find_60 : decode cX2_find 60 = .ok (.getfield 18, 3) := by decide +kernel
theorem dX2_find_63 : decode cX2_find 63 = .ok (.iload 4, 2) := by decide +kernel
theorem dX2_find_65 : decode cX2_find 65 = .ok (.iaload, 1) := by decide +kernel
theorem dX2_find_66 : decode cX2_find 66 = .ok (.iload_n 2, 1) := by decide +kernel
theorem dX2_find_67 : decode cX2_find 67 = .ok (.invokevirtual 68, 3) := by decide +kernel
theorem dX2_find_70 : decode cX2_find 70 = .ok (.iinc 4 1, 3) := by decide +kernel
theorem dX2_find_73 : decode cX2_find 73 = .ok (.goto (-50), 3) := by decide +kernel
theorem dX2_find_76 : decode cX2_find 76 = .ok (.iinc 3 1, 3) := by decide +kernel
theorem dX2_find_79 : decode cX2_find 79 = .ok (.goto (-67), 3) := by decide +kernel
theorem dX2_find_82 : decode cX2_find 82 = .ok (.return_, 1) := by decide +kernel
theorem dX2_tryFrom_0 : decode cX2_tryFrom 0 = .ok (.iconst 0, 1) := by decide +kernel
theorem dX2_tryFrom_1 : decode cX2_tryFrom 1 = .ok (.istore 5, 2) := by decide +kernel
theorem dX2_tryFrom_3 : decode cX2_tryFrom 3 = .ok (.iconst 0, 1) := by decide +kernel
theorem dX2_tryFrom_4 : decode cX2_tryFrom 4 = .ok (.istore 6, 2) := by decide +kernel
theorem dX2_tryFrom_6 : decode cX2_tryFrom 6 = .ok (.iload 6, 2) := by decide +kernel
theorem dX2_tryFrom_8 : decode cX2_tryFrom 8 = .ok (.aload_n 0, 1) := by decide +kernel
theorem dX2_tryFrom_9 : decode cX2_tryFrom 9 = .ok (.getfield 21, 3) := by decide +kernel
theorem dX2_tryFrom_12 : decode cX2_tryFrom 12 = .ok (.if_icmp .ge 82, 3) := by decide +kernel
theorem dX2_tryFrom_15 : decode cX2_tryFrom 15 = .ok (.aload_n 0, 1) := by decide +kernel
theorem dX2_tryFrom_16 : decode cX2_tryFrom 16 = .ok (.getfield 9, 3) := by decide +kernel
theorem dX2_tryFrom_19 : decode cX2_tryFrom 19 = .ok (.iload 6, 2) := by decide +kernel
theorem dX2_tryFrom_21 : decode cX2_tryFrom 21 = .ok (.iaload, 1) := by decide +kernel
theorem dX2_tryFrom_22 : decode cX2_tryFrom 22 = .ok (.iload_n 1, 1) := by decide +kernel
theorem dX2_tryFrom_23 : decode cX2_tryFrom 23 = .ok (.iload_n 1, 1) := by decide +kernel
theorem dX2_tryFrom_24 : decode cX2_tryFrom 24 = .ok (.iload_n 2, 1) := by decide +kernel
theorem dX2_tryFrom_25 : decode cX2_tryFrom 25 = .ok (.iadd, 1) := by decide +kernel
theorem dX2_tryFrom_26 : decode cX2_tryFrom 26 = .ok (.invokestatic 72, 3) := by decide +kernel
theorem dX2_tryFrom_29 : decode cX2_tryFrom 29 = .ok (.ifCond .ne 20, 3) := by decide +kernel
theorem dX2_tryFrom_32 : decode cX2_tryFrom 32 = .ok (.aload_n 0, 1) := by decide +kernel
theorem dX2_tryFrom_33 : decode cX2_tryFrom 33 = .ok (.getfield 15, 3) := by decide +kernel
theorem dX2_tryFrom_36 : decode cX2_tryFrom 36 = .ok (.iload 6, 2) := by decide +kernel
theorem dX2_tryFrom_38 : decode cX2_tryFrom 38 = .ok (.iaload, 1) := by decide +kernel
theorem dX2_tryFrom_39 : decode cX2_tryFrom 39 = .ok (.iload_n 1, 1) := by decide +kernel
theorem dX2_tryFrom_40 : decode cX2_tryFrom 40 = .ok (.iload_n 1, 1) := by decide +kernel
theorem dX2_tryFrom_41 : decode cX2_tryFrom 41 = .ok (.iload_n 2, 1) := by decide +kernel
theorem dX2_tryFrom_42 : decode cX2_tryFrom 42 = .ok (.iadd, 1) := by decide +kernel
theorem dX2_tryFrom_43 : decode cX2_tryFrom 43 = .ok (.invokestatic 72, 3) := by decide +kernel
theorem dX2_tryFrom_46 : decode cX2_tryFrom 46 = .ok (.ifCond .eq 7, 3) := by decide +kernel
theorem dX2_tryFrom_49 : decode cX2_tryFrom 49 = .ok (.iconst 1, 1) := by decide +kernel
theorem dX2_tryFrom_50 : decode cX2_tryFrom 50 = .ok (.goto 4, 3) := by decide +kernel
theorem dX2_tryFrom_53 : decode cX2_tryFrom 53 = .ok (.iconst 0, 1) := by decide +kernel
theorem dX2_tryFrom_54 : decode cX2_tryFrom 54 = .ok (.istore 7, 2) := by decide +kernel
theorem dX2_tryFrom_56 : decode cX2_tryFrom 56 = .ok (.iload 7, 2) := by decide +kernel
theorem dX2_tryFrom_58 : decode cX2_tryFrom 58 = .ok (.ifCond .eq 30, 3) := by decide +kernel
theorem dX2_tryFrom_61 : decode cX2_tryFrom 61 = .ok (.aload_n 0, 1) := by decide +kernel
theorem dX2_tryFrom_62 : decode cX2_tryFrom 62 = .ok (.getfield 18, 3) := by decide +kernel
theorem dX2_tryFrom_65 : decode cX2_tryFrom 65 = .ok (.iload 6, 2) := by decide +kernel
theorem dX2_tryFrom_67 : decode cX2_tryFrom 67 = .ok (.iaload, 1) := by decide +kernel
theorem dX2_tryFrom_68 : decode cX2_tryFrom 68 = .ok (.iload_n 3, 1) := by decide +kernel
theorem dX2_tryFrom_69 : decode cX2_tryFrom 69 = .ok (.iload_n 3, 1) := by decide +kernel
theorem dX2_tryFrom_70 : decode cX2_tryFrom 70 = .ok (.iload 4, 2) := by decide +kernel
theorem dX2_tryFrom_72 : decode cX2_tryFrom 72 = .ok (.iadd, 1) := by decide +kernel
theorem dX2_tryFrom_73 : decode cX2_tryFrom 73 = .ok (.invokestatic 72, 3) := by decide +kernel
theorem dX2_tryFrom_76 : decode cX2_tryFrom 76 = .ok (.ifCond .eq 12, 3) := by decide +kernel
theorem dX2_tryFrom_79 : decode cX2_tryFrom 79 = .ok (.iload 5, 2) := by decide +kernel
theorem dX2_tryFrom_81 : decode cX2_tryFrom 81 = .ok (.iconst 1, 1) := by decide +kernel
theorem dX2_tryFrom_82 : decode cX2_tryFrom 82 = .ok (.iload 6, 2) := by decide +kernel
theorem dX2_tryFrom_84 : decode cX2_tryFrom 84 = .ok (.ishl, 1) := by decide +kernel
theorem dX2_tryFrom_85 : decode cX2_tryFrom 85 = .ok (.ior, 1) := by decide +kernel
theorem dX2_tryFrom_86 : decode cX2_tryFrom 86 = .ok (.istore 5, 2) := by decide +kernel
theorem dX2_tryFrom_88 : decode cX2_tryFrom 88 = .ok (.iinc 6 1, 3) := by decide +kernel
theorem dX2_tryFrom_91 : decode cX2_tryFrom 91 = .ok (.goto (-85), 3) := by decide +kernel
theorem dX2_tryFrom_94 : decode cX2_tryFrom 94 = .ok (.iload 5, 2) := by decide +kernel
theorem dX2_tryFrom_96 : decode cX2_tryFrom 96 = .ok (.invokestatic 76, 3) := by decide +kernel
theorem dX2_tryFrom_99 : decode cX2_tryFrom 99 = .ok (.istore 6, 2) := by decide +kernel
theorem dX2_tryFrom_101 : decode cX2_tryFrom 101 = .ok (.iload 6, 2) := by decide +kernel
theorem dX2_tryFrom_103 : decode cX2_tryFrom 103 = .ok (.aload_n 0, 1) := by decide +kernel
theorem dX2_tryFrom_104 : decode cX2_tryFrom 104 = .ok (.getfield 65, 3) := by decide +kernel
theorem dX2_tryFrom_107 : decode cX2_tryFrom 107 = .ok (.if_icmp .lt 21, 3) := by decide +kernel
theorem dX2_tryFrom_110 : decode cX2_tryFrom 110 = .ok (.iload 6, 2) := by decide +kernel
theorem dX2_tryFrom_112 : decode cX2_tryFrom 112 = .ok (.aload_n 0, 1) := by decide +kernel
theorem dX2_tryFrom_113 : decode cX2_tryFrom 113 = .ok (.getfield 65, 3) := by decide +kernel
theorem dX2_tryFrom_116 : decode cX2_tryFrom 116 = .ok (.if_icmp .ne 13, 3) := by decide +kernel
theorem dX2_tryFrom_119 : decode cX2_tryFrom 119 = .ok (.iload 5, 2) := by decide +kernel
theorem dX2_tryFrom_121 : decode cX2_tryFrom 121 = .ok (.aload_n 0, 1) := by decide +kernel
theorem dX2_tryFrom_122 : decode cX2_tryFrom 122 = .ok (.getfield 62, 3) := by decide +kernel
theorem dX2_tryFrom_125 : decode cX2_tryFrom 125 = .ok (.if_icmp .lt 4, 3) := by decide +kernel
theorem dX2_tryFrom_128 : decode cX2_tryFrom 128 = .ok (.return_, 1) := by decide +kernel
theorem dX2_tryFrom_129 : decode cX2_tryFrom 129 = .ok (.aload_n 0, 1) := by decide +kernel
theorem dX2_tryFrom_130 : decode cX2_tryFrom 130 = .ok (.iload 5, 2) := by decide +kernel
theorem dX2_tryFrom_132 : decode cX2_tryFrom 132 = .ok (.putfield 62, 3) := by decide +kernel
theorem dX2_tryFrom_135 : decode cX2_tryFrom 135 = .ok (.aload_n 0, 1) := by decide +kernel
theorem dX2_tryFrom_136 : decode cX2_tryFrom 136 = .ok (.iload 6, 2) := by decide +kernel
theorem dX2_tryFrom_138 : decode cX2_tryFrom 138 = .ok (.putfield 65, 3) := by decide +kernel
theorem dX2_tryFrom_141 : decode cX2_tryFrom 141 = .ok (.return_, 1) := by decide +kernel
theorem dX3_init_0 : decode cX3_init 0 = .ok (.aload_n 0, 1) := by decide +kernel
theorem dX3_init_1 : decode cX3_init 1 = .ok (.invokespecial 3, 3) := by decide +kernel
theorem dX3_init_4 : decode cX3_init 4 = .ok (.aload_n 0, 1) := by decide +kernel
theorem dX3_init_5 : decode cX3_init 5 = .ok (.bipush 12, 2) := by decide +kernel
theorem dX3_init_7 : decode cX3_init 7 = .ok (.anewarray 9, 3) := by decide +kernel
theorem dX3_init_10 : decode cX3_init 10 = .ok (.putfield 11, 3) := by decide +kernel
theorem dX3_init_13 : decode cX3_init 13 = .ok (.aload_n 0, 1) := by decide +kernel
theorem dX3_init_14 : decode cX3_init 14 = .ok (.iconst 3, 1) := by decide +kernel
theorem dX3_init_15 : decode cX3_init 15 = .ok (.anewarray 17, 3) := by decide +kernel
theorem dX3_init_18 : decode cX3_init 18 = .ok (.putfield 19, 3) := by decide +kernel
theorem dX3_init_21 : decode cX3_init 21 = .ok (.aload_n 0, 1) := by decide +kernel
theorem dX3_init_22 : decode cX3_init 22 = .ok (.iconst 3, 1) := by decide +kernel
theorem dX3_init_23 : decode cX3_init 23 = .ok (.anewarray 23, 3) := by decide +kernel
theorem dX3_init_26 : decode cX3_init 26 = .ok (.putfield 25, 3) := by decide +kernel
theorem dX3_init_29 : decode cX3_init 29 = .ok (.iconst 0, 1) := by decide +kernel
theorem dX3_init_30 : decode cX3_init 30 = .ok (.istore_n 1, 1) := by decide +kernel
theorem dX3_init_31 : decode cX3_init 31 = .ok (.iload_n 1, 1) := by decide +kernel
theorem dX3_init_32 : decode cX3_init 32 = .ok (.aload_n 0, 1) := by decide +kernel
theorem dX3_init_33 : decode cX3_init 33 = .ok (.getfield 11, 3) := by decide +kernel
theorem dX3_init_36 : decode cX3_init 36 = .ok (.arraylength, 1) := by decide +kernel
theorem dX3_init_37 : decode cX3_init 37 = .ok (.if_icmp .ge 22, 3) := by decide +kernel
theorem dX3_init_40 : decode cX3_init 40 = .ok (.aload_n 0, 1) := by decide +kernel
theorem dX3_init_41 : decode cX3_init 41 = .ok (.getfield 11, 3) := by decide +kernel
theorem dX3_init_44 : decode cX3_init 44 = .ok (.iload_n 1, 1) := by decide +kernel
theorem dX3_init_45 : decode cX3_init 45 = .ok (.new 9, 3) := by decide +kernel
theorem dX3_init_48 : decode cX3_init 48 = .ok (.dup, 1) := by decide +kernel
theorem dX3_init_49 : decode cX3_init 49 = .ok (.invokespecial 29, 3) := by decide +kernel
theorem dX3_init_52 : decode cX3_init 52 = .ok (.aastore, 1) := by decide +kernel
theorem dX3_init_53 : decode cX3_init 53 = .ok (.iinc 1 1, 3) := by decide +kernel
theorem dX3_init_56 : decode cX3_init 56 = .ok (.goto (-25), 3) := by decide +kernel
theorem dX3_init_59 : decode cX3_init 59 = .ok (.iconst 0, 1) := by decide +kernel
theorem dX3_init_60 : decode cX3_init 60 = .ok (.istore_n 1, 1) := by decide +kernel
theorem dX3_init_61 : decode cX3_init 61 = .ok (.iload_n 1, 1) := by decide +kernel
theorem dX3_init_62 : decode cX3_init 62 = .ok (.aload_n 0, 1) := by decide +kernel
theorem dX3_init_63 : decode cX3_init 63 = .ok (.getfield 19, 3) := by decide +kernel
theorem dX3_init_66 : decode cX3_init 66 = .ok (.arraylength, 1) := by decide +kernel
theorem dX3_init_67 : decode cX3_init 67 = .ok (.if_icmp .ge 22, 3) := by decide +kernel
theorem dX3_init_70 : decode cX3_init 70 = .ok (.aload_n 0, 1) := by decide +kernel
theorem dX3_init_71 : decode cX3_init 71 = .ok (.getfield 19, 3) := by decide +kernel
theorem dX3_init_74 : decode cX3_init 74 = .ok (.iload_n 1, 1) := by decide +kernel
theorem dX3_init_75 : decode cX3_init 75 = .ok (.new 17, 3) := by decide +kernel
theorem dX3_init_78 : decode cX3_init 78 = .ok (.dup, 1) := by decide +kernel
theorem dX3_init_79 : decode cX3_init 79 = .ok (.invokespecial 30, 3) := by decide +kernel
theorem dX3_init_82 : decode cX3_init 82 = .ok (.aastore, 1) := by decide +kernel
theorem dX3_init_83 : decode cX3_init 83 = .ok (.iinc 1 1, 3) := by decide +kernel
theorem dX3_init_86 : decode cX3_init 86 = .ok (.goto (-25), 3) := by decide +kernel
theorem dX3_init_89 : decode cX3_init 89 = .ok (.iconst 0, 1) := by decide +kernel
theorem dX3_init_90 : decode cX3_init 90 = .ok (.istore_n 1, 1) := by decide +kernel
theorem dX3_init_91 : decode cX3_init 91 = .ok (.iload_n 1, 1) := by decide +kernel
theorem dX3_init_92 : decode cX3_init 92 = .ok (.aload_n 0, 1) := by decide +kernel
theorem dX3_init_93 : decode cX3_init 93 = .ok (.getfield 25, 3) := by decide +kernel
theorem dX3_init_96 : decode cX3_init 96 = .ok (.arraylength, 1) := by decide +kernel
theorem dX3_init_97 : decode cX3_init 97 = .ok (.if_icmp .ge 22, 3) := by decide +kernel
theorem dX3_init_100 : decode cX3_init 100 = .ok (.aload_n 0, 1) := by decide +kernel
theorem dX3_init_101 : decode cX3_init 101 = .ok (.getfield 25, 3) := by decide +kernel
theorem dX3_init_104 : decode cX3_init 104 = .ok (.iload_n 1, 1) := by decide +kernel
theorem dX3_init_105 : decode cX3_init 105 = .ok (.new 23, 3) := by decide +kernel
theorem dX3_init_108 : decode cX3_init 108 = .ok (.dup, 1) := by decide +kernel
theorem dX3_init_109 : decode cX3_init 109 = .ok (.invokespecial 31, 3) := by decide +kernel
theorem dX3_init_112 : decode cX3_init 112 = .ok (.aastore, 1) := by decide +kernel
theorem dX3_init_113 : decode cX3_init 113 = .ok (.iinc 1 1, 3) := by decide +kernel
theorem dX3_init_116 : decode cX3_init 116 = .ok (.goto (-25), 3) := by decide +kernel
theorem dX3_init_119 : decode cX3_init 119 = .ok (.return_, 1) := by decide +kernel
theorem dX3_empty_0 : decode cX3_empty 0 = .ok (.aload_n 0, 1) := by decide +kernel
theorem dX3_empty_1 : decode cX3_empty 1 = .ok (.iconst 0, 1) := by decide +kernel
theorem dX3_empty_2 : decode cX3_empty 2 = .ok (.putfield 32, 3) := by decide +kernel
theorem dX3_empty_5 : decode cX3_empty 5 = .ok (.aload_n 0, 1) := by decide +kernel
theorem dX3_empty_6 : decode cX3_empty 6 = .ok (.iconst 0, 1) := by decide +kernel
theorem dX3_empty_7 : decode cX3_empty 7 = .ok (.putfield 36, 3) := by decide +kernel
theorem dX3_empty_10 : decode cX3_empty 10 = .ok (.aload_n 0, 1) := by decide +kernel
theorem dX3_empty_11 : decode cX3_empty 11 = .ok (.iconst 0, 1) := by decide +kernel
theorem dX3_empty_12 : decode cX3_empty 12 = .ok (.putfield 39, 3) := by decide +kernel
theorem dX3_empty_15 : decode cX3_empty 15 = .ok (.return_, 1) := by decide +kernel
theorem dX3_stickAt_0 : decode cX3_stickAt 0 = .ok (.iload_n 1, 1) := by decide +kernel
theorem dX3_stickAt_1 : decode cX3_stickAt 1 = .ok (.ifCond .lt 20, 3) := by decide +kernel
theorem dX3_stickAt_4 : decode cX3_stickAt 4 = .ok (.iload_n 1, 1) := by decide +kernel
theorem dX3_stickAt_5 : decode cX3_stickAt 5 = .ok (.aload_n 0, 1) := by decide +kernel
theorem dX3_stickAt_6 : decode cX3_stickAt 6 = .ok (.getfield 32, 3) := by decide +kernel
theorem dX3_stickAt_9 : decode cX3_stickAt 9 = .ok (.if_icmp .ge 12, 3) := by decide +kernel
theorem dX3_stickAt_12 : decode cX3_stickAt 12 = .ok (.aload_n 0, 1) := by decide +kernel
theorem dX3_stickAt_13 : decode cX3_stickAt 13 = .ok (.getfield 11, 3) := by decide +kernel
theorem dX3_stickAt_16 : decode cX3_stickAt 16 = .ok (.iload_n 1, 1) := by decide +kernel
theorem dX3_stickAt_17 : decode cX3_stickAt 17 = .ok (.aaload, 1) := by decide +kernel
theorem dX3_stickAt_18 : decode cX3_stickAt 18 = .ok (.goto 4, 3) := by decide +kernel
theorem dX3_stickAt_21 : decode cX3_stickAt 21 = .ok (.aconst_null, 1) := by decide +kernel
theorem dX3_stickAt_22 : decode cX3_stickAt 22 = .ok (.areturn, 1) := by decide +kernel
theorem dX3_bowAt_0 : decode cX3_bowAt 0 = .ok (.iload_n 1, 1) := by decide +kernel
theorem dX3_bowAt_1 : decode cX3_bowAt 1 = .ok (.ifCond .lt 20, 3) := by decide +kernel
theorem dX3_bowAt_4 : decode cX3_bowAt 4 = .ok (.iload_n 1, 1) := by decide +kernel
theorem dX3_bowAt_5 : decode cX3_bowAt 5 = .ok (.aload_n 0, 1) := by decide +kernel
theorem dX3_bowAt_6 : decode cX3_bowAt 6 = .ok (.getfield 36, 3) := by decide +kernel
theorem dX3_bowAt_9 : decode cX3_bowAt 9 = .ok (.if_icmp .ge 12, 3) := by decide +kernel
theorem dX3_bowAt_12 : decode cX3_bowAt 12 = .ok (.aload_n 0, 1) := by decide +kernel
theorem dX3_bowAt_13 : decode cX3_bowAt 13 = .ok (.getfield 19, 3) := by decide +kernel
theorem dX3_bowAt_16 : decode cX3_bowAt 16 = .ok (.iload_n 1, 1) := by decide +kernel
theorem dX3_bowAt_17 : decode cX3_bowAt 17 = .ok (.aaload, 1) := by decide +kernel
theorem dX3_bowAt_18 : decode cX3_bowAt 18 = .ok (.goto 4, 3) := by decide +kernel
theorem dX3_bowAt_21 : decode cX3_bowAt 21 = .ok (.aconst_null, 1) := by decide +kernel
theorem dX3_bowAt_22 : decode cX3_bowAt 22 = .ok (.areturn, 1) := by decide +kernel
theorem dX3_archerAt_0 : decode cX3_archerAt 0 = .ok (.iload_n 1, 1) := by decide +kernel
theorem dX3_archerAt_1 : decode cX3_archerAt 1 = .ok (.ifCond .lt 20, 3) := by decide +kernel
theorem dX3_archerAt_4 : decode cX3_archerAt 4 = .ok (.iload_n 1, 1) := by decide +kernel
theorem dX3_archerAt_5 : decode cX3_archerAt 5 = .ok (.aload_n 0, 1) := by decide +kernel
theorem dX3_archerAt_6 : decode cX3_archerAt 6 = .ok (.getfield 39, 3) := by decide +kernel
theorem dX3_archerAt_9 : decode cX3_archerAt 9 = .ok (.if_icmp .ge 12, 3) := by decide +kernel
theorem dX3_archerAt_12 : decode cX3_archerAt 12 = .ok (.aload_n 0, 1) := by decide +kernel
theorem dX3_archerAt_13 : decode cX3_archerAt 13 = .ok (.getfield 25, 3) := by decide +kernel
theorem dX3_archerAt_16 : decode cX3_archerAt 16 = .ok (.iload_n 1, 1) := by decide +kernel
theorem dX3_archerAt_17 : decode cX3_archerAt 17 = .ok (.aaload, 1) := by decide +kernel
theorem dX3_archerAt_18 : decode cX3_archerAt 18 = .ok (.goto 4, 3) := by decide +kernel
theorem dX3_archerAt_21 : decode cX3_archerAt 21 = .ok (.aconst_null, 1) := by decide +kernel
theorem dX3_archerAt_22 : decode cX3_archerAt 22 = .ok (.areturn, 1) := by decide +kernel
theorem dX3_addStick_0 : decode cX3_addStick 0 = .ok (.aload_n 0, 1) := by decide +kernel
theorem dX3_addStick_1 : decode cX3_addStick 1 = .ok (.getfield 32, 3) := by decide +kernel
theorem dX3_addStick_4 : decode cX3_addStick 4 = .ok (.aload_n 0, 1) := by decide +kernel
theorem dX3_addStick_5 : decode cX3_addStick 5 = .ok (.getfield 11, 3) := by decide +kernel
theorem dX3_addStick_8 : decode cX3_addStick 8 = .ok (.arraylength, 1) := by decide +kernel
theorem dX3_addStick_9 : decode cX3_addStick 9 = .ok (.if_icmp .lt 5, 3) := by decide +kernel
theorem dX3_addStick_12 : decode cX3_addStick 12 = .ok (.aconst_null, 1) := by decide +kernel
theorem dX3_addStick_13 : decode cX3_addStick 13 = .ok (.areturn, 1) := by decide +kernel
theorem dX3_addStick_14 : decode cX3_addStick 14 = .ok (.aload_n 0, 1) := by decide +kernel
theorem dX3_addStick_15 : decode cX3_addStick 15 = .ok (.dup, 1) := by decide +kernel
theorem dX3_addStick_16 : decode cX3_addStick 16 = .ok (.getfield 32, 3) := by decide +kernel
theorem dX3_addStick_19 : decode cX3_addStick 19 = .ok (.iconst 1, 1) := by decide +kernel
theorem dX3_addStick_20 : decode cX3_addStick 20 = .ok (.iadd, 1) := by decide +kernel
theorem dX3_addStick_21 : decode cX3_addStick 21 = .ok (.putfield 32, 3) := by decide +kernel
theorem dX3_addStick_24 : decode cX3_addStick 24 = .ok (.aload_n 0, 1) := by decide +kernel
theorem dX3_addStick_25 : decode cX3_addStick 25 = .ok (.getfield 11, 3) := by decide +kernel
theorem dX3_addStick_28 : decode cX3_addStick 28 = .ok (.aload_n 0, 1) := by decide +kernel
theorem dX3_addStick_29 : decode cX3_addStick 29 = .ok (.getfield 32, 3) := by decide +kernel
theorem dX3_addStick_32 : decode cX3_addStick 32 = .ok (.iconst 1, 1) := by decide +kernel
theorem dX3_addStick_33 : decode cX3_addStick 33 = .ok (.isub, 1) := by decide +kernel
theorem dX3_addStick_34 : decode cX3_addStick 34 = .ok (.aaload, 1) := by decide +kernel
theorem dX3_addStick_35 : decode cX3_addStick 35 = .ok (.areturn, 1) := by decide +kernel
theorem dX3_addBow_0 : decode cX3_addBow 0 = .ok (.aload_n 0, 1) := by decide +kernel
theorem dX3_addBow_1 : decode cX3_addBow 1 = .ok (.getfield 36, 3) := by decide +kernel
theorem dX3_addBow_4 : decode cX3_addBow 4 = .ok (.aload_n 0, 1) := by decide +kernel
theorem dX3_addBow_5 : decode cX3_addBow 5 = .ok (.getfield 19, 3) := by decide +kernel
theorem dX3_addBow_8 : decode cX3_addBow 8 = .ok (.arraylength, 1) := by decide +kernel
theorem dX3_addBow_9 : decode cX3_addBow 9 = .ok (.if_icmp .lt 5, 3) := by decide +kernel
theorem dX3_addBow_12 : decode cX3_addBow 12 = .ok (.aconst_null, 1) := by decide +kernel
theorem dX3_addBow_13 : decode cX3_addBow 13 = .ok (.areturn, 1) := by decide +kernel
theorem dX3_addBow_14 : decode cX3_addBow 14 = .ok (.aload_n 0, 1) := by decide +kernel
theorem dX3_addBow_15 : decode cX3_addBow 15 = .ok (.dup, 1) := by decide +kernel
theorem dX3_addBow_16 : decode cX3_addBow 16 = .ok (.getfield 36, 3) := by decide +kernel
theorem dX3_addBow_19 : decode cX3_addBow 19 = .ok (.iconst 1, 1) := by decide +kernel
theorem dX3_addBow_20 : decode cX3_addBow 20 = .ok (.iadd, 1) := by decide +kernel
theorem dX3_addBow_21 : decode cX3_addBow 21 = .ok (.putfield 36, 3) := by decide +kernel
theorem dX3_addBow_24 : decode cX3_addBow 24 = .ok (.aload_n 0, 1) := by decide +kernel
theorem dX3_addBow_25 : decode cX3_addBow 25 = .ok (.getfield 19, 3) := by decide +kernel
theorem dX3_addBow_28 : decode cX3_addBow 28 = .ok (.aload_n 0, 1) := by decide +kernel
theorem dX3_addBow_29 : decode cX3_addBow 29 = .ok (.getfield 36, 3) := by decide +kernel
theorem dX3_addBow_32 : decode cX3_addBow 32 = .ok (.iconst 1, 1) := by decide +kernel
theorem dX3_addBow_33 : decode cX3_addBow 33 = .ok (.isub, 1) := by decide +kernel
theorem dX3_addBow_34 : decode cX3_addBow 34 = .ok (.aaload, 1) := by decide +kernel
theorem dX3_addBow_35 : decode cX3_addBow 35 = .ok (.areturn, 1) := by decide +kernel
theorem dX3_addArcher_0 : decode cX3_addArcher 0 = .ok (.aload_n 0, 1) := by decide +kernel
theorem dX3_addArcher_1 : decode cX3_addArcher 1 = .ok (.getfield 39, 3) := by decide +kernel
theorem dX3_addArcher_4 : decode cX3_addArcher 4 = .ok (.aload_n 0, 1) := by decide +kernel
theorem dX3_addArcher_5 : decode cX3_addArcher 5 = .ok (.getfield 25, 3) := by decide +kernel
theorem dX3_addArcher_8 : decode cX3_addArcher 8 = .ok (.arraylength, 1) := by decide +kernel
theorem dX3_addArcher_9 : decode cX3_addArcher 9 = .ok (.if_icmp .lt 5, 3) := by decide +kernel
theorem dX3_addArcher_12 : decode cX3_addArcher 12 = .ok (.aconst_null, 1) := by decide +kernel
theorem dX3_addArcher_13 : decode cX3_addArcher 13 = .ok (.areturn, 1) := by decide +kernel
theorem dX3_addArcher_14 : decode cX3_addArcher 14 = .ok (.aload_n 0, 1) := by decide +kernel
theorem dX3_addArcher_15 : decode cX3_addArcher 15 = .ok (.dup, 1) := by decide +kernel
theorem dX3_addArcher_16 : decode cX3_addArcher 16 = .ok (.getfield 39, 3) := by decide +kernel
theorem dX3_addArcher_19 : decode cX3_addArcher 19 = .ok (.iconst 1, 1) := by decide +kernel
theorem dX3_addArcher_20 : decode cX3_addArcher 20 = .ok (.iadd, 1) := by decide +kernel
theorem dX3_addArcher_21 : decode cX3_addArcher 21 = .ok (.putfield 39, 3) := by decide +kernel
theorem dX3_addArcher_24 : decode cX3_addArcher 24 = .ok (.aload_n 0, 1) := by decide +kernel
theorem dX3_addArcher_25 : decode cX3_addArcher 25 = .ok (.getfield 25, 3) := by decide +kernel
theorem dX3_addArcher_28 : decode cX3_addArcher 28 = .ok (.aload_n 0, 1) := by decide +kernel
theorem dX3_addArcher_29 : decode cX3_addArcher 29 = .ok (.getfield 39, 3) := by decide +kernel
theorem dX3_addArcher_32 : decode cX3_addArcher 32 = .ok (.iconst 1, 1) := by decide +kernel
theorem dX3_addArcher_33 : decode cX3_addArcher 33 = .ok (.isub, 1) := by decide +kernel
theorem dX3_addArcher_34 : decode cX3_addArcher 34 = .ok (.aaload, 1) := by decide +kernel
theorem dX3_addArcher_35 : decode cX3_addArcher 35 = .ok (.areturn, 1) := by decide +kernel
theorem dX4_init_0 : decode cX4_init 0 = .ok (.aload_n 0, 1) := by decide +kernel
theorem dX4_init_1 : decode cX4_init 1 = .ok (.invokespecial 3, 3) := by decide +kernel
theorem dX4_init_4 : decode cX4_init 4 = .ok (.aload_n 0, 1) := by decide +kernel
theorem dX4_init_5 : decode cX4_init 5 = .ok (.bipush 12, 2) := by decide +kernel
theorem dX4_init_7 : decode cX4_init 7 = .ok (.anewarray 9, 3) := by decide +kernel
theorem dX4_init_10 : decode cX4_init 10 = .ok (.putfield 11, 3) := by decide +kernel
theorem dX4_init_13 : decode cX4_init 13 = .ok (.aload_n 0, 1) := by decide +kernel
theorem dX4_init_14 : decode cX4_init 14 = .ok (.new 17, 3) := by decide +kernel
theorem dX4_init_17 : decode cX4_init 17 = .ok (.dup, 1) := by decide +kernel
theorem dX4_init_18 : decode cX4_init 18 = .ok (.invokespecial 19, 3) := by decide +kernel
theorem dX4_init_21 : decode cX4_init 21 = .ok (.putfield 20, 3) := by decide +kernel
theorem dX4_init_24 : decode cX4_init 24 = .ok (.iconst 0, 1) := by decide +kernel
theorem dX4_init_25 : decode cX4_init 25 = .ok (.istore_n 1, 1) := by decide +kernel
theorem dX4_init_26 : decode cX4_init 26 = .ok (.iload_n 1, 1) := by decide +kernel
theorem dX4_init_27 : decode cX4_init 27 = .ok (.aload_n 0, 1) := by decide +kernel
theorem dX4_init_28 : decode cX4_init 28 = .ok (.getfield 11, 3) := by decide +kernel
theorem dX4_init_31 : decode cX4_init 31 = .ok (.arraylength, 1) := by decide +kernel
theorem dX4_init_32 : decode cX4_init 32 = .ok (.if_icmp .ge 22, 3) := by decide +kernel
theorem dX4_init_35 : decode cX4_init 35 = .ok (.aload_n 0, 1) := by decide +kernel
theorem dX4_init_36 : decode cX4_init 36 = .ok (.getfield 11, 3) := by decide +kernel
theorem dX4_init_39 : decode cX4_init 39 = .ok (.iload_n 1, 1) := by decide +kernel
theorem dX4_init_40 : decode cX4_init 40 = .ok (.new 9, 3) := by decide +kernel
theorem dX4_init_43 : decode cX4_init 43 = .ok (.dup, 1) := by decide +kernel
theorem dX4_init_44 : decode cX4_init 44 = .ok (.invokespecial 24, 3) := by decide +kernel
theorem dX4_init_47 : decode cX4_init 47 = .ok (.aastore, 1) := by decide +kernel
theorem dX4_init_48 : decode cX4_init 48 = .ok (.iinc 1 1, 3) := by decide +kernel
theorem dX4_init_51 : decode cX4_init 51 = .ok (.goto (-25), 3) := by decide +kernel
theorem dX4_init_54 : decode cX4_init 54 = .ok (.return_, 1) := by decide +kernel
theorem dX4_take_0 : decode cX4_take 0 = .ok (.iconst 0, 1) := by decide +kernel
theorem dX4_take_1 : decode cX4_take 1 = .ok (.istore 4, 2) := by decide +kernel
theorem dX4_take_3 : decode cX4_take 3 = .ok (.iload 4, 2) := by decide +kernel
theorem dX4_take_5 : decode cX4_take 5 = .ok (.aload_n 1, 1) := by decide +kernel
theorem dX4_take_6 : decode cX4_take 6 = .ok (.getfield 25, 3) := by decide +kernel
theorem dX4_take_9 : decode cX4_take 9 = .ok (.if_icmp .ge 36, 3) := by decide +kernel
theorem dX4_take_12 : decode cX4_take 12 = .ok (.iload 4, 2) := by decide +kernel
theorem dX4_take_14 : decode cX4_take 14 = .ok (.aload_n 0, 1) := by decide +kernel
theorem dX4_take_15 : decode cX4_take 15 = .ok (.getfield 11, 3) := by decide +kernel
theorem dX4_take_18 : decode cX4_take 18 = .ok (.arraylength, 1) := by decide +kernel
theorem dX4_take_19 : decode cX4_take 19 = .ok (.if_icmp .ge 26, 3) := by decide +kernel
theorem dX4_take_22 : decode cX4_take 22 = .ok (.aload_n 0, 1) := by decide +kernel
theorem dX4_take_23 : decode cX4_take 23 = .ok (.getfield 11, 3) := by decide +kernel
theorem dX4_take_26 : decode cX4_take 26 = .ok (.iload 4, 2) := by decide +kernel
theorem dX4_take_28 : decode cX4_take 28 = .ok (.aaload, 1) := by decide +kernel
theorem dX4_take_29 : decode cX4_take 29 = .ok (.aload_n 1, 1) := by decide +kernel
theorem dX4_take_30 : decode cX4_take 30 = .ok (.getfield 31, 3) := by decide +kernel
theorem dX4_take_33 : decode cX4_take 33 = .ok (.iload 4, 2) := by decide +kernel
theorem dX4_take_35 : decode cX4_take 35 = .ok (.aaload, 1) := by decide +kernel
theorem dX4_take_36 : decode cX4_take 36 = .ok (.invokevirtual 32, 3) := by decide +kernel
theorem dX4_take_39 : decode cX4_take 39 = .ok (.iinc 4 1, 3) := by decide +kernel
theorem dX4_take_42 : decode cX4_take 42 = .ok (.goto (-39), 3) := by decide +kernel
theorem dX4_take_45 : decode cX4_take 45 = .ok (.aload_n 0, 1) := by decide +kernel
theorem dX4_take_46 : decode cX4_take 46 = .ok (.getfield 20, 3) := by decide +kernel
theorem dX4_take_49 : decode cX4_take 49 = .ok (.aload_n 2, 1) := by decide +kernel
theorem dX4_take_50 : decode cX4_take 50 = .ok (.invokevirtual 36, 3) := by decide +kernel
theorem dX4_take_53 : decode cX4_take 53 = .ok (.aload_n 0, 1) := by decide +kernel
theorem dX4_take_54 : decode cX4_take 54 = .ok (.iload_n 3, 1) := by decide +kernel
theorem dX4_take_55 : decode cX4_take 55 = .ok (.putfield 39, 3) := by decide +kernel
theorem dX4_take_58 : decode cX4_take 58 = .ok (.aload_n 0, 1) := by decide +kernel
theorem dX4_take_59 : decode cX4_take 59 = .ok (.iconst 1, 1) := by decide +kernel
theorem dX4_take_60 : decode cX4_take 60 = .ok (.putfield 42, 3) := by decide +kernel
theorem dX4_take_63 : decode cX4_take 63 = .ok (.return_, 1) := by decide +kernel
theorem dX4_give_0 : decode cX4_give 0 = .ok (.iconst 0, 1) := by decide +kernel
theorem dX4_give_1 : decode cX4_give 1 = .ok (.istore_n 3, 1) := by decide +kernel
theorem dX4_give_2 : decode cX4_give 2 = .ok (.iload_n 3, 1) := by decide +kernel
theorem dX4_give_3 : decode cX4_give 3 = .ok (.aload_n 1, 1) := by decide +kernel
theorem dX4_give_4 : decode cX4_give 4 = .ok (.getfield 25, 3) := by decide +kernel
theorem dX4_give_7 : decode cX4_give 7 = .ok (.if_icmp .ge 33, 3) := by decide +kernel
theorem dX4_give_10 : decode cX4_give 10 = .ok (.iload_n 3, 1) := by decide +kernel
theorem dX4_give_11 : decode cX4_give 11 = .ok (.aload_n 0, 1) := by decide +kernel
theorem dX4_give_12 : decode cX4_give 12 = .ok (.getfield 11, 3) := by decide +kernel
theorem dX4_give_15 : decode cX4_give 15 = .ok (.arraylength, 1) := by decide +kernel
theorem dX4_give_16 : decode cX4_give 16 = .ok (.if_icmp .ge 24, 3) := by decide +kernel
theorem dX4_give_19 : decode cX4_give 19 = .ok (.aload_n 1, 1) := by decide +kernel
theorem dX4_give_20 : decode cX4_give 20 = .ok (.getfield 31, 3) := by decide +kernel
theorem dX4_give_23 : decode cX4_give 23 = .ok (.iload_n 3, 1) := by decide +kernel
theorem dX4_give_24 : decode cX4_give 24 = .ok (.aaload, 1) := by decide +kernel
theorem dX4_give_25 : decode cX4_give 25 = .ok (.aload_n 0, 1) := by decide +kernel
theorem dX4_give_26 : decode cX4_give 26 = .ok (.getfield 11, 3) := by decide +kernel
theorem dX4_give_29 : decode cX4_give 29 = .ok (.iload_n 3, 1) := by decide +kernel
theorem dX4_give_30 : decode cX4_give 30 = .ok (.aaload, 1) := by decide +kernel
theorem dX4_give_31 : decode cX4_give 31 = .ok (.invokevirtual 32, 3) := by decide +kernel
theorem dX4_give_34 : decode cX4_give 34 = .ok (.iinc 3 1, 3) := by decide +kernel
theorem dX4_give_37 : decode cX4_give 37 = .ok (.goto (-35), 3) := by decide +kernel
theorem dX4_give_40 : decode cX4_give 40 = .ok (.aload_n 2, 1) := by decide +kernel
theorem dX4_give_41 : decode cX4_give 41 = .ok (.aload_n 0, 1) := by decide +kernel
theorem dX4_give_42 : decode cX4_give 42 = .ok (.getfield 20, 3) := by decide +kernel
theorem dX4_give_45 : decode cX4_give 45 = .ok (.invokevirtual 36, 3) := by decide +kernel
theorem dX4_give_48 : decode cX4_give 48 = .ok (.return_, 1) := by decide +kernel
theorem dX5_init_0 : decode cX5_init 0 = .ok (.aload_n 0, 1) := by decide +kernel
theorem dX5_init_1 : decode cX5_init 1 = .ok (.invokespecial 3, 3) := by decide +kernel
theorem dX5_init_4 : decode cX5_init 4 = .ok (.aload_n 0, 1) := by decide +kernel
theorem dX5_init_5 : decode cX5_init 5 = .ok (.aload_n 1, 1) := by decide +kernel
theorem dX5_init_6 : decode cX5_init 6 = .ok (.putfield 9, 3) := by decide +kernel
theorem dX5_init_9 : decode cX5_init 9 = .ok (.return_, 1) := by decide +kernel
theorem dX5_rateAs_0 : decode cX5_rateAs 0 = .ok (.iload_n 1, 1) := by decide +kernel
theorem dX5_rateAs_1 : decode cX5_rateAs 1 = .ok (.tableswitch 77 0 5 #[39, 45, 51, 58, 64, 71], 39) := by decide +kernel
theorem dX5_rateAs_40 : decode cX5_rateAs 40 = .ok (.aload_n 0, 1) := by decide +kernel
theorem dX5_rateAs_41 : decode cX5_rateAs 41 = .ok (.aload_n 2, 1) := by decide +kernel
theorem dX5_rateAs_42 : decode cX5_rateAs 42 = .ok (.invokevirtual 15, 3) := by decide +kernel
theorem dX5_rateAs_45 : decode cX5_rateAs 45 = .ok (.ireturn, 1) := by decide +kernel
theorem dX5_rateAs_46 : decode cX5_rateAs 46 = .ok (.aload_n 0, 1) := by decide +kernel
theorem dX5_rateAs_47 : decode cX5_rateAs 47 = .ok (.aload_n 2, 1) := by decide +kernel
theorem dX5_rateAs_48 : decode cX5_rateAs 48 = .ok (.invokevirtual 19, 3) := by decide +kernel
theorem dX5_rateAs_51 : decode cX5_rateAs 51 = .ok (.ireturn, 1) := by decide +kernel
theorem dX5_rateAs_52 : decode cX5_rateAs 52 = .ok (.aload_n 0, 1) := by decide +kernel
theorem dX5_rateAs_53 : decode cX5_rateAs 53 = .ok (.aload_n 2, 1) := by decide +kernel
theorem dX5_rateAs_54 : decode cX5_rateAs 54 = .ok (.aload_n 3, 1) := by decide +kernel
theorem dX5_rateAs_55 : decode cX5_rateAs 55 = .ok (.invokevirtual 22, 3) := by decide +kernel
theorem dX5_rateAs_58 : decode cX5_rateAs 58 = .ok (.ireturn, 1) := by decide +kernel
theorem dX5_rateAs_59 : decode cX5_rateAs 59 = .ok (.aload_n 0, 1) := by decide +kernel
theorem dX5_rateAs_60 : decode cX5_rateAs 60 = .ok (.aload_n 2, 1) := by decide +kernel
theorem dX5_rateAs_61 : decode cX5_rateAs 61 = .ok (.invokevirtual 26, 3) := by decide +kernel
theorem dX5_rateAs_64 : decode cX5_rateAs 64 = .ok (.ireturn, 1) := by decide +kernel
theorem dX5_rateAs_65 : decode cX5_rateAs 65 = .ok (.aload_n 0, 1) := by decide +kernel
theorem dX5_rateAs_66 : decode cX5_rateAs 66 = .ok (.aload_n 2, 1) := by decide +kernel
theorem dX5_rateAs_67 : decode cX5_rateAs 67 = .ok (.aload_n 3, 1) := by decide +kernel
theorem dX5_rateAs_68 : decode cX5_rateAs 68 = .ok (.invokevirtual 29, 3) := by decide +kernel
theorem dX5_rateAs_71 : decode cX5_rateAs 71 = .ok (.ireturn, 1) := by decide +kernel
theorem dX5_rateAs_72 : decode cX5_rateAs 72 = .ok (.aload_n 0, 1) := by decide +kernel
theorem dX5_rateAs_73 : decode cX5_rateAs 73 = .ok (.aload_n 2, 1) := by decide +kernel
theorem dX5_rateAs_74 : decode cX5_rateAs 74 = .ok (.invokevirtual 32, 3) := by decide +kernel
theorem dX5_rateAs_77 : decode cX5_rateAs 77 = .ok (.ireturn, 1) := by decide +kernel
theorem dX5_rateAs_78 : decode cX5_rateAs 78 = .ok (.ldc 35, 2) := by decide +kernel
theorem dX5_rateAs_80 : decode cX5_rateAs 80 = .ok (.ireturn, 1) := by decide +kernel
theorem dX5_ofFlight_0 : decode cX5_ofFlight 0 = .ok (.aload_n 0, 1) := by decide +kernel
theorem dX5_ofFlight_1 : decode cX5_ofFlight 1 = .ok (.dup, 1) := by decide +kernel
theorem dX5_ofFlight_2 : decode cX5_ofFlight 2 = .ok (.getfield 36, 3) := by decide +kernel
theorem dX5_ofFlight_5 : decode cX5_ofFlight 5 = .ok (.lconst 1, 1) := by decide +kernel
theorem dX5_ofFlight_6 : decode cX5_ofFlight 6 = .ok (.ladd, 1) := by decide +kernel
theorem dX5_ofFlight_7 : decode cX5_ofFlight 7 = .ok (.putfield 36, 3) := by decide +kernel
theorem dX5_ofFlight_10 : decode cX5_ofFlight 10 = .ok (.aload_n 1, 1) := by decide +kernel
theorem dX5_ofFlight_11 : decode cX5_ofFlight 11 = .ok (.invokevirtual 40, 3) := by decide +kernel
theorem dX5_ofFlight_14 : decode cX5_ofFlight 14 = .ok (.ireturn, 1) := by decide +kernel
theorem dX5_ofClean_0 : decode cX5_ofClean 0 = .ok (.aload_n 0, 1) := by decide +kernel
theorem dX5_ofClean_1 : decode cX5_ofClean 1 = .ok (.dup, 1) := by decide +kernel
theorem dX5_ofClean_2 : decode cX5_ofClean 2 = .ok (.getfield 36, 3) := by decide +kernel
theorem dX5_ofClean_5 : decode cX5_ofClean 5 = .ok (.ldc2_w 46, 3) := by decide +kernel
theorem dX5_ofClean_8 : decode cX5_ofClean 8 = .ok (.ladd, 1) := by decide +kernel
theorem dX5_ofClean_9 : decode cX5_ofClean 9 = .ok (.putfield 36, 3) := by decide +kernel
theorem dX5_ofClean_12 : decode cX5_ofClean 12 = .ok (.aload_n 0, 1) := by decide +kernel
theorem dX5_ofClean_13 : decode cX5_ofClean 13 = .ok (.aload_n 1, 1) := by decide +kernel
theorem dX5_ofClean_14 : decode cX5_ofClean 14 = .ok (.invokevirtual 15, 3) := by decide +kernel
theorem dX5_ofClean_17 : decode cX5_ofClean 17 = .ok (.aload_n 1, 1) := by decide +kernel
theorem dX5_ofClean_18 : decode cX5_ofClean 18 = .ok (.getfield 48, 3) := by decide +kernel
theorem dX5_ofClean_21 : decode cX5_ofClean 21 = .ok (.iadd, 1) := by decide +kernel
theorem dX5_ofClean_22 : decode cX5_ofClean 22 = .ok (.ireturn, 1) := by decide +kernel
theorem dX5_ofStiff_0 : decode cX5_ofStiff 0 = .ok (.aload_n 0, 1) := by decide +kernel
theorem dX5_ofStiff_1 : decode cX5_ofStiff 1 = .ok (.dup, 1) := by decide +kernel
theorem dX5_ofStiff_2 : decode cX5_ofStiff 2 = .ok (.getfield 36, 3) := by decide +kernel
theorem dX5_ofStiff_5 : decode cX5_ofStiff 5 = .ok (.ldc2_w 52, 3) := by decide +kernel
theorem dX5_ofStiff_8 : decode cX5_ofStiff 8 = .ok (.ladd, 1) := by decide +kernel
theorem dX5_ofStiff_9 : decode cX5_ofStiff 9 = .ok (.putfield 36, 3) := by decide +kernel
theorem dX5_ofStiff_12 : decode cX5_ofStiff 12 = .ok (.aload_n 0, 1) := by decide +kernel
theorem dX5_ofStiff_13 : decode cX5_ofStiff 13 = .ok (.aload_n 1, 1) := by decide +kernel
theorem dX5_ofStiff_14 : decode cX5_ofStiff 14 = .ok (.invokevirtual 15, 3) := by decide +kernel
theorem dX5_ofStiff_17 : decode cX5_ofStiff 17 = .ok (.aload_n 2, 1) := by decide +kernel
theorem dX5_ofStiff_18 : decode cX5_ofStiff 18 = .ok (.aload_n 1, 1) := by decide +kernel
theorem dX5_ofStiff_19 : decode cX5_ofStiff 19 = .ok (.aload_n 1, 1) := by decide +kernel
theorem dX5_ofStiff_20 : decode cX5_ofStiff 20 = .ok (.getfield 54, 3) := by decide +kernel
theorem dX5_ofStiff_23 : decode cX5_ofStiff 23 = .ok (.invokevirtual 57, 3) := by decide +kernel
theorem dX5_ofStiff_26 : decode cX5_ofStiff 26 = .ok (.isub, 1) := by decide +kernel
theorem dX5_ofStiff_27 : decode cX5_ofStiff 27 = .ok (.ireturn, 1) := by decide +kernel
theorem dX5_ofWindy_0 : decode cX5_ofWindy 0 = .ok (.aload_n 0, 1) := by decide +kernel
theorem dX5_ofWindy_1 : decode cX5_ofWindy 1 = .ok (.dup, 1) := by decide +kernel
theorem dX5_ofWindy_2 : decode cX5_ofWindy 2 = .ok (.getfield 36, 3) := by decide +kernel
theorem dX5_ofWindy_5 : decode cX5_ofWindy 5 = .ok (.ldc2_w 63, 3) := by decide +kernel
theorem dX5_ofWindy_8 : decode cX5_ofWindy 8 = .ok (.ladd, 1) := by decide +kernel
theorem dX5_ofWindy_9 : decode cX5_ofWindy 9 = .ok (.putfield 36, 3) := by decide +kernel
theorem dX5_ofWindy_12 : decode cX5_ofWindy 12 = .ok (.aload_n 0, 1) := by decide +kernel
theorem dX5_ofWindy_13 : decode cX5_ofWindy 13 = .ok (.aload_n 1, 1) := by decide +kernel
theorem dX5_ofWindy_14 : decode cX5_ofWindy 14 = .ok (.invokevirtual 19, 3) := by decide +kernel
theorem dX5_ofWindy_17 : decode cX5_ofWindy 17 = .ok (.aload_n 0, 1) := by decide +kernel
theorem dX5_ofWindy_18 : decode cX5_ofWindy 18 = .ok (.getfield 9, 3) := by decide +kernel
theorem dX5_ofWindy_21 : decode cX5_ofWindy 21 = .ok (.invokevirtual 65, 3) := by decide +kernel
theorem dX5_ofWindy_24 : decode cX5_ofWindy 24 = .ok (.iadd, 1) := by decide +kernel
theorem dX5_ofWindy_25 : decode cX5_ofWindy 25 = .ok (.ireturn, 1) := by decide +kernel
theorem dX5_ofSlapped_0 : decode cX5_ofSlapped 0 = .ok (.aload_n 0, 1) := by decide +kernel
theorem dX5_ofSlapped_1 : decode cX5_ofSlapped 1 = .ok (.dup, 1) := by decide +kernel
theorem dX5_ofSlapped_2 : decode cX5_ofSlapped 2 = .ok (.getfield 36, 3) := by decide +kernel
theorem dX5_ofSlapped_5 : decode cX5_ofSlapped 5 = .ok (.ldc2_w 70, 3) := by decide +kernel
theorem dX5_ofSlapped_8 : decode cX5_ofSlapped 8 = .ok (.ladd, 1) := by decide +kernel
theorem dX5_ofSlapped_9 : decode cX5_ofSlapped 9 = .ok (.putfield 36, 3) := by decide +kernel
theorem dX5_ofSlapped_12 : decode cX5_ofSlapped 12 = .ok (.iconst 2, 1) := by decide +kernel
theorem dX5_ofSlapped_13 : decode cX5_ofSlapped 13 = .ok (.aload_n 0, 1) := by decide +kernel
theorem dX5_ofSlapped_14 : decode cX5_ofSlapped 14 = .ok (.aload_n 1, 1) := by decide +kernel
theorem dX5_ofSlapped_15 : decode cX5_ofSlapped 15 = .ok (.aload_n 2, 1) := by decide +kernel
theorem dX5_ofSlapped_16 : decode cX5_ofSlapped 16 = .ok (.invokevirtual 22, 3) := by decide +kernel
theorem dX5_ofSlapped_19 : decode cX5_ofSlapped 19 = .ok (.imul, 1) := by decide +kernel
theorem dX5_ofSlapped_20 : decode cX5_ofSlapped 20 = .ok (.ireturn, 1) := by decide +kernel
theorem dX5_ofSoft_0 : decode cX5_ofSoft 0 = .ok (.aload_n 0, 1) := by decide +kernel
theorem dX5_ofSoft_1 : decode cX5_ofSoft 1 = .ok (.dup, 1) := by decide +kernel
theorem dX5_ofSoft_2 : decode cX5_ofSoft 2 = .ok (.getfield 36, 3) := by decide +kernel
theorem dX5_ofSoft_5 : decode cX5_ofSoft 5 = .ok (.ldc2_w 72, 3) := by decide +kernel
theorem dX5_ofSoft_8 : decode cX5_ofSoft 8 = .ok (.ladd, 1) := by decide +kernel
theorem dX5_ofSoft_9 : decode cX5_ofSoft 9 = .ok (.putfield 36, 3) := by decide +kernel
theorem dX5_ofSoft_12 : decode cX5_ofSoft 12 = .ok (.aload_n 0, 1) := by decide +kernel
theorem dX5_ofSoft_13 : decode cX5_ofSoft 13 = .ok (.aload_n 1, 1) := by decide +kernel
theorem dX5_ofSoft_14 : decode cX5_ofSoft 14 = .ok (.invokevirtual 15, 3) := by decide +kernel
theorem dX5_ofSoft_17 : decode cX5_ofSoft 17 = .ok (.aload_n 1, 1) := by decide +kernel
theorem dX5_ofSoft_18 : decode cX5_ofSoft 18 = .ok (.getfield 74, 3) := by decide +kernel
theorem dX5_ofSoft_21 : decode cX5_ofSoft 21 = .ok (.iadd, 1) := by decide +kernel
theorem dX5_ofSoft_22 : decode cX5_ofSoft 22 = .ok (.ireturn, 1) := by decide +kernel
theorem dX6_init_0 : decode cX6_init 0 = .ok (.aload_n 0, 1) := by decide +kernel
theorem dX6_init_1 : decode cX6_init 1 = .ok (.invokespecial 3, 3) := by decide +kernel
theorem dX6_init_4 : decode cX6_init 4 = .ok (.return_, 1) := by decide +kernel
theorem dX6_tell_0 : decode cX6_tell 0 = .ok (.aload_n 0, 1) := by decide +kernel
theorem dX6_tell_1 : decode cX6_tell 1 = .ok (.getfield 9, 3) := by decide +kernel
theorem dX6_tell_4 : decode cX6_tell 4 = .ok (.bipush (-9), 2) := by decide +kernel
theorem dX6_tell_6 : decode cX6_tell 6 = .ok (.if_icmp .ne 6, 3) := by decide +kernel
theorem dX6_tell_9 : decode cX6_tell 9 = .ok (.bipush (-9), 2) := by decide +kernel
theorem dX6_tell_11 : decode cX6_tell 11 = .ok (.ireturn, 1) := by decide +kernel
theorem dX6_tell_12 : decode cX6_tell 12 = .ok (.iload_n 1, 1) := by decide +kernel
theorem dX6_tell_13 : decode cX6_tell 13 = .ok (.tableswitch 60 0 4 #[35, 40, 45, 50, 55], 35) := by decide +kernel
theorem dX6_tell_48 : decode cX6_tell 48 = .ok (.aload_n 0, 1) := by decide +kernel
theorem dX6_tell_49 : decode cX6_tell 49 = .ok (.getfield 9, 3) := by decide +kernel
theorem dX6_tell_52 : decode cX6_tell 52 = .ok (.ireturn, 1) := by decide +kernel
theorem dX6_tell_53 : decode cX6_tell 53 = .ok (.aload_n 0, 1) := by decide +kernel
theorem dX6_tell_54 : decode cX6_tell 54 = .ok (.getfield 15, 3) := by decide +kernel
theorem dX6_tell_57 : decode cX6_tell 57 = .ok (.ireturn, 1) := by decide +kernel
theorem dX6_tell_58 : decode cX6_tell 58 = .ok (.aload_n 0, 1) := by decide +kernel
theorem dX6_tell_59 : decode cX6_tell 59 = .ok (.getfield 18, 3) := by decide +kernel
theorem dX6_tell_62 : decode cX6_tell 62 = .ok (.ireturn, 1) := by decide +kernel
theorem dX6_tell_63 : decode cX6_tell 63 = .ok (.aload_n 0, 1) := by decide +kernel
theorem dX6_tell_64 : decode cX6_tell 64 = .ok (.getfield 21, 3) := by decide +kernel
theorem dX6_tell_67 : decode cX6_tell 67 = .ok (.ireturn, 1) := by decide +kernel
theorem dX6_tell_68 : decode cX6_tell 68 = .ok (.aload_n 0, 1) := by decide +kernel
theorem dX6_tell_69 : decode cX6_tell 69 = .ok (.getfield 24, 3) := by decide +kernel
theorem dX6_tell_72 : decode cX6_tell 72 = .ok (.ireturn, 1) := by decide +kernel
theorem dX6_tell_73 : decode cX6_tell 73 = .ok (.iconst (-1), 1) := by decide +kernel
theorem dX6_tell_74 : decode cX6_tell 74 = .ok (.ireturn, 1) := by decide +kernel
theorem dX6_find_0 : decode cX6_find 0 = .ok (.bipush 15, 2) := by decide +kernel
theorem dX6_find_2 : decode cX6_find 2 = .ok (.aload_n 1, 1) := by decide +kernel
theorem dX6_find_3 : decode cX6_find 3 = .ok (.invokevirtual 27, 3) := by decide +kernel
theorem dX6_find_6 : decode cX6_find 6 = .ok (.invokestatic 33, 3) := by decide +kernel
theorem dX6_find_9 : decode cX6_find 9 = .ok (.istore 6, 2) := by decide +kernel
theorem dX6_find_11 : decode cX6_find 11 = .ok (.bipush 15, 2) := by decide +kernel
theorem dX6_find_13 : decode cX6_find 13 = .ok (.aload_n 1, 1) := by decide +kernel
theorem dX6_find_14 : decode cX6_find 14 = .ok (.invokevirtual 39, 3) := by decide +kernel
theorem dX6_find_17 : decode cX6_find 17 = .ok (.invokestatic 33, 3) := by decide +kernel
theorem dX6_find_20 : decode cX6_find 20 = .ok (.istore 7, 2) := by decide +kernel
theorem dX6_find_22 : decode cX6_find 22 = .ok (.bipush 15, 2) := by decide +kernel
theorem dX6_find_24 : decode cX6_find 24 = .ok (.aload_n 1, 1) := by decide +kernel
theorem dX6_find_25 : decode cX6_find 25 = .ok (.invokevirtual 42, 3) := by decide +kernel
theorem dX6_find_28 : decode cX6_find 28 = .ok (.invokestatic 33, 3) := by decide +kernel
theorem dX6_find_31 : decode cX6_find 31 = .ok (.istore 8, 2) := by decide +kernel
theorem dX6_find_33 : decode cX6_find 33 = .ok (.aload_n 0, 1) := by decide +kernel
theorem dX6_find_34 : decode cX6_find 34 = .ok (.bipush (-9), 2) := by decide +kernel
theorem dX6_find_36 : decode cX6_find 36 = .ok (.putfield 9, 3) := by decide +kernel
theorem dX6_find_39 : decode cX6_find 39 = .ok (.iconst 0, 1) := by decide +kernel
theorem dX6_find_40 : decode cX6_find 40 = .ok (.istore 9, 2) := by decide +kernel
theorem dX6_find_42 : decode cX6_find 42 = .ok (.iload 9, 2) := by decide +kernel
theorem dX6_find_44 : decode cX6_find 44 = .ok (.iconst 1, 1) := by decide +kernel
theorem dX6_find_45 : decode cX6_find 45 = .ok (.if_icmp .gt 176, 3) := by decide +kernel
theorem dX6_find_48 : decode cX6_find 48 = .ok (.aload_n 1, 1) := by decide +kernel
theorem dX6_find_49 : decode cX6_find 49 = .ok (.iload 9, 2) := by decide +kernel
theorem dX6_find_51 : decode cX6_find 51 = .ok (.ifCond .ne 10, 3) := by decide +kernel
theorem dX6_find_54 : decode cX6_find 54 = .ok (.aload_n 1, 1) := by decide +kernel
theorem dX6_find_55 : decode cX6_find 55 = .ok (.getfield 45, 3) := by decide +kernel
theorem dX6_find_58 : decode cX6_find 58 = .ok (.goto 9, 3) := by decide +kernel
theorem dX6_find_61 : decode cX6_find 61 = .ok (.iconst 1, 1) := by decide +kernel
theorem dX6_find_62 : decode cX6_find 62 = .ok (.aload_n 1, 1) := by decide +kernel
theorem dX6_find_63 : decode cX6_find 63 = .ok (.getfield 45, 3) := by decide +kernel
theorem dX6_find_66 : decode cX6_find 66 = .ok (.isub, 1) := by decide +kernel
theorem dX6_find_67 : decode cX6_find 67 = .ok (.invokevirtual 48, 3) := by decide +kernel
theorem dX6_find_70 : decode cX6_find 70 = .ok (.istore 10, 2) := by decide +kernel
theorem dX6_find_72 : decode cX6_find 72 = .ok (.iconst 0, 1) := by decide +kernel
theorem dX6_find_73 : decode cX6_find 73 = .ok (.istore 11, 2) := by decide +kernel
theorem dX6_find_75 : decode cX6_find 75 = .ok (.iload 11, 2) := by decide +kernel
theorem dX6_find_77 : decode cX6_find 77 = .ok (.iload 6, 2) := by decide +kernel
theorem dX6_find_79 : decode cX6_find 79 = .ok (.if_icmp .gt 136, 3) := by decide +kernel
theorem dX6_find_82 : decode cX6_find 82 = .ok (.iconst 0, 1) := by decide +kernel
theorem dX6_find_83 : decode cX6_find 83 = .ok (.istore 12, 2) := by decide +kernel
theorem dX6_find_85 : decode cX6_find 85 = .ok (.iload 12, 2) := by decide +kernel
theorem dX6_find_87 : decode cX6_find 87 = .ok (.iload 7, 2) := by decide +kernel
theorem dX6_find_89 : decode cX6_find 89 = .ok (.if_icmp .gt 120, 3) := by decide +kernel
theorem dX6_find_92 : decode cX6_find 92 = .ok (.iconst 0, 1) := by decide +kernel
theorem dX6_find_93 : decode cX6_find 93 = .ok (.istore 13, 2) := by decide +kernel
theorem dX6_find_95 : decode cX6_find 95 = .ok (.iload 13, 2) := by decide +kernel
theorem dX6_find_97 : decode cX6_find 97 = .ok (.iload 8, 2) := by decide +kernel
theorem dX6_find_99 : decode cX6_find 99 = .ok (.if_icmp .gt 104, 3) := by decide +kernel
theorem dX6_find_102 : decode cX6_find 102 = .ok (.aload_n 0, 1) := by decide +kernel
theorem dX6_find_103 : decode cX6_find 103 = .ok (.iload 9, 2) := by decide +kernel
theorem dX6_find_105 : decode cX6_find 105 = .ok (.iload 11, 2) := by decide +kernel
theorem dX6_find_107 : decode cX6_find 107 = .ok (.iadd, 1) := by decide +kernel
theorem dX6_find_108 : decode cX6_find 108 = .ok (.iload 12, 2) := by decide +kernel
theorem dX6_find_110 : decode cX6_find 110 = .ok (.iadd, 1) := by decide +kernel
theorem dX6_find_111 : decode cX6_find 111 = .ok (.iload 13, 2) := by decide +kernel
theorem dX6_find_113 : decode cX6_find 113 = .ok (.iadd, 1) := by decide +kernel
theorem dX6_find_114 : decode cX6_find 114 = .ok (.invokevirtual 52, 3) := by decide +kernel
theorem dX6_find_117 : decode cX6_find 117 = .ok (.ifCond .eq 86, 3) := by decide +kernel
theorem dX6_find_120 : decode cX6_find 120 = .ok (.iload 10, 2) := by decide +kernel
theorem dX6_find_122 : decode cX6_find 122 = .ok (.iload 12, 2) := by decide +kernel
theorem dX6_find_124 : decode cX6_find 124 = .ok (.isub, 1) := by decide +kernel
theorem dX6_find_125 : decode cX6_find 125 = .ok (.aload_n 1, 1) := by decide +kernel
theorem dX6_find_126 : decode cX6_find 126 = .ok (.getfield 56, 3) := by decide +kernel
theorem dX6_find_129 : decode cX6_find 129 = .ok (.iload 11, 2) := by decide +kernel
theorem dX6_find_131 : decode cX6_find 131 = .ok (.isub, 1) := by decide +kernel
theorem dX6_find_132 : decode cX6_find 132 = .ok (.aload_n 1, 1) := by decide +kernel
theorem dX6_find_133 : decode cX6_find 133 = .ok (.getfield 59, 3) := by decide +kernel
theorem dX6_find_136 : decode cX6_find 136 = .ok (.iconst 5, 1) := by decide +kernel
theorem dX6_find_137 : decode cX6_find 137 = .ok (.iload 13, 2) := by decide +kernel
theorem dX6_find_139 : decode cX6_find 139 = .ok (.imul, 1) := by decide +kernel
theorem dX6_find_140 : decode cX6_find 140 = .ok (.iadd, 1) := by decide +kernel
theorem dX6_find_141 : decode cX6_find 141 = .ok (.invokestatic 62, 3) := by decide +kernel
theorem dX6_find_144 : decode cX6_find 144 = .ok (.iload_n 2, 1) := by decide +kernel
theorem dX6_find_145 : decode cX6_find 145 = .ok (.isub, 1) := by decide +kernel
theorem dX6_find_146 : decode cX6_find 146 = .ok (.istore 14, 2) := by decide +kernel
theorem dX6_find_148 : decode cX6_find 148 = .ok (.aload_n 1, 1) := by decide +kernel
theorem dX6_find_149 : decode cX6_find 149 = .ok (.invokevirtual 66, 3) := by decide +kernel
theorem dX6_find_152 : decode cX6_find 152 = .ok (.iconst 2, 1) := by decide +kernel
theorem dX6_find_153 : decode cX6_find 153 = .ok (.iload 12, 2) := by decide +kernel
theorem dX6_find_155 : decode cX6_find 155 = .ok (.imul, 1) := by decide +kernel
theorem dX6_find_156 : decode cX6_find 156 = .ok (.isub, 1) := by decide +kernel
theorem dX6_find_157 : decode cX6_find 157 = .ok (.iconst 5, 1) := by decide +kernel
theorem dX6_find_158 : decode cX6_find 158 = .ok (.iload 13, 2) := by decide +kernel
theorem dX6_find_160 : decode cX6_find 160 = .ok (.imul, 1) := by decide +kernel
theorem dX6_find_161 : decode cX6_find 161 = .ok (.iadd, 1) := by decide +kernel
theorem dX6_find_162 : decode cX6_find 162 = .ok (.istore 15, 2) := by decide +kernel
theorem dX6_find_164 : decode cX6_find 164 = .ok (.aload_n 3, 1) := by decide +kernel
theorem dX6_find_165 : decode cX6_find 165 = .ok (.iload 14, 2) := by decide +kernel
theorem dX6_find_167 : decode cX6_find 167 = .ok (.invokevirtual 69, 3) := by decide +kernel
theorem dX6_find_170 : decode cX6_find 170 = .ok (.ifCond .eq 27, 3) := by decide +kernel
theorem dX6_find_173 : decode cX6_find 173 = .ok (.iload 15, 2) := by decide +kernel
theorem dX6_find_175 : decode cX6_find 175 = .ok (.iload 4, 2) := by decide +kernel
theorem dX6_find_177 : decode cX6_find 177 = .ok (.iload 5, 2) := by decide +kernel
theorem dX6_find_179 : decode cX6_find 179 = .ok (.invokestatic 74, 3) := by decide +kernel
theorem dX6_find_182 : decode cX6_find 182 = .ok (.ifCond .eq 15, 3) := by decide +kernel
theorem dX6_find_185 : decode cX6_find 185 = .ok (.aload_n 0, 1) := by decide +kernel
theorem dX6_find_186 : decode cX6_find 186 = .ok (.iload 9, 2) := by decide +kernel
theorem dX6_find_188 : decode cX6_find 188 = .ok (.iload 11, 2) := by decide +kernel
theorem dX6_find_190 : decode cX6_find 190 = .ok (.iload 12, 2) := by decide +kernel
theorem dX6_find_192 : decode cX6_find 192 = .ok (.iload 13, 2) := by decide +kernel
theorem dX6_find_194 : decode cX6_find 194 = .ok (.invokevirtual 78, 3) := by decide +kernel
theorem dX6_find_197 : decode cX6_find 197 = .ok (.iinc 13 1, 3) := by decide +kernel
theorem dX6_find_200 : decode cX6_find 200 = .ok (.goto (-105), 3) := by decide +kernel
theorem dX6_find_203 : decode cX6_find 203 = .ok (.iinc 12 1, 3) := by decide +kernel
theorem dX6_find_206 : decode cX6_find 206 = .ok (.goto (-121), 3) := by decide +kernel
theorem dX6_find_209 : decode cX6_find 209 = .ok (.iinc 11 1, 3) := by decide +kernel
theorem dX6_find_212 : decode cX6_find 212 = .ok (.goto (-137), 3) := by decide +kernel
theorem dX6_find_215 : decode cX6_find 215 = .ok (.iinc 9 1, 3) := by decide +kernel
theorem dX6_find_218 : decode cX6_find 218 = .ok (.goto (-176), 3) := by decide +kernel
theorem dX6_find_221 : decode cX6_find 221 = .ok (.return_, 1) := by decide +kernel
theorem dX6_isFewer_0 : decode cX6_isFewer 0 = .ok (.aload_n 0, 1) := by decide +kernel
theorem dX6_isFewer_1 : decode cX6_isFewer 1 = .ok (.getfield 9, 3) := by decide +kernel
theorem dX6_isFewer_4 : decode cX6_isFewer 4 = .ok (.bipush (-9), 2) := by decide +kernel
theorem dX6_isFewer_6 : decode cX6_isFewer 6 = .ok (.if_icmp .eq 11, 3) := by decide +kernel
theorem dX6_isFewer_9 : decode cX6_isFewer 9 = .ok (.iload_n 1, 1) := by decide +kernel
theorem dX6_isFewer_10 : decode cX6_isFewer 10 = .ok (.aload_n 0, 1) := by decide +kernel
theorem dX6_isFewer_11 : decode cX6_isFewer 11 = .ok (.getfield 9, 3) := by decide +kernel
theorem dX6_isFewer_14 : decode cX6_isFewer 14 = .ok (.if_icmp .ge 7, 3) := by decide +kernel
theorem dX6_isFewer_17 : decode cX6_isFewer 17 = .ok (.iconst 1, 1) := by decide +kernel
theorem dX6_isFewer_18 : decode cX6_isFewer 18 = .ok (.goto 4, 3) := by decide +kernel
theorem dX6_isFewer_21 : decode cX6_isFewer 21 = .ok (.iconst 0, 1) := by decide +kernel
theorem dX6_isFewer_22 : decode cX6_isFewer 22 = .ok (.ireturn, 1) := by decide +kernel
theorem dX6_note_0 : decode cX6_note 0 = .ok (.aload_n 0, 1) := by decide +kernel
theorem dX6_note_1 : decode cX6_note 1 = .ok (.iload_n 1, 1) := by decide +kernel
theorem dX6_note_2 : decode cX6_note 2 = .ok (.iload_n 2, 1) := by decide +kernel
theorem dX6_note_3 : decode cX6_note 3 = .ok (.iadd, 1) := by decide +kernel
theorem dX6_note_4 : decode cX6_note 4 = .ok (.iload_n 3, 1) := by decide +kernel
theorem dX6_note_5 : decode cX6_note 5 = .ok (.iadd, 1) := by decide +kernel
theorem dX6_note_6 : decode cX6_note 6 = .ok (.iload 4, 2) := by decide +kernel
theorem dX6_note_8 : decode cX6_note 8 = .ok (.iadd, 1) := by decide +kernel
theorem dX6_note_9 : decode cX6_note 9 = .ok (.putfield 9, 3) := by decide +kernel
theorem dX6_note_12 : decode cX6_note 12 = .ok (.aload_n 0, 1) := by decide +kernel
theorem dX6_note_13 : decode cX6_note 13 = .ok (.iload_n 1, 1) := by decide +kernel
theorem dX6_note_14 : decode cX6_note 14 = .ok (.putfield 24, 3) := by decide +kernel
theorem dX6_note_17 : decode cX6_note 17 = .ok (.aload_n 0, 1) := by decide +kernel
theorem dX6_note_18 : decode cX6_note 18 = .ok (.iload_n 2, 1) := by decide +kernel
theorem dX6_note_19 : decode cX6_note 19 = .ok (.putfield 15, 3) := by decide +kernel
theorem dX6_note_22 : decode cX6_note 22 = .ok (.aload_n 0, 1) := by decide +kernel
theorem dX6_note_23 : decode cX6_note 23 = .ok (.iload_n 3, 1) := by decide +kernel
theorem dX6_note_24 : decode cX6_note 24 = .ok (.putfield 18, 3) := by decide +kernel
theorem dX6_note_27 : decode cX6_note 27 = .ok (.aload_n 0, 1) := by decide +kernel
theorem dX6_note_28 : decode cX6_note 28 = .ok (.iload 4, 2) := by decide +kernel
theorem dX6_note_30 : decode cX6_note 30 = .ok (.putfield 21, 3) := by decide +kernel
theorem dX6_note_33 : decode cX6_note 33 = .ok (.return_, 1) := by decide +kernel
theorem dX7_init_0 : decode cX7_init 0 = .ok (.aload_n 0, 1) := by decide +kernel
theorem dX7_init_1 : decode cX7_init 1 = .ok (.invokespecial 3, 3) := by decide +kernel
theorem dX7_init_4 : decode cX7_init 4 = .ok (.aload_n 0, 1) := by decide +kernel
theorem dX7_init_5 : decode cX7_init 5 = .ok (.bipush 6, 2) := by decide +kernel
theorem dX7_init_7 : decode cX7_init 7 = .ok (.newarray .int, 2) := by decide +kernel
theorem dX7_init_9 : decode cX7_init 9 = .ok (.putfield 9, 3) := by decide +kernel
theorem dX7_init_12 : decode cX7_init 12 = .ok (.aload_n 0, 1) := by decide +kernel
theorem dX7_init_13 : decode cX7_init 13 = .ok (.aload_n 1, 1) := by decide +kernel
theorem dX7_init_14 : decode cX7_init 14 = .ok (.putfield 15, 3) := by decide +kernel
theorem dX7_init_17 : decode cX7_init 17 = .ok (.return_, 1) := by decide +kernel
theorem dX7_readAll_0 : decode cX7_readAll 0 = .ok (.aload_n 1, 1) := by decide +kernel
theorem dX7_readAll_1 : decode cX7_readAll 1 = .ok (.invokevirtual 19, 3) := by decide +kernel
theorem dX7_readAll_4 : decode cX7_readAll 4 = .ok (.aload_n 0, 1) := by decide +kernel
theorem dX7_readAll_5 : decode cX7_readAll 5 = .ok (.iconst 0, 1) := by decide +kernel
theorem dX7_readAll_6 : decode cX7_readAll 6 = .ok (.putfield 24, 3) := by decide +kernel
theorem dX7_readAll_9 : decode cX7_readAll 9 = .ok (.iconst 0, 1) := by decide +kernel
theorem dX7_readAll_10 : decode cX7_readAll 10 = .ok (.istore_n 2, 1) := by decide +kernel
theorem dX7_readAll_11 : decode cX7_readAll 11 = .ok (.aload_n 0, 1) := by decide +kernel
theorem dX7_readAll_12 : decode cX7_readAll 12 = .ok (.invokevirtual 28, 3) := by decide +kernel
theorem dX7_readAll_15 : decode cX7_readAll 15 = .ok (.aload_n 0, 1) := by decide +kernel
theorem dX7_readAll_16 : decode cX7_readAll 16 = .ok (.getfield 24, 3) := by decide +kernel
theorem dX7_readAll_19 : decode cX7_readAll 19 = .ok (.aload_n 0, 1) := by decide +kernel
theorem dX7_readAll_20 : decode cX7_readAll 20 = .ok (.getfield 15, 3) := by decide +kernel
theorem dX7_readAll_23 : decode cX7_readAll 23 = .ok (.getfield 31, 3) := by decide +kernel
theorem dX7_readAll_26 : decode cX7_readAll 26 = .ok (.if_icmp .ge 36, 3) := by decide +kernel
theorem dX7_readAll_29 : decode cX7_readAll 29 = .ok (.iload_n 2, 1) := by decide +kernel
theorem dX7_readAll_30 : decode cX7_readAll 30 = .ok (.sipush 400, 3) := by decide +kernel
theorem dX7_readAll_33 : decode cX7_readAll 33 = .ok (.if_icmp .ge 29, 3) := by decide +kernel
theorem dX7_readAll_36 : decode cX7_readAll 36 = .ok (.aload_n 0, 1) := by decide +kernel
theorem dX7_readAll_37 : decode cX7_readAll 37 = .ok (.aload_n 1, 1) := by decide +kernel
theorem dX7_readAll_38 : decode cX7_readAll 38 = .ok (.invokevirtual 36, 3) := by decide +kernel
theorem dX7_readAll_41 : decode cX7_readAll 41 = .ok (.ifCond .ne 11, 3) := by decide +kernel
theorem dX7_readAll_44 : decode cX7_readAll 44 = .ok (.bipush (-10), 2) := by decide +kernel
theorem dX7_readAll_46 : decode cX7_readAll 46 = .ok (.aload_n 0, 1) := by decide +kernel
theorem dX7_readAll_47 : decode cX7_readAll 47 = .ok (.getfield 24, 3) := by decide +kernel
theorem dX7_readAll_50 : decode cX7_readAll 50 = .ok (.isub, 1) := by decide +kernel
theorem dX7_readAll_51 : decode cX7_readAll 51 = .ok (.ireturn, 1) := by decide +kernel
theorem dX7_readAll_52 : decode cX7_readAll 52 = .ok (.iinc 2 1, 3) := by decide +kernel
theorem dX7_readAll_55 : decode cX7_readAll 55 = .ok (.aload_n 0, 1) := by decide +kernel
theorem dX7_readAll_56 : decode cX7_readAll 56 = .ok (.invokevirtual 28, 3) := by decide +kernel
theorem dX7_readAll_59 : decode cX7_readAll 59 = .ok (.goto (-44), 3) := by decide +kernel
theorem dX7_readAll_62 : decode cX7_readAll 62 = .ok (.iload_n 2, 1) := by decide +kernel
theorem dX7_readAll_63 : decode cX7_readAll 63 = .ok (.ireturn, 1) := by decide +kernel
theorem dX7_readItem_0 : decode cX7_readItem 0 = .ok (.aload_n 1, 1) := by decide +kernel
theorem dX7_readItem_1 : decode cX7_readItem 1 = .ok (.getfield 40, 3) := by decide +kernel
theorem dX7_readItem_4 : decode cX7_readItem 4 = .ok (.bipush 12, 2) := by decide +kernel
theorem dX7_readItem_6 : decode cX7_readItem 6 = .ok (.if_icmp .ge 18, 3) := by decide +kernel
theorem dX7_readItem_9 : decode cX7_readItem 9 = .ok (.aload_n 0, 1) := by decide +kernel
theorem dX7_readItem_10 : decode cX7_readItem 10 = .ok (.ldc 43, 2) := by decide +kernel
theorem dX7_readItem_12 : decode cX7_readItem 12 = .ok (.invokevirtual 45, 3) := by decide +kernel
theorem dX7_readItem_15 : decode cX7_readItem 15 = .ok (.ifCond .eq 9, 3) := by decide +kernel
theorem dX7_readItem_18 : decode cX7_readItem 18 = .ok (.aload_n 0, 1) := by decide +kernel
theorem dX7_readItem_19 : decode cX7_readItem 19 = .ok (.aload_n 1, 1) := by decide +kernel
theorem dX7_readItem_20 : decode cX7_readItem 20 = .ok (.invokevirtual 49, 3) := by decide +kernel
theorem dX7_readItem_23 : decode cX7_readItem 23 = .ok (.ireturn, 1) := by decide +kernel
theorem dX7_readItem_24 : decode cX7_readItem 24 = .ok (.aload_n 1, 1) := by decide +kernel
theorem dX7_readItem_25 : decode cX7_readItem 25 = .ok (.getfield 52, 3) := by decide +kernel
theorem dX7_readItem_28 : decode cX7_readItem 28 = .ok (.iconst 3, 1) := by decide +kernel
theorem dX7_readItem_29 : decode cX7_readItem 29 = .ok (.if_icmp .ge 18, 3) := by decide +kernel
theorem dX7_readItem_32 : decode cX7_readItem 32 = .ok (.aload_n 0, 1) := by decide +kernel
theorem dX7_readItem_33 : decode cX7_readItem 33 = .ok (.ldc 55, 2) := by decide +kernel
theorem dX7_readItem_35 : decode cX7_readItem 35 = .ok (.invokevirtual 45, 3) := by decide +kernel
theorem dX7_readItem_38 : decode cX7_readItem 38 = .ok (.ifCond .eq 9, 3) := by decide +kernel
theorem dX7_readItem_41 : decode cX7_readItem 41 = .ok (.aload_n 0, 1) := by decide +kernel
theorem dX7_readItem_42 : decode cX7_readItem 42 = .ok (.aload_n 1, 1) := by decide +kernel
theorem dX7_readItem_43 : decode cX7_readItem 43 = .ok (.invokevirtual 57, 3) := by decide +kernel
theorem dX7_readItem_46 : decode cX7_readItem 46 = .ok (.ireturn, 1) := by decide +kernel
theorem dX7_readItem_47 : decode cX7_readItem 47 = .ok (.aload_n 1, 1) := by decide +kernel
theorem dX7_readItem_48 : decode cX7_readItem 48 = .ok (.getfield 60, 3) := by decide +kernel
theorem dX7_readItem_51 : decode cX7_readItem 51 = .ok (.iconst 3, 1) := by decide +kernel
theorem dX7_readItem_52 : decode cX7_readItem 52 = .ok (.if_icmp .ge 18, 3) := by decide +kernel
theorem dX7_readItem_55 : decode cX7_readItem 55 = .ok (.aload_n 0, 1) := by decide +kernel
theorem dX7_readItem_56 : decode cX7_readItem 56 = .ok (.ldc 63, 2) := by decide +kernel
theorem dX7_readItem_58 : decode cX7_readItem 58 = .ok (.invokevirtual 45, 3) := by decide +kernel
theorem dX7_readItem_61 : decode cX7_readItem 61 = .ok (.ifCond .eq 9, 3) := by decide +kernel
theorem dX7_readItem_64 : decode cX7_readItem 64 = .ok (.aload_n 0, 1) := by decide +kernel
theorem dX7_readItem_65 : decode cX7_readItem 65 = .ok (.aload_n 1, 1) := by decide +kernel
theorem dX7_readItem_66 : decode cX7_readItem 66 = .ok (.invokevirtual 65, 3) := by decide +kernel
theorem dX7_readItem_69 : decode cX7_readItem 69 = .ok (.ireturn, 1) := by decide +kernel
theorem dX7_readItem_70 : decode cX7_readItem 70 = .ok (.iconst 0, 1) := by decide +kernel
theorem dX7_readItem_71 : decode cX7_readItem 71 = .ok (.ireturn, 1) := by decide +kernel
theorem dX7_readStick_0 : decode cX7_readStick 0 = .ok (.aload_n 0, 1) := by decide +kernel
theorem dX7_readStick_1 : decode cX7_readStick 1 = .ok (.getstatic 68, 3) := by decide +kernel
theorem dX7_readStick_4 : decode cX7_readStick 4 = .ok (.getstatic 71, 3) := by decide +kernel
theorem dX7_readStick_7 : decode cX7_readStick 7 = .ok (.invokevirtual 74, 3) := by decide +kernel
theorem dX7_readStick_10 : decode cX7_readStick 10 = .ok (.ifCond .eq 10, 3) := by decide +kernel
theorem dX7_readStick_13 : decode cX7_readStick 13 = .ok (.aload_n 0, 1) := by decide +kernel
theorem dX7_readStick_14 : decode cX7_readStick 14 = .ok (.invokevirtual 78, 3) := by decide +kernel
theorem dX7_readStick_17 : decode cX7_readStick 17 = .ok (.ifCond .ne 5, 3) := by decide +kernel
theorem dX7_readStick_20 : decode cX7_readStick 20 = .ok (.iconst 0, 1) := by decide +kernel
theorem dX7_readStick_21 : decode cX7_readStick 21 = .ok (.ireturn, 1) := by decide +kernel
theorem dX7_readStick_22 : decode cX7_readStick 22 = .ok (.aload_n 1, 1) := by decide +kernel
theorem dX7_readStick_23 : decode cX7_readStick 23 = .ok (.invokevirtual 82, 3) := by decide +kernel
theorem dX7_readStick_26 : decode cX7_readStick 26 = .ok (.astore_n 2, 1) := by decide +kernel
theorem dX7_readStick_27 : decode cX7_readStick 27 = .ok (.aload_n 2, 1) := by decide +kernel
theorem dX7_readStick_28 : decode cX7_readStick 28 = .ok (.ifnonnull 5, 3) := by decide +kernel
theorem dX7_readStick_31 : decode cX7_readStick 31 = .ok (.iconst 0, 1) := by decide +kernel
theorem dX7_readStick_32 : decode cX7_readStick 32 = .ok (.ireturn, 1) := by decide +kernel
theorem dX7_readStick_33 : decode cX7_readStick 33 = .ok (.aload_n 2, 1) := by decide +kernel
theorem dX7_readStick_34 : decode cX7_readStick 34 = .ok (.aload_n 0, 1) := by decide +kernel
theorem dX7_readStick_35 : decode cX7_readStick 35 = .ok (.getfield 9, 3) := by decide +kernel
theorem dX7_readStick_38 : decode cX7_readStick 38 = .ok (.iconst 0, 1) := by decide +kernel
theorem dX7_readStick_39 : decode cX7_readStick 39 = .ok (.iaload, 1) := by decide +kernel
theorem dX7_readStick_40 : decode cX7_readStick 40 = .ok (.putfield 86, 3) := by decide +kernel
theorem dX7_readStick_43 : decode cX7_readStick 43 = .ok (.aload_n 2, 1) := by decide +kernel
theorem dX7_readStick_44 : decode cX7_readStick 44 = .ok (.aload_n 0, 1) := by decide +kernel
theorem dX7_readStick_45 : decode cX7_readStick 45 = .ok (.getfield 9, 3) := by decide +kernel
theorem dX7_readStick_48 : decode cX7_readStick 48 = .ok (.iconst 1, 1) := by decide +kernel
theorem dX7_readStick_49 : decode cX7_readStick 49 = .ok (.iaload, 1) := by decide +kernel
theorem dX7_readStick_50 : decode cX7_readStick 50 = .ok (.putfield 91, 3) := by decide +kernel
theorem dX7_readStick_53 : decode cX7_readStick 53 = .ok (.aload_n 2, 1) := by decide +kernel
theorem dX7_readStick_54 : decode cX7_readStick 54 = .ok (.aload_n 0, 1) := by decide +kernel
theorem dX7_readStick_55 : decode cX7_readStick 55 = .ok (.getfield 9, 3) := by decide +kernel
theorem dX7_readStick_58 : decode cX7_readStick 58 = .ok (.iconst 2, 1) := by decide +kernel
theorem dX7_readStick_59 : decode cX7_readStick 59 = .ok (.iaload, 1) := by decide +kernel
theorem dX7_readStick_60 : decode cX7_readStick 60 = .ok (.putfield 94, 3) := by decide +kernel
theorem dX7_readStick_63 : decode cX7_readStick 63 = .ok (.aload_n 2, 1) := by decide +kernel
theorem dX7_readStick_64 : decode cX7_readStick 64 = .ok (.aload_n 0, 1) := by decide +kernel
theorem dX7_readStick_65 : decode cX7_readStick 65 = .ok (.getfield 9, 3) := by decide +kernel
theorem dX7_readStick_68 : decode cX7_readStick 68 = .ok (.iconst 3, 1) := by decide +kernel
theorem dX7_readStick_69 : decode cX7_readStick 69 = .ok (.iaload, 1) := by decide +kernel
theorem dX7_readStick_70 : decode cX7_readStick 70 = .ok (.putfield 97, 3) := by decide +kernel
theorem dX7_readStick_73 : decode cX7_readStick 73 = .ok (.aload_n 2, 1) := by decide +kernel
theorem dX7_readStick_74 : decode cX7_readStick 74 = .ok (.aload_n 0, 1) := by decide +kernel
theorem dX7_readStick_75 : decode cX7_readStick 75 = .ok (.getfield 9, 3) := by decide +kernel
theorem dX7_readStick_78 : decode cX7_readStick 78 = .ok (.iconst 4, 1) := by decide +kernel
theorem dX7_readStick_79 : decode cX7_readStick 79 = .ok (.iaload, 1) := by decide +kernel
theorem dX7_readStick_80 : decode cX7_readStick 80 = .ok (.putfield 100, 3) := by decide +kernel
theorem dX7_readStick_83 : decode cX7_readStick 83 = .ok (.aload_n 2, 1) := by decide +kernel
theorem dX7_readStick_84 : decode cX7_readStick 84 = .ok (.aload_n 0, 1) := by decide +kernel
theorem dX7_readStick_85 : decode cX7_readStick 85 = .ok (.getfield 9, 3) := by decide +kernel
theorem dX7_readStick_88 : decode cX7_readStick 88 = .ok (.iconst 5, 1) := by decide +kernel
theorem dX7_readStick_89 : decode cX7_readStick 89 = .ok (.iaload, 1) := by decide +kernel
theorem dX7_readStick_90 : decode cX7_readStick 90 = .ok (.putfield 103, 3) := by decide +kernel
theorem dX7_readStick_93 : decode cX7_readStick 93 = .ok (.aload_n 2, 1) := by decide +kernel
theorem dX7_readStick_94 : decode cX7_readStick 94 = .ok (.iconst 0, 1) := by decide +kernel
theorem dX7_readStick_95 : decode cX7_readStick 95 = .ok (.putfield 106, 3) := by decide +kernel
theorem dX7_readStick_98 : decode cX7_readStick 98 = .ok (.iconst 1, 1) := by decide +kernel
theorem dX7_readStick_99 : decode cX7_readStick 99 = .ok (.ireturn, 1) := by decide +kernel
theorem dX7_readBow_0 : decode cX7_readBow 0 = .ok (.aload_n 0, 1) := by decide +kernel
theorem dX7_readBow_1 : decode cX7_readBow 1 = .ok (.getstatic 109, 3) := by decide +kernel
theorem dX7_readBow_4 : decode cX7_readBow 4 = .ok (.getstatic 112, 3) := by decide +kernel
theorem dX7_readBow_7 : decode cX7_readBow 7 = .ok (.invokevirtual 74, 3) := by decide +kernel
theorem dX7_readBow_10 : decode cX7_readBow 10 = .ok (.ifCond .eq 10, 3) := by decide +kernel
theorem dX7_readBow_13 : decode cX7_readBow 13 = .ok (.aload_n 0, 1) := by decide +kernel
theorem dX7_readBow_14 : decode cX7_readBow 14 = .ok (.invokevirtual 78, 3) := by decide +kernel
theorem dX7_readBow_17 : decode cX7_readBow 17 = .ok (.ifCond .ne 5, 3) := by decide +kernel
theorem dX7_readBow_20 : decode cX7_readBow 20 = .ok (.iconst 0, 1) := by decide +kernel
theorem dX7_readBow_21 : decode cX7_readBow 21 = .ok (.ireturn, 1) := by decide +kernel
theorem dX7_readBow_22 : decode cX7_readBow 22 = .ok (.aload_n 1, 1) := by decide +kernel
theorem dX7_readBow_23 : decode cX7_readBow 23 = .ok (.invokevirtual 115, 3) := by decide +kernel
theorem dX7_readBow_26 : decode cX7_readBow 26 = .ok (.astore_n 2, 1) := by decide +kernel
theorem dX7_readBow_27 : decode cX7_readBow 27 = .ok (.aload_n 2, 1) := by decide +kernel
theorem dX7_readBow_28 : decode cX7_readBow 28 = .ok (.ifnonnull 5, 3) := by decide +kernel
theorem dX7_readBow_31 : decode cX7_readBow 31 = .ok (.iconst 0, 1) := by decide +kernel
theorem dX7_readBow_32 : decode cX7_readBow 32 = .ok (.ireturn, 1) := by decide +kernel
theorem dX7_readBow_33 : decode cX7_readBow 33 = .ok (.aload_n 2, 1) := by decide +kernel
theorem dX7_readBow_34 : decode cX7_readBow 34 = .ok (.aload_n 0, 1) := by decide +kernel
theorem dX7_readBow_35 : decode cX7_readBow 35 = .ok (.getfield 9, 3) := by decide +kernel
theorem dX7_readBow_38 : decode cX7_readBow 38 = .ok (.iconst 0, 1) := by decide +kernel
theorem dX7_readBow_39 : decode cX7_readBow 39 = .ok (.iaload, 1) := by decide +kernel
theorem dX7_readBow_40 : decode cX7_readBow 40 = .ok (.putfield 119, 3) := by decide +kernel
theorem dX7_readBow_43 : decode cX7_readBow 43 = .ok (.aload_n 2, 1) := by decide +kernel
theorem dX7_readBow_44 : decode cX7_readBow 44 = .ok (.aload_n 0, 1) := by decide +kernel
theorem dX7_readBow_45 : decode cX7_readBow 45 = .ok (.getfield 9, 3) := by decide +kernel
theorem dX7_readBow_48 : decode cX7_readBow 48 = .ok (.iconst 1, 1) := by decide +kernel
theorem dX7_readBow_49 : decode cX7_readBow 49 = .ok (.iaload, 1) := by decide +kernel
theorem dX7_readBow_50 : decode cX7_readBow 50 = .ok (.putfield 124, 3) := by decide +kernel
theorem dX7_readBow_53 : decode cX7_readBow 53 = .ok (.iconst 1, 1) := by decide +kernel
theorem dX7_readBow_54 : decode cX7_readBow 54 = .ok (.ireturn, 1) := by decide +kernel
theorem dX7_readArcher_0 : decode cX7_readArcher 0 = .ok (.aload_n 0, 1) := by decide +kernel
theorem dX7_readArcher_1 : decode cX7_readArcher 1 = .ok (.ldc 127, 2) := by decide +kernel
theorem dX7_readArcher_3 : decode cX7_readArcher 3 = .ok (.invokevirtual 45, 3) := by decide +kernel
theorem dX7_readArcher_6 : decode cX7_readArcher 6 = .ok (.istore_n 2, 1) := by decide +kernel
theorem dX7_readArcher_7 : decode cX7_readArcher 7 = .ok (.iload_n 2, 1) := by decide +kernel
theorem dX7_readArcher_8 : decode cX7_readArcher 8 = .ok (.ifCond .ne 14, 3) := by decide +kernel
theorem dX7_readArcher_11 : decode cX7_readArcher 11 = .ok (.aload_n 0, 1) := by decide +kernel
theorem dX7_readArcher_12 : decode cX7_readArcher 12 = .ok (.ldc 129, 2) := by decide +kernel
theorem dX7_readArcher_14 : decode cX7_readArcher 14 = .ok (.invokevirtual 45, 3) := by decide +kernel
theorem dX7_readArcher_17 : decode cX7_readArcher 17 = .ok (.ifCond .ne 5, 3) := by decide +kernel
theorem dX7_readArcher_20 : decode cX7_readArcher 20 = .ok (.iconst 0, 1) := by decide +kernel
theorem dX7_readArcher_21 : decode cX7_readArcher 21 = .ok (.ireturn, 1) := by decide +kernel
theorem dX7_readArcher_22 : decode cX7_readArcher 22 = .ok (.aload_n 0, 1) := by decide +kernel
theorem dX7_readArcher_23 : decode cX7_readArcher 23 = .ok (.getstatic 131, 3) := by decide +kernel
theorem dX7_readArcher_26 : decode cX7_readArcher 26 = .ok (.getstatic 134, 3) := by decide +kernel
theorem dX7_readArcher_29 : decode cX7_readArcher 29 = .ok (.invokevirtual 74, 3) := by decide +kernel
theorem dX7_readArcher_32 : decode cX7_readArcher 32 = .ok (.ifCond .eq 10, 3) := by decide +kernel
theorem dX7_readArcher_35 : decode cX7_readArcher 35 = .ok (.aload_n 0, 1) := by decide +kernel
theorem dX7_readArcher_36 : decode cX7_readArcher 36 = .ok (.invokevirtual 78, 3) := by decide +kernel
theorem dX7_readArcher_39 : decode cX7_readArcher 39 = .ok (.ifCond .ne 5, 3) := by decide +kernel
theorem dX7_readArcher_42 : decode cX7_readArcher 42 = .ok (.iconst 0, 1) := by decide +kernel
theorem dX7_readArcher_43 : decode cX7_readArcher 43 = .ok (.ireturn, 1) := by decide +kernel
theorem dX7_readArcher_44 : decode cX7_readArcher 44 = .ok (.aload_n 1, 1) := by decide +kernel
theorem dX7_readArcher_45 : decode cX7_readArcher 45 = .ok (.invokevirtual 137, 3) := by decide +kernel
theorem dX7_readArcher_48 : decode cX7_readArcher 48 = .ok (.astore_n 3, 1) := by decide +kernel
theorem dX7_readArcher_49 : decode cX7_readArcher 49 = .ok (.aload_n 3, 1) := by decide +kernel
theorem dX7_readArcher_50 : decode cX7_readArcher 50 = .ok (.ifnonnull 5, 3) := by decide +kernel
theorem dX7_readArcher_53 : decode cX7_readArcher 53 = .ok (.iconst 0, 1) := by decide +kernel
theorem dX7_readArcher_54 : decode cX7_readArcher 54 = .ok (.ireturn, 1) := by decide +kernel
theorem dX7_readArcher_55 : decode cX7_readArcher 55 = .ok (.aload_n 3, 1) := by decide +kernel
theorem dX7_readArcher_56 : decode cX7_readArcher 56 = .ok (.iload_n 2, 1) := by decide +kernel
theorem dX7_readArcher_57 : decode cX7_readArcher 57 = .ok (.ifCond .eq 13, 3) := by decide +kernel
theorem dX7_readArcher_60 : decode cX7_readArcher 60 = .ok (.aload_n 0, 1) := by decide +kernel
theorem dX7_readArcher_61 : decode cX7_readArcher 61 = .ok (.getfield 9, 3) := by decide +kernel
theorem dX7_readArcher_64 : decode cX7_readArcher 64 = .ok (.iconst 0, 1) := by decide +kernel
theorem dX7_readArcher_65 : decode cX7_readArcher 65 = .ok (.iaload, 1) := by decide +kernel
theorem dX7_readArcher_66 : decode cX7_readArcher 66 = .ok (.ineg, 1) := by decide +kernel
theorem dX7_readArcher_67 : decode cX7_readArcher 67 = .ok (.goto 9, 3) := by decide +kernel
theorem dX7_readArcher_70 : decode cX7_readArcher 70 = .ok (.aload_n 0, 1) := by decide +kernel
theorem dX7_readArcher_71 : decode cX7_readArcher 71 = .ok (.getfield 9, 3) := by decide +kernel
theorem dX7_readArcher_74 : decode cX7_readArcher 74 = .ok (.iconst 0, 1) := by decide +kernel
theorem dX7_readArcher_75 : decode cX7_readArcher 75 = .ok (.iaload, 1) := by decide +kernel
theorem dX7_readArcher_76 : decode cX7_readArcher 76 = .ok (.putfield 141, 3) := by decide +kernel
theorem dX7_readArcher_79 : decode cX7_readArcher 79 = .ok (.aload_n 3, 1) := by decide +kernel
theorem dX7_readArcher_80 : decode cX7_readArcher 80 = .ok (.aload_n 0, 1) := by decide +kernel
theorem dX7_readArcher_81 : decode cX7_readArcher 81 = .ok (.getfield 9, 3) := by decide +kernel
theorem dX7_readArcher_84 : decode cX7_readArcher 84 = .ok (.iconst 1, 1) := by decide +kernel
theorem dX7_readArcher_85 : decode cX7_readArcher 85 = .ok (.iaload, 1) := by decide +kernel
theorem dX7_readArcher_86 : decode cX7_readArcher 86 = .ok (.putfield 146, 3) := by decide +kernel
theorem dX7_readArcher_89 : decode cX7_readArcher 89 = .ok (.iconst 1, 1) := by decide +kernel
theorem dX7_readArcher_90 : decode cX7_readArcher 90 = .ok (.ireturn, 1) := by decide +kernel
theorem dX7_skipBlanks_0 : decode cX7_skipBlanks 0 = .ok (.aload_n 0, 1) := by decide +kernel
theorem dX7_skipBlanks_1 : decode cX7_skipBlanks 1 = .ok (.getfield 24, 3) := by decide +kernel
theorem dX7_skipBlanks_4 : decode cX7_skipBlanks 4 = .ok (.aload_n 0, 1) := by decide +kernel
theorem dX7_skipBlanks_5 : decode cX7_skipBlanks 5 = .ok (.getfield 15, 3) := by decide +kernel
theorem dX7_skipBlanks_8 : decode cX7_skipBlanks 8 = .ok (.getfield 31, 3) := by decide +kernel
theorem dX7_skipBlanks_11 : decode cX7_skipBlanks 11 = .ok (.if_icmp .ge 32, 3) := by decide +kernel
theorem dX7_skipBlanks_14 : decode cX7_skipBlanks 14 = .ok (.aload_n 0, 1) := by decide +kernel
theorem dX7_skipBlanks_15 : decode cX7_skipBlanks 15 = .ok (.getfield 15, 3) := by decide +kernel
theorem dX7_skipBlanks_18 : decode cX7_skipBlanks 18 = .ok (.aload_n 0, 1) := by decide +kernel
theorem dX7_skipBlanks_19 : decode cX7_skipBlanks 19 = .ok (.getfield 24, 3) := by decide +kernel
theorem dX7_skipBlanks_22 : decode cX7_skipBlanks 22 = .ok (.invokevirtual 149, 3) := by decide +kernel
theorem dX7_skipBlanks_25 : decode cX7_skipBlanks 25 = .ok (.bipush 32, 2) := by decide +kernel
theorem dX7_skipBlanks_27 : decode cX7_skipBlanks 27 = .ok (.if_icmp .ne 16, 3) := by decide +kernel
theorem dX7_skipBlanks_30 : decode cX7_skipBlanks 30 = .ok (.aload_n 0, 1) := by decide +kernel
theorem dX7_skipBlanks_31 : decode cX7_skipBlanks 31 = .ok (.dup, 1) := by decide +kernel
theorem dX7_skipBlanks_32 : decode cX7_skipBlanks 32 = .ok (.getfield 24, 3) := by decide +kernel
theorem dX7_skipBlanks_35 : decode cX7_skipBlanks 35 = .ok (.iconst 1, 1) := by decide +kernel
theorem dX7_skipBlanks_36 : decode cX7_skipBlanks 36 = .ok (.iadd, 1) := by decide +kernel
theorem dX7_skipBlanks_37 : decode cX7_skipBlanks 37 = .ok (.putfield 24, 3) := by decide +kernel
theorem dX7_skipBlanks_40 : decode cX7_skipBlanks 40 = .ok (.goto (-40), 3) := by decide +kernel
theorem dX7_skipBlanks_43 : decode cX7_skipBlanks 43 = .ok (.return_, 1) := by decide +kernel
theorem dX7_takeWord_0 : decode cX7_takeWord 0 = .ok (.aload_n 0, 1) := by decide +kernel
theorem dX7_takeWord_1 : decode cX7_takeWord 1 = .ok (.invokevirtual 28, 3) := by decide +kernel
theorem dX7_takeWord_4 : decode cX7_takeWord 4 = .ok (.aload_n 1, 1) := by decide +kernel
theorem dX7_takeWord_5 : decode cX7_takeWord 5 = .ok (.invokevirtual 153, 3) := by decide +kernel
theorem dX7_takeWord_8 : decode cX7_takeWord 8 = .ok (.istore_n 2, 1) := by decide +kernel
theorem dX7_takeWord_9 : decode cX7_takeWord 9 = .ok (.iconst 0, 1) := by decide +kernel
theorem dX7_takeWord_10 : decode cX7_takeWord 10 = .ok (.istore_n 3, 1) := by decide +kernel
theorem dX7_takeWord_11 : decode cX7_takeWord 11 = .ok (.iload_n 3, 1) := by decide +kernel
theorem dX7_takeWord_12 : decode cX7_takeWord 12 = .ok (.iload_n 2, 1) := by decide +kernel
theorem dX7_takeWord_13 : decode cX7_takeWord 13 = .ok (.if_icmp .ge 32, 3) := by decide +kernel
theorem dX7_takeWord_16 : decode cX7_takeWord 16 = .ok (.aload_n 0, 1) := by decide +kernel
theorem dX7_takeWord_17 : decode cX7_takeWord 17 = .ok (.getfield 15, 3) := by decide +kernel
theorem dX7_takeWord_20 : decode cX7_takeWord 20 = .ok (.aload_n 0, 1) := by decide +kernel
theorem dX7_takeWord_21 : decode cX7_takeWord 21 = .ok (.getfield 24, 3) := by decide +kernel
theorem dX7_takeWord_24 : decode cX7_takeWord 24 = .ok (.iload_n 3, 1) := by decide +kernel
theorem dX7_takeWord_25 : decode cX7_takeWord 25 = .ok (.iadd, 1) := by decide +kernel
theorem dX7_takeWord_26 : decode cX7_takeWord 26 = .ok (.invokevirtual 149, 3) := by decide +kernel
theorem dX7_takeWord_29 : decode cX7_takeWord 29 = .ok (.aload_n 1, 1) := by decide +kernel
theorem dX7_takeWord_30 : decode cX7_takeWord 30 = .ok (.iload_n 3, 1) := by decide +kernel
theorem dX7_takeWord_31 : decode cX7_takeWord 31 = .ok (.invokevirtual 158, 3) := by decide +kernel
theorem dX7_takeWord_34 : decode cX7_takeWord 34 = .ok (.if_icmp .eq 5, 3) := by decide +kernel
theorem dX7_takeWord_37 : decode cX7_takeWord 37 = .ok (.iconst 0, 1) := by decide +kernel
theorem dX7_takeWord_38 : decode cX7_takeWord 38 = .ok (.ireturn, 1) := by decide +kernel
theorem dX7_takeWord_39 : decode cX7_takeWord 39 = .ok (.iinc 3 1, 3) := by decide +kernel
theorem dX7_takeWord_42 : decode cX7_takeWord 42 = .ok (.goto (-31), 3) := by decide +kernel
theorem dX7_takeWord_45 : decode cX7_takeWord 45 = .ok (.aload_n 0, 1) := by decide +kernel
theorem dX7_takeWord_46 : decode cX7_takeWord 46 = .ok (.getfield 15, 3) := by decide +kernel
theorem dX7_takeWord_49 : decode cX7_takeWord 49 = .ok (.aload_n 0, 1) := by decide +kernel
theorem dX7_takeWord_50 : decode cX7_takeWord 50 = .ok (.getfield 24, 3) := by decide +kernel
theorem dX7_takeWord_53 : decode cX7_takeWord 53 = .ok (.iload_n 2, 1) := by decide +kernel
theorem dX7_takeWord_54 : decode cX7_takeWord 54 = .ok (.iadd, 1) := by decide +kernel
theorem dX7_takeWord_55 : decode cX7_takeWord 55 = .ok (.invokevirtual 149, 3) := by decide +kernel
theorem dX7_takeWord_58 : decode cX7_takeWord 58 = .ok (.bipush 97, 2) := by decide +kernel
theorem dX7_takeWord_60 : decode cX7_takeWord 60 = .ok (.bipush 122, 2) := by decide +kernel
theorem dX7_takeWord_62 : decode cX7_takeWord 62 = .ok (.invokestatic 162, 3) := by decide +kernel
theorem dX7_takeWord_65 : decode cX7_takeWord 65 = .ok (.ifCond .eq 5, 3) := by decide +kernel
theorem dX7_takeWord_68 : decode cX7_takeWord 68 = .ok (.iconst 0, 1) := by decide +kernel
theorem dX7_takeWord_69 : decode cX7_takeWord 69 = .ok (.ireturn, 1) := by decide +kernel
theorem dX7_takeWord_70 : decode cX7_takeWord 70 = .ok (.aload_n 0, 1) := by decide +kernel
theorem dX7_takeWord_71 : decode cX7_takeWord 71 = .ok (.dup, 1) := by decide +kernel
theorem dX7_takeWord_72 : decode cX7_takeWord 72 = .ok (.getfield 24, 3) := by decide +kernel
theorem dX7_takeWord_75 : decode cX7_takeWord 75 = .ok (.iload_n 2, 1) := by decide +kernel
theorem dX7_takeWord_76 : decode cX7_takeWord 76 = .ok (.iadd, 1) := by decide +kernel
theorem dX7_takeWord_77 : decode cX7_takeWord 77 = .ok (.putfield 24, 3) := by decide +kernel
theorem dX7_takeWord_80 : decode cX7_takeWord 80 = .ok (.iconst 1, 1) := by decide +kernel
theorem dX7_takeWord_81 : decode cX7_takeWord 81 = .ok (.ireturn, 1) := by decide +kernel
theorem dX7_takeNumbers_0 : decode cX7_takeNumbers 0 = .ok (.iconst 0, 1) := by decide +kernel
theorem dX7_takeNumbers_1 : decode cX7_takeNumbers 1 = .ok (.istore_n 3, 1) := by decide +kernel
theorem dX7_takeNumbers_2 : decode cX7_takeNumbers 2 = .ok (.iload_n 3, 1) := by decide +kernel
theorem dX7_takeNumbers_3 : decode cX7_takeNumbers 3 = .ok (.aload_n 1, 1) := by decide +kernel
theorem dX7_takeNumbers_4 : decode cX7_takeNumbers 4 = .ok (.arraylength, 1) := by decide +kernel
theorem dX7_takeNumbers_5 : decode cX7_takeNumbers 5 = .ok (.if_icmp .ge 55, 3) := by decide +kernel
theorem dX7_takeNumbers_8 : decode cX7_takeNumbers 8 = .ok (.iload_n 3, 1) := by decide +kernel
theorem dX7_takeNumbers_9 : decode cX7_takeNumbers 9 = .ok (.aload_n 2, 1) := by decide +kernel
theorem dX7_takeNumbers_10 : decode cX7_takeNumbers 10 = .ok (.arraylength, 1) := by decide +kernel
theorem dX7_takeNumbers_11 : decode cX7_takeNumbers 11 = .ok (.if_icmp .ge 49, 3) := by decide +kernel
theorem dX7_takeNumbers_14 : decode cX7_takeNumbers 14 = .ok (.iload_n 3, 1) := by decide +kernel
theorem dX7_takeNumbers_15 : decode cX7_takeNumbers 15 = .ok (.aload_n 0, 1) := by decide +kernel
theorem dX7_takeNumbers_16 : decode cX7_takeNumbers 16 = .ok (.getfield 9, 3) := by decide +kernel
theorem dX7_takeNumbers_19 : decode cX7_takeNumbers 19 = .ok (.arraylength, 1) := by decide +kernel
theorem dX7_takeNumbers_20 : decode cX7_takeNumbers 20 = .ok (.if_icmp .ge 40, 3) := by decide +kernel
theorem dX7_takeNumbers_23 : decode cX7_takeNumbers 23 = .ok (.aload_n 0, 1) := by decide +kernel
theorem dX7_takeNumbers_24 : decode cX7_takeNumbers 24 = .ok (.invokevirtual 28, 3) := by decide +kernel
theorem dX7_takeNumbers_27 : decode cX7_takeNumbers 27 = .ok (.aload_n 0, 1) := by decide +kernel
theorem dX7_takeNumbers_28 : decode cX7_takeNumbers 28 = .ok (.getfield 9, 3) := by decide +kernel
theorem dX7_takeNumbers_31 : decode cX7_takeNumbers 31 = .ok (.iload_n 3, 1) := by decide +kernel
theorem dX7_takeNumbers_32 : decode cX7_takeNumbers 32 = .ok (.aload_n 0, 1) := by decide +kernel
theorem dX7_takeNumbers_33 : decode cX7_takeNumbers 33 = .ok (.aload_n 1, 1) := by decide +kernel
theorem dX7_takeNumbers_34 : decode cX7_takeNumbers 34 = .ok (.iload_n 3, 1) := by decide +kernel
theorem dX7_takeNumbers_35 : decode cX7_takeNumbers 35 = .ok (.iaload, 1) := by decide +kernel
theorem dX7_takeNumbers_36 : decode cX7_takeNumbers 36 = .ok (.aload_n 2, 1) := by decide +kernel
theorem dX7_takeNumbers_37 : decode cX7_takeNumbers 37 = .ok (.iload_n 3, 1) := by decide +kernel
theorem dX7_takeNumbers_38 : decode cX7_takeNumbers 38 = .ok (.iaload, 1) := by decide +kernel
theorem dX7_takeNumbers_39 : decode cX7_takeNumbers 39 = .ok (.invokevirtual 166, 3) := by decide +kernel
theorem dX7_takeNumbers_42 : decode cX7_takeNumbers 42 = .ok (.iastore, 1) := by decide +kernel
theorem dX7_takeNumbers_43 : decode cX7_takeNumbers 43 = .ok (.aload_n 0, 1) := by decide +kernel
theorem dX7_takeNumbers_44 : decode cX7_takeNumbers 44 = .ok (.getfield 9, 3) := by decide +kernel
theorem dX7_takeNumbers_47 : decode cX7_takeNumbers 47 = .ok (.iload_n 3, 1) := by decide +kernel
theorem dX7_takeNumbers_48 : decode cX7_takeNumbers 48 = .ok (.iaload, 1) := by decide +kernel
theorem dX7_takeNumbers_49 : decode cX7_takeNumbers 49 = .ok (.ifCond .ge 5, 3) := by decide +kernel
theorem dX7_takeNumbers_52 : decode cX7_takeNumbers 52 = .ok (.iconst 0, 1) := by decide +kernel
theorem dX7_takeNumbers_53 : decode cX7_takeNumbers 53 = .ok (.ireturn, 1) := by decide +kernel
theorem dX7_takeNumbers_54 : decode cX7_takeNumbers 54 = .ok (.iinc 3 1, 3) := by decide +kernel
theorem dX7_takeNumbers_57 : decode cX7_takeNumbers 57 = .ok (.goto (-55), 3) := by decide +kernel
theorem dX7_takeNumbers_60 : decode cX7_takeNumbers 60 = .ok (.iconst 1, 1) := by decide +kernel
theorem dX7_takeNumbers_61 : decode cX7_takeNumbers 61 = .ok (.ireturn, 1) := by decide +kernel
theorem dX7_takeNumber_0 : decode cX7_takeNumber 0 = .ok (.iconst 0, 1) := by decide +kernel
theorem dX7_takeNumber_1 : decode cX7_takeNumber 1 = .ok (.istore_n 3, 1) := by decide +kernel
theorem dX7_takeNumber_2 : decode cX7_takeNumber 2 = .ok (.aload_n 0, 1) := by decide +kernel
theorem dX7_takeNumber_3 : decode cX7_takeNumber 3 = .ok (.getfield 24, 3) := by decide +kernel
theorem dX7_takeNumber_6 : decode cX7_takeNumber 6 = .ok (.istore 4, 2) := by decide +kernel
theorem dX7_takeNumber_8 : decode cX7_takeNumber 8 = .ok (.iload 4, 2) := by decide +kernel
theorem dX7_takeNumber_10 : decode cX7_takeNumber 10 = .ok (.aload_n 0, 1) := by decide +kernel
theorem dX7_takeNumber_11 : decode cX7_takeNumber 11 = .ok (.getfield 15, 3) := by decide +kernel
theorem dX7_takeNumber_14 : decode cX7_takeNumber 14 = .ok (.getfield 31, 3) := by decide +kernel
theorem dX7_takeNumber_17 : decode cX7_takeNumber 17 = .ok (.if_icmp .ge 52, 3) := by decide +kernel
theorem dX7_takeNumber_20 : decode cX7_takeNumber 20 = .ok (.aload_n 0, 1) := by decide +kernel
theorem dX7_takeNumber_21 : decode cX7_takeNumber 21 = .ok (.getfield 15, 3) := by decide +kernel
theorem dX7_takeNumber_24 : decode cX7_takeNumber 24 = .ok (.iload 4, 2) := by decide +kernel
theorem dX7_takeNumber_26 : decode cX7_takeNumber 26 = .ok (.invokevirtual 149, 3) := by decide +kernel
theorem dX7_takeNumber_29 : decode cX7_takeNumber 29 = .ok (.bipush 48, 2) := by decide +kernel
theorem dX7_takeNumber_31 : decode cX7_takeNumber 31 = .ok (.bipush 57, 2) := by decide +kernel
theorem dX7_takeNumber_33 : decode cX7_takeNumber 33 = .ok (.invokestatic 162, 3) := by decide +kernel
theorem dX7_takeNumber_36 : decode cX7_takeNumber 36 = .ok (.ifCond .eq 33, 3) := by decide +kernel
theorem dX7_takeNumber_39 : decode cX7_takeNumber 39 = .ok (.sipush 1000, 3) := by decide +kernel
theorem dX7_takeNumber_42 : decode cX7_takeNumber 42 = .ok (.iload_n 3, 1) := by decide +kernel
theorem dX7_takeNumber_43 : decode cX7_takeNumber 43 = .ok (.bipush 10, 2) := by decide +kernel
theorem dX7_takeNumber_45 : decode cX7_takeNumber 45 = .ok (.imul, 1) := by decide +kernel
theorem dX7_takeNumber_46 : decode cX7_takeNumber 46 = .ok (.aload_n 0, 1) := by decide +kernel
theorem dX7_takeNumber_47 : decode cX7_takeNumber 47 = .ok (.getfield 15, 3) := by decide +kernel
theorem dX7_takeNumber_50 : decode cX7_takeNumber 50 = .ok (.iload 4, 2) := by decide +kernel
theorem dX7_takeNumber_52 : decode cX7_takeNumber 52 = .ok (.invokevirtual 149, 3) := by decide +kernel
theorem dX7_takeNumber_55 : decode cX7_takeNumber 55 = .ok (.iadd, 1) := by decide +kernel
theorem dX7_takeNumber_56 : decode cX7_takeNumber 56 = .ok (.bipush 48, 2) := by decide +kernel
theorem dX7_takeNumber_58 : decode cX7_takeNumber 58 = .ok (.isub, 1) := by decide +kernel
theorem dX7_takeNumber_59 : decode cX7_takeNumber 59 = .ok (.invokestatic 170, 3) := by decide +kernel
theorem dX7_takeNumber_62 : decode cX7_takeNumber 62 = .ok (.istore_n 3, 1) := by decide +kernel
theorem dX7_takeNumber_63 : decode cX7_takeNumber 63 = .ok (.iinc 4 1, 3) := by decide +kernel
theorem dX7_takeNumber_66 : decode cX7_takeNumber 66 = .ok (.goto (-58), 3) := by decide +kernel
theorem dX7_takeNumber_69 : decode cX7_takeNumber 69 = .ok (.iload 4, 2) := by decide +kernel
theorem dX7_takeNumber_71 : decode cX7_takeNumber 71 = .ok (.aload_n 0, 1) := by decide +kernel
theorem dX7_takeNumber_72 : decode cX7_takeNumber 72 = .ok (.getfield 24, 3) := by decide +kernel
theorem dX7_takeNumber_75 : decode cX7_takeNumber 75 = .ok (.isub, 1) := by decide +kernel
theorem dX7_takeNumber_76 : decode cX7_takeNumber 76 = .ok (.iconst 1, 1) := by decide +kernel
theorem dX7_takeNumber_77 : decode cX7_takeNumber 77 = .ok (.if_icmp .le 23, 3) := by decide +kernel
theorem dX7_takeNumber_80 : decode cX7_takeNumber 80 = .ok (.aload_n 0, 1) := by decide +kernel
theorem dX7_takeNumber_81 : decode cX7_takeNumber 81 = .ok (.getfield 15, 3) := by decide +kernel
theorem dX7_takeNumber_84 : decode cX7_takeNumber 84 = .ok (.aload_n 0, 1) := by decide +kernel
theorem dX7_takeNumber_85 : decode cX7_takeNumber 85 = .ok (.getfield 24, 3) := by decide +kernel
theorem dX7_takeNumber_88 : decode cX7_takeNumber 88 = .ok (.invokevirtual 149, 3) := by decide +kernel
theorem dX7_takeNumber_91 : decode cX7_takeNumber 91 = .ok (.bipush 48, 2) := by decide +kernel
theorem dX7_takeNumber_93 : decode cX7_takeNumber 93 = .ok (.if_icmp .ne 7, 3) := by decide +kernel
theorem dX7_takeNumber_96 : decode cX7_takeNumber 96 = .ok (.iconst 1, 1) := by decide +kernel
theorem dX7_takeNumber_97 : decode cX7_takeNumber 97 = .ok (.goto 4, 3) := by decide +kernel
theorem dX7_takeNumber_100 : decode cX7_takeNumber 100 = .ok (.iconst 0, 1) := by decide +kernel
theorem dX7_takeNumber_101 : decode cX7_takeNumber 101 = .ok (.istore 5, 2) := by decide +kernel
theorem dX7_takeNumber_103 : decode cX7_takeNumber 103 = .ok (.iload 4, 2) := by decide +kernel
theorem dX7_takeNumber_105 : decode cX7_takeNumber 105 = .ok (.aload_n 0, 1) := by decide +kernel
theorem dX7_takeNumber_106 : decode cX7_takeNumber 106 = .ok (.getfield 24, 3) := by decide +kernel
theorem dX7_takeNumber_109 : decode cX7_takeNumber 109 = .ok (.if_icmp .eq 17, 3) := by decide +kernel
theorem dX7_takeNumber_112 : decode cX7_takeNumber 112 = .ok (.iload 5, 2) := by decide +kernel
theorem dX7_takeNumber_114 : decode cX7_takeNumber 114 = .ok (.ifCond .ne 12, 3) := by decide +kernel
theorem dX7_takeNumber_117 : decode cX7_takeNumber 117 = .ok (.iload_n 3, 1) := by decide +kernel
theorem dX7_takeNumber_118 : decode cX7_takeNumber 118 = .ok (.iload_n 1, 1) := by decide +kernel
theorem dX7_takeNumber_119 : decode cX7_takeNumber 119 = .ok (.iload_n 2, 1) := by decide +kernel
theorem dX7_takeNumber_120 : decode cX7_takeNumber 120 = .ok (.invokestatic 162, 3) := by decide +kernel
theorem dX7_takeNumber_123 : decode cX7_takeNumber 123 = .ok (.ifCond .ne 5, 3) := by decide +kernel
theorem dX7_takeNumber_126 : decode cX7_takeNumber 126 = .ok (.iconst (-1), 1) := by decide +kernel
theorem dX7_takeNumber_127 : decode cX7_takeNumber 127 = .ok (.ireturn, 1) := by decide +kernel
theorem dX7_takeNumber_128 : decode cX7_takeNumber 128 = .ok (.aload_n 0, 1) := by decide +kernel
theorem dX7_takeNumber_129 : decode cX7_takeNumber 129 = .ok (.iload 4, 2) := by decide +kernel
theorem dX7_takeNumber_131 : decode cX7_takeNumber 131 = .ok (.putfield 24, 3) := by decide +kernel
theorem dX7_takeNumber_134 : decode cX7_takeNumber 134 = .ok (.iload_n 3, 1) := by decide +kernel
theorem dX7_takeNumber_135 : decode cX7_takeNumber 135 = .ok (.ireturn, 1) := by decide +kernel
theorem dX7_takeEnd_0 : decode cX7_takeEnd 0 = .ok (.aload_n 0, 1) := by decide +kernel
theorem dX7_takeEnd_1 : decode cX7_takeEnd 1 = .ok (.invokevirtual 28, 3) := by decide +kernel
theorem dX7_takeEnd_4 : decode cX7_takeEnd 4 = .ok (.aload_n 0, 1) := by decide +kernel
theorem dX7_takeEnd_5 : decode cX7_takeEnd 5 = .ok (.getfield 15, 3) := by decide +kernel
theorem dX7_takeEnd_8 : decode cX7_takeEnd 8 = .ok (.aload_n 0, 1) := by decide +kernel
theorem dX7_takeEnd_9 : decode cX7_takeEnd 9 = .ok (.getfield 24, 3) := by decide +kernel
theorem dX7_takeEnd_12 : decode cX7_takeEnd 12 = .ok (.invokevirtual 149, 3) := by decide +kernel
theorem dX7_takeEnd_15 : decode cX7_takeEnd 15 = .ok (.bipush 59, 2) := by decide +kernel
theorem dX7_takeEnd_17 : decode cX7_takeEnd 17 = .ok (.if_icmp .eq 5, 3) := by decide +kernel
theorem dX7_takeEnd_20 : decode cX7_takeEnd 20 = .ok (.iconst 0, 1) := by decide +kernel
theorem dX7_takeEnd_21 : decode cX7_takeEnd 21 = .ok (.ireturn, 1) := by decide +kernel
theorem dX7_takeEnd_22 : decode cX7_takeEnd 22 = .ok (.aload_n 0, 1) := by decide +kernel
theorem dX7_takeEnd_23 : decode cX7_takeEnd 23 = .ok (.dup, 1) := by decide +kernel
theorem dX7_takeEnd_24 : decode cX7_takeEnd 24 = .ok (.getfield 24, 3) := by decide +kernel
theorem dX7_takeEnd_27 : decode cX7_takeEnd 27 = .ok (.iconst 1, 1) := by decide +kernel
theorem dX7_takeEnd_28 : decode cX7_takeEnd 28 = .ok (.iadd, 1) := by decide +kernel
theorem dX7_takeEnd_29 : decode cX7_takeEnd 29 = .ok (.putfield 24, 3) := by decide +kernel
theorem dX7_takeEnd_32 : decode cX7_takeEnd 32 = .ok (.iconst 1, 1) := by decide +kernel
theorem dX7_takeEnd_33 : decode cX7_takeEnd 33 = .ok (.ireturn, 1) := by decide +kernel
theorem dX8_init_0 : decode cX8_init 0 = .ok (.aload_n 0, 1) := by decide +kernel
theorem dX8_init_1 : decode cX8_init 1 = .ok (.invokespecial 3, 3) := by decide +kernel
theorem dX8_init_4 : decode cX8_init 4 = .ok (.aload_n 0, 1) := by decide +kernel
theorem dX8_init_5 : decode cX8_init 5 = .ok (.bipush 60, 2) := by decide +kernel
theorem dX8_init_7 : decode cX8_init 7 = .ok (.newarray .int, 2) := by decide +kernel
theorem dX8_init_9 : decode cX8_init 9 = .ok (.putfield 9, 3) := by decide +kernel
theorem dX8_init_12 : decode cX8_init 12 = .ok (.aload_n 0, 1) := by decide +kernel
theorem dX8_init_13 : decode cX8_init 13 = .ok (.bipush 60, 2) := by decide +kernel
theorem dX8_init_15 : decode cX8_init 15 = .ok (.newarray .int, 2) := by decide +kernel
theorem dX8_init_17 : decode cX8_init 17 = .ok (.putfield 15, 3) := by decide +kernel
theorem dX8_init_20 : decode cX8_init 20 = .ok (.aload_n 0, 1) := by decide +kernel
theorem dX8_init_21 : decode cX8_init 21 = .ok (.bipush 60, 2) := by decide +kernel
theorem dX8_init_23 : decode cX8_init 23 = .ok (.newarray .int, 2) := by decide +kernel
theorem dX8_init_25 : decode cX8_init 25 = .ok (.putfield 18, 3) := by decide +kernel
theorem dX8_init_28 : decode cX8_init 28 = .ok (.aload_n 0, 1) := by decide +kernel
theorem dX8_init_29 : decode cX8_init 29 = .ok (.bipush 60, 2) := by decide +kernel
theorem dX8_init_31 : decode cX8_init 31 = .ok (.newarray .int, 2) := by decide +kernel
theorem dX8_init_33 : decode cX8_init 33 = .ok (.putfield 21, 3) := by decide +kernel
theorem dX8_init_36 : decode cX8_init 36 = .ok (.aload_n 0, 1) := by decide +kernel
theorem dX8_init_37 : decode cX8_init 37 = .ok (.bipush 60, 2) := by decide +kernel
theorem dX8_init_39 : decode cX8_init 39 = .ok (.newarray .int, 2) := by decide +kernel
theorem dX8_init_41 : decode cX8_init 41 = .ok (.putfield 24, 3) := by decide +kernel
theorem dX8_init_44 : decode cX8_init 44 = .ok (.aload_n 0, 1) := by decide +kernel
theorem dX8_init_45 : decode cX8_init 45 = .ok (.bipush 12, 2) := by decide +kernel
theorem dX8_init_47 : decode cX8_init 47 = .ok (.newarray .int, 2) := by decide +kernel
theorem dX8_init_49 : decode cX8_init 49 = .ok (.putfield 27, 3) := by decide +kernel
theorem dX8_init_52 : decode cX8_init 52 = .ok (.aload_n 0, 1) := by decide +kernel
theorem dX8_init_53 : decode cX8_init 53 = .ok (.bipush 12, 2) := by decide +kernel
theorem dX8_init_55 : decode cX8_init 55 = .ok (.newarray .int, 2) := by decide +kernel
theorem dX8_init_57 : decode cX8_init 57 = .ok (.putfield 30, 3) := by decide +kernel
theorem dX8_init_60 : decode cX8_init 60 = .ok (.return_, 1) := by decide +kernel
theorem dX8_add_0 : decode cX8_add 0 = .ok (.aload_n 0, 1) := by decide +kernel
theorem dX8_add_1 : decode cX8_add 1 = .ok (.getfield 33, 3) := by decide +kernel
theorem dX8_add_4 : decode cX8_add 4 = .ok (.bipush 60, 2) := by decide +kernel
theorem dX8_add_6 : decode cX8_add 6 = .ok (.if_icmp .lt 4, 3) := by decide +kernel
theorem dX8_add_9 : decode cX8_add 9 = .ok (.return_, 1) := by decide +kernel
theorem dX8_add_10 : decode cX8_add 10 = .ok (.aload_n 0, 1) := by decide +kernel
theorem dX8_add_11 : decode cX8_add 11 = .ok (.getfield 9, 3) := by decide +kernel
theorem dX8_add_14 : decode cX8_add 14 = .ok (.aload_n 0, 1) := by decide +kernel
theorem dX8_add_15 : decode cX8_add 15 = .ok (.getfield 33, 3) := by decide +kernel
theorem dX8_add_18 : decode cX8_add 18 = .ok (.iload_n 1, 1) := by decide +kernel
theorem dX8_add_19 : decode cX8_add 19 = .ok (.iastore, 1) := by decide +kernel
theorem dX8_add_20 : decode cX8_add 20 = .ok (.aload_n 0, 1) := by decide +kernel
theorem dX8_add_21 : decode cX8_add 21 = .ok (.getfield 15, 3) := by decide +kernel
theorem dX8_add_24 : decode cX8_add 24 = .ok (.aload_n 0, 1) := by decide +kernel
theorem dX8_add_25 : decode cX8_add 25 = .ok (.getfield 33, 3) := by decide +kernel
theorem dX8_add_28 : decode cX8_add 28 = .ok (.iload_n 2, 1) := by decide +kernel
theorem dX8_add_29 : decode cX8_add 29 = .ok (.iastore, 1) := by decide +kernel
theorem dX8_add_30 : decode cX8_add 30 = .ok (.aload_n 0, 1) := by decide +kernel
theorem dX8_add_31 : decode cX8_add 31 = .ok (.getfield 18, 3) := by decide +kernel
theorem dX8_add_34 : decode cX8_add 34 = .ok (.aload_n 0, 1) := by decide +kernel
theorem dX8_add_35 : decode cX8_add 35 = .ok (.getfield 33, 3) := by decide +kernel
theorem dX8_add_38 : decode cX8_add 38 = .ok (.iload_n 3, 1) := by decide +kernel
theorem dX8_add_39 : decode cX8_add 39 = .ok (.iastore, 1) := by decide +kernel
theorem dX8_add_40 : decode cX8_add 40 = .ok (.aload_n 0, 1) := by decide +kernel
theorem dX8_add_41 : decode cX8_add 41 = .ok (.getfield 21, 3) := by decide +kernel
theorem dX8_add_44 : decode cX8_add 44 = .ok (.aload_n 0, 1) := by decide +kernel
theorem dX8_add_45 : decode cX8_add 45 = .ok (.getfield 33, 3) := by decide +kernel
theorem dX8_add_48 : decode cX8_add 48 = .ok (.iload 4, 2) := by decide +kernel
theorem dX8_add_50 : decode cX8_add 50 = .ok (.iastore, 1) := by decide +kernel
theorem dX8_add_51 : decode cX8_add 51 = .ok (.aload_n 0, 1) := by decide +kernel
theorem dX8_add_52 : decode cX8_add 52 = .ok (.getfield 24, 3) := by decide +kernel
theorem dX8_add_55 : decode cX8_add 55 = .ok (.aload_n 0, 1) := by decide +kernel
theorem dX8_add_56 : decode cX8_add 56 = .ok (.getfield 33, 3) := by decide +kernel
theorem dX8_add_59 : decode cX8_add 59 = .ok (.iload 5, 2) := by decide +kernel
theorem dX8_add_61 : decode cX8_add 61 = .ok (.iastore, 1) := by decide +kernel
theorem dX8_add_62 : decode cX8_add 62 = .ok (.aload_n 0, 1) := by decide +kernel
theorem dX8_add_63 : decode cX8_add 63 = .ok (.dup, 1) := by decide +kernel
theorem dX8_add_64 : decode cX8_add 64 = .ok (.getfield 33, 3) := by decide +kernel
theorem dX8_add_67 : decode cX8_add 67 = .ok (.iconst 1, 1) := by decide +kernel
theorem dX8_add_68 : decode cX8_add 68 = .ok (.iadd, 1) := by decide +kernel
theorem dX8_add_69 : decode cX8_add 69 = .ok (.putfield 33, 3) := by decide +kernel
theorem dX8_add_72 : decode cX8_add 72 = .ok (.return_, 1) := by decide +kernel
theorem dX8_tell_0 : decode cX8_tell 0 = .ok (.iload_n 1, 1) := by decide +kernel
theorem dX8_tell_1 : decode cX8_tell 1 = .ok (.ifCond .lt 11, 3) := by decide +kernel
theorem dX8_tell_4 : decode cX8_tell 4 = .ok (.iload_n 1, 1) := by decide +kernel
theorem dX8_tell_5 : decode cX8_tell 5 = .ok (.aload_n 0, 1) := by decide +kernel
theorem dX8_tell_6 : decode cX8_tell 6 = .ok (.getfield 33, 3) := by decide +kernel
theorem dX8_tell_9 : decode cX8_tell 9 = .ok (.if_icmp .lt 6, 3) := by decide +kernel
theorem dX8_tell_12 : decode cX8_tell 12 = .ok (.ldc 37, 2) := by decide +kernel
theorem dX8_tell_14 : decode cX8_tell 14 = .ok (.ireturn, 1) := by decide +kernel
theorem dX8_tell_15 : decode cX8_tell 15 = .ok (.iload_n 2, 1) := by decide +kernel
theorem dX8_tell_16 : decode cX8_tell 16 = .ok (.tableswitch 71 0 4 #[36, 43, 50, 57, 64], 36) := by decide +kernel
theorem dX8_tell_52 : decode cX8_tell 52 = .ok (.aload_n 0, 1) := by decide +kernel
theorem dX8_tell_53 : decode cX8_tell 53 = .ok (.getfield 9, 3) := by decide +kernel
theorem dX8_tell_56 : decode cX8_tell 56 = .ok (.iload_n 1, 1) := by decide +kernel
theorem dX8_tell_57 : decode cX8_tell 57 = .ok (.iaload, 1) := by decide +kernel
theorem dX8_tell_58 : decode cX8_tell 58 = .ok (.ireturn, 1) := by decide +kernel
theorem dX8_tell_59 : decode cX8_tell 59 = .ok (.aload_n 0, 1) := by decide +kernel
theorem dX8_tell_60 : decode cX8_tell 60 = .ok (.getfield 15, 3) := by decide +kernel
theorem dX8_tell_63 : decode cX8_tell 63 = .ok (.iload_n 1, 1) := by decide +kernel
theorem dX8_tell_64 : decode cX8_tell 64 = .ok (.iaload, 1) := by decide +kernel
theorem dX8_tell_65 : decode cX8_tell 65 = .ok (.ireturn, 1) := by decide +kernel
theorem dX8_tell_66 : decode cX8_tell 66 = .ok (.aload_n 0, 1) := by decide +kernel
theorem dX8_tell_67 : decode cX8_tell 67 = .ok (.getfield 18, 3) := by decide +kernel
theorem dX8_tell_70 : decode cX8_tell 70 = .ok (.iload_n 1, 1) := by decide +kernel
theorem dX8_tell_71 : decode cX8_tell 71 = .ok (.iaload, 1) := by decide +kernel
theorem dX8_tell_72 : decode cX8_tell 72 = .ok (.ireturn, 1) := by decide +kernel
theorem dX8_tell_73 : decode cX8_tell 73 = .ok (.aload_n 0, 1) := by decide +kernel
theorem dX8_tell_74 : decode cX8_tell 74 = .ok (.getfield 21, 3) := by decide +kernel
theorem dX8_tell_77 : decode cX8_tell 77 = .ok (.iload_n 1, 1) := by decide +kernel
theorem dX8_tell_78 : decode cX8_tell 78 = .ok (.iaload, 1) := by decide +kernel
theorem dX8_tell_79 : decode cX8_tell 79 = .ok (.ireturn, 1) := by decide +kernel
theorem dX8_tell_80 : decode cX8_tell 80 = .ok (.aload_n 0, 1) := by decide +kernel
theorem dX8_tell_81 : decode cX8_tell 81 = .ok (.getfield 24, 3) := by decide +kernel
theorem dX8_tell_84 : decode cX8_tell 84 = .ok (.iload_n 1, 1) := by decide +kernel
theorem dX8_tell_85 : decode cX8_tell 85 = .ok (.iaload, 1) := by decide +kernel
theorem dX8_tell_86 : decode cX8_tell 86 = .ok (.ireturn, 1) := by decide +kernel
theorem dX8_tell_87 : decode cX8_tell 87 = .ok (.ldc 37, 2) := by decide +kernel
theorem dX8_tell_89 : decode cX8_tell 89 = .ok (.ireturn, 1) := by decide +kernel
theorem dX8_empty_0 : decode cX8_empty 0 = .ok (.aload_n 0, 1) := by decide +kernel
theorem dX8_empty_1 : decode cX8_empty 1 = .ok (.getfield 33, 3) := by decide +kernel
theorem dX8_empty_4 : decode cX8_empty 4 = .ok (.istore_n 1, 1) := by decide +kernel
theorem dX8_empty_5 : decode cX8_empty 5 = .ok (.aload_n 0, 1) := by decide +kernel
theorem dX8_empty_6 : decode cX8_empty 6 = .ok (.iconst 0, 1) := by decide +kernel
theorem dX8_empty_7 : decode cX8_empty 7 = .ok (.putfield 33, 3) := by decide +kernel
theorem dX8_empty_10 : decode cX8_empty 10 = .ok (.iload_n 1, 1) := by decide +kernel
theorem dX8_empty_11 : decode cX8_empty 11 = .ok (.ireturn, 1) := by decide +kernel
theorem dX8_copy_0 : decode cX8_copy 0 = .ok (.aload_n 0, 1) := by decide +kernel
theorem dX8_copy_1 : decode cX8_copy 1 = .ok (.aload_n 1, 1) := by decide +kernel
theorem dX8_copy_2 : decode cX8_copy 2 = .ok (.getfield 33, 3) := by decide +kernel
theorem dX8_copy_5 : decode cX8_copy 5 = .ok (.putfield 33, 3) := by decide +kernel
theorem dX8_copy_8 : decode cX8_copy 8 = .ok (.iconst 0, 1) := by decide +kernel
theorem dX8_copy_9 : decode cX8_copy 9 = .ok (.istore_n 2, 1) := by decide +kernel
theorem dX8_copy_10 : decode cX8_copy 10 = .ok (.iload_n 2, 1) := by decide +kernel
theorem dX8_copy_11 : decode cX8_copy 11 = .ok (.aload_n 0, 1) := by decide +kernel
theorem dX8_copy_12 : decode cX8_copy 12 = .ok (.getfield 33, 3) := by decide +kernel
theorem dX8_copy_15 : decode cX8_copy 15 = .ok (.if_icmp .ge 69, 3) := by decide +kernel
theorem dX8_copy_18 : decode cX8_copy 18 = .ok (.aload_n 0, 1) := by decide +kernel
theorem dX8_copy_19 : decode cX8_copy 19 = .ok (.getfield 9, 3) := by decide +kernel
theorem dX8_copy_22 : decode cX8_copy 22 = .ok (.iload_n 2, 1) := by decide +kernel
theorem dX8_copy_23 : decode cX8_copy 23 = .ok (.aload_n 1, 1) := by decide +kernel
theorem dX8_copy_24 : decode cX8_copy 24 = .ok (.getfield 9, 3) := by decide +kernel
theorem dX8_copy_27 : decode cX8_copy 27 = .ok (.iload_n 2, 1) := by decide +kernel
theorem dX8_copy_28 : decode cX8_copy 28 = .ok (.iaload, 1) := by decide +kernel
theorem dX8_copy_29 : decode cX8_copy 29 = .ok (.iastore, 1) := by decide +kernel
theorem dX8_copy_30 : decode cX8_copy 30 = .ok (.aload_n 0, 1) := by decide +kernel
theorem dX8_copy_31 : decode cX8_copy 31 = .ok (.getfield 15, 3) := by decide +kernel
theorem dX8_copy_34 : decode cX8_copy 34 = .ok (.iload_n 2, 1) := by decide +kernel
theorem dX8_copy_35 : decode cX8_copy 35 = .ok (.aload_n 1, 1) := by decide +kernel
theorem dX8_copy_36 : decode cX8_copy 36 = .ok (.getfield 15, 3) := by decide +kernel
theorem dX8_copy_39 : decode cX8_copy 39 = .ok (.iload_n 2, 1) := by decide +kernel
theorem dX8_copy_40 : decode cX8_copy 40 = .ok (.iaload, 1) := by decide +kernel
theorem dX8_copy_41 : decode cX8_copy 41 = .ok (.iastore, 1) := by decide +kernel
theorem dX8_copy_42 : decode cX8_copy 42 = .ok (.aload_n 0, 1) := by decide +kernel
theorem dX8_copy_43 : decode cX8_copy 43 = .ok (.getfield 18, 3) := by decide +kernel
theorem dX8_copy_46 : decode cX8_copy 46 = .ok (.iload_n 2, 1) := by decide +kernel
theorem dX8_copy_47 : decode cX8_copy 47 = .ok (.aload_n 1, 1) := by decide +kernel
theorem dX8_copy_48 : decode cX8_copy 48 = .ok (.getfield 18, 3) := by decide +kernel
theorem dX8_copy_51 : decode cX8_copy 51 = .ok (.iload_n 2, 1) := by decide +kernel
theorem dX8_copy_52 : decode cX8_copy 52 = .ok (.iaload, 1) := by decide +kernel
theorem dX8_copy_53 : decode cX8_copy 53 = .ok (.iastore, 1) := by decide +kernel
theorem dX8_copy_54 : decode cX8_copy 54 = .ok (.aload_n 0, 1) := by decide +kernel
theorem dX8_copy_55 : decode cX8_copy 55 = .ok (.getfield 21, 3) := by decide +kernel
theorem dX8_copy_58 : decode cX8_copy 58 = .ok (.iload_n 2, 1) := by decide +kernel
theorem dX8_copy_59 : decode cX8_copy 59 = .ok (.aload_n 1, 1) := by decide +kernel
theorem dX8_copy_60 : decode cX8_copy 60 = .ok (.getfield 21, 3) := by decide +kernel
theorem dX8_copy_63 : decode cX8_copy 63 = .ok (.iload_n 2, 1) := by decide +kernel
theorem dX8_copy_64 : decode cX8_copy 64 = .ok (.iaload, 1) := by decide +kernel
theorem dX8_copy_65 : decode cX8_copy 65 = .ok (.iastore, 1) := by decide +kernel
theorem dX8_copy_66 : decode cX8_copy 66 = .ok (.aload_n 0, 1) := by decide +kernel
theorem dX8_copy_67 : decode cX8_copy 67 = .ok (.getfield 24, 3) := by decide +kernel
theorem dX8_copy_70 : decode cX8_copy 70 = .ok (.iload_n 2, 1) := by decide +kernel
theorem dX8_copy_71 : decode cX8_copy 71 = .ok (.aload_n 1, 1) := by decide +kernel
theorem dX8_copy_72 : decode cX8_copy 72 = .ok (.getfield 24, 3) := by decide +kernel
theorem dX8_copy_75 : decode cX8_copy 75 = .ok (.iload_n 2, 1) := by decide +kernel
theorem dX8_copy_76 : decode cX8_copy 76 = .ok (.iaload, 1) := by decide +kernel
theorem dX8_copy_77 : decode cX8_copy 77 = .ok (.iastore, 1) := by decide +kernel
theorem dX8_copy_78 : decode cX8_copy 78 = .ok (.iinc 2 1, 3) := by decide +kernel
theorem dX8_copy_81 : decode cX8_copy 81 = .ok (.goto (-71), 3) := by decide +kernel
theorem dX8_copy_84 : decode cX8_copy 84 = .ok (.return_, 1) := by decide +kernel
theorem dX8_partedBy_0 : decode cX8_partedBy 0 = .ok (.aload_n 0, 1) := by decide +kernel
theorem dX8_partedBy_1 : decode cX8_partedBy 1 = .ok (.getfield 33, 3) := by decide +kernel
theorem dX8_partedBy_4 : decode cX8_partedBy 4 = .ok (.ifCond .ne 6, 3) := by decide +kernel
theorem dX8_partedBy_7 : decode cX8_partedBy 7 = .ok (.bipush (-9), 2) := by decide +kernel
theorem dX8_partedBy_9 : decode cX8_partedBy 9 = .ok (.ireturn, 1) := by decide +kernel
theorem dX8_partedBy_10 : decode cX8_partedBy 10 = .ok (.iconst 0, 1) := by decide +kernel
theorem dX8_partedBy_11 : decode cX8_partedBy 11 = .ok (.istore_n 1, 1) := by decide +kernel
theorem dX8_partedBy_12 : decode cX8_partedBy 12 = .ok (.lconst 0, 1) := by decide +kernel
theorem dX8_partedBy_13 : decode cX8_partedBy 13 = .ok (.lstore_n 2, 1) := by decide +kernel
theorem dX8_partedBy_14 : decode cX8_partedBy 14 = .ok (.lconst 1, 1) := by decide +kernel
theorem dX8_partedBy_15 : decode cX8_partedBy 15 = .ok (.lstore 4, 2) := by decide +kernel
theorem dX8_partedBy_17 : decode cX8_partedBy 17 = .ok (.iconst 0, 1) := by decide +kernel
theorem dX8_partedBy_18 : decode cX8_partedBy 18 = .ok (.istore 6, 2) := by decide +kernel
theorem dX8_partedBy_20 : decode cX8_partedBy 20 = .ok (.iload 6, 2) := by decide +kernel
theorem dX8_partedBy_22 : decode cX8_partedBy 22 = .ok (.iconst 2, 1) := by decide +kernel
theorem dX8_partedBy_23 : decode cX8_partedBy 23 = .ok (.if_icmp .gt 76, 3) := by decide +kernel
theorem dX8_partedBy_26 : decode cX8_partedBy 26 = .ok (.aload_n 0, 1) := by decide +kernel
theorem dX8_partedBy_27 : decode cX8_partedBy 27 = .ok (.iload 6, 2) := by decide +kernel
theorem dX8_partedBy_29 : decode cX8_partedBy 29 = .ok (.ifCond .ne 10, 3) := by decide +kernel
theorem dX8_partedBy_32 : decode cX8_partedBy 32 = .ok (.aload_n 0, 1) := by decide +kernel
theorem dX8_partedBy_33 : decode cX8_partedBy 33 = .ok (.getfield 9, 3) := by decide +kernel
theorem dX8_partedBy_36 : decode cX8_partedBy 36 = .ok (.goto 20, 3) := by decide +kernel
theorem dX8_partedBy_39 : decode cX8_partedBy 39 = .ok (.iload 6, 2) := by decide +kernel
theorem dX8_partedBy_41 : decode cX8_partedBy 41 = .ok (.iconst 1, 1) := by decide +kernel
theorem dX8_partedBy_42 : decode cX8_partedBy 42 = .ok (.if_icmp .ne 10, 3) := by decide +kernel
theorem dX8_partedBy_45 : decode cX8_partedBy 45 = .ok (.aload_n 0, 1) := by decide +kernel
theorem dX8_partedBy_46 : decode cX8_partedBy 46 = .ok (.getfield 18, 3) := by decide +kernel
theorem dX8_partedBy_49 : decode cX8_partedBy 49 = .ok (.goto 7, 3) := by decide +kernel
theorem dX8_partedBy_52 : decode cX8_partedBy 52 = .ok (.aload_n 0, 1) := by decide +kernel
theorem dX8_partedBy_53 : decode cX8_partedBy 53 = .ok (.getfield 15, 3) := by decide +kernel
theorem dX8_partedBy_56 : decode cX8_partedBy 56 = .ok (.invokevirtual 38, 3) := by decide +kernel
theorem dX8_partedBy_59 : decode cX8_partedBy 59 = .ok (.aload_n 0, 1) := by decide +kernel
theorem dX8_partedBy_60 : decode cX8_partedBy 60 = .ok (.getfield 42, 3) := by decide +kernel
theorem dX8_partedBy_63 : decode cX8_partedBy 63 = .ok (.lload 4, 2) := by decide +kernel
theorem dX8_partedBy_65 : decode cX8_partedBy 65 = .ok (.lmul, 1) := by decide +kernel
theorem dX8_partedBy_66 : decode cX8_partedBy 66 = .ok (.lload_n 2, 1) := by decide +kernel
theorem dX8_partedBy_67 : decode cX8_partedBy 67 = .ok (.aload_n 0, 1) := by decide +kernel
theorem dX8_partedBy_68 : decode cX8_partedBy 68 = .ok (.getfield 46, 3) := by decide +kernel
theorem dX8_partedBy_71 : decode cX8_partedBy 71 = .ok (.lmul, 1) := by decide +kernel
theorem dX8_partedBy_72 : decode cX8_partedBy 72 = .ok (.lcmp, 1) := by decide +kernel
theorem dX8_partedBy_73 : decode cX8_partedBy 73 = .ok (.ifCond .gt 6, 3) := by decide +kernel
theorem dX8_partedBy_76 : decode cX8_partedBy 76 = .ok (.goto 17, 3) := by decide +kernel
theorem dX8_partedBy_79 : decode cX8_partedBy 79 = .ok (.iload 6, 2) := by decide +kernel
theorem dX8_partedBy_81 : decode cX8_partedBy 81 = .ok (.istore_n 1, 1) := by decide +kernel
theorem dX8_partedBy_82 : decode cX8_partedBy 82 = .ok (.aload_n 0, 1) := by decide +kernel
theorem dX8_partedBy_83 : decode cX8_partedBy 83 = .ok (.getfield 42, 3) := by decide +kernel
theorem dX8_partedBy_86 : decode cX8_partedBy 86 = .ok (.lstore_n 2, 1) := by decide +kernel
theorem dX8_partedBy_87 : decode cX8_partedBy 87 = .ok (.aload_n 0, 1) := by decide +kernel
theorem dX8_partedBy_88 : decode cX8_partedBy 88 = .ok (.getfield 46, 3) := by decide +kernel
theorem dX8_partedBy_91 : decode cX8_partedBy 91 = .ok (.lstore 4, 2) := by decide +kernel
theorem dX8_partedBy_93 : decode cX8_partedBy 93 = .ok (.iinc 6 1, 3) := by decide +kernel
theorem dX8_partedBy_96 : decode cX8_partedBy 96 = .ok (.goto (-76), 3) := by decide +kernel
theorem dX8_partedBy_99 : decode cX8_partedBy 99 = .ok (.iload_n 1, 1) := by decide +kernel
theorem dX8_partedBy_100 : decode cX8_partedBy 100 = .ok (.ireturn, 1) := by decide +kernel
theorem dX8_weigh_0 : decode cX8_weigh 0 = .ok (.aload_n 0, 1) := by decide +kernel
theorem dX8_weigh_1 : decode cX8_weigh 1 = .ok (.aload_n 1, 1) := by decide +kernel
theorem dX8_weigh_2 : decode cX8_weigh 2 = .ok (.invokevirtual 49, 3) := by decide +kernel
theorem dX8_weigh_5 : decode cX8_weigh 5 = .ok (.aload_n 0, 1) := by decide +kernel
theorem dX8_weigh_6 : decode cX8_weigh 6 = .ok (.lconst 0, 1) := by decide +kernel
theorem dX8_weigh_7 : decode cX8_weigh 7 = .ok (.putfield 42, 3) := by decide +kernel
theorem dX8_weigh_10 : decode cX8_weigh 10 = .ok (.aload_n 0, 1) := by decide +kernel
theorem dX8_weigh_11 : decode cX8_weigh 11 = .ok (.lconst 1, 1) := by decide +kernel
theorem dX8_weigh_12 : decode cX8_weigh 12 = .ok (.putfield 46, 3) := by decide +kernel
theorem dX8_weigh_15 : decode cX8_weigh 15 = .ok (.iconst 0, 1) := by decide +kernel
theorem dX8_weigh_16 : decode cX8_weigh 16 = .ok (.istore_n 2, 1) := by decide +kernel
theorem dX8_weigh_17 : decode cX8_weigh 17 = .ok (.iload_n 2, 1) := by decide +kernel
theorem dX8_weigh_18 : decode cX8_weigh 18 = .ok (.aload_n 0, 1) := by decide +kernel
theorem dX8_weigh_19 : decode cX8_weigh 19 = .ok (.getfield 30, 3) := by decide +kernel
theorem dX8_weigh_22 : decode cX8_weigh 22 = .ok (.arraylength, 1) := by decide +kernel
theorem dX8_weigh_23 : decode cX8_weigh 23 = .ok (.if_icmp .ge 44, 3) := by decide +kernel
theorem dX8_weigh_26 : decode cX8_weigh 26 = .ok (.aload_n 0, 1) := by decide +kernel
theorem dX8_weigh_27 : decode cX8_weigh 27 = .ok (.getfield 30, 3) := by decide +kernel
theorem dX8_weigh_30 : decode cX8_weigh 30 = .ok (.iload_n 2, 1) := by decide +kernel
theorem dX8_weigh_31 : decode cX8_weigh 31 = .ok (.iaload, 1) := by decide +kernel
theorem dX8_weigh_32 : decode cX8_weigh 32 = .ok (.ifCond .le 29, 3) := by decide +kernel
theorem dX8_weigh_35 : decode cX8_weigh 35 = .ok (.aload_n 0, 1) := by decide +kernel
theorem dX8_weigh_36 : decode cX8_weigh 36 = .ok (.aload_n 0, 1) := by decide +kernel
theorem dX8_weigh_37 : decode cX8_weigh 37 = .ok (.getfield 27, 3) := by decide +kernel
theorem dX8_weigh_40 : decode cX8_weigh 40 = .ok (.iload_n 2, 1) := by decide +kernel
theorem dX8_weigh_41 : decode cX8_weigh 41 = .ok (.iaload, 1) := by decide +kernel
theorem dX8_weigh_42 : decode cX8_weigh 42 = .ok (.i2l, 1) := by decide +kernel
theorem dX8_weigh_43 : decode cX8_weigh 43 = .ok (.aload_n 0, 1) := by decide +kernel
theorem dX8_weigh_44 : decode cX8_weigh 44 = .ok (.getfield 27, 3) := by decide +kernel
theorem dX8_weigh_47 : decode cX8_weigh 47 = .ok (.iload_n 2, 1) := by decide +kernel
theorem dX8_weigh_48 : decode cX8_weigh 48 = .ok (.iaload, 1) := by decide +kernel
theorem dX8_weigh_49 : decode cX8_weigh 49 = .ok (.i2l, 1) := by decide +kernel
theorem dX8_weigh_50 : decode cX8_weigh 50 = .ok (.lmul, 1) := by decide +kernel
theorem dX8_weigh_51 : decode cX8_weigh 51 = .ok (.aload_n 0, 1) := by decide +kernel
theorem dX8_weigh_52 : decode cX8_weigh 52 = .ok (.getfield 30, 3) := by decide +kernel
theorem dX8_weigh_55 : decode cX8_weigh 55 = .ok (.iload_n 2, 1) := by decide +kernel
theorem dX8_weigh_56 : decode cX8_weigh 56 = .ok (.iaload, 1) := by decide +kernel
theorem dX8_weigh_57 : decode cX8_weigh 57 = .ok (.i2l, 1) := by decide +kernel
theorem dX8_weigh_58 : decode cX8_weigh 58 = .ok (.invokevirtual 52, 3) := by decide +kernel
theorem dX8_weigh_61 : decode cX8_weigh 61 = .ok (.iinc 2 1, 3) := by decide +kernel
theorem dX8_weigh_64 : decode cX8_weigh 64 = .ok (.goto (-47), 3) := by decide +kernel
theorem dX8_weigh_67 : decode cX8_weigh 67 = .ok (.return_, 1) := by decide +kernel
theorem dX8_addUp_0 : decode cX8_addUp 0 = .ok (.iconst 0, 1) := by decide +kernel
theorem dX8_addUp_1 : decode cX8_addUp 1 = .ok (.istore_n 2, 1) := by decide +kernel
theorem dX8_addUp_2 : decode cX8_addUp 2 = .ok (.iload_n 2, 1) := by decide +kernel
theorem dX8_addUp_3 : decode cX8_addUp 3 = .ok (.aload_n 0, 1) := by decide +kernel
theorem dX8_addUp_4 : decode cX8_addUp 4 = .ok (.getfield 30, 3) := by decide +kernel
theorem dX8_addUp_7 : decode cX8_addUp 7 = .ok (.arraylength, 1) := by decide +kernel
theorem dX8_addUp_8 : decode cX8_addUp 8 = .ok (.if_icmp .ge 23, 3) := by decide +kernel
theorem dX8_addUp_11 : decode cX8_addUp 11 = .ok (.aload_n 0, 1) := by decide +kernel
theorem dX8_addUp_12 : decode cX8_addUp 12 = .ok (.getfield 27, 3) := by decide +kernel
theorem dX8_addUp_15 : decode cX8_addUp 15 = .ok (.iload_n 2, 1) := by decide +kernel
theorem dX8_addUp_16 : decode cX8_addUp 16 = .ok (.iconst 0, 1) := by decide +kernel
theorem dX8_addUp_17 : decode cX8_addUp 17 = .ok (.iastore, 1) := by decide +kernel
theorem dX8_addUp_18 : decode cX8_addUp 18 = .ok (.aload_n 0, 1) := by decide +kernel
theorem dX8_addUp_19 : decode cX8_addUp 19 = .ok (.getfield 30, 3) := by decide +kernel
theorem dX8_addUp_22 : decode cX8_addUp 22 = .ok (.iload_n 2, 1) := by decide +kernel
theorem dX8_addUp_23 : decode cX8_addUp 23 = .ok (.iconst 0, 1) := by decide +kernel
theorem dX8_addUp_24 : decode cX8_addUp 24 = .ok (.iastore, 1) := by decide +kernel
theorem dX8_addUp_25 : decode cX8_addUp 25 = .ok (.iinc 2 1, 3) := by decide +kernel
theorem dX8_addUp_28 : decode cX8_addUp 28 = .ok (.goto (-26), 3) := by decide +kernel
theorem dX8_addUp_31 : decode cX8_addUp 31 = .ok (.iconst 0, 1) := by decide +kernel
theorem dX8_addUp_32 : decode cX8_addUp 32 = .ok (.istore_n 2, 1) := by decide +kernel
theorem dX8_addUp_33 : decode cX8_addUp 33 = .ok (.iload_n 2, 1) := by decide +kernel
theorem dX8_addUp_34 : decode cX8_addUp 34 = .ok (.aload_n 0, 1) := by decide +kernel
theorem dX8_addUp_35 : decode cX8_addUp 35 = .ok (.getfield 33, 3) := by decide +kernel
theorem dX8_addUp_38 : decode cX8_addUp 38 = .ok (.if_icmp .ge 54, 3) := by decide +kernel
theorem dX8_addUp_41 : decode cX8_addUp 41 = .ok (.aload_n 1, 1) := by decide +kernel
theorem dX8_addUp_42 : decode cX8_addUp 42 = .ok (.iload_n 2, 1) := by decide +kernel
theorem dX8_addUp_43 : decode cX8_addUp 43 = .ok (.iaload, 1) := by decide +kernel
theorem dX8_addUp_44 : decode cX8_addUp 44 = .ok (.istore_n 3, 1) := by decide +kernel
theorem dX8_addUp_45 : decode cX8_addUp 45 = .ok (.iload_n 3, 1) := by decide +kernel
theorem dX8_addUp_46 : decode cX8_addUp 46 = .ok (.ifCond .lt 40, 3) := by decide +kernel
theorem dX8_addUp_49 : decode cX8_addUp 49 = .ok (.iload_n 3, 1) := by decide +kernel
theorem dX8_addUp_50 : decode cX8_addUp 50 = .ok (.aload_n 0, 1) := by decide +kernel
theorem dX8_addUp_51 : decode cX8_addUp 51 = .ok (.getfield 30, 3) := by decide +kernel
theorem dX8_addUp_54 : decode cX8_addUp 54 = .ok (.arraylength, 1) := by decide +kernel
theorem dX8_addUp_55 : decode cX8_addUp 55 = .ok (.if_icmp .lt 6, 3) := by decide +kernel
theorem dX8_addUp_58 : decode cX8_addUp 58 = .ok (.goto 28, 3) := by decide +kernel
theorem dX8_addUp_61 : decode cX8_addUp 61 = .ok (.aload_n 0, 1) := by decide +kernel
theorem dX8_addUp_62 : decode cX8_addUp 62 = .ok (.getfield 27, 3) := by decide +kernel
theorem dX8_addUp_65 : decode cX8_addUp 65 = .ok (.iload_n 3, 1) := by decide +kernel
theorem dX8_addUp_66 : decode cX8_addUp 66 = .ok (.dup2, 1) := by decide +kernel
theorem dX8_addUp_67 : decode cX8_addUp 67 = .ok (.iaload, 1) := by decide +kernel
theorem dX8_addUp_68 : decode cX8_addUp 68 = .ok (.aload_n 0, 1) := by decide +kernel
theorem dX8_addUp_69 : decode cX8_addUp 69 = .ok (.getfield 21, 3) := by decide +kernel
theorem dX8_addUp_72 : decode cX8_addUp 72 = .ok (.iload_n 2, 1) := by decide +kernel
theorem dX8_addUp_73 : decode cX8_addUp 73 = .ok (.iaload, 1) := by decide +kernel
theorem dX8_addUp_74 : decode cX8_addUp 74 = .ok (.iadd, 1) := by decide +kernel
theorem dX8_addUp_75 : decode cX8_addUp 75 = .ok (.iastore, 1) := by decide +kernel
theorem dX8_addUp_76 : decode cX8_addUp 76 = .ok (.aload_n 0, 1) := by decide +kernel
theorem dX8_addUp_77 : decode cX8_addUp 77 = .ok (.getfield 30, 3) := by decide +kernel
theorem dX8_addUp_80 : decode cX8_addUp 80 = .ok (.iload_n 3, 1) := by decide +kernel
theorem dX8_addUp_81 : decode cX8_addUp 81 = .ok (.dup2, 1) := by decide +kernel
theorem dX8_addUp_82 : decode cX8_addUp 82 = .ok (.iaload, 1) := by decide +kernel
theorem dX8_addUp_83 : decode cX8_addUp 83 = .ok (.iconst 1, 1) := by decide +kernel
theorem dX8_addUp_84 : decode cX8_addUp 84 = .ok (.iadd, 1) := by decide +kernel
theorem dX8_addUp_85 : decode cX8_addUp 85 = .ok (.iastore, 1) := by decide +kernel
theorem dX8_addUp_86 : decode cX8_addUp 86 = .ok (.iinc 2 1, 3) := by decide +kernel
theorem dX8_addUp_89 : decode cX8_addUp 89 = .ok (.goto (-56), 3) := by decide +kernel
theorem dX8_addUp_92 : decode cX8_addUp 92 = .ok (.return_, 1) := by decide +kernel
theorem dX8_addFraction_0 : decode cX8_addFraction 0 = .ok (.aload_n 0, 1) := by decide +kernel
theorem dX8_addFraction_1 : decode cX8_addFraction 1 = .ok (.getfield 46, 3) := by decide +kernel
theorem dX8_addFraction_4 : decode cX8_addFraction 4 = .ok (.lload_n 3, 1) := by decide +kernel
theorem dX8_addFraction_5 : decode cX8_addFraction 5 = .ok (.invokestatic 56, 3) := by decide +kernel
theorem dX8_addFraction_8 : decode cX8_addFraction 8 = .ok (.lstore 5, 2) := by decide +kernel
theorem dX8_addFraction_10 : decode cX8_addFraction 10 = .ok (.lload 5, 2) := by decide +kernel
theorem dX8_addFraction_12 : decode cX8_addFraction 12 = .ok (.lconst 0, 1) := by decide +kernel
theorem dX8_addFraction_13 : decode cX8_addFraction 13 = .ok (.lcmp, 1) := by decide +kernel
theorem dX8_addFraction_14 : decode cX8_addFraction 14 = .ok (.ifCond .ne 4, 3) := by decide +kernel
theorem dX8_addFraction_17 : decode cX8_addFraction 17 = .ok (.return_, 1) := by decide +kernel
theorem dX8_addFraction_18 : decode cX8_addFraction 18 = .ok (.aload_n 0, 1) := by decide +kernel
theorem dX8_addFraction_19 : decode cX8_addFraction 19 = .ok (.aload_n 0, 1) := by decide +kernel
theorem dX8_addFraction_20 : decode cX8_addFraction 20 = .ok (.getfield 42, 3) := by decide +kernel
theorem dX8_addFraction_23 : decode cX8_addFraction 23 = .ok (.lload_n 3, 1) := by decide +kernel
theorem dX8_addFraction_24 : decode cX8_addFraction 24 = .ok (.lload 5, 2) := by decide +kernel
theorem dX8_addFraction_26 : decode cX8_addFraction 26 = .ok (.ldiv, 1) := by decide +kernel
theorem dX8_addFraction_27 : decode cX8_addFraction 27 = .ok (.lmul, 1) := by decide +kernel
theorem dX8_addFraction_28 : decode cX8_addFraction 28 = .ok (.lload_n 1, 1) := by decide +kernel
theorem dX8_addFraction_29 : decode cX8_addFraction 29 = .ok (.aload_n 0, 1) := by decide +kernel
theorem dX8_addFraction_30 : decode cX8_addFraction 30 = .ok (.getfield 46, 3) := by decide +kernel
theorem dX8_addFraction_33 : decode cX8_addFraction 33 = .ok (.lload 5, 2) := by decide +kernel
theorem dX8_addFraction_35 : decode cX8_addFraction 35 = .ok (.ldiv, 1) := by decide +kernel
theorem dX8_addFraction_36 : decode cX8_addFraction 36 = .ok (.lmul, 1) := by decide +kernel
theorem dX8_addFraction_37 : decode cX8_addFraction 37 = .ok (.ladd, 1) := by decide +kernel
theorem dX8_addFraction_38 : decode cX8_addFraction 38 = .ok (.putfield 42, 3) := by decide +kernel
theorem dX8_addFraction_41 : decode cX8_addFraction 41 = .ok (.aload_n 0, 1) := by decide +kernel
theorem dX8_addFraction_42 : decode cX8_addFraction 42 = .ok (.aload_n 0, 1) := by decide +kernel
theorem dX8_addFraction_43 : decode cX8_addFraction 43 = .ok (.getfield 46, 3) := by decide +kernel
theorem dX8_addFraction_46 : decode cX8_addFraction 46 = .ok (.lload_n 3, 1) := by decide +kernel
theorem dX8_addFraction_47 : decode cX8_addFraction 47 = .ok (.lload 5, 2) := by decide +kernel
theorem dX8_addFraction_49 : decode cX8_addFraction 49 = .ok (.ldiv, 1) := by decide +kernel
theorem dX8_addFraction_50 : decode cX8_addFraction 50 = .ok (.lmul, 1) := by decide +kernel
theorem dX8_addFraction_51 : decode cX8_addFraction 51 = .ok (.putfield 46, 3) := by decide +kernel
theorem dX8_addFraction_54 : decode cX8_addFraction 54 = .ok (.return_, 1) := by decide +kernel
theorem dX8_commonDivisor_0 : decode cX8_commonDivisor 0 = .ok (.iconst 0, 1) := by decide +kernel
theorem dX8_commonDivisor_1 : decode cX8_commonDivisor 1 = .ok (.istore 4, 2) := by decide +kernel
theorem dX8_commonDivisor_3 : decode cX8_commonDivisor 3 = .ok (.iload 4, 2) := by decide +kernel
theorem dX8_commonDivisor_5 : decode cX8_commonDivisor 5 = .ok (.bipush 100, 2) := by decide +kernel
theorem dX8_commonDivisor_7 : decode cX8_commonDivisor 7 = .ok (.if_icmp .ge 25, 3) := by decide +kernel
theorem dX8_commonDivisor_10 : decode cX8_commonDivisor 10 = .ok (.lload_n 2, 1) := by decide +kernel
theorem dX8_commonDivisor_11 : decode cX8_commonDivisor 11 = .ok (.lconst 0, 1) := by decide +kernel
theorem dX8_commonDivisor_12 : decode cX8_commonDivisor 12 = .ok (.lcmp, 1) := by decide +kernel
theorem dX8_commonDivisor_13 : decode cX8_commonDivisor 13 = .ok (.ifCond .eq 19, 3) := by decide +kernel
theorem dX8_commonDivisor_16 : decode cX8_commonDivisor 16 = .ok (.lload_n 0, 1) := by decide +kernel
theorem dX8_commonDivisor_17 : decode cX8_commonDivisor 17 = .ok (.lload_n 2, 1) := by decide +kernel
theorem dX8_commonDivisor_18 : decode cX8_commonDivisor 18 = .ok (.lrem, 1) := by decide +kernel
theorem dX8_commonDivisor_19 : decode cX8_commonDivisor 19 = .ok (.lstore 5, 2) := by decide +kernel
theorem dX8_commonDivisor_21 : decode cX8_commonDivisor 21 = .ok (.lload_n 2, 1) := by decide +kernel
theorem dX8_commonDivisor_22 : decode cX8_commonDivisor 22 = .ok (.lstore_n 0, 1) := by decide +kernel
theorem dX8_commonDivisor_23 : decode cX8_commonDivisor 23 = .ok (.lload 5, 2) := by decide +kernel
theorem dX8_commonDivisor_25 : decode cX8_commonDivisor 25 = .ok (.lstore_n 2, 1) := by decide +kernel
theorem dX8_commonDivisor_26 : decode cX8_commonDivisor 26 = .ok (.iinc 4 1, 3) := by decide +kernel
theorem dX8_commonDivisor_29 : decode cX8_commonDivisor 29 = .ok (.goto (-26), 3) := by decide +kernel
theorem dX8_commonDivisor_32 : decode cX8_commonDivisor 32 = .ok (.lload_n 0, 1) := by decide +kernel
theorem dX8_commonDivisor_33 : decode cX8_commonDivisor 33 = .ok (.lreturn, 1) := by decide +kernel
theorem dX8_spreadOf_0 : decode cX8_spreadOf 0 = .ok (.iconst 0, 1) := by decide +kernel
theorem dX8_spreadOf_1 : decode cX8_spreadOf 1 = .ok (.istore_n 2, 1) := by decide +kernel
theorem dX8_spreadOf_2 : decode cX8_spreadOf 2 = .ok (.iconst 0, 1) := by decide +kernel
theorem dX8_spreadOf_3 : decode cX8_spreadOf 3 = .ok (.istore_n 3, 1) := by decide +kernel
theorem dX8_spreadOf_4 : decode cX8_spreadOf 4 = .ok (.iconst 0, 1) := by decide +kernel
theorem dX8_spreadOf_5 : decode cX8_spreadOf 5 = .ok (.istore 4, 2) := by decide +kernel
theorem dX8_spreadOf_7 : decode cX8_spreadOf 7 = .ok (.iconst 0, 1) := by decide +kernel
theorem dX8_spreadOf_8 : decode cX8_spreadOf 8 = .ok (.istore 5, 2) := by decide +kernel
theorem dX8_spreadOf_10 : decode cX8_spreadOf 10 = .ok (.iload 5, 2) := by decide +kernel
theorem dX8_spreadOf_12 : decode cX8_spreadOf 12 = .ok (.aload_n 0, 1) := by decide +kernel
theorem dX8_spreadOf_13 : decode cX8_spreadOf 13 = .ok (.getfield 33, 3) := by decide +kernel
theorem dX8_spreadOf_16 : decode cX8_spreadOf 16 = .ok (.if_icmp .ge 80, 3) := by decide +kernel
theorem dX8_spreadOf_19 : decode cX8_spreadOf 19 = .ok (.aload_n 0, 1) := by decide +kernel
theorem dX8_spreadOf_20 : decode cX8_spreadOf 20 = .ok (.getfield 9, 3) := by decide +kernel
theorem dX8_spreadOf_23 : decode cX8_spreadOf 23 = .ok (.iload 5, 2) := by decide +kernel
theorem dX8_spreadOf_25 : decode cX8_spreadOf 25 = .ok (.iaload, 1) := by decide +kernel
theorem dX8_spreadOf_26 : decode cX8_spreadOf 26 = .ok (.iload_n 1, 1) := by decide +kernel
theorem dX8_spreadOf_27 : decode cX8_spreadOf 27 = .ok (.if_icmp .eq 6, 3) := by decide +kernel
theorem dX8_spreadOf_30 : decode cX8_spreadOf 30 = .ok (.goto 60, 3) := by decide +kernel
theorem dX8_spreadOf_33 : decode cX8_spreadOf 33 = .ok (.iload 4, 2) := by decide +kernel
theorem dX8_spreadOf_35 : decode cX8_spreadOf 35 = .ok (.ifCond .eq 17, 3) := by decide +kernel
theorem dX8_spreadOf_38 : decode cX8_spreadOf 38 = .ok (.iload_n 2, 1) := by decide +kernel
theorem dX8_spreadOf_39 : decode cX8_spreadOf 39 = .ok (.aload_n 0, 1) := by decide +kernel
theorem dX8_spreadOf_40 : decode cX8_spreadOf 40 = .ok (.getfield 21, 3) := by decide +kernel
theorem dX8_spreadOf_43 : decode cX8_spreadOf 43 = .ok (.iload 5, 2) := by decide +kernel
theorem dX8_spreadOf_45 : decode cX8_spreadOf 45 = .ok (.iaload, 1) := by decide +kernel
theorem dX8_spreadOf_46 : decode cX8_spreadOf 46 = .ok (.invokestatic 60, 3) := by decide +kernel
theorem dX8_spreadOf_49 : decode cX8_spreadOf 49 = .ok (.goto 10, 3) := by decide +kernel
theorem dX8_spreadOf_52 : decode cX8_spreadOf 52 = .ok (.aload_n 0, 1) := by decide +kernel
theorem dX8_spreadOf_53 : decode cX8_spreadOf 53 = .ok (.getfield 21, 3) := by decide +kernel
theorem dX8_spreadOf_56 : decode cX8_spreadOf 56 = .ok (.iload 5, 2) := by decide +kernel
theorem dX8_spreadOf_58 : decode cX8_spreadOf 58 = .ok (.iaload, 1) := by decide +kernel
theorem dX8_spreadOf_59 : decode cX8_spreadOf 59 = .ok (.istore_n 2, 1) := by decide +kernel
theorem dX8_spreadOf_60 : decode cX8_spreadOf 60 = .ok (.iload 4, 2) := by decide +kernel
theorem dX8_spreadOf_62 : decode cX8_spreadOf 62 = .ok (.ifCond .eq 17, 3) := by decide +kernel
theorem dX8_spreadOf_65 : decode cX8_spreadOf 65 = .ok (.iload_n 3, 1) := by decide +kernel
theorem dX8_spreadOf_66 : decode cX8_spreadOf 66 = .ok (.aload_n 0, 1) := by decide +kernel
theorem dX8_spreadOf_67 : decode cX8_spreadOf 67 = .ok (.getfield 21, 3) := by decide +kernel
theorem dX8_spreadOf_70 : decode cX8_spreadOf 70 = .ok (.iload 5, 2) := by decide +kernel
theorem dX8_spreadOf_72 : decode cX8_spreadOf 72 = .ok (.iaload, 1) := by decide +kernel
theorem dX8_spreadOf_73 : decode cX8_spreadOf 73 = .ok (.invokestatic 66, 3) := by decide +kernel
theorem dX8_spreadOf_76 : decode cX8_spreadOf 76 = .ok (.goto 10, 3) := by decide +kernel
theorem dX8_spreadOf_79 : decode cX8_spreadOf 79 = .ok (.aload_n 0, 1) := by decide +kernel
theorem dX8_spreadOf_80 : decode cX8_spreadOf 80 = .ok (.getfield 21, 3) := by decide +kernel
theorem dX8_spreadOf_83 : decode cX8_spreadOf 83 = .ok (.iload 5, 2) := by decide +kernel
theorem dX8_spreadOf_85 : decode cX8_spreadOf 85 = .ok (.iaload, 1) := by decide +kernel
theorem dX8_spreadOf_86 : decode cX8_spreadOf 86 = .ok (.istore_n 3, 1) := by decide +kernel
theorem dX8_spreadOf_87 : decode cX8_spreadOf 87 = .ok (.iconst 1, 1) := by decide +kernel
theorem dX8_spreadOf_88 : decode cX8_spreadOf 88 = .ok (.istore 4, 2) := by decide +kernel
theorem dX8_spreadOf_90 : decode cX8_spreadOf 90 = .ok (.iinc 5 1, 3) := by decide +kernel
theorem dX8_spreadOf_93 : decode cX8_spreadOf 93 = .ok (.goto (-83), 3) := by decide +kernel
theorem dX8_spreadOf_96 : decode cX8_spreadOf 96 = .ok (.iload 4, 2) := by decide +kernel
theorem dX8_spreadOf_98 : decode cX8_spreadOf 98 = .ok (.ifCond .eq 9, 3) := by decide +kernel
theorem dX8_spreadOf_101 : decode cX8_spreadOf 101 = .ok (.iload_n 3, 1) := by decide +kernel
theorem dX8_spreadOf_102 : decode cX8_spreadOf 102 = .ok (.iload_n 2, 1) := by decide +kernel
theorem dX8_spreadOf_103 : decode cX8_spreadOf 103 = .ok (.isub, 1) := by decide +kernel
theorem dX8_spreadOf_104 : decode cX8_spreadOf 104 = .ok (.goto 5, 3) := by decide +kernel
theorem dX8_spreadOf_107 : decode cX8_spreadOf 107 = .ok (.bipush (-9), 2) := by decide +kernel
theorem dX8_spreadOf_109 : decode cX8_spreadOf 109 = .ok (.ireturn, 1) := by decide +kernel
theorem dX8_mayLeave_0 : decode cX8_mayLeave 0 = .ok (.lconst 0, 1) := by decide +kernel
theorem dX8_mayLeave_1 : decode cX8_mayLeave 1 = .ok (.lstore_n 3, 1) := by decide +kernel
theorem dX8_mayLeave_2 : decode cX8_mayLeave 2 = .ok (.lconst 0, 1) := by decide +kernel
theorem dX8_mayLeave_3 : decode cX8_mayLeave 3 = .ok (.lstore 5, 2) := by decide +kernel
theorem dX8_mayLeave_5 : decode cX8_mayLeave 5 = .ok (.lconst 0, 1) := by decide +kernel
theorem dX8_mayLeave_6 : decode cX8_mayLeave 6 = .ok (.lstore 7, 2) := by decide +kernel
theorem dX8_mayLeave_8 : decode cX8_mayLeave 8 = .ok (.lconst 0, 1) := by decide +kernel
theorem dX8_mayLeave_9 : decode cX8_mayLeave 9 = .ok (.lstore 9, 2) := by decide +kernel
theorem dX8_mayLeave_11 : decode cX8_mayLeave 11 = .ok (.iconst 0, 1) := by decide +kernel
theorem dX8_mayLeave_12 : decode cX8_mayLeave 12 = .ok (.istore 11, 2) := by decide +kernel
theorem dX8_mayLeave_14 : decode cX8_mayLeave 14 = .ok (.iload 11, 2) := by decide +kernel
theorem dX8_mayLeave_16 : decode cX8_mayLeave 16 = .ok (.aload_n 0, 1) := by decide +kernel
theorem dX8_mayLeave_17 : decode cX8_mayLeave 17 = .ok (.getfield 33, 3) := by decide +kernel
theorem dX8_mayLeave_20 : decode cX8_mayLeave 20 = .ok (.if_icmp .ge 59, 3) := by decide +kernel
theorem dX8_mayLeave_23 : decode cX8_mayLeave 23 = .ok (.aload_n 0, 1) := by decide +kernel
theorem dX8_mayLeave_24 : decode cX8_mayLeave 24 = .ok (.getfield 9, 3) := by decide +kernel
theorem dX8_mayLeave_27 : decode cX8_mayLeave 27 = .ok (.iload 11, 2) := by decide +kernel
theorem dX8_mayLeave_29 : decode cX8_mayLeave 29 = .ok (.iaload, 1) := by decide +kernel
theorem dX8_mayLeave_30 : decode cX8_mayLeave 30 = .ok (.iload_n 1, 1) := by decide +kernel
theorem dX8_mayLeave_31 : decode cX8_mayLeave 31 = .ok (.if_icmp .ne 23, 3) := by decide +kernel
theorem dX8_mayLeave_34 : decode cX8_mayLeave 34 = .ok (.lload_n 3, 1) := by decide +kernel
theorem dX8_mayLeave_35 : decode cX8_mayLeave 35 = .ok (.aload_n 0, 1) := by decide +kernel
theorem dX8_mayLeave_36 : decode cX8_mayLeave 36 = .ok (.getfield 21, 3) := by decide +kernel
theorem dX8_mayLeave_39 : decode cX8_mayLeave 39 = .ok (.iload 11, 2) := by decide +kernel
theorem dX8_mayLeave_41 : decode cX8_mayLeave 41 = .ok (.iaload, 1) := by decide +kernel
theorem dX8_mayLeave_42 : decode cX8_mayLeave 42 = .ok (.i2l, 1) := by decide +kernel
theorem dX8_mayLeave_43 : decode cX8_mayLeave 43 = .ok (.ladd, 1) := by decide +kernel
theorem dX8_mayLeave_44 : decode cX8_mayLeave 44 = .ok (.lstore_n 3, 1) := by decide +kernel
theorem dX8_mayLeave_45 : decode cX8_mayLeave 45 = .ok (.lload 5, 2) := by decide +kernel
theorem dX8_mayLeave_47 : decode cX8_mayLeave 47 = .ok (.lconst 1, 1) := by decide +kernel
theorem dX8_mayLeave_48 : decode cX8_mayLeave 48 = .ok (.ladd, 1) := by decide +kernel
theorem dX8_mayLeave_49 : decode cX8_mayLeave 49 = .ok (.lstore 5, 2) := by decide +kernel
theorem dX8_mayLeave_51 : decode cX8_mayLeave 51 = .ok (.goto 22, 3) := by decide +kernel
theorem dX8_mayLeave_54 : decode cX8_mayLeave 54 = .ok (.lload 7, 2) := by decide +kernel
theorem dX8_mayLeave_56 : decode cX8_mayLeave 56 = .ok (.aload_n 0, 1) := by decide +kernel
theorem dX8_mayLeave_57 : decode cX8_mayLeave 57 = .ok (.getfield 21, 3) := by decide +kernel
theorem dX8_mayLeave_60 : decode cX8_mayLeave 60 = .ok (.iload 11, 2) := by decide +kernel
theorem dX8_mayLeave_62 : decode cX8_mayLeave 62 = .ok (.iaload, 1) := by decide +kernel
theorem dX8_mayLeave_63 : decode cX8_mayLeave 63 = .ok (.i2l, 1) := by decide +kernel
theorem dX8_mayLeave_64 : decode cX8_mayLeave 64 = .ok (.ladd, 1) := by decide +kernel
theorem dX8_mayLeave_65 : decode cX8_mayLeave 65 = .ok (.lstore 7, 2) := by decide +kernel
theorem dX8_mayLeave_67 : decode cX8_mayLeave 67 = .ok (.lload 9, 2) := by decide +kernel
theorem dX8_mayLeave_69 : decode cX8_mayLeave 69 = .ok (.lconst 1, 1) := by decide +kernel
theorem dX8_mayLeave_70 : decode cX8_mayLeave 70 = .ok (.ladd, 1) := by decide +kernel
theorem dX8_mayLeave_71 : decode cX8_mayLeave 71 = .ok (.lstore 9, 2) := by decide +kernel
theorem dX8_mayLeave_73 : decode cX8_mayLeave 73 = .ok (.iinc 11 1, 3) := by decide +kernel
theorem dX8_mayLeave_76 : decode cX8_mayLeave 76 = .ok (.goto (-62), 3) := by decide +kernel
theorem dX8_mayLeave_79 : decode cX8_mayLeave 79 = .ok (.lload 5, 2) := by decide +kernel
theorem dX8_mayLeave_81 : decode cX8_mayLeave 81 = .ok (.lconst 0, 1) := by decide +kernel
theorem dX8_mayLeave_82 : decode cX8_mayLeave 82 = .ok (.lcmp, 1) := by decide +kernel
theorem dX8_mayLeave_83 : decode cX8_mayLeave 83 = .ok (.ifCond .eq 10, 3) := by decide +kernel
theorem dX8_mayLeave_86 : decode cX8_mayLeave 86 = .ok (.lload 9, 2) := by decide +kernel
theorem dX8_mayLeave_88 : decode cX8_mayLeave 88 = .ok (.lconst 0, 1) := by decide +kernel
theorem dX8_mayLeave_89 : decode cX8_mayLeave 89 = .ok (.lcmp, 1) := by decide +kernel
theorem dX8_mayLeave_90 : decode cX8_mayLeave 90 = .ok (.ifCond .ne 6, 3) := by decide +kernel
theorem dX8_mayLeave_93 : decode cX8_mayLeave 93 = .ok (.bipush (-2), 2) := by decide +kernel
theorem dX8_mayLeave_95 : decode cX8_mayLeave 95 = .ok (.ireturn, 1) := by decide +kernel
theorem dX8_mayLeave_96 : decode cX8_mayLeave 96 = .ok (.lload_n 3, 1) := by decide +kernel
theorem dX8_mayLeave_97 : decode cX8_mayLeave 97 = .ok (.lload 9, 2) := by decide +kernel
theorem dX8_mayLeave_99 : decode cX8_mayLeave 99 = .ok (.lmul, 1) := by decide +kernel
theorem dX8_mayLeave_100 : decode cX8_mayLeave 100 = .ok (.lload 7, 2) := by decide +kernel
theorem dX8_mayLeave_102 : decode cX8_mayLeave 102 = .ok (.lload 5, 2) := by decide +kernel
theorem dX8_mayLeave_104 : decode cX8_mayLeave 104 = .ok (.lmul, 1) := by decide +kernel
theorem dX8_mayLeave_105 : decode cX8_mayLeave 105 = .ok (.lsub, 1) := by decide +kernel
theorem dX8_mayLeave_106 : decode cX8_mayLeave 106 = .ok (.invokestatic 69, 3) := by decide +kernel
theorem dX8_mayLeave_109 : decode cX8_mayLeave 109 = .ok (.iload_n 2, 1) := by decide +kernel
theorem dX8_mayLeave_110 : decode cX8_mayLeave 110 = .ok (.i2l, 1) := by decide +kernel
theorem dX8_mayLeave_111 : decode cX8_mayLeave 111 = .ok (.lload 5, 2) := by decide +kernel
theorem dX8_mayLeave_113 : decode cX8_mayLeave 113 = .ok (.lmul, 1) := by decide +kernel
theorem dX8_mayLeave_114 : decode cX8_mayLeave 114 = .ok (.lload 9, 2) := by decide +kernel
theorem dX8_mayLeave_116 : decode cX8_mayLeave 116 = .ok (.lmul, 1) := by decide +kernel
theorem dX8_mayLeave_117 : decode cX8_mayLeave 117 = .ok (.lcmp, 1) := by decide +kernel
theorem dX8_mayLeave_118 : decode cX8_mayLeave 118 = .ok (.ifCond .le 7, 3) := by decide +kernel
theorem dX8_mayLeave_121 : decode cX8_mayLeave 121 = .ok (.iconst 1, 1) := by decide +kernel
theorem dX8_mayLeave_122 : decode cX8_mayLeave 122 = .ok (.goto 4, 3) := by decide +kernel
theorem dX8_mayLeave_125 : decode cX8_mayLeave 125 = .ok (.iconst 0, 1) := by decide +kernel
theorem dX8_mayLeave_126 : decode cX8_mayLeave 126 = .ok (.istore 11, 2) := by decide +kernel
theorem dX8_mayLeave_128 : decode cX8_mayLeave 128 = .ok (.iload 11, 2) := by decide +kernel
theorem dX8_mayLeave_130 : decode cX8_mayLeave 130 = .ok (.ifCond .eq 16, 3) := by decide +kernel
theorem dX8_mayLeave_133 : decode cX8_mayLeave 133 = .ok (.lload 5, 2) := by decide +kernel
theorem dX8_mayLeave_135 : decode cX8_mayLeave 135 = .ok (.ldc2_w 73, 3) := by decide +kernel
theorem dX8_mayLeave_138 : decode cX8_mayLeave 138 = .ok (.lcmp, 1) := by decide +kernel
theorem dX8_mayLeave_139 : decode cX8_mayLeave 139 = .ok (.ifCond .lt 7, 3) := by decide +kernel
theorem dX8_mayLeave_142 : decode cX8_mayLeave 142 = .ok (.iconst 1, 1) := by decide +kernel
theorem dX8_mayLeave_143 : decode cX8_mayLeave 143 = .ok (.goto 4, 3) := by decide +kernel
theorem dX8_mayLeave_146 : decode cX8_mayLeave 146 = .ok (.iconst 0, 1) := by decide +kernel
theorem dX8_mayLeave_147 : decode cX8_mayLeave 147 = .ok (.ireturn, 1) := by decide +kernel
theorem dX9_init_0 : decode cX9_init 0 = .ok (.aload_n 0, 1) := by decide +kernel
theorem dX9_init_1 : decode cX9_init 1 = .ok (.invokespecial 3, 3) := by decide +kernel
theorem dX9_init_4 : decode cX9_init 4 = .ok (.return_, 1) := by decide +kernel
theorem dX9_copy_0 : decode cX9_copy 0 = .ok (.aload_n 0, 1) := by decide +kernel
theorem dX9_copy_1 : decode cX9_copy 1 = .ok (.aload_n 1, 1) := by decide +kernel
theorem dX9_copy_2 : decode cX9_copy 2 = .ok (.getfield 9, 3) := by decide +kernel
theorem dX9_copy_5 : decode cX9_copy 5 = .ok (.putfield 9, 3) := by decide +kernel
theorem dX9_copy_8 : decode cX9_copy 8 = .ok (.aload_n 0, 1) := by decide +kernel
theorem dX9_copy_9 : decode cX9_copy 9 = .ok (.aload_n 1, 1) := by decide +kernel
theorem dX9_copy_10 : decode cX9_copy 10 = .ok (.getfield 15, 3) := by decide +kernel
theorem dX9_copy_13 : decode cX9_copy 13 = .ok (.putfield 15, 3) := by decide +kernel
theorem dX9_copy_16 : decode cX9_copy 16 = .ok (.aload_n 0, 1) := by decide +kernel
theorem dX9_copy_17 : decode cX9_copy 17 = .ok (.aload_n 1, 1) := by decide +kernel
theorem dX9_copy_18 : decode cX9_copy 18 = .ok (.getfield 18, 3) := by decide +kernel
theorem dX9_copy_21 : decode cX9_copy 21 = .ok (.putfield 18, 3) := by decide +kernel
theorem dX9_copy_24 : decode cX9_copy 24 = .ok (.aload_n 0, 1) := by decide +kernel
theorem dX9_copy_25 : decode cX9_copy 25 = .ok (.aload_n 1, 1) := by decide +kernel
theorem dX9_copy_26 : decode cX9_copy 26 = .ok (.getfield 21, 3) := by decide +kernel
theorem dX9_copy_29 : decode cX9_copy 29 = .ok (.putfield 21, 3) := by decide +kernel
theorem dX9_copy_32 : decode cX9_copy 32 = .ok (.aload_n 0, 1) := by decide +kernel
theorem dX9_copy_33 : decode cX9_copy 33 = .ok (.aload_n 1, 1) := by decide +kernel
theorem dX9_copy_34 : decode cX9_copy 34 = .ok (.getfield 24, 3) := by decide +kernel
theorem dX9_copy_37 : decode cX9_copy 37 = .ok (.putfield 24, 3) := by decide +kernel
theorem dX9_copy_40 : decode cX9_copy 40 = .ok (.aload_n 0, 1) := by decide +kernel
theorem dX9_copy_41 : decode cX9_copy 41 = .ok (.aload_n 1, 1) := by decide +kernel
theorem dX9_copy_42 : decode cX9_copy 42 = .ok (.getfield 27, 3) := by decide +kernel
theorem dX9_copy_45 : decode cX9_copy 45 = .ok (.putfield 27, 3) := by decide +kernel
theorem dX9_copy_48 : decode cX9_copy 48 = .ok (.aload_n 0, 1) := by decide +kernel
theorem dX9_copy_49 : decode cX9_copy 49 = .ok (.aload_n 1, 1) := by decide +kernel
theorem dX9_copy_50 : decode cX9_copy 50 = .ok (.getfield 30, 3) := by decide +kernel
theorem dX9_copy_53 : decode cX9_copy 53 = .ok (.putfield 30, 3) := by decide +kernel
theorem dX9_copy_56 : decode cX9_copy 56 = .ok (.return_, 1) := by decide +kernel
theorem dX9_spine_0 : decode cX9_spine 0 = .ok (.aload_n 0, 1) := by decide +kernel
theorem dX9_spine_1 : decode cX9_spine 1 = .ok (.aload_n 0, 1) := by decide +kernel
theorem dX9_spine_2 : decode cX9_spine 2 = .ok (.getfield 30, 3) := by decide +kernel
theorem dX9_spine_5 : decode cX9_spine 5 = .ok (.invokevirtual 33, 3) := by decide +kernel
theorem dX9_spine_8 : decode cX9_spine 8 = .ok (.ireturn, 1) := by decide +kernel
theorem dX9_spineBy_0 : decode cX9_spineBy 0 = .ok (.aload_n 0, 1) := by decide +kernel
theorem dX9_spineBy_1 : decode cX9_spineBy 1 = .ok (.iload_n 1, 1) := by decide +kernel
theorem dX9_spineBy_2 : decode cX9_spineBy 2 = .ok (.invokevirtual 37, 3) := by decide +kernel
theorem dX9_spineBy_5 : decode cX9_spineBy 5 = .ok (.aload_n 0, 1) := by decide +kernel
theorem dX9_spineBy_6 : decode cX9_spineBy 6 = .ok (.getfield 9, 3) := by decide +kernel
theorem dX9_spineBy_9 : decode cX9_spineBy 9 = .ok (.aload_n 0, 1) := by decide +kernel
theorem dX9_spineBy_10 : decode cX9_spineBy 10 = .ok (.getfield 24, 3) := by decide +kernel
theorem dX9_spineBy_13 : decode cX9_spineBy 13 = .ok (.invokestatic 40, 3) := by decide +kernel
theorem dX9_spineBy_16 : decode cX9_spineBy 16 = .ok (.ireturn, 1) := by decide +kernel
theorem dX9_stiffBy_0 : decode cX9_stiffBy 0 = .ok (.iload_n 1, 1) := by decide +kernel
theorem dX9_stiffBy_1 : decode cX9_stiffBy 1 = .ok (.ifCond .ne 10, 3) := by decide +kernel
theorem dX9_stiffBy_4 : decode cX9_stiffBy 4 = .ok (.aload_n 0, 1) := by decide +kernel
theorem dX9_stiffBy_5 : decode cX9_stiffBy 5 = .ok (.getfield 18, 3) := by decide +kernel
theorem dX9_stiffBy_8 : decode cX9_stiffBy 8 = .ok (.goto 7, 3) := by decide +kernel
theorem dX9_stiffBy_11 : decode cX9_stiffBy 11 = .ok (.aload_n 0, 1) := by decide +kernel
theorem dX9_stiffBy_12 : decode cX9_stiffBy 12 = .ok (.getfield 21, 3) := by decide +kernel
theorem dX9_stiffBy_15 : decode cX9_stiffBy 15 = .ok (.ireturn, 1) := by decide +kernel
theorem dX9_mass_0 : decode cX9_mass 0 = .ok (.aload_n 0, 1) := by decide +kernel
theorem dX9_mass_1 : decode cX9_mass 1 = .ok (.getfield 15, 3) := by decide +kernel
theorem dX9_mass_4 : decode cX9_mass 4 = .ok (.aload_n 0, 1) := by decide +kernel
theorem dX9_mass_5 : decode cX9_mass 5 = .ok (.getfield 24, 3) := by decide +kernel
theorem dX9_mass_8 : decode cX9_mass 8 = .ok (.iadd, 1) := by decide +kernel
theorem dX9_mass_9 : decode cX9_mass 9 = .ok (.ireturn, 1) := by decide +kernel
theorem dX9_mostCuts_0 : decode cX9_mostCuts 0 = .ok (.aload_n 0, 1) := by decide +kernel
theorem dX9_mostCuts_1 : decode cX9_mostCuts 1 = .ok (.getfield 9, 3) := by decide +kernel
theorem dX9_mostCuts_4 : decode cX9_mostCuts 4 = .ok (.bipush 80, 2) := by decide +kernel
theorem dX9_mostCuts_6 : decode cX9_mostCuts 6 = .ok (.isub, 1) := by decide +kernel
theorem dX9_mostCuts_7 : decode cX9_mostCuts 7 = .ok (.ireturn, 1) := by decide +kernel
theorem dX9_mostScrapes_0 : decode cX9_mostScrapes 0 = .ok (.aload_n 0, 1) := by decide +kernel
theorem dX9_mostScrapes_1 : decode cX9_mostScrapes 1 = .ok (.getfield 18, 3) := by decide +kernel
theorem dX9_mostScrapes_4 : decode cX9_mostScrapes 4 = .ok (.aload_n 0, 1) := by decide +kernel
theorem dX9_mostScrapes_5 : decode cX9_mostScrapes 5 = .ok (.getfield 21, 3) := by decide +kernel
theorem dX9_mostScrapes_8 : decode cX9_mostScrapes 8 = .ok (.invokestatic 44, 3) := by decide +kernel
theorem dX9_mostScrapes_11 : decode cX9_mostScrapes 11 = .ok (.bipush 20, 2) := by decide +kernel
theorem dX9_mostScrapes_13 : decode cX9_mostScrapes 13 = .ok (.isub, 1) := by decide +kernel
theorem dX9_mostScrapes_14 : decode cX9_mostScrapes 14 = .ok (.aload_n 0, 1) := by decide +kernel
theorem dX9_mostScrapes_15 : decode cX9_mostScrapes 15 = .ok (.getfield 15, 3) := by decide +kernel
theorem dX9_mostScrapes_18 : decode cX9_mostScrapes 18 = .ok (.sipush 200, 3) := by decide +kernel
theorem dX9_mostScrapes_21 : decode cX9_mostScrapes 21 = .ok (.isub, 1) := by decide +kernel
theorem dX9_mostScrapes_22 : decode cX9_mostScrapes 22 = .ok (.iconst 2, 1) := by decide +kernel
theorem dX9_mostScrapes_23 : decode cX9_mostScrapes 23 = .ok (.idiv, 1) := by decide +kernel
theorem dX9_mostScrapes_24 : decode cX9_mostScrapes 24 = .ok (.invokestatic 44, 3) := by decide +kernel
theorem dX9_mostScrapes_27 : decode cX9_mostScrapes 27 = .ok (.ireturn, 1) := by decide +kernel
theorem dX9_mostLoads_0 : decode cX9_mostLoads 0 = .ok (.sipush 200, 3) := by decide +kernel
theorem dX9_mostLoads_3 : decode cX9_mostLoads 3 = .ok (.aload_n 0, 1) := by decide +kernel
theorem dX9_mostLoads_4 : decode cX9_mostLoads 4 = .ok (.getfield 24, 3) := by decide +kernel
theorem dX9_mostLoads_7 : decode cX9_mostLoads 7 = .ok (.isub, 1) := by decide +kernel
theorem dX9_mostLoads_8 : decode cX9_mostLoads 8 = .ok (.iconst 5, 1) := by decide +kernel
theorem dX9_mostLoads_9 : decode cX9_mostLoads 9 = .ok (.idiv, 1) := by decide +kernel
theorem dX9_mostLoads_10 : decode cX9_mostLoads 10 = .ok (.ireturn, 1) := by decide +kernel
theorem dX10_init_0 : decode cX10_init 0 = .ok (.aload_n 0, 1) := by decide +kernel
theorem dX10_init_1 : decode cX10_init 1 = .ok (.invokespecial 3, 3) := by decide +kernel
theorem dX10_init_4 : decode cX10_init 4 = .ok (.aload_n 0, 1) := by decide +kernel
theorem dX10_init_5 : decode cX10_init 5 = .ok (.sipush 400, 3) := by decide +kernel
theorem dX10_init_8 : decode cX10_init 8 = .ok (.newarray .int, 2) := by decide +kernel
theorem dX10_init_10 : decode cX10_init 10 = .ok (.putfield 9, 3) := by decide +kernel
theorem dX10_init_13 : decode cX10_init 13 = .ok (.return_, 1) := by decide +kernel
theorem dX10_add_0 : decode cX10_add 0 = .ok (.aload_n 0, 1) := by decide +kernel
theorem dX10_add_1 : decode cX10_add 1 = .ok (.getfield 15, 3) := by decide +kernel
theorem dX10_add_4 : decode cX10_add 4 = .ok (.aload_n 0, 1) := by decide +kernel
theorem dX10_add_5 : decode cX10_add 5 = .ok (.getfield 9, 3) := by decide +kernel
theorem dX10_add_8 : decode cX10_add 8 = .ok (.arraylength, 1) := by decide +kernel
theorem dX10_add_9 : decode cX10_add 9 = .ok (.if_icmp .lt 4, 3) := by decide +kernel
theorem dX10_add_12 : decode cX10_add 12 = .ok (.return_, 1) := by decide +kernel
theorem dX10_add_13 : decode cX10_add 13 = .ok (.aload_n 0, 1) := by decide +kernel
theorem dX10_add_14 : decode cX10_add 14 = .ok (.getfield 9, 3) := by decide +kernel
theorem dX10_add_17 : decode cX10_add 17 = .ok (.aload_n 0, 1) := by decide +kernel
theorem dX10_add_18 : decode cX10_add 18 = .ok (.getfield 15, 3) := by decide +kernel
theorem dX10_add_21 : decode cX10_add 21 = .ok (.iload_n 1, 1) := by decide +kernel
theorem dX10_add_22 : decode cX10_add 22 = .ok (.iastore, 1) := by decide +kernel
theorem dX10_add_23 : decode cX10_add 23 = .ok (.aload_n 0, 1) := by decide +kernel
theorem dX10_add_24 : decode cX10_add 24 = .ok (.dup, 1) := by decide +kernel
theorem dX10_add_25 : decode cX10_add 25 = .ok (.getfield 15, 3) := by decide +kernel
theorem dX10_add_28 : decode cX10_add 28 = .ok (.iconst 1, 1) := by decide +kernel
theorem dX10_add_29 : decode cX10_add 29 = .ok (.iadd, 1) := by decide +kernel
theorem dX10_add_30 : decode cX10_add 30 = .ok (.putfield 15, 3) := by decide +kernel
theorem dX10_add_33 : decode cX10_add 33 = .ok (.return_, 1) := by decide +kernel
theorem dX10_at_0 : decode cX10_at 0 = .ok (.iload_n 1, 1) := by decide +kernel
theorem dX10_at_1 : decode cX10_at 1 = .ok (.ifCond .lt 20, 3) := by decide +kernel
theorem dX10_at_4 : decode cX10_at 4 = .ok (.iload_n 1, 1) := by decide +kernel
theorem dX10_at_5 : decode cX10_at 5 = .ok (.aload_n 0, 1) := by decide +kernel
theorem dX10_at_6 : decode cX10_at 6 = .ok (.getfield 15, 3) := by decide +kernel
theorem dX10_at_9 : decode cX10_at 9 = .ok (.if_icmp .ge 12, 3) := by decide +kernel
theorem dX10_at_12 : decode cX10_at 12 = .ok (.aload_n 0, 1) := by decide +kernel
theorem dX10_at_13 : decode cX10_at 13 = .ok (.getfield 9, 3) := by decide +kernel
theorem dX10_at_16 : decode cX10_at 16 = .ok (.iload_n 1, 1) := by decide +kernel
theorem dX10_at_17 : decode cX10_at 17 = .ok (.iaload, 1) := by decide +kernel
theorem dX10_at_18 : decode cX10_at 18 = .ok (.goto 4, 3) := by decide +kernel
theorem dX10_at_21 : decode cX10_at 21 = .ok (.iconst (-1), 1) := by decide +kernel
theorem dX10_at_22 : decode cX10_at 22 = .ok (.ireturn, 1) := by decide +kernel
theorem dX10_empty_0 : decode cX10_empty 0 = .ok (.aload_n 0, 1) := by decide +kernel
theorem dX10_empty_1 : decode cX10_empty 1 = .ok (.getfield 15, 3) := by decide +kernel
theorem dX10_empty_4 : decode cX10_empty 4 = .ok (.istore_n 1, 1) := by decide +kernel
theorem dX10_empty_5 : decode cX10_empty 5 = .ok (.aload_n 0, 1) := by decide +kernel
theorem dX10_empty_6 : decode cX10_empty 6 = .ok (.iconst 0, 1) := by decide +kernel
theorem dX10_empty_7 : decode cX10_empty 7 = .ok (.putfield 15, 3) := by decide +kernel
theorem dX10_empty_10 : decode cX10_empty 10 = .ok (.iload_n 1, 1) := by decide +kernel
theorem dX10_empty_11 : decode cX10_empty 11 = .ok (.ireturn, 1) := by decide +kernel
theorem dX11_init_0 : decode cX11_init 0 = .ok (.aload_n 0, 1) := by decide +kernel
theorem dX11_init_1 : decode cX11_init 1 = .ok (.invokespecial 3, 3) := by decide +kernel
theorem dX11_init_4 : decode cX11_init 4 = .ok (.aload_n 0, 1) := by decide +kernel
theorem dX11_init_5 : decode cX11_init 5 = .ok (.iconst 4, 1) := by decide +kernel
theorem dX11_init_6 : decode cX11_init 6 = .ok (.newarray .int, 2) := by decide +kernel
theorem dX11_init_8 : decode cX11_init 8 = .ok (.dup, 1) := by decide +kernel
theorem dX11_init_9 : decode cX11_init 9 = .ok (.iconst 0, 1) := by decide +kernel
theorem dX11_init_10 : decode cX11_init 10 = .ok (.iconst 4, 1) := by decide +kernel
theorem dX11_init_11 : decode cX11_init 11 = .ok (.iastore, 1) := by decide +kernel
theorem dX11_init_12 : decode cX11_init 12 = .ok (.dup, 1) := by decide +kernel
theorem dX11_init_13 : decode cX11_init 13 = .ok (.iconst 1, 1) := by decide +kernel
theorem dX11_init_14 : decode cX11_init 14 = .ok (.bipush 15, 2) := by decide +kernel
theorem dX11_init_16 : decode cX11_init 16 = .ok (.iastore, 1) := by decide +kernel
theorem dX11_init_17 : decode cX11_init 17 = .ok (.dup, 1) := by decide +kernel
theorem dX11_init_18 : decode cX11_init 18 = .ok (.iconst 2, 1) := by decide +kernel
theorem dX11_init_19 : decode cX11_init 19 = .ok (.bipush 10, 2) := by decide +kernel
theorem dX11_init_21 : decode cX11_init 21 = .ok (.iastore, 1) := by decide +kernel
theorem dX11_init_22 : decode cX11_init 22 = .ok (.dup, 1) := by decide +kernel
theorem dX11_init_23 : decode cX11_init 23 = .ok (.iconst 3, 1) := by decide +kernel
theorem dX11_init_24 : decode cX11_init 24 = .ok (.iconst 0, 1) := by decide +kernel
theorem dX11_init_25 : decode cX11_init 25 = .ok (.iastore, 1) := by decide +kernel
theorem dX11_init_26 : decode cX11_init 26 = .ok (.putfield 9, 3) := by decide +kernel
theorem dX11_init_29 : decode cX11_init 29 = .ok (.return_, 1) := by decide +kernel
theorem dX11_change_0 : decode cX11_change 0 = .ok (.iload_n 1, 1) := by decide +kernel
theorem dX11_change_1 : decode cX11_change 1 = .ok (.ifCond .lt 8, 3) := by decide +kernel
theorem dX11_change_4 : decode cX11_change 4 = .ok (.iload_n 1, 1) := by decide +kernel
theorem dX11_change_5 : decode cX11_change 5 = .ok (.iconst 3, 1) := by decide +kernel
theorem dX11_change_6 : decode cX11_change 6 = .ok (.if_icmp .le 6, 3) := by decide +kernel
theorem dX11_change_9 : decode cX11_change 9 = .ok (.ldc 15, 2) := by decide +kernel
theorem dX11_change_11 : decode cX11_change 11 = .ok (.ireturn, 1) := by decide +kernel
theorem dX11_change_12 : decode cX11_change 12 = .ok (.iload_n 2, 1) := by decide +kernel
theorem dX11_change_13 : decode cX11_change 13 = .ok (.getstatic 16, 3) := by decide +kernel
theorem dX11_change_16 : decode cX11_change 16 = .ok (.iload_n 1, 1) := by decide +kernel
theorem dX11_change_17 : decode cX11_change 17 = .ok (.iaload, 1) := by decide +kernel
theorem dX11_change_18 : decode cX11_change 18 = .ok (.getstatic 19, 3) := by decide +kernel
theorem dX11_change_21 : decode cX11_change 21 = .ok (.iload_n 1, 1) := by decide +kernel
theorem dX11_change_22 : decode cX11_change 22 = .ok (.iaload, 1) := by decide +kernel
theorem dX11_change_23 : decode cX11_change 23 = .ok (.invokestatic 22, 3) := by decide +kernel
theorem dX11_change_26 : decode cX11_change 26 = .ok (.ifCond .ne 6, 3) := by decide +kernel
theorem dX11_change_29 : decode cX11_change 29 = .ok (.ldc 15, 2) := by decide +kernel
theorem dX11_change_31 : decode cX11_change 31 = .ok (.ireturn, 1) := by decide +kernel
theorem dX11_change_32 : decode cX11_change 32 = .ok (.aload_n 0, 1) := by decide +kernel
theorem dX11_change_33 : decode cX11_change 33 = .ok (.getfield 9, 3) := by decide +kernel
theorem dX11_change_36 : decode cX11_change 36 = .ok (.iload_n 1, 1) := by decide +kernel
theorem dX11_change_37 : decode cX11_change 37 = .ok (.iaload, 1) := by decide +kernel
theorem dX11_change_38 : decode cX11_change 38 = .ok (.istore_n 3, 1) := by decide +kernel
theorem dX11_change_39 : decode cX11_change 39 = .ok (.aload_n 0, 1) := by decide +kernel
theorem dX11_change_40 : decode cX11_change 40 = .ok (.getfield 9, 3) := by decide +kernel
theorem dX11_change_43 : decode cX11_change 43 = .ok (.iload_n 1, 1) := by decide +kernel
theorem dX11_change_44 : decode cX11_change 44 = .ok (.iload_n 2, 1) := by decide +kernel
theorem dX11_change_45 : decode cX11_change 45 = .ok (.iastore, 1) := by decide +kernel
theorem dX11_change_46 : decode cX11_change 46 = .ok (.iload_n 3, 1) := by decide +kernel
theorem dX11_change_47 : decode cX11_change 47 = .ok (.ireturn, 1) := by decide +kernel
theorem dX11_wind_0 : decode cX11_wind 0 = .ok (.aload_n 0, 1) := by decide +kernel
theorem dX11_wind_1 : decode cX11_wind 1 = .ok (.getfield 9, 3) := by decide +kernel
theorem dX11_wind_4 : decode cX11_wind 4 = .ok (.iconst 3, 1) := by decide +kernel
theorem dX11_wind_5 : decode cX11_wind 5 = .ok (.iaload, 1) := by decide +kernel
theorem dX11_wind_6 : decode cX11_wind 6 = .ok (.ireturn, 1) := by decide +kernel
theorem dX11_isClean_0 : decode cX11_isClean 0 = .ok (.iload_n 1, 1) := by decide +kernel
theorem dX11_isClean_1 : decode cX11_isClean 1 = .ok (.invokestatic 26, 3) := by decide +kernel
theorem dX11_isClean_4 : decode cX11_isClean 4 = .ok (.aload_n 0, 1) := by decide +kernel
theorem dX11_isClean_5 : decode cX11_isClean 5 = .ok (.getfield 9, 3) := by decide +kernel
theorem dX11_isClean_8 : decode cX11_isClean 8 = .ok (.iconst 0, 1) := by decide +kernel
theorem dX11_isClean_9 : decode cX11_isClean 9 = .ok (.iaload, 1) := by decide +kernel
theorem dX11_isClean_10 : decode cX11_isClean 10 = .ok (.if_icmp .gt 7, 3) := by decide +kernel
theorem dX11_isClean_13 : decode cX11_isClean 13 = .ok (.iconst 1, 1) := by decide +kernel
theorem dX11_isClean_14 : decode cX11_isClean 14 = .ok (.goto 4, 3) := by decide +kernel
theorem dX11_isClean_17 : decode cX11_isClean 17 = .ok (.iconst 0, 1) := by decide +kernel
theorem dX11_isClean_18 : decode cX11_isClean 18 = .ok (.ireturn, 1) := by decide +kernel
theorem dX11_flightOf_0 : decode cX11_flightOf 0 = .ok (.aload_n 0, 1) := by decide +kernel
theorem dX11_flightOf_1 : decode cX11_flightOf 1 = .ok (.iload_n 1, 1) := by decide +kernel
theorem dX11_flightOf_2 : decode cX11_flightOf 2 = .ok (.invokevirtual 32, 3) := by decide +kernel
theorem dX11_flightOf_5 : decode cX11_flightOf 5 = .ok (.ifCond .eq 5, 3) := by decide +kernel
theorem dX11_flightOf_8 : decode cX11_flightOf 8 = .ok (.iconst 1, 1) := by decide +kernel
theorem dX11_flightOf_9 : decode cX11_flightOf 9 = .ok (.ireturn, 1) := by decide +kernel
theorem dX11_flightOf_10 : decode cX11_flightOf 10 = .ok (.iload_n 1, 1) := by decide +kernel
theorem dX11_flightOf_11 : decode cX11_flightOf 11 = .ok (.invokestatic 26, 3) := by decide +kernel
theorem dX11_flightOf_14 : decode cX11_flightOf 14 = .ok (.aload_n 0, 1) := by decide +kernel
theorem dX11_flightOf_15 : decode cX11_flightOf 15 = .ok (.getfield 9, 3) := by decide +kernel
theorem dX11_flightOf_18 : decode cX11_flightOf 18 = .ok (.iconst 1, 1) := by decide +kernel
theorem dX11_flightOf_19 : decode cX11_flightOf 19 = .ok (.iaload, 1) := by decide +kernel
theorem dX11_flightOf_20 : decode cX11_flightOf 20 = .ok (.if_icmp .le 5, 3) := by decide +kernel
theorem dX11_flightOf_23 : decode cX11_flightOf 23 = .ok (.iconst 4, 1) := by decide +kernel
theorem dX11_flightOf_24 : decode cX11_flightOf 24 = .ok (.ireturn, 1) := by decide +kernel
theorem dX11_flightOf_25 : decode cX11_flightOf 25 = .ok (.iload_n 1, 1) := by decide +kernel
theorem dX11_flightOf_26 : decode cX11_flightOf 26 = .ok (.ifCond .le 7, 3) := by decide +kernel
theorem dX11_flightOf_29 : decode cX11_flightOf 29 = .ok (.iconst 2, 1) := by decide +kernel
theorem dX11_flightOf_30 : decode cX11_flightOf 30 = .ok (.goto 4, 3) := by decide +kernel
theorem dX11_flightOf_33 : decode cX11_flightOf 33 = .ok (.iconst 5, 1) := by decide +kernel
theorem dX11_flightOf_34 : decode cX11_flightOf 34 = .ok (.ireturn, 1) := by decide +kernel
theorem dX11_bareOf_0 : decode cX11_bareOf 0 = .ok (.iload_n 1, 1) := by decide +kernel
theorem dX11_bareOf_1 : decode cX11_bareOf 1 = .ok (.aload_n 0, 1) := by decide +kernel
theorem dX11_bareOf_2 : decode cX11_bareOf 2 = .ok (.getfield 9, 3) := by decide +kernel
theorem dX11_bareOf_5 : decode cX11_bareOf 5 = .ok (.iconst 2, 1) := by decide +kernel
theorem dX11_bareOf_6 : decode cX11_bareOf 6 = .ok (.iaload, 1) := by decide +kernel
theorem dX11_bareOf_7 : decode cX11_bareOf 7 = .ok (.imul, 1) := by decide +kernel
theorem dX11_bareOf_8 : decode cX11_bareOf 8 = .ok (.bipush 10, 2) := by decide +kernel
theorem dX11_bareOf_10 : decode cX11_bareOf 10 = .ok (.idiv, 1) := by decide +kernel
theorem dX11_bareOf_11 : decode cX11_bareOf 11 = .ok (.ineg, 1) := by decide +kernel
theorem dX11_bareOf_12 : decode cX11_bareOf 12 = .ok (.istore_n 2, 1) := by decide +kernel
theorem dX11_bareOf_13 : decode cX11_bareOf 13 = .ok (.aload_n 0, 1) := by decide +kernel
theorem dX11_bareOf_14 : decode cX11_bareOf 14 = .ok (.iload_n 1, 1) := by decide +kernel
theorem dX11_bareOf_15 : decode cX11_bareOf 15 = .ok (.invokevirtual 36, 3) := by decide +kernel
theorem dX11_bareOf_18 : decode cX11_bareOf 18 = .ok (.lookupswitch 32 #[(1, 26), (4, 28)], 26) := by decide +kernel
theorem dX11_bareOf_44 : decode cX11_bareOf 44 = .ok (.iconst 0, 1) := by decide +kernel
theorem dX11_bareOf_45 : decode cX11_bareOf 45 = .ok (.ireturn, 1) := by decide +kernel
theorem dX11_bareOf_46 : decode cX11_bareOf 46 = .ok (.iconst 2, 1) := by decide +kernel
theorem dX11_bareOf_47 : decode cX11_bareOf 47 = .ok (.iload_n 2, 1) := by decide +kernel
theorem dX11_bareOf_48 : decode cX11_bareOf 48 = .ok (.imul, 1) := by decide +kernel
theorem dX11_bareOf_49 : decode cX11_bareOf 49 = .ok (.ireturn, 1) := by decide +kernel
theorem dX11_bareOf_50 : decode cX11_bareOf 50 = .ok (.iload_n 2, 1) := by decide +kernel
theorem dX11_bareOf_51 : decode cX11_bareOf 51 = .ok (.ireturn, 1) := by decide +kernel
theorem dX11_feathered_0 : decode cX11_feathered 0 = .ok (.aload_n 0, 1) := by decide +kernel
theorem dX11_feathered_1 : decode cX11_feathered 1 = .ok (.iload_n 1, 1) := by decide +kernel
theorem dX11_feathered_2 : decode cX11_feathered 2 = .ok (.invokevirtual 39, 3) := by decide +kernel
theorem dX11_feathered_5 : decode cX11_feathered 5 = .ok (.bipush 10, 2) := by decide +kernel
theorem dX11_feathered_7 : decode cX11_feathered 7 = .ok (.iload_n 2, 1) := by decide +kernel
theorem dX11_feathered_8 : decode cX11_feathered 8 = .ok (.isub, 1) := by decide +kernel
theorem dX11_feathered_9 : decode cX11_feathered 9 = .ok (.imul, 1) := by decide +kernel
theorem dX11_feathered_10 : decode cX11_feathered 10 = .ok (.bipush 10, 2) := by decide +kernel
theorem dX11_feathered_12 : decode cX11_feathered 12 = .ok (.idiv, 1) := by decide +kernel
theorem dX11_feathered_13 : decode cX11_feathered 13 = .ok (.ireturn, 1) := by decide +kernel
theorem dX11_goesOf_0 : decode cX11_goesOf 0 = .ok (.aload_n 0, 1) := by decide +kernel
theorem dX11_goesOf_1 : decode cX11_goesOf 1 = .ok (.iload_n 2, 1) := by decide +kernel
theorem dX11_goesOf_2 : decode cX11_goesOf 2 = .ok (.iload_n 3, 1) := by decide +kernel
theorem dX11_goesOf_3 : decode cX11_goesOf 3 = .ok (.invokevirtual 42, 3) := by decide +kernel
theorem dX11_goesOf_6 : decode cX11_goesOf 6 = .ok (.aload_n 0, 1) := by decide +kernel
theorem dX11_goesOf_7 : decode cX11_goesOf 7 = .ok (.invokevirtual 46, 3) := by decide +kernel
theorem dX11_goesOf_10 : decode cX11_goesOf 10 = .ok (.sipush 600, 3) := by decide +kernel
theorem dX11_goesOf_13 : decode cX11_goesOf 13 = .ok (.imul, 1) := by decide +kernel
theorem dX11_goesOf_14 : decode cX11_goesOf 14 = .ok (.aload_n 1, 1) := by decide +kernel
theorem dX11_goesOf_15 : decode cX11_goesOf 15 = .ok (.invokevirtual 50, 3) := by decide +kernel
theorem dX11_goesOf_18 : decode cX11_goesOf 18 = .ok (.invokestatic 55, 3) := by decide +kernel
theorem dX11_goesOf_21 : decode cX11_goesOf 21 = .ok (.iadd, 1) := by decide +kernel
theorem dX11_goesOf_22 : decode cX11_goesOf 22 = .ok (.ireturn, 1) := by decide +kernel
end
section
theorem dX12_init_0 : decode cX12_init 0 = .ok (.aload_n 0, 1) := by decide +kernel
theorem dX12_init_1 : decode cX12_init 1 = .ok (.invokespecial 1, 3) := by decide +kernel
theorem dX12_init_4 : decode cX12_init 4 = .ok (.aload_n 0, 1) := by decide +kernel
theorem dX12_init_5 : decode cX12_init 5 = .ok (.new 7, 3) := by decide +kernel
theorem dX12_init_8 : decode cX12_init 8 = .ok (.dup, 1) := by decide +kernel
theorem dX12_init_9 : decode cX12_init 9 = .ok (.invokespecial 9, 3) := by decide +kernel
theorem dX12_init_12 : decode cX12_init 12 = .ok (.putfield 10, 3) := by decide +kernel
theorem dX12_init_15 : decode cX12_init 15 = .ok (.aload_n 0, 1) := by decide +kernel
theorem dX12_init_16 : decode cX12_init 16 = .ok (.new 16, 3) := by decide +kernel
theorem dX12_init_19 : decode cX12_init 19 = .ok (.dup, 1) := by decide +kernel
theorem dX12_init_20 : decode cX12_init 20 = .ok (.aload_n 0, 1) := by decide +kernel
theorem dX12_init_21 : decode cX12_init 21 = .ok (.getfield 10, 3) := by decide +kernel
theorem dX12_init_24 : decode cX12_init 24 = .ok (.invokespecial 18, 3) := by decide +kernel
theorem dX12_init_27 : decode cX12_init 27 = .ok (.putfield 21, 3) := by decide +kernel
theorem dX12_init_30 : decode cX12_init 30 = .ok (.aload_n 0, 1) := by decide +kernel
theorem dX12_init_31 : decode cX12_init 31 = .ok (.new 25, 3) := by decide +kernel
theorem dX12_init_34 : decode cX12_init 34 = .ok (.dup, 1) := by decide +kernel
theorem dX12_init_35 : decode cX12_init 35 = .ok (.invokespecial 27, 3) := by decide +kernel
theorem dX12_init_38 : decode cX12_init 38 = .ok (.putfield 28, 3) := by decide +kernel
theorem dX12_init_41 : decode cX12_init 41 = .ok (.aload_n 0, 1) := by decide +kernel
theorem dX12_init_42 : decode cX12_init 42 = .ok (.new 32, 3) := by decide +kernel
theorem dX12_init_45 : decode cX12_init 45 = .ok (.dup, 1) := by decide +kernel
theorem dX12_init_46 : decode cX12_init 46 = .ok (.invokespecial 34, 3) := by decide +kernel
theorem dX12_init_49 : decode cX12_init 49 = .ok (.putfield 35, 3) := by decide +kernel
theorem dX12_init_52 : decode cX12_init 52 = .ok (.aload_n 0, 1) := by decide +kernel
theorem dX12_init_53 : decode cX12_init 53 = .ok (.new 39, 3) := by decide +kernel
theorem dX12_init_56 : decode cX12_init 56 = .ok (.dup, 1) := by decide +kernel
theorem dX12_init_57 : decode cX12_init 57 = .ok (.invokespecial 41, 3) := by decide +kernel
theorem dX12_init_60 : decode cX12_init 60 = .ok (.putfield 42, 3) := by decide +kernel
theorem dX12_init_63 : decode cX12_init 63 = .ok (.aload_n 0, 1) := by decide +kernel
theorem dX12_init_64 : decode cX12_init 64 = .ok (.new 46, 3) := by decide +kernel
theorem dX12_init_67 : decode cX12_init 67 = .ok (.dup, 1) := by decide +kernel
theorem dX12_init_68 : decode cX12_init 68 = .ok (.invokespecial 48, 3) := by decide +kernel
theorem dX12_init_71 : decode cX12_init 71 = .ok (.putfield 49, 3) := by decide +kernel
theorem dX12_init_74 : decode cX12_init 74 = .ok (.aload_n 0, 1) := by decide +kernel
theorem dX12_init_75 : decode cX12_init 75 = .ok (.new 53, 3) := by decide +kernel
theorem dX12_init_78 : decode cX12_init 78 = .ok (.dup, 1) := by decide +kernel
theorem dX12_init_79 : decode cX12_init 79 = .ok (.aload_n 0, 1) := by decide +kernel
theorem dX12_init_80 : decode cX12_init 80 = .ok (.getfield 28, 3) := by decide +kernel
theorem dX12_init_83 : decode cX12_init 83 = .ok (.invokespecial 55, 3) := by decide +kernel
theorem dX12_init_86 : decode cX12_init 86 = .ok (.putfield 58, 3) := by decide +kernel
theorem dX12_init_89 : decode cX12_init 89 = .ok (.aload_n 0, 1) := by decide +kernel
theorem dX12_init_90 : decode cX12_init 90 = .ok (.new 62, 3) := by decide +kernel
theorem dX12_init_93 : decode cX12_init 93 = .ok (.dup, 1) := by decide +kernel
theorem dX12_init_94 : decode cX12_init 94 = .ok (.invokespecial 64, 3) := by decide +kernel
theorem dX12_init_97 : decode cX12_init 97 = .ok (.putfield 65, 3) := by decide +kernel
theorem dX12_init_100 : decode cX12_init 100 = .ok (.aload_n 0, 1) := by decide +kernel
theorem dX12_init_101 : decode cX12_init 101 = .ok (.new 62, 3) := by decide +kernel
theorem dX12_init_104 : decode cX12_init 104 = .ok (.dup, 1) := by decide +kernel
theorem dX12_init_105 : decode cX12_init 105 = .ok (.invokespecial 64, 3) := by decide +kernel
theorem dX12_init_108 : decode cX12_init 108 = .ok (.putfield 69, 3) := by decide +kernel
theorem dX12_init_111 : decode cX12_init 111 = .ok (.aload_n 0, 1) := by decide +kernel
theorem dX12_init_112 : decode cX12_init 112 = .ok (.new 72, 3) := by decide +kernel
theorem dX12_init_115 : decode cX12_init 115 = .ok (.dup, 1) := by decide +kernel
theorem dX12_init_116 : decode cX12_init 116 = .ok (.invokespecial 74, 3) := by decide +kernel
theorem dX12_init_119 : decode cX12_init 119 = .ok (.putfield 75, 3) := by decide +kernel
theorem dX12_init_122 : decode cX12_init 122 = .ok (.aload_n 0, 1) := by decide +kernel
theorem dX12_init_123 : decode cX12_init 123 = .ok (.new 72, 3) := by decide +kernel
theorem dX12_init_126 : decode cX12_init 126 = .ok (.dup, 1) := by decide +kernel
theorem dX12_init_127 : decode cX12_init 127 = .ok (.invokespecial 74, 3) := by decide +kernel
theorem dX12_init_130 : decode cX12_init 130 = .ok (.putfield 79, 3) := by decide +kernel
theorem dX12_init_133 : decode cX12_init 133 = .ok (.aload_n 0, 1) := by decide +kernel
theorem dX12_init_134 : decode cX12_init 134 = .ok (.iconst 1, 1) := by decide +kernel
theorem dX12_init_135 : decode cX12_init 135 = .ok (.putfield 82, 3) := by decide +kernel
theorem dX12_init_138 : decode cX12_init 138 = .ok (.return_, 1) := by decide +kernel
theorem dX12_type_0 : decode cX12_type 0 = .ok (.iload_n 3, 1) := by decide +kernel
theorem dX12_type_1 : decode cX12_type 1 = .ok (.iconst 1, 1) := by decide +kernel
theorem dX12_type_2 : decode cX12_type 2 = .ok (.bipush 8, 2) := by decide +kernel
theorem dX12_type_4 : decode cX12_type 4 = .ok (.invokestatic 86, 3) := by decide +kernel
theorem dX12_type_7 : decode cX12_type 7 = .ok (.ifCond .ne 5, 3) := by decide +kernel
theorem dX12_type_10 : decode cX12_type 10 = .ok (.iconst (-1), 1) := by decide +kernel
theorem dX12_type_11 : decode cX12_type 11 = .ok (.ireturn, 1) := by decide +kernel
theorem dX12_type_12 : decode cX12_type 12 = .ok (.aload_n 0, 1) := by decide +kernel
theorem dX12_type_13 : decode cX12_type 13 = .ok (.getfield 10, 3) := by decide +kernel
theorem dX12_type_16 : decode cX12_type 16 = .ok (.getfield 90, 3) := by decide +kernel
theorem dX12_type_19 : decode cX12_type 19 = .ok (.iload_n 3, 1) := by decide +kernel
theorem dX12_type_20 : decode cX12_type 20 = .ok (.iadd, 1) := by decide +kernel
theorem dX12_type_21 : decode cX12_type 21 = .ok (.sipush 400, 3) := by decide +kernel
theorem dX12_type_24 : decode cX12_type 24 = .ok (.if_icmp .le 6, 3) := by decide +kernel
theorem dX12_type_27 : decode cX12_type 27 = .ok (.bipush (-3), 2) := by decide +kernel
theorem dX12_type_29 : decode cX12_type 29 = .ok (.ireturn, 1) := by decide +kernel
theorem dX12_type_30 : decode cX12_type 30 = .ok (.iload_n 3, 1) := by decide +kernel
theorem dX12_type_31 : decode cX12_type 31 = .ok (.iconst 1, 1) := by decide +kernel
theorem dX12_type_32 : decode cX12_type 32 = .ok (.isub, 1) := by decide +kernel
theorem dX12_type_33 : decode cX12_type 33 = .ok (.istore 4, 2) := by decide +kernel
theorem dX12_type_35 : decode cX12_type 35 = .ok (.iload 4, 2) := by decide +kernel
theorem dX12_type_37 : decode cX12_type 37 = .ok (.ifCond .lt 28, 3) := by decide +kernel
theorem dX12_type_40 : decode cX12_type 40 = .ok (.aload_n 0, 1) := by decide +kernel
theorem dX12_type_41 : decode cX12_type 41 = .ok (.getfield 10, 3) := by decide +kernel
theorem dX12_type_44 : decode cX12_type 44 = .ok (.lload_n 1, 1) := by decide +kernel
theorem dX12_type_45 : decode cX12_type 45 = .ok (.bipush 8, 2) := by decide +kernel
theorem dX12_type_47 : decode cX12_type 47 = .ok (.iload 4, 2) := by decide +kernel
theorem dX12_type_49 : decode cX12_type 49 = .ok (.imul, 1) := by decide +kernel
theorem dX12_type_50 : decode cX12_type 50 = .ok (.lushr, 1) := by decide +kernel
theorem dX12_type_51 : decode cX12_type 51 = .ok (.l2i, 1) := by decide +kernel
theorem dX12_type_52 : decode cX12_type 52 = .ok (.sipush 255, 3) := by decide +kernel
theorem dX12_type_55 : decode cX12_type 55 = .ok (.iand, 1) := by decide +kernel
theorem dX12_type_56 : decode cX12_type 56 = .ok (.invokevirtual 93, 3) := by decide +kernel
theorem dX12_type_59 : decode cX12_type 59 = .ok (.iinc 4 (-1), 3) := by decide +kernel
theorem dX12_type_62 : decode cX12_type 62 = .ok (.goto (-27), 3) := by decide +kernel
theorem dX12_type_65 : decode cX12_type 65 = .ok (.aload_n 0, 1) := by decide +kernel
theorem dX12_type_66 : decode cX12_type 66 = .ok (.getfield 10, 3) := by decide +kernel
theorem dX12_type_69 : decode cX12_type 69 = .ok (.getfield 90, 3) := by decide +kernel
theorem dX12_type_72 : decode cX12_type 72 = .ok (.ireturn, 1) := by decide +kernel
theorem dX12_clear_0 : decode cX12_clear 0 = .ok (.aload_n 0, 1) := by decide +kernel
theorem dX12_clear_1 : decode cX12_clear 1 = .ok (.getfield 10, 3) := by decide +kernel
theorem dX12_clear_4 : decode cX12_clear 4 = .ok (.invokevirtual 97, 3) := by decide +kernel
theorem dX12_clear_7 : decode cX12_clear 7 = .ok (.ireturn, 1) := by decide +kernel
theorem dX12_arrows_0 : decode cX12_arrows 0 = .ok (.aload_n 0, 1) := by decide +kernel
theorem dX12_arrows_1 : decode cX12_arrows 1 = .ok (.getfield 21, 3) := by decide +kernel
theorem dX12_arrows_4 : decode cX12_arrows 4 = .ok (.aload_n 0, 1) := by decide +kernel
theorem dX12_arrows_5 : decode cX12_arrows 5 = .ok (.getfield 79, 3) := by decide +kernel
theorem dX12_arrows_8 : decode cX12_arrows 8 = .ok (.invokevirtual 101, 3) := by decide +kernel
theorem dX12_arrows_11 : decode cX12_arrows 11 = .ok (.istore_n 1, 1) := by decide +kernel
theorem dX12_arrows_12 : decode cX12_arrows 12 = .ok (.iload_n 1, 1) := by decide +kernel
theorem dX12_arrows_13 : decode cX12_arrows 13 = .ok (.ifCond .ge 5, 3) := by decide +kernel
theorem dX12_arrows_16 : decode cX12_arrows 16 = .ok (.iload_n 1, 1) := by decide +kernel
theorem dX12_arrows_17 : decode cX12_arrows 17 = .ok (.ireturn, 1) := by decide +kernel
theorem dX12_arrows_18 : decode cX12_arrows 18 = .ok (.aload_n 0, 1) := by decide +kernel
theorem dX12_arrows_19 : decode cX12_arrows 19 = .ok (.getfield 75, 3) := by decide +kernel
theorem dX12_arrows_22 : decode cX12_arrows 22 = .ok (.astore_n 2, 1) := by decide +kernel
theorem dX12_arrows_23 : decode cX12_arrows 23 = .ok (.aload_n 0, 1) := by decide +kernel
theorem dX12_arrows_24 : decode cX12_arrows 24 = .ok (.aload_n 0, 1) := by decide +kernel
theorem dX12_arrows_25 : decode cX12_arrows 25 = .ok (.getfield 79, 3) := by decide +kernel
theorem dX12_arrows_28 : decode cX12_arrows 28 = .ok (.putfield 75, 3) := by decide +kernel
theorem dX12_arrows_31 : decode cX12_arrows 31 = .ok (.aload_n 0, 1) := by decide +kernel
theorem dX12_arrows_32 : decode cX12_arrows 32 = .ok (.aload_n 2, 1) := by decide +kernel
theorem dX12_arrows_33 : decode cX12_arrows 33 = .ok (.putfield 79, 3) := by decide +kernel
theorem dX12_arrows_36 : decode cX12_arrows 36 = .ok (.aload_n 0, 1) := by decide +kernel
theorem dX12_arrows_37 : decode cX12_arrows 37 = .ok (.getfield 10, 3) := by decide +kernel
theorem dX12_arrows_40 : decode cX12_arrows 40 = .ok (.invokevirtual 97, 3) := by decide +kernel
theorem dX12_arrows_43 : decode cX12_arrows 43 = .ok (.pop, 1) := by decide +kernel
theorem dX12_arrows_44 : decode cX12_arrows 44 = .ok (.aload_n 0, 1) := by decide +kernel
theorem dX12_arrows_45 : decode cX12_arrows 45 = .ok (.getfield 35, 3) := by decide +kernel
theorem dX12_arrows_48 : decode cX12_arrows 48 = .ok (.invokevirtual 105, 3) := by decide +kernel
theorem dX12_arrows_51 : decode cX12_arrows 51 = .ok (.pop, 1) := by decide +kernel
theorem dX12_arrows_52 : decode cX12_arrows 52 = .ok (.aload_n 0, 1) := by decide +kernel
theorem dX12_arrows_53 : decode cX12_arrows 53 = .ok (.getfield 65, 3) := by decide +kernel
theorem dX12_arrows_56 : decode cX12_arrows 56 = .ok (.iconst 0, 1) := by decide +kernel
theorem dX12_arrows_57 : decode cX12_arrows 57 = .ok (.putfield 106, 3) := by decide +kernel
theorem dX12_arrows_60 : decode cX12_arrows 60 = .ok (.aload_n 0, 1) := by decide +kernel
theorem dX12_arrows_61 : decode cX12_arrows 61 = .ok (.getfield 69, 3) := by decide +kernel
theorem dX12_arrows_64 : decode cX12_arrows 64 = .ok (.iconst 0, 1) := by decide +kernel
theorem dX12_arrows_65 : decode cX12_arrows 65 = .ok (.putfield 106, 3) := by decide +kernel
theorem dX12_arrows_68 : decode cX12_arrows 68 = .ok (.iload_n 1, 1) := by decide +kernel
theorem dX12_arrows_69 : decode cX12_arrows 69 = .ok (.ireturn, 1) := by decide +kernel
theorem dX12_stick_0 : decode cX12_stick 0 = .ok (.aload_n 0, 1) := by decide +kernel
theorem dX12_stick_1 : decode cX12_stick 1 = .ok (.getfield 75, 3) := by decide +kernel
theorem dX12_stick_4 : decode cX12_stick 4 = .ok (.iload_n 1, 1) := by decide +kernel
theorem dX12_stick_5 : decode cX12_stick 5 = .ok (.invokevirtual 110, 3) := by decide +kernel
theorem dX12_stick_8 : decode cX12_stick 8 = .ok (.astore_n 3, 1) := by decide +kernel
theorem dX12_stick_9 : decode cX12_stick 9 = .ok (.aload_n 3, 1) := by decide +kernel
theorem dX12_stick_10 : decode cX12_stick 10 = .ok (.ifnonnull 5, 3) := by decide +kernel
theorem dX12_stick_13 : decode cX12_stick 13 = .ok (.iconst (-1), 1) := by decide +kernel
theorem dX12_stick_14 : decode cX12_stick 14 = .ok (.ireturn, 1) := by decide +kernel
theorem dX12_stick_15 : decode cX12_stick 15 = .ok (.iload_n 2, 1) := by decide +kernel
theorem dX12_stick_16 : decode cX12_stick 16 = .ok (.tableswitch 79 0 6 #[44, 49, 54, 59, 64, 69, 74], 44) := by decide +kernel
theorem dX12_stick_60 : decode cX12_stick 60 = .ok (.aload_n 3, 1) := by decide +kernel
theorem dX12_stick_61 : decode cX12_stick 61 = .ok (.getfield 114, 3) := by decide +kernel
theorem dX12_stick_64 : decode cX12_stick 64 = .ok (.ireturn, 1) := by decide +kernel
theorem dX12_stick_65 : decode cX12_stick 65 = .ok (.aload_n 3, 1) := by decide +kernel
theorem dX12_stick_66 : decode cX12_stick 66 = .ok (.getfield 119, 3) := by decide +kernel
theorem dX12_stick_69 : decode cX12_stick 69 = .ok (.ireturn, 1) := by decide +kernel
theorem dX12_stick_70 : decode cX12_stick 70 = .ok (.aload_n 3, 1) := by decide +kernel
theorem dX12_stick_71 : decode cX12_stick 71 = .ok (.getfield 122, 3) := by decide +kernel
theorem dX12_stick_74 : decode cX12_stick 74 = .ok (.ireturn, 1) := by decide +kernel
theorem dX12_stick_75 : decode cX12_stick 75 = .ok (.aload_n 3, 1) := by decide +kernel
theorem dX12_stick_76 : decode cX12_stick 76 = .ok (.getfield 125, 3) := by decide +kernel
theorem dX12_stick_79 : decode cX12_stick 79 = .ok (.ireturn, 1) := by decide +kernel
theorem dX12_stick_80 : decode cX12_stick 80 = .ok (.aload_n 3, 1) := by decide +kernel
theorem dX12_stick_81 : decode cX12_stick 81 = .ok (.getfield 128, 3) := by decide +kernel
theorem dX12_stick_84 : decode cX12_stick 84 = .ok (.ireturn, 1) := by decide +kernel
theorem dX12_stick_85 : decode cX12_stick 85 = .ok (.aload_n 3, 1) := by decide +kernel
theorem dX12_stick_86 : decode cX12_stick 86 = .ok (.getfield 131, 3) := by decide +kernel
theorem dX12_stick_89 : decode cX12_stick 89 = .ok (.ireturn, 1) := by decide +kernel
theorem dX12_stick_90 : decode cX12_stick 90 = .ok (.aload_n 3, 1) := by decide +kernel
theorem dX12_stick_91 : decode cX12_stick 91 = .ok (.getfield 134, 3) := by decide +kernel
theorem dX12_stick_94 : decode cX12_stick 94 = .ok (.ireturn, 1) := by decide +kernel
theorem dX12_stick_95 : decode cX12_stick 95 = .ok (.iconst (-1), 1) := by decide +kernel
theorem dX12_stick_96 : decode cX12_stick 96 = .ok (.ireturn, 1) := by decide +kernel
theorem dX12_bow_0 : decode cX12_bow 0 = .ok (.aload_n 0, 1) := by decide +kernel
theorem dX12_bow_1 : decode cX12_bow 1 = .ok (.getfield 75, 3) := by decide +kernel
theorem dX12_bow_4 : decode cX12_bow 4 = .ok (.iload_n 1, 1) := by decide +kernel
theorem dX12_bow_5 : decode cX12_bow 5 = .ok (.invokevirtual 137, 3) := by decide +kernel
theorem dX12_bow_8 : decode cX12_bow 8 = .ok (.astore_n 3, 1) := by decide +kernel
theorem dX12_bow_9 : decode cX12_bow 9 = .ok (.aload_n 3, 1) := by decide +kernel
theorem dX12_bow_10 : decode cX12_bow 10 = .ok (.ifnonnull 5, 3) := by decide +kernel
theorem dX12_bow_13 : decode cX12_bow 13 = .ok (.iconst (-1), 1) := by decide +kernel
theorem dX12_bow_14 : decode cX12_bow 14 = .ok (.ireturn, 1) := by decide +kernel
theorem dX12_bow_15 : decode cX12_bow 15 = .ok (.iload_n 2, 1) := by decide +kernel
theorem dX12_bow_16 : decode cX12_bow 16 = .ok (.tableswitch 43 0 2 #[28, 33, 38], 28) := by decide +kernel
theorem dX12_bow_44 : decode cX12_bow 44 = .ok (.aload_n 3, 1) := by decide +kernel
theorem dX12_bow_45 : decode cX12_bow 45 = .ok (.getfield 141, 3) := by decide +kernel
theorem dX12_bow_48 : decode cX12_bow 48 = .ok (.ireturn, 1) := by decide +kernel
theorem dX12_bow_49 : decode cX12_bow 49 = .ok (.aload_n 3, 1) := by decide +kernel
theorem dX12_bow_50 : decode cX12_bow 50 = .ok (.getfield 146, 3) := by decide +kernel
theorem dX12_bow_53 : decode cX12_bow 53 = .ok (.ireturn, 1) := by decide +kernel
theorem dX12_bow_54 : decode cX12_bow 54 = .ok (.aload_n 3, 1) := by decide +kernel
theorem dX12_bow_55 : decode cX12_bow 55 = .ok (.invokevirtual 149, 3) := by decide +kernel
theorem dX12_bow_58 : decode cX12_bow 58 = .ok (.ireturn, 1) := by decide +kernel
theorem dX12_bow_59 : decode cX12_bow 59 = .ok (.iconst (-1), 1) := by decide +kernel
theorem dX12_bow_60 : decode cX12_bow 60 = .ok (.ireturn, 1) := by decide +kernel
theorem dX12_archer_0 : decode cX12_archer 0 = .ok (.aload_n 0, 1) := by decide +kernel
theorem dX12_archer_1 : decode cX12_archer 1 = .ok (.getfield 75, 3) := by decide +kernel
theorem dX12_archer_4 : decode cX12_archer 4 = .ok (.iload_n 1, 1) := by decide +kernel
theorem dX12_archer_5 : decode cX12_archer 5 = .ok (.invokevirtual 152, 3) := by decide +kernel
theorem dX12_archer_8 : decode cX12_archer 8 = .ok (.astore_n 3, 1) := by decide +kernel
theorem dX12_archer_9 : decode cX12_archer 9 = .ok (.aload_n 3, 1) := by decide +kernel
theorem dX12_archer_10 : decode cX12_archer 10 = .ok (.ifnonnull 6, 3) := by decide +kernel
theorem dX12_archer_13 : decode cX12_archer 13 = .ok (.ldc 156, 2) := by decide +kernel
theorem dX12_archer_15 : decode cX12_archer 15 = .ok (.ireturn, 1) := by decide +kernel
theorem dX12_archer_16 : decode cX12_archer 16 = .ok (.iload_n 2, 1) := by decide +kernel
theorem dX12_archer_17 : decode cX12_archer 17 = .ok (.lookupswitch 37 #[(0, 27), (1, 32)], 27) := by decide +kernel
theorem dX12_archer_44 : decode cX12_archer 44 = .ok (.aload_n 3, 1) := by decide +kernel
theorem dX12_archer_45 : decode cX12_archer 45 = .ok (.getfield 157, 3) := by decide +kernel
theorem dX12_archer_48 : decode cX12_archer 48 = .ok (.ireturn, 1) := by decide +kernel
theorem dX12_archer_49 : decode cX12_archer 49 = .ok (.aload_n 3, 1) := by decide +kernel
theorem dX12_archer_50 : decode cX12_archer 50 = .ok (.getfield 162, 3) := by decide +kernel
theorem dX12_archer_53 : decode cX12_archer 53 = .ok (.ireturn, 1) := by decide +kernel
theorem dX12_archer_54 : decode cX12_archer 54 = .ok (.ldc 156, 2) := by decide +kernel
theorem dX12_archer_56 : decode cX12_archer 56 = .ok (.ireturn, 1) := by decide +kernel
theorem dX12_tune_0 : decode cX12_tune 0 = .ok (.aload_n 0, 1) := by decide +kernel
theorem dX12_tune_1 : decode cX12_tune 1 = .ok (.getfield 28, 3) := by decide +kernel
theorem dX12_tune_4 : decode cX12_tune 4 = .ok (.iload_n 1, 1) := by decide +kernel
theorem dX12_tune_5 : decode cX12_tune 5 = .ok (.iload_n 2, 1) := by decide +kernel
theorem dX12_tune_6 : decode cX12_tune 6 = .ok (.invokevirtual 165, 3) := by decide +kernel
theorem dX12_tune_9 : decode cX12_tune 9 = .ok (.ireturn, 1) := by decide +kernel
theorem dX12_cut_0 : decode cX12_cut 0 = .ok (.aload_n 0, 1) := by decide +kernel
theorem dX12_cut_1 : decode cX12_cut 1 = .ok (.getfield 75, 3) := by decide +kernel
theorem dX12_cut_4 : decode cX12_cut 4 = .ok (.iload_n 1, 1) := by decide +kernel
theorem dX12_cut_5 : decode cX12_cut 5 = .ok (.invokevirtual 110, 3) := by decide +kernel
theorem dX12_cut_8 : decode cX12_cut 8 = .ok (.astore_n 2, 1) := by decide +kernel
theorem dX12_cut_9 : decode cX12_cut 9 = .ok (.aload_n 2, 1) := by decide +kernel
theorem dX12_cut_10 : decode cX12_cut 10 = .ok (.ifnonnull 5, 3) := by decide +kernel
theorem dX12_cut_13 : decode cX12_cut 13 = .ok (.iconst (-1), 1) := by decide +kernel
theorem dX12_cut_14 : decode cX12_cut 14 = .ok (.ireturn, 1) := by decide +kernel
theorem dX12_cut_15 : decode cX12_cut 15 = .ok (.aload_n 2, 1) := by decide +kernel
theorem dX12_cut_16 : decode cX12_cut 16 = .ok (.invokevirtual 169, 3) := by decide +kernel
theorem dX12_cut_19 : decode cX12_cut 19 = .ok (.iconst 1, 1) := by decide +kernel
theorem dX12_cut_20 : decode cX12_cut 20 = .ok (.if_icmp .ge 6, 3) := by decide +kernel
theorem dX12_cut_23 : decode cX12_cut 23 = .ok (.bipush (-2), 2) := by decide +kernel
theorem dX12_cut_25 : decode cX12_cut 25 = .ok (.ireturn, 1) := by decide +kernel
theorem dX12_cut_26 : decode cX12_cut 26 = .ok (.aload_n 2, 1) := by decide +kernel
theorem dX12_cut_27 : decode cX12_cut 27 = .ok (.dup, 1) := by decide +kernel
theorem dX12_cut_28 : decode cX12_cut 28 = .ok (.getfield 114, 3) := by decide +kernel
theorem dX12_cut_31 : decode cX12_cut 31 = .ok (.iconst 1, 1) := by decide +kernel
theorem dX12_cut_32 : decode cX12_cut 32 = .ok (.isub, 1) := by decide +kernel
theorem dX12_cut_33 : decode cX12_cut 33 = .ok (.putfield 114, 3) := by decide +kernel
theorem dX12_cut_36 : decode cX12_cut 36 = .ok (.aload_n 2, 1) := by decide +kernel
theorem dX12_cut_37 : decode cX12_cut 37 = .ok (.getfield 114, 3) := by decide +kernel
theorem dX12_cut_40 : decode cX12_cut 40 = .ok (.ireturn, 1) := by decide +kernel
theorem dX12_scrape_0 : decode cX12_scrape 0 = .ok (.aload_n 0, 1) := by decide +kernel
theorem dX12_scrape_1 : decode cX12_scrape 1 = .ok (.getfield 75, 3) := by decide +kernel
theorem dX12_scrape_4 : decode cX12_scrape 4 = .ok (.iload_n 1, 1) := by decide +kernel
theorem dX12_scrape_5 : decode cX12_scrape 5 = .ok (.invokevirtual 110, 3) := by decide +kernel
theorem dX12_scrape_8 : decode cX12_scrape 8 = .ok (.astore_n 2, 1) := by decide +kernel
theorem dX12_scrape_9 : decode cX12_scrape 9 = .ok (.aload_n 2, 1) := by decide +kernel
theorem dX12_scrape_10 : decode cX12_scrape 10 = .ok (.ifnonnull 5, 3) := by decide +kernel
theorem dX12_scrape_13 : decode cX12_scrape 13 = .ok (.iconst (-1), 1) := by decide +kernel
theorem dX12_scrape_14 : decode cX12_scrape 14 = .ok (.ireturn, 1) := by decide +kernel
theorem dX12_scrape_15 : decode cX12_scrape 15 = .ok (.aload_n 2, 1) := by decide +kernel
theorem dX12_scrape_16 : decode cX12_scrape 16 = .ok (.invokevirtual 172, 3) := by decide +kernel
theorem dX12_scrape_19 : decode cX12_scrape 19 = .ok (.iconst 1, 1) := by decide +kernel
theorem dX12_scrape_20 : decode cX12_scrape 20 = .ok (.if_icmp .ge 6, 3) := by decide +kernel
theorem dX12_scrape_23 : decode cX12_scrape 23 = .ok (.bipush (-2), 2) := by decide +kernel
theorem dX12_scrape_25 : decode cX12_scrape 25 = .ok (.ireturn, 1) := by decide +kernel
theorem dX12_scrape_26 : decode cX12_scrape 26 = .ok (.aload_n 2, 1) := by decide +kernel
theorem dX12_scrape_27 : decode cX12_scrape 27 = .ok (.dup, 1) := by decide +kernel
theorem dX12_scrape_28 : decode cX12_scrape 28 = .ok (.getfield 122, 3) := by decide +kernel
theorem dX12_scrape_31 : decode cX12_scrape 31 = .ok (.iconst 1, 1) := by decide +kernel
theorem dX12_scrape_32 : decode cX12_scrape 32 = .ok (.isub, 1) := by decide +kernel
theorem dX12_scrape_33 : decode cX12_scrape 33 = .ok (.putfield 122, 3) := by decide +kernel
theorem dX12_scrape_36 : decode cX12_scrape 36 = .ok (.aload_n 2, 1) := by decide +kernel
theorem dX12_scrape_37 : decode cX12_scrape 37 = .ok (.dup, 1) := by decide +kernel
theorem dX12_scrape_38 : decode cX12_scrape 38 = .ok (.getfield 125, 3) := by decide +kernel
theorem dX12_scrape_41 : decode cX12_scrape 41 = .ok (.iconst 1, 1) := by decide +kernel
theorem dX12_scrape_42 : decode cX12_scrape 42 = .ok (.isub, 1) := by decide +kernel
theorem dX12_scrape_43 : decode cX12_scrape 43 = .ok (.putfield 125, 3) := by decide +kernel
theorem dX12_scrape_46 : decode cX12_scrape 46 = .ok (.aload_n 2, 1) := by decide +kernel
theorem dX12_scrape_47 : decode cX12_scrape 47 = .ok (.dup, 1) := by decide +kernel
theorem dX12_scrape_48 : decode cX12_scrape 48 = .ok (.getfield 119, 3) := by decide +kernel
theorem dX12_scrape_51 : decode cX12_scrape 51 = .ok (.iconst 2, 1) := by decide +kernel
theorem dX12_scrape_52 : decode cX12_scrape 52 = .ok (.isub, 1) := by decide +kernel
theorem dX12_scrape_53 : decode cX12_scrape 53 = .ok (.putfield 119, 3) := by decide +kernel
theorem dX12_scrape_56 : decode cX12_scrape 56 = .ok (.aload_n 2, 1) := by decide +kernel
theorem dX12_scrape_57 : decode cX12_scrape 57 = .ok (.getfield 119, 3) := by decide +kernel
theorem dX12_scrape_60 : decode cX12_scrape 60 = .ok (.ireturn, 1) := by decide +kernel
theorem dX12_load_0 : decode cX12_load 0 = .ok (.aload_n 0, 1) := by decide +kernel
theorem dX12_load_1 : decode cX12_load 1 = .ok (.getfield 75, 3) := by decide +kernel
theorem dX12_load_4 : decode cX12_load 4 = .ok (.iload_n 1, 1) := by decide +kernel
theorem dX12_load_5 : decode cX12_load 5 = .ok (.invokevirtual 110, 3) := by decide +kernel
theorem dX12_load_8 : decode cX12_load 8 = .ok (.astore_n 2, 1) := by decide +kernel
theorem dX12_load_9 : decode cX12_load 9 = .ok (.aload_n 2, 1) := by decide +kernel
theorem dX12_load_10 : decode cX12_load 10 = .ok (.ifnonnull 5, 3) := by decide +kernel
theorem dX12_load_13 : decode cX12_load 13 = .ok (.iconst (-1), 1) := by decide +kernel
theorem dX12_load_14 : decode cX12_load 14 = .ok (.ireturn, 1) := by decide +kernel
theorem dX12_load_15 : decode cX12_load 15 = .ok (.aload_n 2, 1) := by decide +kernel
theorem dX12_load_16 : decode cX12_load 16 = .ok (.invokevirtual 175, 3) := by decide +kernel
theorem dX12_load_19 : decode cX12_load 19 = .ok (.iconst 1, 1) := by decide +kernel
theorem dX12_load_20 : decode cX12_load 20 = .ok (.if_icmp .ge 6, 3) := by decide +kernel
theorem dX12_load_23 : decode cX12_load 23 = .ok (.bipush (-2), 2) := by decide +kernel
theorem dX12_load_25 : decode cX12_load 25 = .ok (.ireturn, 1) := by decide +kernel
theorem dX12_load_26 : decode cX12_load 26 = .ok (.aload_n 2, 1) := by decide +kernel
theorem dX12_load_27 : decode cX12_load 27 = .ok (.dup, 1) := by decide +kernel
theorem dX12_load_28 : decode cX12_load 28 = .ok (.getfield 128, 3) := by decide +kernel
theorem dX12_load_31 : decode cX12_load 31 = .ok (.iconst 5, 1) := by decide +kernel
theorem dX12_load_32 : decode cX12_load 32 = .ok (.iadd, 1) := by decide +kernel
theorem dX12_load_33 : decode cX12_load 33 = .ok (.putfield 128, 3) := by decide +kernel
theorem dX12_load_36 : decode cX12_load 36 = .ok (.aload_n 2, 1) := by decide +kernel
theorem dX12_load_37 : decode cX12_load 37 = .ok (.getfield 128, 3) := by decide +kernel
theorem dX12_load_40 : decode cX12_load 40 = .ok (.ireturn, 1) := by decide +kernel
theorem dX12_turn_0 : decode cX12_turn 0 = .ok (.aload_n 0, 1) := by decide +kernel
theorem dX12_turn_1 : decode cX12_turn 1 = .ok (.getfield 75, 3) := by decide +kernel
theorem dX12_turn_4 : decode cX12_turn 4 = .ok (.iload_n 1, 1) := by decide +kernel
theorem dX12_turn_5 : decode cX12_turn 5 = .ok (.invokevirtual 110, 3) := by decide +kernel
theorem dX12_turn_8 : decode cX12_turn 8 = .ok (.astore_n 2, 1) := by decide +kernel
theorem dX12_turn_9 : decode cX12_turn 9 = .ok (.aload_n 2, 1) := by decide +kernel
theorem dX12_turn_10 : decode cX12_turn 10 = .ok (.ifnonnull 5, 3) := by decide +kernel
theorem dX12_turn_13 : decode cX12_turn 13 = .ok (.iconst (-1), 1) := by decide +kernel
theorem dX12_turn_14 : decode cX12_turn 14 = .ok (.ireturn, 1) := by decide +kernel
theorem dX12_turn_15 : decode cX12_turn 15 = .ok (.aload_n 2, 1) := by decide +kernel
theorem dX12_turn_16 : decode cX12_turn 16 = .ok (.iconst 1, 1) := by decide +kernel
theorem dX12_turn_17 : decode cX12_turn 17 = .ok (.aload_n 2, 1) := by decide +kernel
theorem dX12_turn_18 : decode cX12_turn 18 = .ok (.getfield 134, 3) := by decide +kernel
theorem dX12_turn_21 : decode cX12_turn 21 = .ok (.isub, 1) := by decide +kernel
theorem dX12_turn_22 : decode cX12_turn 22 = .ok (.putfield 134, 3) := by decide +kernel
theorem dX12_turn_25 : decode cX12_turn 25 = .ok (.aload_n 2, 1) := by decide +kernel
theorem dX12_turn_26 : decode cX12_turn 26 = .ok (.getfield 134, 3) := by decide +kernel
theorem dX12_turn_29 : decode cX12_turn 29 = .ok (.ireturn, 1) := by decide +kernel
theorem dX12_least_0 : decode cX12_least 0 = .ok (.aload_n 0, 1) := by decide +kernel
theorem dX12_least_1 : decode cX12_least 1 = .ok (.getfield 75, 3) := by decide +kernel
theorem dX12_least_4 : decode cX12_least 4 = .ok (.iload_n 1, 1) := by decide +kernel
theorem dX12_least_5 : decode cX12_least 5 = .ok (.invokevirtual 110, 3) := by decide +kernel
theorem dX12_least_8 : decode cX12_least 8 = .ok (.astore 6, 2) := by decide +kernel
theorem dX12_least_10 : decode cX12_least 10 = .ok (.aload_n 0, 1) := by decide +kernel
theorem dX12_least_11 : decode cX12_least 11 = .ok (.getfield 75, 3) := by decide +kernel
theorem dX12_least_14 : decode cX12_least 14 = .ok (.iload_n 2, 1) := by decide +kernel
theorem dX12_least_15 : decode cX12_least 15 = .ok (.invokevirtual 137, 3) := by decide +kernel
theorem dX12_least_18 : decode cX12_least 18 = .ok (.astore 7, 2) := by decide +kernel
theorem dX12_least_20 : decode cX12_least 20 = .ok (.aload 6, 2) := by decide +kernel
theorem dX12_least_22 : decode cX12_least 22 = .ok (.ifnull 18, 3) := by decide +kernel
theorem dX12_least_25 : decode cX12_least 25 = .ok (.aload 7, 2) := by decide +kernel
theorem dX12_least_27 : decode cX12_least 27 = .ok (.ifnull 13, 3) := by decide +kernel
theorem dX12_least_30 : decode cX12_least 30 = .ok (.iload 5, 2) := by decide +kernel
theorem dX12_least_32 : decode cX12_least 32 = .ok (.iconst 0, 1) := by decide +kernel
theorem dX12_least_33 : decode cX12_least 33 = .ok (.iconst 4, 1) := by decide +kernel
theorem dX12_least_34 : decode cX12_least 34 = .ok (.invokestatic 86, 3) := by decide +kernel
theorem dX12_least_37 : decode cX12_least 37 = .ok (.ifCond .ne 5, 3) := by decide +kernel
theorem dX12_least_40 : decode cX12_least 40 = .ok (.iconst (-1), 1) := by decide +kernel
theorem dX12_least_41 : decode cX12_least 41 = .ok (.ireturn, 1) := by decide +kernel
theorem dX12_least_42 : decode cX12_least 42 = .ok (.iload_n 3, 1) := by decide +kernel
theorem dX12_least_43 : decode cX12_least 43 = .ok (.sipush 200, 3) := by decide +kernel
theorem dX12_least_46 : decode cX12_least 46 = .ok (.if_icmp .lt 17, 3) := by decide +kernel
theorem dX12_least_49 : decode cX12_least 49 = .ok (.iload_n 3, 1) := by decide +kernel
theorem dX12_least_50 : decode cX12_least 50 = .ok (.iload 4, 2) := by decide +kernel
theorem dX12_least_52 : decode cX12_least 52 = .ok (.if_icmp .gt 11, 3) := by decide +kernel
theorem dX12_least_55 : decode cX12_least 55 = .ok (.iload 4, 2) := by decide +kernel
theorem dX12_least_57 : decode cX12_least 57 = .ok (.sipush 800, 3) := by decide +kernel
theorem dX12_least_60 : decode cX12_least 60 = .ok (.if_icmp .le 5, 3) := by decide +kernel
theorem dX12_least_63 : decode cX12_least 63 = .ok (.iconst (-1), 1) := by decide +kernel
theorem dX12_least_64 : decode cX12_least 64 = .ok (.ireturn, 1) := by decide +kernel
theorem dX12_least_65 : decode cX12_least 65 = .ok (.aload_n 0, 1) := by decide +kernel
theorem dX12_least_66 : decode cX12_least 66 = .ok (.getfield 49, 3) := by decide +kernel
theorem dX12_least_69 : decode cX12_least 69 = .ok (.aload 6, 2) := by decide +kernel
theorem dX12_least_71 : decode cX12_least 71 = .ok (.aload 7, 2) := by decide +kernel
theorem dX12_least_73 : decode cX12_least 73 = .ok (.invokevirtual 149, 3) := by decide +kernel
theorem dX12_least_76 : decode cX12_least 76 = .ok (.aload_n 0, 1) := by decide +kernel
theorem dX12_least_77 : decode cX12_least 77 = .ok (.getfield 28, 3) := by decide +kernel
theorem dX12_least_80 : decode cX12_least 80 = .ok (.iload_n 3, 1) := by decide +kernel
theorem dX12_least_81 : decode cX12_least 81 = .ok (.iload 4, 2) := by decide +kernel
theorem dX12_least_83 : decode cX12_least 83 = .ok (.invokevirtual 178, 3) := by decide +kernel
theorem dX12_least_86 : decode cX12_least 86 = .ok (.aload_n 0, 1) := by decide +kernel
theorem dX12_least_87 : decode cX12_least 87 = .ok (.getfield 49, 3) := by decide +kernel
theorem dX12_least_90 : decode cX12_least 90 = .ok (.iload 5, 2) := by decide +kernel
theorem dX12_least_92 : decode cX12_least 92 = .ok (.invokevirtual 182, 3) := by decide +kernel
theorem dX12_least_95 : decode cX12_least 95 = .ok (.ireturn, 1) := by decide +kernel
theorem dX12_flight_0 : decode cX12_flight 0 = .ok (.aload_n 0, 1) := by decide +kernel
theorem dX12_flight_1 : decode cX12_flight 1 = .ok (.getfield 75, 3) := by decide +kernel
theorem dX12_flight_4 : decode cX12_flight 4 = .ok (.iload_n 1, 1) := by decide +kernel
theorem dX12_flight_5 : decode cX12_flight 5 = .ok (.invokevirtual 110, 3) := by decide +kernel
theorem dX12_flight_8 : decode cX12_flight 8 = .ok (.astore 4, 2) := by decide +kernel
theorem dX12_flight_10 : decode cX12_flight 10 = .ok (.aload_n 0, 1) := by decide +kernel
theorem dX12_flight_11 : decode cX12_flight 11 = .ok (.getfield 75, 3) := by decide +kernel
theorem dX12_flight_14 : decode cX12_flight 14 = .ok (.iload_n 2, 1) := by decide +kernel
theorem dX12_flight_15 : decode cX12_flight 15 = .ok (.invokevirtual 137, 3) := by decide +kernel
theorem dX12_flight_18 : decode cX12_flight 18 = .ok (.astore 5, 2) := by decide +kernel
theorem dX12_flight_20 : decode cX12_flight 20 = .ok (.aload 4, 2) := by decide +kernel
theorem dX12_flight_22 : decode cX12_flight 22 = .ok (.ifnull 8, 3) := by decide +kernel
theorem dX12_flight_25 : decode cX12_flight 25 = .ok (.aload 5, 2) := by decide +kernel
theorem dX12_flight_27 : decode cX12_flight 27 = .ok (.ifnonnull 6, 3) := by decide +kernel
theorem dX12_flight_30 : decode cX12_flight 30 = .ok (.ldc 156, 2) := by decide +kernel
theorem dX12_flight_32 : decode cX12_flight 32 = .ok (.ireturn, 1) := by decide +kernel
theorem dX12_flight_33 : decode cX12_flight 33 = .ok (.aload 4, 2) := by decide +kernel
theorem dX12_flight_35 : decode cX12_flight 35 = .ok (.invokevirtual 186, 3) := by decide +kernel
theorem dX12_flight_38 : decode cX12_flight 38 = .ok (.aload 5, 2) := by decide +kernel
theorem dX12_flight_40 : decode cX12_flight 40 = .ok (.invokevirtual 149, 3) := by decide +kernel
theorem dX12_flight_43 : decode cX12_flight 43 = .ok (.isub, 1) := by decide +kernel
theorem dX12_flight_44 : decode cX12_flight 44 = .ok (.istore 6, 2) := by decide +kernel
theorem dX12_flight_46 : decode cX12_flight 46 = .ok (.iload_n 3, 1) := by decide +kernel
theorem dX12_flight_47 : decode cX12_flight 47 = .ok (.tableswitch 96 0 5 #[37, 43, 46, 56, 73, 86], 37) := by decide +kernel
theorem dX12_flight_84 : decode cX12_flight 84 = .ok (.aload 4, 2) := by decide +kernel
theorem dX12_flight_86 : decode cX12_flight 86 = .ok (.invokevirtual 186, 3) := by decide +kernel
theorem dX12_flight_89 : decode cX12_flight 89 = .ok (.ireturn, 1) := by decide +kernel
theorem dX12_flight_90 : decode cX12_flight 90 = .ok (.iload 6, 2) := by decide +kernel
theorem dX12_flight_92 : decode cX12_flight 92 = .ok (.ireturn, 1) := by decide +kernel
theorem dX12_flight_93 : decode cX12_flight 93 = .ok (.aload_n 0, 1) := by decide +kernel
theorem dX12_flight_94 : decode cX12_flight 94 = .ok (.getfield 28, 3) := by decide +kernel
theorem dX12_flight_97 : decode cX12_flight 97 = .ok (.iload 6, 2) := by decide +kernel
theorem dX12_flight_99 : decode cX12_flight 99 = .ok (.invokevirtual 189, 3) := by decide +kernel
theorem dX12_flight_102 : decode cX12_flight 102 = .ok (.ireturn, 1) := by decide +kernel
theorem dX12_flight_103 : decode cX12_flight 103 = .ok (.aload_n 0, 1) := by decide +kernel
theorem dX12_flight_104 : decode cX12_flight 104 = .ok (.getfield 28, 3) := by decide +kernel
theorem dX12_flight_107 : decode cX12_flight 107 = .ok (.aload 4, 2) := by decide +kernel
theorem dX12_flight_109 : decode cX12_flight 109 = .ok (.iload 6, 2) := by decide +kernel
theorem dX12_flight_111 : decode cX12_flight 111 = .ok (.aload 4, 2) := by decide +kernel
theorem dX12_flight_113 : decode cX12_flight 113 = .ok (.getfield 131, 3) := by decide +kernel
theorem dX12_flight_116 : decode cX12_flight 116 = .ok (.invokevirtual 192, 3) := by decide +kernel
theorem dX12_flight_119 : decode cX12_flight 119 = .ok (.ireturn, 1) := by decide +kernel
theorem dX12_flight_120 : decode cX12_flight 120 = .ok (.aload 5, 2) := by decide +kernel
theorem dX12_flight_122 : decode cX12_flight 122 = .ok (.aload 4, 2) := by decide +kernel
theorem dX12_flight_124 : decode cX12_flight 124 = .ok (.aload 4, 2) := by decide +kernel
theorem dX12_flight_126 : decode cX12_flight 126 = .ok (.getfield 131, 3) := by decide +kernel
theorem dX12_flight_129 : decode cX12_flight 129 = .ok (.invokevirtual 196, 3) := by decide +kernel
theorem dX12_flight_132 : decode cX12_flight 132 = .ok (.ireturn, 1) := by decide +kernel
theorem dX12_flight_133 : decode cX12_flight 133 = .ok (.aload_n 0, 1) := by decide +kernel
theorem dX12_flight_134 : decode cX12_flight 134 = .ok (.getfield 28, 3) := by decide +kernel
theorem dX12_flight_137 : decode cX12_flight 137 = .ok (.iload 6, 2) := by decide +kernel
theorem dX12_flight_139 : decode cX12_flight 139 = .ok (.invokevirtual 200, 3) := by decide +kernel
theorem dX12_flight_142 : decode cX12_flight 142 = .ok (.ireturn, 1) := by decide +kernel
theorem dX12_flight_143 : decode cX12_flight 143 = .ok (.ldc 156, 2) := by decide +kernel
theorem dX12_flight_145 : decode cX12_flight 145 = .ok (.ireturn, 1) := by decide +kernel
theorem dX12_band_0 : decode cX12_band 0 = .ok (.aload_n 0, 1) := by decide +kernel
theorem dX12_band_1 : decode cX12_band 1 = .ok (.getfield 75, 3) := by decide +kernel
theorem dX12_band_4 : decode cX12_band 4 = .ok (.iload_n 1, 1) := by decide +kernel
theorem dX12_band_5 : decode cX12_band 5 = .ok (.invokevirtual 137, 3) := by decide +kernel
theorem dX12_band_8 : decode cX12_band 8 = .ok (.astore 5, 2) := by decide +kernel
theorem dX12_band_10 : decode cX12_band 10 = .ok (.aload 5, 2) := by decide +kernel
theorem dX12_band_12 : decode cX12_band 12 = .ok (.ifnull 15, 3) := by decide +kernel
theorem dX12_band_15 : decode cX12_band 15 = .ok (.iload_n 2, 1) := by decide +kernel
theorem dX12_band_16 : decode cX12_band 16 = .ok (.bipush 80, 2) := by decide +kernel
theorem dX12_band_18 : decode cX12_band 18 = .ok (.sipush 130, 3) := by decide +kernel
theorem dX12_band_21 : decode cX12_band 21 = .ok (.invokestatic 86, 3) := by decide +kernel
theorem dX12_band_24 : decode cX12_band 24 = .ok (.ifCond .ne 5, 3) := by decide +kernel
theorem dX12_band_27 : decode cX12_band 27 = .ok (.iconst (-1), 1) := by decide +kernel
theorem dX12_band_28 : decode cX12_band 28 = .ok (.ireturn, 1) := by decide +kernel
theorem dX12_band_29 : decode cX12_band 29 = .ok (.iload_n 3, 1) := by decide +kernel
theorem dX12_band_30 : decode cX12_band 30 = .ok (.iconst 0, 1) := by decide +kernel
theorem dX12_band_31 : decode cX12_band 31 = .ok (.sipush 200, 3) := by decide +kernel
theorem dX12_band_34 : decode cX12_band 34 = .ok (.invokestatic 86, 3) := by decide +kernel
theorem dX12_band_37 : decode cX12_band 37 = .ok (.ifCond .eq 13, 3) := by decide +kernel
theorem dX12_band_40 : decode cX12_band 40 = .ok (.iload 4, 2) := by decide +kernel
theorem dX12_band_42 : decode cX12_band 42 = .ok (.iconst 0, 1) := by decide +kernel
theorem dX12_band_43 : decode cX12_band 43 = .ok (.iconst 1, 1) := by decide +kernel
theorem dX12_band_44 : decode cX12_band 44 = .ok (.invokestatic 86, 3) := by decide +kernel
theorem dX12_band_47 : decode cX12_band 47 = .ok (.ifCond .ne 5, 3) := by decide +kernel
theorem dX12_band_50 : decode cX12_band 50 = .ok (.iconst (-1), 1) := by decide +kernel
theorem dX12_band_51 : decode cX12_band 51 = .ok (.ireturn, 1) := by decide +kernel
theorem dX12_band_52 : decode cX12_band 52 = .ok (.bipush (-9), 2) := by decide +kernel
theorem dX12_band_54 : decode cX12_band 54 = .ok (.istore 6, 2) := by decide +kernel
theorem dX12_band_56 : decode cX12_band 56 = .ok (.bipush 20, 2) := by decide +kernel
theorem dX12_band_58 : decode cX12_band 58 = .ok (.istore 7, 2) := by decide +kernel
theorem dX12_band_60 : decode cX12_band 60 = .ok (.iload 7, 2) := by decide +kernel
theorem dX12_band_62 : decode cX12_band 62 = .ok (.bipush 99, 2) := by decide +kernel
theorem dX12_band_64 : decode cX12_band 64 = .ok (.if_icmp .gt 52, 3) := by decide +kernel
theorem dX12_band_67 : decode cX12_band 67 = .ok (.aload_n 0, 1) := by decide +kernel
theorem dX12_band_68 : decode cX12_band 68 = .ok (.getfield 28, 3) := by decide +kernel
theorem dX12_band_71 : decode cX12_band 71 = .ok (.iload 7, 2) := by decide +kernel
theorem dX12_band_73 : decode cX12_band 73 = .ok (.iload_n 2, 1) := by decide +kernel
theorem dX12_band_74 : decode cX12_band 74 = .ok (.iload_n 3, 1) := by decide +kernel
theorem dX12_band_75 : decode cX12_band 75 = .ok (.invokestatic 203, 3) := by decide +kernel
theorem dX12_band_78 : decode cX12_band 78 = .ok (.aload 5, 2) := by decide +kernel
theorem dX12_band_80 : decode cX12_band 80 = .ok (.invokevirtual 149, 3) := by decide +kernel
theorem dX12_band_83 : decode cX12_band 83 = .ok (.isub, 1) := by decide +kernel
theorem dX12_band_84 : decode cX12_band 84 = .ok (.invokevirtual 207, 3) := by decide +kernel
theorem dX12_band_87 : decode cX12_band 87 = .ok (.ifCond .ne 6, 3) := by decide +kernel
theorem dX12_band_90 : decode cX12_band 90 = .ok (.goto 20, 3) := by decide +kernel
theorem dX12_band_93 : decode cX12_band 93 = .ok (.iload 6, 2) := by decide +kernel
theorem dX12_band_95 : decode cX12_band 95 = .ok (.bipush (-9), 2) := by decide +kernel
theorem dX12_band_97 : decode cX12_band 97 = .ok (.if_icmp .eq 9, 3) := by decide +kernel
theorem dX12_band_100 : decode cX12_band 100 = .ok (.iload 4, 2) := by decide +kernel
theorem dX12_band_102 : decode cX12_band 102 = .ok (.iconst 1, 1) := by decide +kernel
theorem dX12_band_103 : decode cX12_band 103 = .ok (.if_icmp .ne 7, 3) := by decide +kernel
theorem dX12_band_106 : decode cX12_band 106 = .ok (.iload 7, 2) := by decide +kernel
theorem dX12_band_108 : decode cX12_band 108 = .ok (.istore 6, 2) := by decide +kernel
theorem dX12_band_110 : decode cX12_band 110 = .ok (.iinc 7 1, 3) := by decide +kernel
theorem dX12_band_113 : decode cX12_band 113 = .ok (.goto (-53), 3) := by decide +kernel
theorem dX12_band_116 : decode cX12_band 116 = .ok (.iload 6, 2) := by decide +kernel
theorem dX12_band_118 : decode cX12_band 118 = .ok (.ireturn, 1) := by decide +kernel
theorem dX12_says_0 : decode cX12_says 0 = .ok (.iload_n 1, 1) := by decide +kernel
theorem dX12_says_1 : decode cX12_says 1 = .ok (.sipush (-999), 3) := by decide +kernel
theorem dX12_says_4 : decode cX12_says 4 = .ok (.sipush 999, 3) := by decide +kernel
theorem dX12_says_7 : decode cX12_says 7 = .ok (.invokestatic 86, 3) := by decide +kernel
theorem dX12_says_10 : decode cX12_says 10 = .ok (.ifCond .eq 22, 3) := by decide +kernel
theorem dX12_says_13 : decode cX12_says 13 = .ok (.iload_n 2, 1) := by decide +kernel
theorem dX12_says_14 : decode cX12_says 14 = .ok (.iconst 0, 1) := by decide +kernel
theorem dX12_says_15 : decode cX12_says 15 = .ok (.bipush 9, 2) := by decide +kernel
theorem dX12_says_17 : decode cX12_says 17 = .ok (.invokestatic 86, 3) := by decide +kernel
theorem dX12_says_20 : decode cX12_says 20 = .ok (.ifCond .eq 12, 3) := by decide +kernel
theorem dX12_says_23 : decode cX12_says 23 = .ok (.iload_n 3, 1) := by decide +kernel
theorem dX12_says_24 : decode cX12_says 24 = .ok (.iconst 0, 1) := by decide +kernel
theorem dX12_says_25 : decode cX12_says 25 = .ok (.iconst 1, 1) := by decide +kernel
theorem dX12_says_26 : decode cX12_says 26 = .ok (.invokestatic 86, 3) := by decide +kernel
theorem dX12_says_29 : decode cX12_says 29 = .ok (.ifCond .ne 6, 3) := by decide +kernel
theorem dX12_says_32 : decode cX12_says 32 = .ok (.ldc 156, 2) := by decide +kernel
theorem dX12_says_34 : decode cX12_says 34 = .ok (.ireturn, 1) := by decide +kernel
theorem dX12_says_35 : decode cX12_says 35 = .ok (.ldc 156, 2) := by decide +kernel
theorem dX12_says_37 : decode cX12_says 37 = .ok (.istore 4, 2) := by decide +kernel
theorem dX12_says_39 : decode cX12_says 39 = .ok (.bipush (-60), 2) := by decide +kernel
theorem dX12_says_41 : decode cX12_says 41 = .ok (.istore 5, 2) := by decide +kernel
theorem dX12_says_43 : decode cX12_says 43 = .ok (.iload 5, 2) := by decide +kernel
theorem dX12_says_45 : decode cX12_says 45 = .ok (.bipush 60, 2) := by decide +kernel
theorem dX12_says_47 : decode cX12_says 47 = .ok (.if_icmp .gt 52, 3) := by decide +kernel
theorem dX12_says_50 : decode cX12_says 50 = .ok (.aload_n 0, 1) := by decide +kernel
theorem dX12_says_51 : decode cX12_says 51 = .ok (.getfield 28, 3) := by decide +kernel
theorem dX12_says_54 : decode cX12_says 54 = .ok (.iload 5, 2) := by decide +kernel
theorem dX12_says_56 : decode cX12_says 56 = .ok (.iload_n 2, 1) := by decide +kernel
theorem dX12_says_57 : decode cX12_says 57 = .ok (.invokevirtual 211, 3) := by decide +kernel
theorem dX12_says_60 : decode cX12_says 60 = .ok (.aload_n 0, 1) := by decide +kernel
theorem dX12_says_61 : decode cX12_says 61 = .ok (.getfield 28, 3) := by decide +kernel
theorem dX12_says_64 : decode cX12_says 64 = .ok (.iload 5, 2) := by decide +kernel
theorem dX12_says_66 : decode cX12_says 66 = .ok (.invokevirtual 189, 3) := by decide +kernel
theorem dX12_says_69 : decode cX12_says 69 = .ok (.isub, 1) := by decide +kernel
theorem dX12_says_70 : decode cX12_says 70 = .ok (.iload_n 1, 1) := by decide +kernel
theorem dX12_says_71 : decode cX12_says 71 = .ok (.if_icmp .eq 6, 3) := by decide +kernel
theorem dX12_says_74 : decode cX12_says 74 = .ok (.goto 19, 3) := by decide +kernel
theorem dX12_says_77 : decode cX12_says 77 = .ok (.iload 4, 2) := by decide +kernel
theorem dX12_says_79 : decode cX12_says 79 = .ok (.ldc 156, 2) := by decide +kernel
theorem dX12_says_81 : decode cX12_says 81 = .ok (.if_icmp .eq 8, 3) := by decide +kernel
theorem dX12_says_84 : decode cX12_says 84 = .ok (.iload_n 3, 1) := by decide +kernel
theorem dX12_says_85 : decode cX12_says 85 = .ok (.iconst 1, 1) := by decide +kernel
theorem dX12_says_86 : decode cX12_says 86 = .ok (.if_icmp .ne 7, 3) := by decide +kernel
theorem dX12_says_89 : decode cX12_says 89 = .ok (.iload 5, 2) := by decide +kernel
theorem dX12_says_91 : decode cX12_says 91 = .ok (.istore 4, 2) := by decide +kernel
theorem dX12_says_93 : decode cX12_says 93 = .ok (.iinc 5 1, 3) := by decide +kernel
theorem dX12_says_96 : decode cX12_says 96 = .ok (.goto (-53), 3) := by decide +kernel
theorem dX12_says_99 : decode cX12_says 99 = .ok (.iload 4, 2) := by decide +kernel
theorem dX12_says_101 : decode cX12_says 101 = .ok (.ireturn, 1) := by decide +kernel
theorem dX12_alike_0 : decode cX12_alike 0 = .ok (.aload_n 0, 1) := by decide +kernel
theorem dX12_alike_1 : decode cX12_alike 1 = .ok (.getfield 75, 3) := by decide +kernel
theorem dX12_alike_4 : decode cX12_alike 4 = .ok (.iload_n 1, 1) := by decide +kernel
theorem dX12_alike_5 : decode cX12_alike 5 = .ok (.invokevirtual 137, 3) := by decide +kernel
theorem dX12_alike_8 : decode cX12_alike 8 = .ok (.astore 5, 2) := by decide +kernel
theorem dX12_alike_10 : decode cX12_alike 10 = .ok (.aload 5, 2) := by decide +kernel
theorem dX12_alike_12 : decode cX12_alike 12 = .ok (.ifnull 35, 3) := by decide +kernel
theorem dX12_alike_15 : decode cX12_alike 15 = .ok (.iload_n 2, 1) := by decide +kernel
theorem dX12_alike_16 : decode cX12_alike 16 = .ok (.iconst 0, 1) := by decide +kernel
theorem dX12_alike_17 : decode cX12_alike 17 = .ok (.sipush 999, 3) := by decide +kernel
theorem dX12_alike_20 : decode cX12_alike 20 = .ok (.invokestatic 86, 3) := by decide +kernel
theorem dX12_alike_23 : decode cX12_alike 23 = .ok (.ifCond .eq 24, 3) := by decide +kernel
theorem dX12_alike_26 : decode cX12_alike 26 = .ok (.iload_n 3, 1) := by decide +kernel
theorem dX12_alike_27 : decode cX12_alike 27 = .ok (.iconst 0, 1) := by decide +kernel
theorem dX12_alike_28 : decode cX12_alike 28 = .ok (.sipush 999, 3) := by decide +kernel
theorem dX12_alike_31 : decode cX12_alike 31 = .ok (.invokestatic 86, 3) := by decide +kernel
theorem dX12_alike_34 : decode cX12_alike 34 = .ok (.ifCond .eq 13, 3) := by decide +kernel
theorem dX12_alike_37 : decode cX12_alike 37 = .ok (.iload 4, 2) := by decide +kernel
theorem dX12_alike_39 : decode cX12_alike 39 = .ok (.iconst 0, 1) := by decide +kernel
theorem dX12_alike_40 : decode cX12_alike 40 = .ok (.iconst 1, 1) := by decide +kernel
theorem dX12_alike_41 : decode cX12_alike 41 = .ok (.invokestatic 86, 3) := by decide +kernel
theorem dX12_alike_44 : decode cX12_alike 44 = .ok (.ifCond .ne 5, 3) := by decide +kernel
theorem dX12_alike_47 : decode cX12_alike 47 = .ok (.iconst (-1), 1) := by decide +kernel
theorem dX12_alike_48 : decode cX12_alike 48 = .ok (.ireturn, 1) := by decide +kernel
theorem dX12_alike_49 : decode cX12_alike 49 = .ok (.aload_n 0, 1) := by decide +kernel
theorem dX12_alike_50 : decode cX12_alike 50 = .ok (.getfield 42, 3) := by decide +kernel
theorem dX12_alike_53 : decode cX12_alike 53 = .ok (.aload_n 0, 1) := by decide +kernel
theorem dX12_alike_54 : decode cX12_alike 54 = .ok (.getfield 75, 3) := by decide +kernel
theorem dX12_alike_57 : decode cX12_alike 57 = .ok (.aload 5, 2) := by decide +kernel
theorem dX12_alike_59 : decode cX12_alike 59 = .ok (.aload_n 0, 1) := by decide +kernel
theorem dX12_alike_60 : decode cX12_alike 60 = .ok (.getfield 28, 3) := by decide +kernel
theorem dX12_alike_63 : decode cX12_alike 63 = .ok (.iconst 0, 1) := by decide +kernel
theorem dX12_alike_64 : decode cX12_alike 64 = .ok (.invokevirtual 214, 3) := by decide +kernel
theorem dX12_alike_67 : decode cX12_alike 67 = .ok (.aload_n 0, 1) := by decide +kernel
theorem dX12_alike_68 : decode cX12_alike 68 = .ok (.getfield 42, 3) := by decide +kernel
theorem dX12_alike_71 : decode cX12_alike 71 = .ok (.iload_n 2, 1) := by decide +kernel
theorem dX12_alike_72 : decode cX12_alike 72 = .ok (.iload_n 3, 1) := by decide +kernel
theorem dX12_alike_73 : decode cX12_alike 73 = .ok (.invokevirtual 218, 3) := by decide +kernel
theorem dX12_alike_76 : decode cX12_alike 76 = .ok (.iload 4, 2) := by decide +kernel
theorem dX12_alike_78 : decode cX12_alike 78 = .ok (.ifCond .ne 13, 3) := by decide +kernel
theorem dX12_alike_81 : decode cX12_alike 81 = .ok (.aload_n 0, 1) := by decide +kernel
theorem dX12_alike_82 : decode cX12_alike 82 = .ok (.getfield 42, 3) := by decide +kernel
theorem dX12_alike_85 : decode cX12_alike 85 = .ok (.getfield 221, 3) := by decide +kernel
theorem dX12_alike_88 : decode cX12_alike 88 = .ok (.goto 10, 3) := by decide +kernel
theorem dX12_alike_91 : decode cX12_alike 91 = .ok (.aload_n 0, 1) := by decide +kernel
theorem dX12_alike_92 : decode cX12_alike 92 = .ok (.getfield 42, 3) := by decide +kernel
theorem dX12_alike_95 : decode cX12_alike 95 = .ok (.getfield 224, 3) := by decide +kernel
theorem dX12_alike_98 : decode cX12_alike 98 = .ok (.ireturn, 1) := by decide +kernel
theorem dX12_turned_0 : decode cX12_turned 0 = .ok (.aload_n 0, 1) := by decide +kernel
theorem dX12_turned_1 : decode cX12_turned 1 = .ok (.getfield 75, 3) := by decide +kernel
theorem dX12_turned_4 : decode cX12_turned 4 = .ok (.iload_n 1, 1) := by decide +kernel
theorem dX12_turned_5 : decode cX12_turned 5 = .ok (.invokevirtual 137, 3) := by decide +kernel
theorem dX12_turned_8 : decode cX12_turned 8 = .ok (.astore 4, 2) := by decide +kernel
theorem dX12_turned_10 : decode cX12_turned 10 = .ok (.aload 4, 2) := by decide +kernel
theorem dX12_turned_12 : decode cX12_turned 12 = .ok (.ifnull 25, 3) := by decide +kernel
theorem dX12_turned_15 : decode cX12_turned 15 = .ok (.iload_n 2, 1) := by decide +kernel
theorem dX12_turned_16 : decode cX12_turned 16 = .ok (.iconst 0, 1) := by decide +kernel
theorem dX12_turned_17 : decode cX12_turned 17 = .ok (.sipush 999, 3) := by decide +kernel
theorem dX12_turned_20 : decode cX12_turned 20 = .ok (.invokestatic 86, 3) := by decide +kernel
theorem dX12_turned_23 : decode cX12_turned 23 = .ok (.ifCond .eq 14, 3) := by decide +kernel
theorem dX12_turned_26 : decode cX12_turned 26 = .ok (.iload_n 3, 1) := by decide +kernel
theorem dX12_turned_27 : decode cX12_turned 27 = .ok (.iconst 0, 1) := by decide +kernel
theorem dX12_turned_28 : decode cX12_turned 28 = .ok (.sipush 999, 3) := by decide +kernel
theorem dX12_turned_31 : decode cX12_turned 31 = .ok (.invokestatic 86, 3) := by decide +kernel
theorem dX12_turned_34 : decode cX12_turned 34 = .ok (.ifCond .ne 5, 3) := by decide +kernel
theorem dX12_turned_37 : decode cX12_turned 37 = .ok (.iconst (-1), 1) := by decide +kernel
theorem dX12_turned_38 : decode cX12_turned 38 = .ok (.ireturn, 1) := by decide +kernel
theorem dX12_turned_39 : decode cX12_turned 39 = .ok (.aload_n 0, 1) := by decide +kernel
theorem dX12_turned_40 : decode cX12_turned 40 = .ok (.getfield 42, 3) := by decide +kernel
theorem dX12_turned_43 : decode cX12_turned 43 = .ok (.aload_n 0, 1) := by decide +kernel
theorem dX12_turned_44 : decode cX12_turned 44 = .ok (.getfield 75, 3) := by decide +kernel
theorem dX12_turned_47 : decode cX12_turned 47 = .ok (.aload 4, 2) := by decide +kernel
theorem dX12_turned_49 : decode cX12_turned 49 = .ok (.aload_n 0, 1) := by decide +kernel
theorem dX12_turned_50 : decode cX12_turned 50 = .ok (.getfield 28, 3) := by decide +kernel
theorem dX12_turned_53 : decode cX12_turned 53 = .ok (.iconst 1, 1) := by decide +kernel
theorem dX12_turned_54 : decode cX12_turned 54 = .ok (.invokevirtual 214, 3) := by decide +kernel
theorem dX12_turned_57 : decode cX12_turned 57 = .ok (.aload_n 0, 1) := by decide +kernel
theorem dX12_turned_58 : decode cX12_turned 58 = .ok (.getfield 42, 3) := by decide +kernel
theorem dX12_turned_61 : decode cX12_turned 61 = .ok (.iload_n 2, 1) := by decide +kernel
theorem dX12_turned_62 : decode cX12_turned 62 = .ok (.iload_n 3, 1) := by decide +kernel
theorem dX12_turned_63 : decode cX12_turned 63 = .ok (.invokevirtual 218, 3) := by decide +kernel
theorem dX12_turned_66 : decode cX12_turned 66 = .ok (.aload_n 0, 1) := by decide +kernel
theorem dX12_turned_67 : decode cX12_turned 67 = .ok (.getfield 42, 3) := by decide +kernel
theorem dX12_turned_70 : decode cX12_turned 70 = .ok (.getfield 224, 3) := by decide +kernel
theorem dX12_turned_73 : decode cX12_turned 73 = .ok (.ireturn, 1) := by decide +kernel
theorem dX12_wreck_0 : decode cX12_wreck 0 = .ok (.aload_n 0, 1) := by decide +kernel
theorem dX12_wreck_1 : decode cX12_wreck 1 = .ok (.getfield 75, 3) := by decide +kernel
theorem dX12_wreck_4 : decode cX12_wreck 4 = .ok (.iload_n 1, 1) := by decide +kernel
theorem dX12_wreck_5 : decode cX12_wreck 5 = .ok (.invokevirtual 110, 3) := by decide +kernel
theorem dX12_wreck_8 : decode cX12_wreck 8 = .ok (.astore 4, 2) := by decide +kernel
theorem dX12_wreck_10 : decode cX12_wreck 10 = .ok (.aload 4, 2) := by decide +kernel
theorem dX12_wreck_12 : decode cX12_wreck 12 = .ok (.ifnull 22, 3) := by decide +kernel
theorem dX12_wreck_15 : decode cX12_wreck 15 = .ok (.iload_n 2, 1) := by decide +kernel
theorem dX12_wreck_16 : decode cX12_wreck 16 = .ok (.iconst 0, 1) := by decide +kernel
theorem dX12_wreck_17 : decode cX12_wreck 17 = .ok (.bipush 9, 2) := by decide +kernel
theorem dX12_wreck_19 : decode cX12_wreck 19 = .ok (.invokestatic 86, 3) := by decide +kernel
theorem dX12_wreck_22 : decode cX12_wreck 22 = .ok (.ifCond .eq 12, 3) := by decide +kernel
theorem dX12_wreck_25 : decode cX12_wreck 25 = .ok (.iload_n 3, 1) := by decide +kernel
theorem dX12_wreck_26 : decode cX12_wreck 26 = .ok (.iconst 0, 1) := by decide +kernel
theorem dX12_wreck_27 : decode cX12_wreck 27 = .ok (.iconst 1, 1) := by decide +kernel
theorem dX12_wreck_28 : decode cX12_wreck 28 = .ok (.invokestatic 86, 3) := by decide +kernel
theorem dX12_wreck_31 : decode cX12_wreck 31 = .ok (.ifCond .ne 5, 3) := by decide +kernel
theorem dX12_wreck_34 : decode cX12_wreck 34 = .ok (.iconst (-1), 1) := by decide +kernel
theorem dX12_wreck_35 : decode cX12_wreck 35 = .ok (.ireturn, 1) := by decide +kernel
theorem dX12_wreck_36 : decode cX12_wreck 36 = .ok (.bipush (-9), 2) := by decide +kernel
theorem dX12_wreck_38 : decode cX12_wreck 38 = .ok (.istore 5, 2) := by decide +kernel
theorem dX12_wreck_40 : decode cX12_wreck 40 = .ok (.bipush 20, 2) := by decide +kernel
theorem dX12_wreck_42 : decode cX12_wreck 42 = .ok (.istore 6, 2) := by decide +kernel
theorem dX12_wreck_44 : decode cX12_wreck 44 = .ok (.iload 6, 2) := by decide +kernel
theorem dX12_wreck_46 : decode cX12_wreck 46 = .ok (.bipush 70, 2) := by decide +kernel
theorem dX12_wreck_48 : decode cX12_wreck 48 = .ok (.if_icmp .gt 50, 3) := by decide +kernel
theorem dX12_wreck_51 : decode cX12_wreck 51 = .ok (.aload_n 0, 1) := by decide +kernel
theorem dX12_wreck_52 : decode cX12_wreck 52 = .ok (.getfield 28, 3) := by decide +kernel
theorem dX12_wreck_55 : decode cX12_wreck 55 = .ok (.aload 4, 2) := by decide +kernel
theorem dX12_wreck_57 : decode cX12_wreck 57 = .ok (.invokevirtual 186, 3) := by decide +kernel
theorem dX12_wreck_60 : decode cX12_wreck 60 = .ok (.iload 6, 2) := by decide +kernel
theorem dX12_wreck_62 : decode cX12_wreck 62 = .ok (.iload_n 2, 1) := by decide +kernel
theorem dX12_wreck_63 : decode cX12_wreck 63 = .ok (.invokestatic 227, 3) := by decide +kernel
theorem dX12_wreck_66 : decode cX12_wreck 66 = .ok (.isub, 1) := by decide +kernel
theorem dX12_wreck_67 : decode cX12_wreck 67 = .ok (.invokevirtual 207, 3) := by decide +kernel
theorem dX12_wreck_70 : decode cX12_wreck 70 = .ok (.ifCond .ne 6, 3) := by decide +kernel
theorem dX12_wreck_73 : decode cX12_wreck 73 = .ok (.goto 19, 3) := by decide +kernel
theorem dX12_wreck_76 : decode cX12_wreck 76 = .ok (.iload 5, 2) := by decide +kernel
theorem dX12_wreck_78 : decode cX12_wreck 78 = .ok (.bipush (-9), 2) := by decide +kernel
theorem dX12_wreck_80 : decode cX12_wreck 80 = .ok (.if_icmp .eq 8, 3) := by decide +kernel
theorem dX12_wreck_83 : decode cX12_wreck 83 = .ok (.iload_n 3, 1) := by decide +kernel
theorem dX12_wreck_84 : decode cX12_wreck 84 = .ok (.iconst 1, 1) := by decide +kernel
theorem dX12_wreck_85 : decode cX12_wreck 85 = .ok (.if_icmp .ne 7, 3) := by decide +kernel
theorem dX12_wreck_88 : decode cX12_wreck 88 = .ok (.iload 6, 2) := by decide +kernel
theorem dX12_wreck_90 : decode cX12_wreck 90 = .ok (.istore 5, 2) := by decide +kernel
theorem dX12_wreck_92 : decode cX12_wreck 92 = .ok (.iinc 6 1, 3) := by decide +kernel
theorem dX12_wreck_95 : decode cX12_wreck 95 = .ok (.goto (-51), 3) := by decide +kernel
theorem dX12_wreck_98 : decode cX12_wreck 98 = .ok (.iload 5, 2) := by decide +kernel
theorem dX12_wreck_100 : decode cX12_wreck 100 = .ok (.ireturn, 1) := by decide +kernel
theorem dX12_feather_0 : decode cX12_feather 0 = .ok (.aload_n 0, 1) := by decide +kernel
theorem dX12_feather_1 : decode cX12_feather 1 = .ok (.getfield 75, 3) := by decide +kernel
theorem dX12_feather_4 : decode cX12_feather 4 = .ok (.iload_n 1, 1) := by decide +kernel
theorem dX12_feather_5 : decode cX12_feather 5 = .ok (.invokevirtual 110, 3) := by decide +kernel
theorem dX12_feather_8 : decode cX12_feather 8 = .ok (.astore 4, 2) := by decide +kernel
theorem dX12_feather_10 : decode cX12_feather 10 = .ok (.aload_n 0, 1) := by decide +kernel
theorem dX12_feather_11 : decode cX12_feather 11 = .ok (.getfield 75, 3) := by decide +kernel
theorem dX12_feather_14 : decode cX12_feather 14 = .ok (.iload_n 2, 1) := by decide +kernel
theorem dX12_feather_15 : decode cX12_feather 15 = .ok (.invokevirtual 137, 3) := by decide +kernel
theorem dX12_feather_18 : decode cX12_feather 18 = .ok (.astore 5, 2) := by decide +kernel
theorem dX12_feather_20 : decode cX12_feather 20 = .ok (.aload 4, 2) := by decide +kernel
theorem dX12_feather_22 : decode cX12_feather 22 = .ok (.ifnull 18, 3) := by decide +kernel
theorem dX12_feather_25 : decode cX12_feather 25 = .ok (.aload 5, 2) := by decide +kernel
theorem dX12_feather_27 : decode cX12_feather 27 = .ok (.ifnull 13, 3) := by decide +kernel
theorem dX12_feather_30 : decode cX12_feather 30 = .ok (.iload_n 3, 1) := by decide +kernel
theorem dX12_feather_31 : decode cX12_feather 31 = .ok (.iconst 0, 1) := by decide +kernel
theorem dX12_feather_32 : decode cX12_feather 32 = .ok (.bipush 99, 2) := by decide +kernel
theorem dX12_feather_34 : decode cX12_feather 34 = .ok (.invokestatic 86, 3) := by decide +kernel
theorem dX12_feather_37 : decode cX12_feather 37 = .ok (.ifCond .ne 5, 3) := by decide +kernel
theorem dX12_feather_40 : decode cX12_feather 40 = .ok (.iconst (-1), 1) := by decide +kernel
theorem dX12_feather_41 : decode cX12_feather 41 = .ok (.ireturn, 1) := by decide +kernel
theorem dX12_feather_42 : decode cX12_feather 42 = .ok (.aload 4, 2) := by decide +kernel
theorem dX12_feather_44 : decode cX12_feather 44 = .ok (.invokevirtual 186, 3) := by decide +kernel
theorem dX12_feather_47 : decode cX12_feather 47 = .ok (.aload 5, 2) := by decide +kernel
theorem dX12_feather_49 : decode cX12_feather 49 = .ok (.invokevirtual 149, 3) := by decide +kernel
theorem dX12_feather_52 : decode cX12_feather 52 = .ok (.isub, 1) := by decide +kernel
theorem dX12_feather_53 : decode cX12_feather 53 = .ok (.istore 6, 2) := by decide +kernel
theorem dX12_feather_55 : decode cX12_feather 55 = .ok (.iconst 0, 1) := by decide +kernel
theorem dX12_feather_56 : decode cX12_feather 56 = .ok (.istore 7, 2) := by decide +kernel
theorem dX12_feather_58 : decode cX12_feather 58 = .ok (.iconst 0, 1) := by decide +kernel
theorem dX12_feather_59 : decode cX12_feather 59 = .ok (.istore 8, 2) := by decide +kernel
theorem dX12_feather_61 : decode cX12_feather 61 = .ok (.iconst 0, 1) := by decide +kernel
theorem dX12_feather_62 : decode cX12_feather 62 = .ok (.istore 9, 2) := by decide +kernel
theorem dX12_feather_64 : decode cX12_feather 64 = .ok (.iload 9, 2) := by decide +kernel
theorem dX12_feather_66 : decode cX12_feather 66 = .ok (.bipush 9, 2) := by decide +kernel
theorem dX12_feather_68 : decode cX12_feather 68 = .ok (.if_icmp .gt 65, 3) := by decide +kernel
theorem dX12_feather_71 : decode cX12_feather 71 = .ok (.aload_n 0, 1) := by decide +kernel
theorem dX12_feather_72 : decode cX12_feather 72 = .ok (.getfield 28, 3) := by decide +kernel
theorem dX12_feather_75 : decode cX12_feather 75 = .ok (.aload 4, 2) := by decide +kernel
theorem dX12_feather_77 : decode cX12_feather 77 = .ok (.iload 6, 2) := by decide +kernel
theorem dX12_feather_79 : decode cX12_feather 79 = .ok (.iload 9, 2) := by decide +kernel
theorem dX12_feather_81 : decode cX12_feather 81 = .ok (.invokevirtual 192, 3) := by decide +kernel
theorem dX12_feather_84 : decode cX12_feather 84 = .ok (.invokestatic 230, 3) := by decide +kernel
theorem dX12_feather_87 : decode cX12_feather 87 = .ok (.aload 5, 2) := by decide +kernel
theorem dX12_feather_89 : decode cX12_feather 89 = .ok (.aload 4, 2) := by decide +kernel
theorem dX12_feather_91 : decode cX12_feather 91 = .ok (.iload 9, 2) := by decide +kernel
theorem dX12_feather_93 : decode cX12_feather 93 = .ok (.invokevirtual 196, 3) := by decide +kernel
theorem dX12_feather_96 : decode cX12_feather 96 = .ok (.iload_n 3, 1) := by decide +kernel
theorem dX12_feather_97 : decode cX12_feather 97 = .ok (.imul, 1) := by decide +kernel
theorem dX12_feather_98 : decode cX12_feather 98 = .ok (.bipush 100, 2) := by decide +kernel
theorem dX12_feather_100 : decode cX12_feather 100 = .ok (.idiv, 1) := by decide +kernel
theorem dX12_feather_101 : decode cX12_feather 101 = .ok (.iadd, 1) := by decide +kernel
theorem dX12_feather_102 : decode cX12_feather 102 = .ok (.istore 10, 2) := by decide +kernel
theorem dX12_feather_104 : decode cX12_feather 104 = .ok (.iload 9, 2) := by decide +kernel
theorem dX12_feather_106 : decode cX12_feather 106 = .ok (.ifCond .le 13, 3) := by decide +kernel
theorem dX12_feather_109 : decode cX12_feather 109 = .ok (.iload 10, 2) := by decide +kernel
theorem dX12_feather_111 : decode cX12_feather 111 = .ok (.iload 8, 2) := by decide +kernel
theorem dX12_feather_113 : decode cX12_feather 113 = .ok (.if_icmp .lt 6, 3) := by decide +kernel
theorem dX12_feather_116 : decode cX12_feather 116 = .ok (.goto 11, 3) := by decide +kernel
theorem dX12_feather_119 : decode cX12_feather 119 = .ok (.iload 9, 2) := by decide +kernel
theorem dX12_feather_121 : decode cX12_feather 121 = .ok (.istore 7, 2) := by decide +kernel
theorem dX12_feather_123 : decode cX12_feather 123 = .ok (.iload 10, 2) := by decide +kernel
theorem dX12_feather_125 : decode cX12_feather 125 = .ok (.istore 8, 2) := by decide +kernel
theorem dX12_feather_127 : decode cX12_feather 127 = .ok (.iinc 9 1, 3) := by decide +kernel
theorem dX12_feather_130 : decode cX12_feather 130 = .ok (.goto (-66), 3) := by decide +kernel
theorem dX12_feather_133 : decode cX12_feather 133 = .ok (.iload 7, 2) := by decide +kernel
theorem dX12_feather_135 : decode cX12_feather 135 = .ok (.ireturn, 1) := by decide +kernel
theorem dX12_warm_0 : decode cX12_warm 0 = .ok (.aload_n 0, 1) := by decide +kernel
theorem dX12_warm_1 : decode cX12_warm 1 = .ok (.getfield 75, 3) := by decide +kernel
theorem dX12_warm_4 : decode cX12_warm 4 = .ok (.iload_n 1, 1) := by decide +kernel
theorem dX12_warm_5 : decode cX12_warm 5 = .ok (.invokevirtual 137, 3) := by decide +kernel
theorem dX12_warm_8 : decode cX12_warm 8 = .ok (.astore 4, 2) := by decide +kernel
theorem dX12_warm_10 : decode cX12_warm 10 = .ok (.aload 4, 2) := by decide +kernel
theorem dX12_warm_12 : decode cX12_warm 12 = .ok (.ifnull 22, 3) := by decide +kernel
theorem dX12_warm_15 : decode cX12_warm 15 = .ok (.iload_n 2, 1) := by decide +kernel
theorem dX12_warm_16 : decode cX12_warm 16 = .ok (.iconst 0, 1) := by decide +kernel
theorem dX12_warm_17 : decode cX12_warm 17 = .ok (.bipush 20, 2) := by decide +kernel
theorem dX12_warm_19 : decode cX12_warm 19 = .ok (.invokestatic 86, 3) := by decide +kernel
theorem dX12_warm_22 : decode cX12_warm 22 = .ok (.ifCond .eq 12, 3) := by decide +kernel
theorem dX12_warm_25 : decode cX12_warm 25 = .ok (.iload_n 3, 1) := by decide +kernel
theorem dX12_warm_26 : decode cX12_warm 26 = .ok (.iconst 0, 1) := by decide +kernel
theorem dX12_warm_27 : decode cX12_warm 27 = .ok (.iconst 1, 1) := by decide +kernel
theorem dX12_warm_28 : decode cX12_warm 28 = .ok (.invokestatic 86, 3) := by decide +kernel
theorem dX12_warm_31 : decode cX12_warm 31 = .ok (.ifCond .ne 5, 3) := by decide +kernel
theorem dX12_warm_34 : decode cX12_warm 34 = .ok (.iconst (-1), 1) := by decide +kernel
theorem dX12_warm_35 : decode cX12_warm 35 = .ok (.ireturn, 1) := by decide +kernel
theorem dX12_warm_36 : decode cX12_warm 36 = .ok (.iconst 1, 1) := by decide +kernel
theorem dX12_warm_37 : decode cX12_warm 37 = .ok (.aload 4, 2) := by decide +kernel
theorem dX12_warm_39 : decode cX12_warm 39 = .ok (.getfield 141, 3) := by decide +kernel
theorem dX12_warm_42 : decode cX12_warm 42 = .ok (.iload_n 2, 1) := by decide +kernel
theorem dX12_warm_43 : decode cX12_warm 43 = .ok (.isub, 1) := by decide +kernel
theorem dX12_warm_44 : decode cX12_warm 44 = .ok (.invokestatic 235, 3) := by decide +kernel
theorem dX12_warm_47 : decode cX12_warm 47 = .ok (.aload 4, 2) := by decide +kernel
theorem dX12_warm_49 : decode cX12_warm 49 = .ok (.getfield 146, 3) := by decide +kernel
theorem dX12_warm_52 : decode cX12_warm 52 = .ok (.invokestatic 227, 3) := by decide +kernel
theorem dX12_warm_55 : decode cX12_warm 55 = .ok (.istore 5, 2) := by decide +kernel
theorem dX12_warm_57 : decode cX12_warm 57 = .ok (.iconst 0, 1) := by decide +kernel
theorem dX12_warm_58 : decode cX12_warm 58 = .ok (.istore 6, 2) := by decide +kernel
theorem dX12_warm_60 : decode cX12_warm 60 = .ok (.iconst 0, 1) := by decide +kernel
theorem dX12_warm_61 : decode cX12_warm 61 = .ok (.istore 7, 2) := by decide +kernel
theorem dX12_warm_63 : decode cX12_warm 63 = .ok (.iload 7, 2) := by decide +kernel
theorem dX12_warm_65 : decode cX12_warm 65 = .ok (.aload_n 0, 1) := by decide +kernel
theorem dX12_warm_66 : decode cX12_warm 66 = .ok (.getfield 75, 3) := by decide +kernel
theorem dX12_warm_69 : decode cX12_warm 69 = .ok (.getfield 238, 3) := by decide +kernel
theorem dX12_warm_72 : decode cX12_warm 72 = .ok (.if_icmp .ge 79, 3) := by decide +kernel
theorem dX12_warm_75 : decode cX12_warm 75 = .ok (.aload_n 0, 1) := by decide +kernel
theorem dX12_warm_76 : decode cX12_warm 76 = .ok (.getfield 75, 3) := by decide +kernel
theorem dX12_warm_79 : decode cX12_warm 79 = .ok (.getfield 241, 3) := by decide +kernel
theorem dX12_warm_82 : decode cX12_warm 82 = .ok (.iload 7, 2) := by decide +kernel
theorem dX12_warm_84 : decode cX12_warm 84 = .ok (.aaload, 1) := by decide +kernel
theorem dX12_warm_85 : decode cX12_warm 85 = .ok (.invokevirtual 186, 3) := by decide +kernel
theorem dX12_warm_88 : decode cX12_warm 88 = .ok (.istore 8, 2) := by decide +kernel
theorem dX12_warm_90 : decode cX12_warm 90 = .ok (.aload_n 0, 1) := by decide +kernel
theorem dX12_warm_91 : decode cX12_warm 91 = .ok (.getfield 28, 3) := by decide +kernel
theorem dX12_warm_94 : decode cX12_warm 94 = .ok (.iload 8, 2) := by decide +kernel
theorem dX12_warm_96 : decode cX12_warm 96 = .ok (.aload 4, 2) := by decide +kernel
theorem dX12_warm_98 : decode cX12_warm 98 = .ok (.invokevirtual 149, 3) := by decide +kernel
theorem dX12_warm_101 : decode cX12_warm 101 = .ok (.isub, 1) := by decide +kernel
theorem dX12_warm_102 : decode cX12_warm 102 = .ok (.invokevirtual 207, 3) := by decide +kernel
theorem dX12_warm_105 : decode cX12_warm 105 = .ok (.istore 9, 2) := by decide +kernel
theorem dX12_warm_107 : decode cX12_warm 107 = .ok (.aload_n 0, 1) := by decide +kernel
theorem dX12_warm_108 : decode cX12_warm 108 = .ok (.getfield 28, 3) := by decide +kernel
theorem dX12_warm_111 : decode cX12_warm 111 = .ok (.iload 8, 2) := by decide +kernel
theorem dX12_warm_113 : decode cX12_warm 113 = .ok (.iload 5, 2) := by decide +kernel
theorem dX12_warm_115 : decode cX12_warm 115 = .ok (.isub, 1) := by decide +kernel
theorem dX12_warm_116 : decode cX12_warm 116 = .ok (.invokevirtual 207, 3) := by decide +kernel
theorem dX12_warm_119 : decode cX12_warm 119 = .ok (.istore 10, 2) := by decide +kernel
theorem dX12_warm_121 : decode cX12_warm 121 = .ok (.iload 9, 2) := by decide +kernel
theorem dX12_warm_123 : decode cX12_warm 123 = .ok (.iload 10, 2) := by decide +kernel
theorem dX12_warm_125 : decode cX12_warm 125 = .ok (.if_icmp .eq 20, 3) := by decide +kernel
theorem dX12_warm_128 : decode cX12_warm 128 = .ok (.iload 9, 2) := by decide +kernel
theorem dX12_warm_130 : decode cX12_warm 130 = .ok (.iload_n 3, 1) := by decide +kernel
theorem dX12_warm_131 : decode cX12_warm 131 = .ok (.ifCond .ne 7, 3) := by decide +kernel
theorem dX12_warm_134 : decode cX12_warm 134 = .ok (.iconst 1, 1) := by decide +kernel
theorem dX12_warm_135 : decode cX12_warm 135 = .ok (.goto 4, 3) := by decide +kernel
theorem dX12_warm_138 : decode cX12_warm 138 = .ok (.iconst 0, 1) := by decide +kernel
theorem dX12_warm_139 : decode cX12_warm 139 = .ok (.if_icmp .ne 6, 3) := by decide +kernel
theorem dX12_warm_142 : decode cX12_warm 142 = .ok (.iinc 6 1, 3) := by decide +kernel
theorem dX12_warm_145 : decode cX12_warm 145 = .ok (.iinc 7 1, 3) := by decide +kernel
theorem dX12_warm_148 : decode cX12_warm 148 = .ok (.goto (-85), 3) := by decide +kernel
theorem dX12_warm_151 : decode cX12_warm 151 = .ok (.iload 6, 2) := by decide +kernel
theorem dX12_warm_153 : decode cX12_warm 153 = .ok (.ireturn, 1) := by decide +kernel
theorem dX12_shoot_0 : decode cX12_shoot 0 = .ok (.aload_n 0, 1) := by decide +kernel
theorem dX12_shoot_1 : decode cX12_shoot 1 = .ok (.getfield 75, 3) := by decide +kernel
theorem dX12_shoot_4 : decode cX12_shoot 4 = .ok (.iload_n 1, 1) := by decide +kernel
theorem dX12_shoot_5 : decode cX12_shoot 5 = .ok (.invokevirtual 110, 3) := by decide +kernel
theorem dX12_shoot_8 : decode cX12_shoot 8 = .ok (.astore 4, 2) := by decide +kernel
theorem dX12_shoot_10 : decode cX12_shoot 10 = .ok (.aload_n 0, 1) := by decide +kernel
theorem dX12_shoot_11 : decode cX12_shoot 11 = .ok (.getfield 75, 3) := by decide +kernel
theorem dX12_shoot_14 : decode cX12_shoot 14 = .ok (.iload_n 2, 1) := by decide +kernel
theorem dX12_shoot_15 : decode cX12_shoot 15 = .ok (.invokevirtual 137, 3) := by decide +kernel
theorem dX12_shoot_18 : decode cX12_shoot 18 = .ok (.astore 5, 2) := by decide +kernel
theorem dX12_shoot_20 : decode cX12_shoot 20 = .ok (.aload_n 0, 1) := by decide +kernel
theorem dX12_shoot_21 : decode cX12_shoot 21 = .ok (.getfield 75, 3) := by decide +kernel
theorem dX12_shoot_24 : decode cX12_shoot 24 = .ok (.iload_n 3, 1) := by decide +kernel
theorem dX12_shoot_25 : decode cX12_shoot 25 = .ok (.invokevirtual 152, 3) := by decide +kernel
theorem dX12_shoot_28 : decode cX12_shoot 28 = .ok (.astore 6, 2) := by decide +kernel
theorem dX12_shoot_30 : decode cX12_shoot 30 = .ok (.aload 4, 2) := by decide +kernel
theorem dX12_shoot_32 : decode cX12_shoot 32 = .ok (.ifnull 25, 3) := by decide +kernel
theorem dX12_shoot_35 : decode cX12_shoot 35 = .ok (.aload 5, 2) := by decide +kernel
theorem dX12_shoot_37 : decode cX12_shoot 37 = .ok (.ifnull 20, 3) := by decide +kernel
theorem dX12_shoot_40 : decode cX12_shoot 40 = .ok (.aload 6, 2) := by decide +kernel
theorem dX12_shoot_42 : decode cX12_shoot 42 = .ok (.ifnull 15, 3) := by decide +kernel
theorem dX12_shoot_45 : decode cX12_shoot 45 = .ok (.aload_n 0, 1) := by decide +kernel
theorem dX12_shoot_46 : decode cX12_shoot 46 = .ok (.getfield 35, 3) := by decide +kernel
theorem dX12_shoot_49 : decode cX12_shoot 49 = .ok (.getfield 245, 3) := by decide +kernel
theorem dX12_shoot_52 : decode cX12_shoot 52 = .ok (.bipush 60, 2) := by decide +kernel
theorem dX12_shoot_54 : decode cX12_shoot 54 = .ok (.if_icmp .lt 6, 3) := by decide +kernel
theorem dX12_shoot_57 : decode cX12_shoot 57 = .ok (.ldc 156, 2) := by decide +kernel
theorem dX12_shoot_59 : decode cX12_shoot 59 = .ok (.ireturn, 1) := by decide +kernel
theorem dX12_shoot_60 : decode cX12_shoot 60 = .ok (.aload_n 0, 1) := by decide +kernel
theorem dX12_shoot_61 : decode cX12_shoot 61 = .ok (.aload_n 0, 1) := by decide +kernel
theorem dX12_shoot_62 : decode cX12_shoot 62 = .ok (.getfield 82, 3) := by decide +kernel
theorem dX12_shoot_65 : decode cX12_shoot 65 = .ok (.ldc 246, 2) := by decide +kernel
theorem dX12_shoot_67 : decode cX12_shoot 67 = .ok (.imul, 1) := by decide +kernel
theorem dX12_shoot_68 : decode cX12_shoot 68 = .ok (.sipush 12345, 3) := by decide +kernel
theorem dX12_shoot_71 : decode cX12_shoot 71 = .ok (.iadd, 1) := by decide +kernel
theorem dX12_shoot_72 : decode cX12_shoot 72 = .ok (.putfield 82, 3) := by decide +kernel
theorem dX12_shoot_75 : decode cX12_shoot 75 = .ok (.aload_n 0, 1) := by decide +kernel
theorem dX12_shoot_76 : decode cX12_shoot 76 = .ok (.getfield 82, 3) := by decide +kernel
theorem dX12_shoot_79 : decode cX12_shoot 79 = .ok (.bipush 16, 2) := by decide +kernel
theorem dX12_shoot_81 : decode cX12_shoot 81 = .ok (.iushr, 1) := by decide +kernel
theorem dX12_shoot_82 : decode cX12_shoot 82 = .ok (.iconst 2, 1) := by decide +kernel
theorem dX12_shoot_83 : decode cX12_shoot 83 = .ok (.aload 6, 2) := by decide +kernel
theorem dX12_shoot_85 : decode cX12_shoot 85 = .ok (.getfield 162, 3) := by decide +kernel
theorem dX12_shoot_88 : decode cX12_shoot 88 = .ok (.imul, 1) := by decide +kernel
theorem dX12_shoot_89 : decode cX12_shoot 89 = .ok (.iconst 1, 1) := by decide +kernel
theorem dX12_shoot_90 : decode cX12_shoot 90 = .ok (.iadd, 1) := by decide +kernel
theorem dX12_shoot_91 : decode cX12_shoot 91 = .ok (.invokestatic 247, 3) := by decide +kernel
theorem dX12_shoot_94 : decode cX12_shoot 94 = .ok (.istore 7, 2) := by decide +kernel
theorem dX12_shoot_96 : decode cX12_shoot 96 = .ok (.aload_n 0, 1) := by decide +kernel
theorem dX12_shoot_97 : decode cX12_shoot 97 = .ok (.getfield 28, 3) := by decide +kernel
theorem dX12_shoot_100 : decode cX12_shoot 100 = .ok (.aload 4, 2) := by decide +kernel
theorem dX12_shoot_102 : decode cX12_shoot 102 = .ok (.aload 4, 2) := by decide +kernel
theorem dX12_shoot_104 : decode cX12_shoot 104 = .ok (.invokevirtual 186, 3) := by decide +kernel
theorem dX12_shoot_107 : decode cX12_shoot 107 = .ok (.aload 5, 2) := by decide +kernel
theorem dX12_shoot_109 : decode cX12_shoot 109 = .ok (.invokevirtual 149, 3) := by decide +kernel
theorem dX12_shoot_112 : decode cX12_shoot 112 = .ok (.isub, 1) := by decide +kernel
theorem dX12_shoot_113 : decode cX12_shoot 113 = .ok (.aload 4, 2) := by decide +kernel
theorem dX12_shoot_115 : decode cX12_shoot 115 = .ok (.getfield 131, 3) := by decide +kernel
theorem dX12_shoot_118 : decode cX12_shoot 118 = .ok (.invokevirtual 192, 3) := by decide +kernel
theorem dX12_shoot_121 : decode cX12_shoot 121 = .ok (.istore 8, 2) := by decide +kernel
theorem dX12_shoot_123 : decode cX12_shoot 123 = .ok (.iload 8, 2) := by decide +kernel
theorem dX12_shoot_125 : decode cX12_shoot 125 = .ok (.aload 6, 2) := by decide +kernel
theorem dX12_shoot_127 : decode cX12_shoot 127 = .ok (.getfield 157, 3) := by decide +kernel
theorem dX12_shoot_130 : decode cX12_shoot 130 = .ok (.iadd, 1) := by decide +kernel
theorem dX12_shoot_131 : decode cX12_shoot 131 = .ok (.iload 7, 2) := by decide +kernel
theorem dX12_shoot_133 : decode cX12_shoot 133 = .ok (.iadd, 1) := by decide +kernel
theorem dX12_shoot_134 : decode cX12_shoot 134 = .ok (.aload 6, 2) := by decide +kernel
theorem dX12_shoot_136 : decode cX12_shoot 136 = .ok (.getfield 162, 3) := by decide +kernel
theorem dX12_shoot_139 : decode cX12_shoot 139 = .ok (.isub, 1) := by decide +kernel
theorem dX12_shoot_140 : decode cX12_shoot 140 = .ok (.istore 9, 2) := by decide +kernel
theorem dX12_shoot_142 : decode cX12_shoot 142 = .ok (.aload_n 0, 1) := by decide +kernel
theorem dX12_shoot_143 : decode cX12_shoot 143 = .ok (.getfield 35, 3) := by decide +kernel
theorem dX12_shoot_146 : decode cX12_shoot 146 = .ok (.iload_n 1, 1) := by decide +kernel
theorem dX12_shoot_147 : decode cX12_shoot 147 = .ok (.iload_n 2, 1) := by decide +kernel
theorem dX12_shoot_148 : decode cX12_shoot 148 = .ok (.iload_n 3, 1) := by decide +kernel
theorem dX12_shoot_149 : decode cX12_shoot 149 = .ok (.iload 9, 2) := by decide +kernel
theorem dX12_shoot_151 : decode cX12_shoot 151 = .ok (.aload 5, 2) := by decide +kernel
theorem dX12_shoot_153 : decode cX12_shoot 153 = .ok (.aload 4, 2) := by decide +kernel
theorem dX12_shoot_155 : decode cX12_shoot 155 = .ok (.aload 4, 2) := by decide +kernel
theorem dX12_shoot_157 : decode cX12_shoot 157 = .ok (.getfield 131, 3) := by decide +kernel
theorem dX12_shoot_160 : decode cX12_shoot 160 = .ok (.invokevirtual 196, 3) := by decide +kernel
theorem dX12_shoot_163 : decode cX12_shoot 163 = .ok (.invokevirtual 250, 3) := by decide +kernel
theorem dX12_shoot_166 : decode cX12_shoot 166 = .ok (.iload 9, 2) := by decide +kernel
theorem dX12_shoot_168 : decode cX12_shoot 168 = .ok (.ireturn, 1) := by decide +kernel
theorem dX12_shot_0 : decode cX12_shot 0 = .ok (.aload_n 0, 1) := by decide +kernel
theorem dX12_shot_1 : decode cX12_shot 1 = .ok (.getfield 35, 3) := by decide +kernel
theorem dX12_shot_4 : decode cX12_shot 4 = .ok (.iload_n 1, 1) := by decide +kernel
theorem dX12_shot_5 : decode cX12_shot 5 = .ok (.iload_n 2, 1) := by decide +kernel
theorem dX12_shot_6 : decode cX12_shot 6 = .ok (.invokevirtual 253, 3) := by decide +kernel
theorem dX12_shot_9 : decode cX12_shot 9 = .ok (.ireturn, 1) := by decide +kernel
theorem dX12_wipe_0 : decode cX12_wipe 0 = .ok (.aload_n 0, 1) := by decide +kernel
theorem dX12_wipe_1 : decode cX12_wipe 1 = .ok (.getfield 35, 3) := by decide +kernel
theorem dX12_wipe_4 : decode cX12_wipe 4 = .ok (.invokevirtual 105, 3) := by decide +kernel
theorem dX12_wipe_7 : decode cX12_wipe 7 = .ok (.ireturn, 1) := by decide +kernel
theorem dX12_parted_0 : decode cX12_parted 0 = .ok (.aload_n 0, 1) := by decide +kernel
theorem dX12_parted_1 : decode cX12_parted 1 = .ok (.getfield 35, 3) := by decide +kernel
theorem dX12_parted_4 : decode cX12_parted 4 = .ok (.invokevirtual 255, 3) := by decide +kernel
theorem dX12_parted_7 : decode cX12_parted 7 = .ok (.ireturn, 1) := by decide +kernel
theorem dX12_spread_0 : decode cX12_spread 0 = .ok (.aload_n 0, 1) := by decide +kernel
theorem dX12_spread_1 : decode cX12_spread 1 = .ok (.getfield 75, 3) := by decide +kernel
theorem dX12_spread_4 : decode cX12_spread 4 = .ok (.iload_n 1, 1) := by decide +kernel
theorem dX12_spread_5 : decode cX12_spread 5 = .ok (.invokevirtual 110, 3) := by decide +kernel
theorem dX12_spread_8 : decode cX12_spread 8 = .ok (.ifnonnull 5, 3) := by decide +kernel
theorem dX12_spread_11 : decode cX12_spread 11 = .ok (.iconst (-1), 1) := by decide +kernel
theorem dX12_spread_12 : decode cX12_spread 12 = .ok (.ireturn, 1) := by decide +kernel
theorem dX12_spread_13 : decode cX12_spread 13 = .ok (.aload_n 0, 1) := by decide +kernel
theorem dX12_spread_14 : decode cX12_spread 14 = .ok (.getfield 35, 3) := by decide +kernel
theorem dX12_spread_17 : decode cX12_spread 17 = .ok (.iload_n 1, 1) := by decide +kernel
theorem dX12_spread_18 : decode cX12_spread 18 = .ok (.invokevirtual 258, 3) := by decide +kernel
theorem dX12_spread_21 : decode cX12_spread 21 = .ok (.ireturn, 1) := by decide +kernel
theorem dX12_out_0 : decode cX12_out 0 = .ok (.aload_n 0, 1) := by decide +kernel
theorem dX12_out_1 : decode cX12_out 1 = .ok (.getfield 75, 3) := by decide +kernel
theorem dX12_out_4 : decode cX12_out 4 = .ok (.iload_n 1, 1) := by decide +kernel
theorem dX12_out_5 : decode cX12_out 5 = .ok (.invokevirtual 110, 3) := by decide +kernel
theorem dX12_out_8 : decode cX12_out 8 = .ok (.ifnull 13, 3) := by decide +kernel
theorem dX12_out_11 : decode cX12_out 11 = .ok (.iload_n 2, 1) := by decide +kernel
theorem dX12_out_12 : decode cX12_out 12 = .ok (.iconst 0, 1) := by decide +kernel
theorem dX12_out_13 : decode cX12_out 13 = .ok (.bipush 99, 2) := by decide +kernel
theorem dX12_out_15 : decode cX12_out 15 = .ok (.invokestatic 86, 3) := by decide +kernel
theorem dX12_out_18 : decode cX12_out 18 = .ok (.ifCond .ne 5, 3) := by decide +kernel
theorem dX12_out_21 : decode cX12_out 21 = .ok (.iconst (-1), 1) := by decide +kernel
theorem dX12_out_22 : decode cX12_out 22 = .ok (.ireturn, 1) := by decide +kernel
theorem dX12_out_23 : decode cX12_out 23 = .ok (.aload_n 0, 1) := by decide +kernel
theorem dX12_out_24 : decode cX12_out 24 = .ok (.getfield 35, 3) := by decide +kernel
theorem dX12_out_27 : decode cX12_out 27 = .ok (.iload_n 1, 1) := by decide +kernel
theorem dX12_out_28 : decode cX12_out 28 = .ok (.iload_n 2, 1) := by decide +kernel
theorem dX12_out_29 : decode cX12_out 29 = .ok (.invokevirtual 261, 3) := by decide +kernel
theorem dX12_out_32 : decode cX12_out 32 = .ok (.ireturn, 1) := by decide +kernel
theorem dX12_lot_0 : decode cX12_lot 0 = .ok (.aload_n 0, 1) := by decide +kernel
theorem dX12_lot_1 : decode cX12_lot 1 = .ok (.getfield 82, 3) := by decide +kernel
theorem dX12_lot_4 : decode cX12_lot 4 = .ok (.istore_n 2, 1) := by decide +kernel
theorem dX12_lot_5 : decode cX12_lot 5 = .ok (.aload_n 0, 1) := by decide +kernel
theorem dX12_lot_6 : decode cX12_lot 6 = .ok (.iload_n 1, 1) := by decide +kernel
theorem dX12_lot_7 : decode cX12_lot 7 = .ok (.putfield 82, 3) := by decide +kernel
theorem dX12_lot_10 : decode cX12_lot 10 = .ok (.iload_n 2, 1) := by decide +kernel
theorem dX12_lot_11 : decode cX12_lot 11 = .ok (.ireturn, 1) := by decide +kernel
theorem dX12_rate_0 : decode cX12_rate 0 = .ok (.aload_n 0, 1) := by decide +kernel
theorem dX12_rate_1 : decode cX12_rate 1 = .ok (.getfield 75, 3) := by decide +kernel
theorem dX12_rate_4 : decode cX12_rate 4 = .ok (.iload_n 2, 1) := by decide +kernel
theorem dX12_rate_5 : decode cX12_rate 5 = .ok (.invokevirtual 110, 3) := by decide +kernel
theorem dX12_rate_8 : decode cX12_rate 8 = .ok (.astore_n 3, 1) := by decide +kernel
theorem dX12_rate_9 : decode cX12_rate 9 = .ok (.aload_n 0, 1) := by decide +kernel
theorem dX12_rate_10 : decode cX12_rate 10 = .ok (.getfield 75, 3) := by decide +kernel
theorem dX12_rate_13 : decode cX12_rate 13 = .ok (.iconst 0, 1) := by decide +kernel
theorem dX12_rate_14 : decode cX12_rate 14 = .ok (.invokevirtual 137, 3) := by decide +kernel
theorem dX12_rate_17 : decode cX12_rate 17 = .ok (.astore 4, 2) := by decide +kernel
theorem dX12_rate_19 : decode cX12_rate 19 = .ok (.aload_n 3, 1) := by decide +kernel
theorem dX12_rate_20 : decode cX12_rate 20 = .ok (.ifnull 8, 3) := by decide +kernel
theorem dX12_rate_23 : decode cX12_rate 23 = .ok (.aload 4, 2) := by decide +kernel
theorem dX12_rate_25 : decode cX12_rate 25 = .ok (.ifnonnull 6, 3) := by decide +kernel
theorem dX12_rate_28 : decode cX12_rate 28 = .ok (.ldc 156, 2) := by decide +kernel
theorem dX12_rate_30 : decode cX12_rate 30 = .ok (.ireturn, 1) := by decide +kernel
theorem dX12_rate_31 : decode cX12_rate 31 = .ok (.aload_n 0, 1) := by decide +kernel
theorem dX12_rate_32 : decode cX12_rate 32 = .ok (.getfield 58, 3) := by decide +kernel
theorem dX12_rate_35 : decode cX12_rate 35 = .ok (.iload_n 1, 1) := by decide +kernel
theorem dX12_rate_36 : decode cX12_rate 36 = .ok (.aload_n 3, 1) := by decide +kernel
theorem dX12_rate_37 : decode cX12_rate 37 = .ok (.aload 4, 2) := by decide +kernel
theorem dX12_rate_39 : decode cX12_rate 39 = .ok (.invokevirtual 264, 3) := by decide +kernel
theorem dX12_rate_42 : decode cX12_rate 42 = .ok (.ireturn, 1) := by decide +kernel
theorem dX12_keep_0 : decode cX12_keep 0 = .ok (.aload_n 0, 1) := by decide +kernel
theorem dX12_keep_1 : decode cX12_keep 1 = .ok (.iload_n 1, 1) := by decide +kernel
theorem dX12_keep_2 : decode cX12_keep 2 = .ok (.invokevirtual 268, 3) := by decide +kernel
theorem dX12_keep_5 : decode cX12_keep 5 = .ok (.astore_n 2, 1) := by decide +kernel
theorem dX12_keep_6 : decode cX12_keep 6 = .ok (.aload_n 2, 1) := by decide +kernel
theorem dX12_keep_7 : decode cX12_keep 7 = .ok (.ifnonnull 5, 3) := by decide +kernel
theorem dX12_keep_10 : decode cX12_keep 10 = .ok (.iconst (-1), 1) := by decide +kernel
theorem dX12_keep_11 : decode cX12_keep 11 = .ok (.ireturn, 1) := by decide +kernel
theorem dX12_keep_12 : decode cX12_keep 12 = .ok (.aload_n 2, 1) := by decide +kernel
theorem dX12_keep_13 : decode cX12_keep 13 = .ok (.aload_n 0, 1) := by decide +kernel
theorem dX12_keep_14 : decode cX12_keep 14 = .ok (.getfield 75, 3) := by decide +kernel
theorem dX12_keep_17 : decode cX12_keep 17 = .ok (.aload_n 0, 1) := by decide +kernel
theorem dX12_keep_18 : decode cX12_keep 18 = .ok (.getfield 35, 3) := by decide +kernel
theorem dX12_keep_21 : decode cX12_keep 21 = .ok (.aload_n 0, 1) := by decide +kernel
theorem dX12_keep_22 : decode cX12_keep 22 = .ok (.getfield 82, 3) := by decide +kernel
theorem dX12_keep_25 : decode cX12_keep 25 = .ok (.invokevirtual 272, 3) := by decide +kernel
theorem dX12_keep_28 : decode cX12_keep 28 = .ok (.aload_n 0, 1) := by decide +kernel
theorem dX12_keep_29 : decode cX12_keep 29 = .ok (.getfield 35, 3) := by decide +kernel
theorem dX12_keep_32 : decode cX12_keep 32 = .ok (.getfield 245, 3) := by decide +kernel
theorem dX12_keep_35 : decode cX12_keep 35 = .ok (.ireturn, 1) := by decide +kernel
theorem dX12_back_0 : decode cX12_back 0 = .ok (.aload_n 0, 1) := by decide +kernel
theorem dX12_back_1 : decode cX12_back 1 = .ok (.iload_n 1, 1) := by decide +kernel
theorem dX12_back_2 : decode cX12_back 2 = .ok (.invokevirtual 268, 3) := by decide +kernel
theorem dX12_back_5 : decode cX12_back 5 = .ok (.astore_n 2, 1) := by decide +kernel
theorem dX12_back_6 : decode cX12_back 6 = .ok (.aload_n 2, 1) := by decide +kernel
theorem dX12_back_7 : decode cX12_back 7 = .ok (.ifnonnull 5, 3) := by decide +kernel
theorem dX12_back_10 : decode cX12_back 10 = .ok (.iconst (-1), 1) := by decide +kernel
theorem dX12_back_11 : decode cX12_back 11 = .ok (.ireturn, 1) := by decide +kernel
theorem dX12_back_12 : decode cX12_back 12 = .ok (.aload_n 2, 1) := by decide +kernel
theorem dX12_back_13 : decode cX12_back 13 = .ok (.getfield 106, 3) := by decide +kernel
theorem dX12_back_16 : decode cX12_back 16 = .ok (.ifCond .ne 6, 3) := by decide +kernel
theorem dX12_back_19 : decode cX12_back 19 = .ok (.bipush (-2), 2) := by decide +kernel
theorem dX12_back_21 : decode cX12_back 21 = .ok (.ireturn, 1) := by decide +kernel
theorem dX12_back_22 : decode cX12_back 22 = .ok (.aload_n 2, 1) := by decide +kernel
theorem dX12_back_23 : decode cX12_back 23 = .ok (.aload_n 0, 1) := by decide +kernel
theorem dX12_back_24 : decode cX12_back 24 = .ok (.getfield 75, 3) := by decide +kernel
theorem dX12_back_27 : decode cX12_back 27 = .ok (.aload_n 0, 1) := by decide +kernel
theorem dX12_back_28 : decode cX12_back 28 = .ok (.getfield 35, 3) := by decide +kernel
theorem dX12_back_31 : decode cX12_back 31 = .ok (.invokevirtual 276, 3) := by decide +kernel
theorem dX12_back_34 : decode cX12_back 34 = .ok (.aload_n 0, 1) := by decide +kernel
theorem dX12_back_35 : decode cX12_back 35 = .ok (.aload_n 2, 1) := by decide +kernel
theorem dX12_back_36 : decode cX12_back 36 = .ok (.getfield 280, 3) := by decide +kernel
theorem dX12_back_39 : decode cX12_back 39 = .ok (.putfield 82, 3) := by decide +kernel
theorem dX12_back_42 : decode cX12_back 42 = .ok (.aload_n 0, 1) := by decide +kernel
theorem dX12_back_43 : decode cX12_back 43 = .ok (.getfield 35, 3) := by decide +kernel
theorem dX12_back_46 : decode cX12_back 46 = .ok (.getfield 245, 3) := by decide +kernel
theorem dX12_back_49 : decode cX12_back 49 = .ok (.ireturn, 1) := by decide +kernel
theorem dX12_count_0 : decode cX12_count 0 = .ok (.iload_n 1, 1) := by decide +kernel
theorem dX12_count_1 : decode cX12_count 1 = .ok (.tableswitch 75 0 4 #[35, 43, 51, 59, 67], 35) := by decide +kernel
theorem dX12_count_36 : decode cX12_count 36 = .ok (.aload_n 0, 1) := by decide +kernel
theorem dX12_count_37 : decode cX12_count 37 = .ok (.getfield 75, 3) := by decide +kernel
theorem dX12_count_40 : decode cX12_count 40 = .ok (.getfield 238, 3) := by decide +kernel
theorem dX12_count_43 : decode cX12_count 43 = .ok (.ireturn, 1) := by decide +kernel
theorem dX12_count_44 : decode cX12_count 44 = .ok (.aload_n 0, 1) := by decide +kernel
theorem dX12_count_45 : decode cX12_count 45 = .ok (.getfield 75, 3) := by decide +kernel
theorem dX12_count_48 : decode cX12_count 48 = .ok (.getfield 283, 3) := by decide +kernel
theorem dX12_count_51 : decode cX12_count 51 = .ok (.ireturn, 1) := by decide +kernel
theorem dX12_count_52 : decode cX12_count 52 = .ok (.aload_n 0, 1) := by decide +kernel
theorem dX12_count_53 : decode cX12_count 53 = .ok (.getfield 75, 3) := by decide +kernel
theorem dX12_count_56 : decode cX12_count 56 = .ok (.getfield 286, 3) := by decide +kernel
theorem dX12_count_59 : decode cX12_count 59 = .ok (.ireturn, 1) := by decide +kernel
theorem dX12_count_60 : decode cX12_count 60 = .ok (.aload_n 0, 1) := by decide +kernel
theorem dX12_count_61 : decode cX12_count 61 = .ok (.getfield 35, 3) := by decide +kernel
theorem dX12_count_64 : decode cX12_count 64 = .ok (.getfield 245, 3) := by decide +kernel
theorem dX12_count_67 : decode cX12_count 67 = .ok (.ireturn, 1) := by decide +kernel
theorem dX12_count_68 : decode cX12_count 68 = .ok (.aload_n 0, 1) := by decide +kernel
theorem dX12_count_69 : decode cX12_count 69 = .ok (.getfield 10, 3) := by decide +kernel
theorem dX12_count_72 : decode cX12_count 72 = .ok (.getfield 90, 3) := by decide +kernel
theorem dX12_count_75 : decode cX12_count 75 = .ok (.ireturn, 1) := by decide +kernel
theorem dX12_count_76 : decode cX12_count 76 = .ok (.iconst (-1), 1) := by decide +kernel
theorem dX12_count_77 : decode cX12_count 77 = .ok (.ireturn, 1) := by decide +kernel
theorem dX12_trace_0 : decode cX12_trace 0 = .ok (.aload_n 0, 1) := by decide +kernel
theorem dX12_trace_1 : decode cX12_trace 1 = .ok (.getfield 58, 3) := by decide +kernel
theorem dX12_trace_4 : decode cX12_trace 4 = .ok (.getfield 289, 3) := by decide +kernel
theorem dX12_trace_7 : decode cX12_trace 7 = .ok (.lreturn, 1) := by decide +kernel
theorem dX12_imageAt_0 : decode cX12_imageAt 0 = .ok (.iload_n 1, 1) := by decide +kernel
theorem dX12_imageAt_1 : decode cX12_imageAt 1 = .ok (.ifCond .ne 8, 3) := by decide +kernel
theorem dX12_imageAt_4 : decode cX12_imageAt 4 = .ok (.aload_n 0, 1) := by decide +kernel
theorem dX12_imageAt_5 : decode cX12_imageAt 5 = .ok (.getfield 65, 3) := by decide +kernel
theorem dX12_imageAt_8 : decode cX12_imageAt 8 = .ok (.areturn, 1) := by decide +kernel
theorem dX12_imageAt_9 : decode cX12_imageAt 9 = .ok (.iload_n 1, 1) := by decide +kernel
theorem dX12_imageAt_10 : decode cX12_imageAt 10 = .ok (.iconst 1, 1) := by decide +kernel
theorem dX12_imageAt_11 : decode cX12_imageAt 11 = .ok (.if_icmp .ne 10, 3) := by decide +kernel
theorem dX12_imageAt_14 : decode cX12_imageAt 14 = .ok (.aload_n 0, 1) := by decide +kernel
theorem dX12_imageAt_15 : decode cX12_imageAt 15 = .ok (.getfield 69, 3) := by decide +kernel
theorem dX12_imageAt_18 : decode cX12_imageAt 18 = .ok (.goto 4, 3) := by decide +kernel
theorem dX12_imageAt_21 : decode cX12_imageAt 21 = .ok (.aconst_null, 1) := by decide +kernel
theorem dX12_imageAt_22 : decode cX12_imageAt 22 = .ok (.areturn, 1) := by decide +kernel
theorem dX12_within_0 : decode cX12_within 0 = .ok (.iload_n 0, 1) := by decide +kernel
theorem dX12_within_1 : decode cX12_within 1 = .ok (.iload_n 1, 1) := by decide +kernel
theorem dX12_within_2 : decode cX12_within 2 = .ok (.if_icmp .lt 12, 3) := by decide +kernel
theorem dX12_within_5 : decode cX12_within 5 = .ok (.iload_n 0, 1) := by decide +kernel
theorem dX12_within_6 : decode cX12_within 6 = .ok (.iload_n 2, 1) := by decide +kernel
theorem dX12_within_7 : decode cX12_within 7 = .ok (.if_icmp .gt 7, 3) := by decide +kernel
theorem dX12_within_10 : decode cX12_within 10 = .ok (.iconst 1, 1) := by decide +kernel
theorem dX12_within_11 : decode cX12_within 11 = .ok (.goto 4, 3) := by decide +kernel
theorem dX12_within_14 : decode cX12_within 14 = .ok (.iconst 0, 1) := by decide +kernel
theorem dX12_within_15 : decode cX12_within 15 = .ok (.ireturn, 1) := by decide +kernel
theorem dX12_divided_0 : decode cX12_divided 0 = .ok (.iload_n 1, 1) := by decide +kernel
theorem dX12_divided_1 : decode cX12_divided 1 = .ok (.ifCond .ne 7, 3) := by decide +kernel
theorem dX12_divided_4 : decode cX12_divided 4 = .ok (.iconst 0, 1) := by decide +kernel
theorem dX12_divided_5 : decode cX12_divided 5 = .ok (.goto 6, 3) := by decide +kernel
theorem dX12_divided_8 : decode cX12_divided 8 = .ok (.iload_n 0, 1) := by decide +kernel
theorem dX12_divided_9 : decode cX12_divided 9 = .ok (.iload_n 1, 1) := by decide +kernel
theorem dX12_divided_10 : decode cX12_divided 10 = .ok (.idiv, 1) := by decide +kernel
theorem dX12_divided_11 : decode cX12_divided 11 = .ok (.ireturn, 1) := by decide +kernel
theorem dX12_leftOver_0 : decode cX12_leftOver 0 = .ok (.iload_n 1, 1) := by decide +kernel
theorem dX12_leftOver_1 : decode cX12_leftOver 1 = .ok (.ifCond .ne 7, 3) := by decide +kernel
theorem dX12_leftOver_4 : decode cX12_leftOver 4 = .ok (.iconst 0, 1) := by decide +kernel
theorem dX12_leftOver_5 : decode cX12_leftOver 5 = .ok (.goto 6, 3) := by decide +kernel
theorem dX12_leftOver_8 : decode cX12_leftOver 8 = .ok (.iload_n 0, 1) := by decide +kernel
theorem dX12_leftOver_9 : decode cX12_leftOver 9 = .ok (.iload_n 1, 1) := by decide +kernel
theorem dX12_leftOver_10 : decode cX12_leftOver 10 = .ok (.irem, 1) := by decide +kernel
theorem dX12_leftOver_11 : decode cX12_leftOver 11 = .ok (.ireturn, 1) := by decide +kernel
theorem dX12_spineOf_0 : decode cX12_spineOf 0 = .ok (.iload_n 0, 1) := by decide +kernel
theorem dX12_spineOf_1 : decode cX12_spineOf 1 = .ok (.bipush 112, 2) := by decide +kernel
theorem dX12_spineOf_3 : decode cX12_spineOf 3 = .ok (.imul, 1) := by decide +kernel
theorem dX12_spineOf_4 : decode cX12_spineOf 4 = .ok (.iload_n 1, 1) := by decide +kernel
theorem dX12_spineOf_5 : decode cX12_spineOf 5 = .ok (.invokestatic 293, 3) := by decide +kernel
theorem dX12_spineOf_8 : decode cX12_spineOf 8 = .ok (.iload_n 2, 1) := by decide +kernel
theorem dX12_spineOf_9 : decode cX12_spineOf 9 = .ok (.bipush 10, 2) := by decide +kernel
theorem dX12_spineOf_11 : decode cX12_spineOf 11 = .ok (.idiv, 1) := by decide +kernel
theorem dX12_spineOf_12 : decode cX12_spineOf 12 = .ok (.isub, 1) := by decide +kernel
theorem dX12_spineOf_13 : decode cX12_spineOf 13 = .ok (.ireturn, 1) := by decide +kernel
theorem dX12_needOf_0 : decode cX12_needOf 0 = .ok (.iload_n 0, 1) := by decide +kernel
theorem dX12_needOf_1 : decode cX12_needOf 1 = .ok (.iconst 2, 1) := by decide +kernel
theorem dX12_needOf_2 : decode cX12_needOf 2 = .ok (.iload_n 1, 1) := by decide +kernel
theorem dX12_needOf_3 : decode cX12_needOf 3 = .ok (.imul, 1) := by decide +kernel
theorem dX12_needOf_4 : decode cX12_needOf 4 = .ok (.iadd, 1) := by decide +kernel
theorem dX12_needOf_5 : decode cX12_needOf 5 = .ok (.ireturn, 1) := by decide +kernel
end
section
theorem dX13_init_0 : decode cX13_init 0 = .ok (.aload_n 0, 1) := by decide +kernel
theorem dX13_init_1 : decode cX13_init 1 = .ok (.invokespecial 1, 3) := by decide +kernel
theorem dX13_init_4 : decode cX13_init 4 = .ok (.aload_n 0, 1) := by decide +kernel
theorem dX13_init_5 : decode cX13_init 5 = .ok (.sipush 400, 3) := by decide +kernel
theorem dX13_init_8 : decode cX13_init 8 = .ok (.newarray .int, 2) := by decide +kernel
theorem dX13_init_10 : decode cX13_init 10 = .ok (.putfield 7, 3) := by decide +kernel
theorem dX13_init_13 : decode cX13_init 13 = .ok (.aload_n 0, 1) := by decide +kernel
theorem dX13_init_14 : decode cX13_init 14 = .ok (.sipush 386, 3) := by decide +kernel
theorem dX13_init_17 : decode cX13_init 17 = .ok (.newarray .int, 2) := by decide +kernel
theorem dX13_init_19 : decode cX13_init 19 = .ok (.putfield 13, 3) := by decide +kernel
theorem dX13_init_22 : decode cX13_init 22 = .ok (.aload_n 0, 1) := by decide +kernel
theorem dX13_init_23 : decode cX13_init 23 = .ok (.sipush 772, 3) := by decide +kernel
theorem dX13_init_26 : decode cX13_init 26 = .ok (.newarray .int, 2) := by decide +kernel
theorem dX13_init_28 : decode cX13_init 28 = .ok (.putfield 16, 3) := by decide +kernel
theorem dX13_init_31 : decode cX13_init 31 = .ok (.aload_n 0, 1) := by decide +kernel
theorem dX13_init_32 : decode cX13_init 32 = .ok (.iconst 2, 1) := by decide +kernel
theorem dX13_init_33 : decode cX13_init 33 = .ok (.newarray .boolean, 2) := by decide +kernel
theorem dX13_init_35 : decode cX13_init 35 = .ok (.putfield 19, 3) := by decide +kernel
theorem dX13_init_38 : decode cX13_init 38 = .ok (.aload_n 0, 1) := by decide +kernel
theorem dX13_init_39 : decode cX13_init 39 = .ok (.bipush 6, 2) := by decide +kernel
theorem dX13_init_41 : decode cX13_init 41 = .ok (.newarray .int, 2) := by decide +kernel
theorem dX13_init_43 : decode cX13_init 43 = .ok (.putfield 23, 3) := by decide +kernel
theorem dX13_init_46 : decode cX13_init 46 = .ok (.aload_n 0, 1) := by decide +kernel
theorem dX13_init_47 : decode cX13_init 47 = .ok (.bipush 6, 2) := by decide +kernel
theorem dX13_init_49 : decode cX13_init 49 = .ok (.newarray .int, 2) := by decide +kernel
theorem dX13_init_51 : decode cX13_init 51 = .ok (.putfield 26, 3) := by decide +kernel
theorem dX13_init_54 : decode cX13_init 54 = .ok (.aload_n 0, 1) := by decide +kernel
theorem dX13_init_55 : decode cX13_init 55 = .ok (.bipush 84, 2) := by decide +kernel
theorem dX13_init_57 : decode cX13_init 57 = .ok (.newarray .int, 2) := by decide +kernel
theorem dX13_init_59 : decode cX13_init 59 = .ok (.putfield 29, 3) := by decide +kernel
theorem dX13_init_62 : decode cX13_init 62 = .ok (.aload_n 0, 1) := by decide +kernel
theorem dX13_init_63 : decode cX13_init 63 = .ok (.bipush 6, 2) := by decide +kernel
theorem dX13_init_65 : decode cX13_init 65 = .ok (.newarray .int, 2) := by decide +kernel
theorem dX13_init_67 : decode cX13_init 67 = .ok (.putfield 32, 3) := by decide +kernel
theorem dX13_init_70 : decode cX13_init 70 = .ok (.aload_n 0, 1) := by decide +kernel
theorem dX13_init_71 : decode cX13_init 71 = .ok (.bipush 6, 2) := by decide +kernel
theorem dX13_init_73 : decode cX13_init 73 = .ok (.newarray .int, 2) := by decide +kernel
theorem dX13_init_75 : decode cX13_init 75 = .ok (.putfield 35, 3) := by decide +kernel
theorem dX13_init_78 : decode cX13_init 78 = .ok (.aload_n 0, 1) := by decide +kernel
theorem dX13_init_79 : decode cX13_init 79 = .ok (.iconst 4, 1) := by decide +kernel
theorem dX13_init_80 : decode cX13_init 80 = .ok (.newarray .int, 2) := by decide +kernel
theorem dX13_init_82 : decode cX13_init 82 = .ok (.putfield 38, 3) := by decide +kernel
theorem dX13_init_85 : decode cX13_init 85 = .ok (.aload_n 0, 1) := by decide +kernel
theorem dX13_init_86 : decode cX13_init 86 = .ok (.bipush 7, 2) := by decide +kernel
theorem dX13_init_88 : decode cX13_init 88 = .ok (.newarray .int, 2) := by decide +kernel
theorem dX13_init_90 : decode cX13_init 90 = .ok (.putfield 41, 3) := by decide +kernel
theorem dX13_init_93 : decode cX13_init 93 = .ok (.aload_n 0, 1) := by decide +kernel
theorem dX13_init_94 : decode cX13_init 94 = .ok (.bipush 24, 2) := by decide +kernel
theorem dX13_init_96 : decode cX13_init 96 = .ok (.newarray .int, 2) := by decide +kernel
theorem dX13_init_98 : decode cX13_init 98 = .ok (.putfield 44, 3) := by decide +kernel
theorem dX13_init_101 : decode cX13_init 101 = .ok (.aload_n 0, 1) := by decide +kernel
theorem dX13_init_102 : decode cX13_init 102 = .ok (.bipush 12, 2) := by decide +kernel
theorem dX13_init_104 : decode cX13_init 104 = .ok (.newarray .int, 2) := by decide +kernel
theorem dX13_init_106 : decode cX13_init 106 = .ok (.putfield 47, 3) := by decide +kernel
theorem dX13_init_109 : decode cX13_init 109 = .ok (.aload_n 0, 1) := by decide +kernel
theorem dX13_init_110 : decode cX13_init 110 = .ok (.iconst 5, 1) := by decide +kernel
theorem dX13_init_111 : decode cX13_init 111 = .ok (.newarray .int, 2) := by decide +kernel
theorem dX13_init_113 : decode cX13_init 113 = .ok (.putfield 50, 3) := by decide +kernel
theorem dX13_init_116 : decode cX13_init 116 = .ok (.aload_n 0, 1) := by decide +kernel
theorem dX13_init_117 : decode cX13_init 117 = .ok (.getfield 38, 3) := by decide +kernel
theorem dX13_init_120 : decode cX13_init 120 = .ok (.iconst 0, 1) := by decide +kernel
theorem dX13_init_121 : decode cX13_init 121 = .ok (.iconst 4, 1) := by decide +kernel
theorem dX13_init_122 : decode cX13_init 122 = .ok (.iastore, 1) := by decide +kernel
theorem dX13_init_123 : decode cX13_init 123 = .ok (.aload_n 0, 1) := by decide +kernel
theorem dX13_init_124 : decode cX13_init 124 = .ok (.getfield 38, 3) := by decide +kernel
theorem dX13_init_127 : decode cX13_init 127 = .ok (.iconst 1, 1) := by decide +kernel
theorem dX13_init_128 : decode cX13_init 128 = .ok (.bipush 15, 2) := by decide +kernel
theorem dX13_init_130 : decode cX13_init 130 = .ok (.iastore, 1) := by decide +kernel
theorem dX13_init_131 : decode cX13_init 131 = .ok (.aload_n 0, 1) := by decide +kernel
theorem dX13_init_132 : decode cX13_init 132 = .ok (.getfield 38, 3) := by decide +kernel
theorem dX13_init_135 : decode cX13_init 135 = .ok (.iconst 2, 1) := by decide +kernel
theorem dX13_init_136 : decode cX13_init 136 = .ok (.bipush 10, 2) := by decide +kernel
theorem dX13_init_138 : decode cX13_init 138 = .ok (.iastore, 1) := by decide +kernel
theorem dX13_init_139 : decode cX13_init 139 = .ok (.aload_n 0, 1) := by decide +kernel
theorem dX13_init_140 : decode cX13_init 140 = .ok (.getfield 13, 3) := by decide +kernel
theorem dX13_init_143 : decode cX13_init 143 = .ok (.bipush 84, 2) := by decide +kernel
theorem dX13_init_145 : decode cX13_init 145 = .ok (.iconst 1, 1) := by decide +kernel
theorem dX13_init_146 : decode cX13_init 146 = .ok (.iastore, 1) := by decide +kernel
theorem dX13_init_147 : decode cX13_init 147 = .ok (.return_, 1) := by decide +kernel
theorem dX13_in_0 : decode cX13_in 0 = .ok (.iload_n 0, 1) := by decide +kernel
theorem dX13_in_1 : decode cX13_in 1 = .ok (.iload_n 1, 1) := by decide +kernel
theorem dX13_in_2 : decode cX13_in 2 = .ok (.if_icmp .lt 12, 3) := by decide +kernel
theorem dX13_in_5 : decode cX13_in 5 = .ok (.iload_n 0, 1) := by decide +kernel
theorem dX13_in_6 : decode cX13_in 6 = .ok (.iload_n 2, 1) := by decide +kernel
theorem dX13_in_7 : decode cX13_in 7 = .ok (.if_icmp .gt 7, 3) := by decide +kernel
theorem dX13_in_10 : decode cX13_in 10 = .ok (.iconst 1, 1) := by decide +kernel
theorem dX13_in_11 : decode cX13_in 11 = .ok (.goto 4, 3) := by decide +kernel
theorem dX13_in_14 : decode cX13_in 14 = .ok (.iconst 0, 1) := by decide +kernel
theorem dX13_in_15 : decode cX13_in 15 = .ok (.ireturn, 1) := by decide +kernel
theorem dX13_size_0 : decode cX13_size 0 = .ok (.iload_n 0, 1) := by decide +kernel
theorem dX13_size_1 : decode cX13_size 1 = .ok (.ifCond .ge 8, 3) := by decide +kernel
theorem dX13_size_4 : decode cX13_size 4 = .ok (.iload_n 0, 1) := by decide +kernel
theorem dX13_size_5 : decode cX13_size 5 = .ok (.ineg, 1) := by decide +kernel
theorem dX13_size_6 : decode cX13_size 6 = .ok (.goto 4, 3) := by decide +kernel
theorem dX13_size_9 : decode cX13_size 9 = .ok (.iload_n 0, 1) := by decide +kernel
theorem dX13_size_10 : decode cX13_size 10 = .ok (.ireturn, 1) := by decide +kernel
theorem dX13_type_0 : decode cX13_type 0 = .ok (.aload_n 0, 1) := by decide +kernel
theorem dX13_type_1 : decode cX13_type 1 = .ok (.iconst 0, 1) := by decide +kernel
theorem dX13_type_2 : decode cX13_type 2 = .ok (.putfield 53, 3) := by decide +kernel
theorem dX13_type_5 : decode cX13_type 5 = .ok (.iload_n 3, 1) := by decide +kernel
theorem dX13_type_6 : decode cX13_type 6 = .ok (.iconst 1, 1) := by decide +kernel
theorem dX13_type_7 : decode cX13_type 7 = .ok (.bipush 8, 2) := by decide +kernel
theorem dX13_type_9 : decode cX13_type 9 = .ok (.invokestatic 57, 3) := by decide +kernel
theorem dX13_type_12 : decode cX13_type 12 = .ok (.ifCond .ne 5, 3) := by decide +kernel
theorem dX13_type_15 : decode cX13_type 15 = .ok (.iconst (-1), 1) := by decide +kernel
theorem dX13_type_16 : decode cX13_type 16 = .ok (.ireturn, 1) := by decide +kernel
theorem dX13_type_17 : decode cX13_type 17 = .ok (.aload_n 0, 1) := by decide +kernel
theorem dX13_type_18 : decode cX13_type 18 = .ok (.getfield 61, 3) := by decide +kernel
theorem dX13_type_21 : decode cX13_type 21 = .ok (.iload_n 3, 1) := by decide +kernel
theorem dX13_type_22 : decode cX13_type 22 = .ok (.iadd, 1) := by decide +kernel
theorem dX13_type_23 : decode cX13_type 23 = .ok (.sipush 400, 3) := by decide +kernel
theorem dX13_type_26 : decode cX13_type 26 = .ok (.if_icmp .le 6, 3) := by decide +kernel
theorem dX13_type_29 : decode cX13_type 29 = .ok (.bipush (-3), 2) := by decide +kernel
theorem dX13_type_31 : decode cX13_type 31 = .ok (.ireturn, 1) := by decide +kernel
theorem dX13_type_32 : decode cX13_type 32 = .ok (.iload_n 3, 1) := by decide +kernel
theorem dX13_type_33 : decode cX13_type 33 = .ok (.iconst 1, 1) := by decide +kernel
theorem dX13_type_34 : decode cX13_type 34 = .ok (.isub, 1) := by decide +kernel
theorem dX13_type_35 : decode cX13_type 35 = .ok (.istore 4, 2) := by decide +kernel
theorem dX13_type_37 : decode cX13_type 37 = .ok (.iload 4, 2) := by decide +kernel
theorem dX13_type_39 : decode cX13_type 39 = .ok (.ifCond .lt 40, 3) := by decide +kernel
theorem dX13_type_42 : decode cX13_type 42 = .ok (.aload_n 0, 1) := by decide +kernel
theorem dX13_type_43 : decode cX13_type 43 = .ok (.getfield 7, 3) := by decide +kernel
theorem dX13_type_46 : decode cX13_type 46 = .ok (.aload_n 0, 1) := by decide +kernel
theorem dX13_type_47 : decode cX13_type 47 = .ok (.getfield 61, 3) := by decide +kernel
theorem dX13_type_50 : decode cX13_type 50 = .ok (.lload_n 1, 1) := by decide +kernel
theorem dX13_type_51 : decode cX13_type 51 = .ok (.bipush 8, 2) := by decide +kernel
theorem dX13_type_53 : decode cX13_type 53 = .ok (.iload 4, 2) := by decide +kernel
theorem dX13_type_55 : decode cX13_type 55 = .ok (.imul, 1) := by decide +kernel
theorem dX13_type_56 : decode cX13_type 56 = .ok (.lshr, 1) := by decide +kernel
theorem dX13_type_57 : decode cX13_type 57 = .ok (.ldc2_w 64, 3) := by decide +kernel
theorem dX13_type_60 : decode cX13_type 60 = .ok (.land, 1) := by decide +kernel
theorem dX13_type_61 : decode cX13_type 61 = .ok (.l2i, 1) := by decide +kernel
theorem dX13_type_62 : decode cX13_type 62 = .ok (.iastore, 1) := by decide +kernel
theorem dX13_type_63 : decode cX13_type 63 = .ok (.aload_n 0, 1) := by decide +kernel
theorem dX13_type_64 : decode cX13_type 64 = .ok (.dup, 1) := by decide +kernel
theorem dX13_type_65 : decode cX13_type 65 = .ok (.getfield 61, 3) := by decide +kernel
theorem dX13_type_68 : decode cX13_type 68 = .ok (.iconst 1, 1) := by decide +kernel
theorem dX13_type_69 : decode cX13_type 69 = .ok (.iadd, 1) := by decide +kernel
theorem dX13_type_70 : decode cX13_type 70 = .ok (.putfield 61, 3) := by decide +kernel
theorem dX13_type_73 : decode cX13_type 73 = .ok (.iinc 4 (-1), 3) := by decide +kernel
theorem dX13_type_76 : decode cX13_type 76 = .ok (.goto (-39), 3) := by decide +kernel
theorem dX13_type_79 : decode cX13_type 79 = .ok (.aload_n 0, 1) := by decide +kernel
theorem dX13_type_80 : decode cX13_type 80 = .ok (.getfield 61, 3) := by decide +kernel
theorem dX13_type_83 : decode cX13_type 83 = .ok (.ireturn, 1) := by decide +kernel
theorem dX13_clear_0 : decode cX13_clear 0 = .ok (.aload_n 0, 1) := by decide +kernel
theorem dX13_clear_1 : decode cX13_clear 1 = .ok (.iconst 0, 1) := by decide +kernel
theorem dX13_clear_2 : decode cX13_clear 2 = .ok (.putfield 53, 3) := by decide +kernel
theorem dX13_clear_5 : decode cX13_clear 5 = .ok (.aload_n 0, 1) := by decide +kernel
theorem dX13_clear_6 : decode cX13_clear 6 = .ok (.getfield 61, 3) := by decide +kernel
theorem dX13_clear_9 : decode cX13_clear 9 = .ok (.istore_n 1, 1) := by decide +kernel
theorem dX13_clear_10 : decode cX13_clear 10 = .ok (.aload_n 0, 1) := by decide +kernel
theorem dX13_clear_11 : decode cX13_clear 11 = .ok (.iconst 0, 1) := by decide +kernel
theorem dX13_clear_12 : decode cX13_clear 12 = .ok (.putfield 61, 3) := by decide +kernel
theorem dX13_clear_15 : decode cX13_clear 15 = .ok (.iload_n 1, 1) := by decide +kernel
theorem dX13_clear_16 : decode cX13_clear 16 = .ok (.ireturn, 1) := by decide +kernel
theorem dX13_byteAt_0 : decode cX13_byteAt 0 = .ok (.iload_n 1, 1) := by decide +kernel
theorem dX13_byteAt_1 : decode cX13_byteAt 1 = .ok (.aload_n 0, 1) := by decide +kernel
theorem dX13_byteAt_2 : decode cX13_byteAt 2 = .ok (.getfield 61, 3) := by decide +kernel
theorem dX13_byteAt_5 : decode cX13_byteAt 5 = .ok (.if_icmp .ge 12, 3) := by decide +kernel
theorem dX13_byteAt_8 : decode cX13_byteAt 8 = .ok (.aload_n 0, 1) := by decide +kernel
theorem dX13_byteAt_9 : decode cX13_byteAt 9 = .ok (.getfield 7, 3) := by decide +kernel
theorem dX13_byteAt_12 : decode cX13_byteAt 12 = .ok (.iload_n 1, 1) := by decide +kernel
theorem dX13_byteAt_13 : decode cX13_byteAt 13 = .ok (.iaload, 1) := by decide +kernel
theorem dX13_byteAt_14 : decode cX13_byteAt 14 = .ok (.goto 4, 3) := by decide +kernel
theorem dX13_byteAt_17 : decode cX13_byteAt 17 = .ok (.iconst (-1), 1) := by decide +kernel
theorem dX13_byteAt_18 : decode cX13_byteAt 18 = .ok (.ireturn, 1) := by decide +kernel
theorem dX13_add_0 : decode cX13_add 0 = .ok (.iload_n 2, 1) := by decide +kernel
theorem dX13_add_1 : decode cX13_add 1 = .ok (.ifCond .ne 7, 3) := by decide +kernel
theorem dX13_add_4 : decode cX13_add 4 = .ok (.lload_n 0, 1) := by decide +kernel
theorem dX13_add_5 : decode cX13_add 5 = .ok (.goto 11, 3) := by decide +kernel
theorem dX13_add_8 : decode cX13_add 8 = .ok (.ldc2_w 66, 3) := by decide +kernel
theorem dX13_add_11 : decode cX13_add 11 = .ok (.lload_n 0, 1) := by decide +kernel
theorem dX13_add_12 : decode cX13_add 12 = .ok (.lmul, 1) := by decide +kernel
theorem dX13_add_13 : decode cX13_add 13 = .ok (.iload_n 2, 1) := by decide +kernel
theorem dX13_add_14 : decode cX13_add 14 = .ok (.i2l, 1) := by decide +kernel
theorem dX13_add_15 : decode cX13_add 15 = .ok (.ladd, 1) := by decide +kernel
theorem dX13_add_16 : decode cX13_add 16 = .ok (.lreturn, 1) := by decide +kernel
theorem dX13_named_0 : decode cX13_named 0 = .ok (.lconst 0, 1) := by decide +kernel
theorem dX13_named_1 : decode cX13_named 1 = .ok (.iload_n 0, 1) := by decide +kernel
theorem dX13_named_2 : decode cX13_named 2 = .ok (.invokestatic 68, 3) := by decide +kernel
theorem dX13_named_5 : decode cX13_named 5 = .ok (.iload_n 1, 1) := by decide +kernel
theorem dX13_named_6 : decode cX13_named 6 = .ok (.invokestatic 68, 3) := by decide +kernel
theorem dX13_named_9 : decode cX13_named 9 = .ok (.iload_n 2, 1) := by decide +kernel
theorem dX13_named_10 : decode cX13_named 10 = .ok (.invokestatic 68, 3) := by decide +kernel
theorem dX13_named_13 : decode cX13_named 13 = .ok (.iload_n 3, 1) := by decide +kernel
theorem dX13_named_14 : decode cX13_named 14 = .ok (.invokestatic 68, 3) := by decide +kernel
theorem dX13_named_17 : decode cX13_named 17 = .ok (.iload 4, 2) := by decide +kernel
theorem dX13_named_19 : decode cX13_named 19 = .ok (.invokestatic 68, 3) := by decide +kernel
theorem dX13_named_22 : decode cX13_named 22 = .ok (.iload 5, 2) := by decide +kernel
theorem dX13_named_24 : decode cX13_named 24 = .ok (.invokestatic 68, 3) := by decide +kernel
theorem dX13_named_27 : decode cX13_named 27 = .ok (.lreturn, 1) := by decide +kernel
theorem dX13_wordOf_0 : decode cX13_wordOf 0 = .ok (.lload_n 0, 1) := by decide +kernel
theorem dX13_wordOf_1 : decode cX13_wordOf 1 = .ok (.bipush 115, 2) := by decide +kernel
theorem dX13_wordOf_3 : decode cX13_wordOf 3 = .ok (.bipush 116, 2) := by decide +kernel
theorem dX13_wordOf_5 : decode cX13_wordOf 5 = .ok (.bipush 105, 2) := by decide +kernel
theorem dX13_wordOf_7 : decode cX13_wordOf 7 = .ok (.bipush 99, 2) := by decide +kernel
theorem dX13_wordOf_9 : decode cX13_wordOf 9 = .ok (.bipush 107, 2) := by decide +kernel
theorem dX13_wordOf_11 : decode cX13_wordOf 11 = .ok (.iconst 0, 1) := by decide +kernel
theorem dX13_wordOf_12 : decode cX13_wordOf 12 = .ok (.invokestatic 72, 3) := by decide +kernel
theorem dX13_wordOf_15 : decode cX13_wordOf 15 = .ok (.lcmp, 1) := by decide +kernel
theorem dX13_wordOf_16 : decode cX13_wordOf 16 = .ok (.ifCond .ne 7, 3) := by decide +kernel
theorem dX13_wordOf_19 : decode cX13_wordOf 19 = .ok (.iconst 0, 1) := by decide +kernel
theorem dX13_wordOf_20 : decode cX13_wordOf 20 = .ok (.goto 50, 3) := by decide +kernel
theorem dX13_wordOf_23 : decode cX13_wordOf 23 = .ok (.lload_n 0, 1) := by decide +kernel
theorem dX13_wordOf_24 : decode cX13_wordOf 24 = .ok (.bipush 98, 2) := by decide +kernel
theorem dX13_wordOf_26 : decode cX13_wordOf 26 = .ok (.bipush 111, 2) := by decide +kernel
theorem dX13_wordOf_28 : decode cX13_wordOf 28 = .ok (.bipush 119, 2) := by decide +kernel
theorem dX13_wordOf_30 : decode cX13_wordOf 30 = .ok (.iconst 0, 1) := by decide +kernel
theorem dX13_wordOf_31 : decode cX13_wordOf 31 = .ok (.iconst 0, 1) := by decide +kernel
theorem dX13_wordOf_32 : decode cX13_wordOf 32 = .ok (.iconst 0, 1) := by decide +kernel
theorem dX13_wordOf_33 : decode cX13_wordOf 33 = .ok (.invokestatic 72, 3) := by decide +kernel
theorem dX13_wordOf_36 : decode cX13_wordOf 36 = .ok (.lcmp, 1) := by decide +kernel
theorem dX13_wordOf_37 : decode cX13_wordOf 37 = .ok (.ifCond .ne 7, 3) := by decide +kernel
theorem dX13_wordOf_40 : decode cX13_wordOf 40 = .ok (.iconst 1, 1) := by decide +kernel
theorem dX13_wordOf_41 : decode cX13_wordOf 41 = .ok (.goto 29, 3) := by decide +kernel
theorem dX13_wordOf_44 : decode cX13_wordOf 44 = .ok (.lload_n 0, 1) := by decide +kernel
theorem dX13_wordOf_45 : decode cX13_wordOf 45 = .ok (.bipush 97, 2) := by decide +kernel
theorem dX13_wordOf_47 : decode cX13_wordOf 47 = .ok (.bipush 114, 2) := by decide +kernel
theorem dX13_wordOf_49 : decode cX13_wordOf 49 = .ok (.bipush 99, 2) := by decide +kernel
theorem dX13_wordOf_51 : decode cX13_wordOf 51 = .ok (.bipush 104, 2) := by decide +kernel
theorem dX13_wordOf_53 : decode cX13_wordOf 53 = .ok (.bipush 101, 2) := by decide +kernel
theorem dX13_wordOf_55 : decode cX13_wordOf 55 = .ok (.bipush 114, 2) := by decide +kernel
theorem dX13_wordOf_57 : decode cX13_wordOf 57 = .ok (.invokestatic 72, 3) := by decide +kernel
theorem dX13_wordOf_60 : decode cX13_wordOf 60 = .ok (.lcmp, 1) := by decide +kernel
theorem dX13_wordOf_61 : decode cX13_wordOf 61 = .ok (.ifCond .ne 7, 3) := by decide +kernel
theorem dX13_wordOf_64 : decode cX13_wordOf 64 = .ok (.iconst 2, 1) := by decide +kernel
theorem dX13_wordOf_65 : decode cX13_wordOf 65 = .ok (.goto 5, 3) := by decide +kernel
theorem dX13_wordOf_68 : decode cX13_wordOf 68 = .ok (.bipush (-9), 2) := by decide +kernel
theorem dX13_wordOf_70 : decode cX13_wordOf 70 = .ok (.istore_n 2, 1) := by decide +kernel
theorem dX13_wordOf_71 : decode cX13_wordOf 71 = .ok (.iload_n 2, 1) := by decide +kernel
theorem dX13_wordOf_72 : decode cX13_wordOf 72 = .ok (.bipush (-9), 2) := by decide +kernel
theorem dX13_wordOf_74 : decode cX13_wordOf 74 = .ok (.if_icmp .eq 7, 3) := by decide +kernel
theorem dX13_wordOf_77 : decode cX13_wordOf 77 = .ok (.iload_n 2, 1) := by decide +kernel
theorem dX13_wordOf_78 : decode cX13_wordOf 78 = .ok (.goto 50, 3) := by decide +kernel
theorem dX13_wordOf_81 : decode cX13_wordOf 81 = .ok (.lload_n 0, 1) := by decide +kernel
theorem dX13_wordOf_82 : decode cX13_wordOf 82 = .ok (.bipush 108, 2) := by decide +kernel
theorem dX13_wordOf_84 : decode cX13_wordOf 84 = .ok (.bipush 101, 2) := by decide +kernel
theorem dX13_wordOf_86 : decode cX13_wordOf 86 = .ok (.bipush 102, 2) := by decide +kernel
theorem dX13_wordOf_88 : decode cX13_wordOf 88 = .ok (.bipush 116, 2) := by decide +kernel
theorem dX13_wordOf_90 : decode cX13_wordOf 90 = .ok (.iconst 0, 1) := by decide +kernel
theorem dX13_wordOf_91 : decode cX13_wordOf 91 = .ok (.iconst 0, 1) := by decide +kernel
theorem dX13_wordOf_92 : decode cX13_wordOf 92 = .ok (.invokestatic 72, 3) := by decide +kernel
theorem dX13_wordOf_95 : decode cX13_wordOf 95 = .ok (.lcmp, 1) := by decide +kernel
theorem dX13_wordOf_96 : decode cX13_wordOf 96 = .ok (.ifCond .ne 7, 3) := by decide +kernel
theorem dX13_wordOf_99 : decode cX13_wordOf 99 = .ok (.iconst 3, 1) := by decide +kernel
theorem dX13_wordOf_100 : decode cX13_wordOf 100 = .ok (.goto 28, 3) := by decide +kernel
theorem dX13_wordOf_103 : decode cX13_wordOf 103 = .ok (.lload_n 0, 1) := by decide +kernel
theorem dX13_wordOf_104 : decode cX13_wordOf 104 = .ok (.bipush 114, 2) := by decide +kernel
theorem dX13_wordOf_106 : decode cX13_wordOf 106 = .ok (.bipush 105, 2) := by decide +kernel
theorem dX13_wordOf_108 : decode cX13_wordOf 108 = .ok (.bipush 103, 2) := by decide +kernel
theorem dX13_wordOf_110 : decode cX13_wordOf 110 = .ok (.bipush 104, 2) := by decide +kernel
theorem dX13_wordOf_112 : decode cX13_wordOf 112 = .ok (.bipush 116, 2) := by decide +kernel
theorem dX13_wordOf_114 : decode cX13_wordOf 114 = .ok (.iconst 0, 1) := by decide +kernel
theorem dX13_wordOf_115 : decode cX13_wordOf 115 = .ok (.invokestatic 72, 3) := by decide +kernel
theorem dX13_wordOf_118 : decode cX13_wordOf 118 = .ok (.lcmp, 1) := by decide +kernel
theorem dX13_wordOf_119 : decode cX13_wordOf 119 = .ok (.ifCond .ne 7, 3) := by decide +kernel
theorem dX13_wordOf_122 : decode cX13_wordOf 122 = .ok (.iconst 4, 1) := by decide +kernel
theorem dX13_wordOf_123 : decode cX13_wordOf 123 = .ok (.goto 5, 3) := by decide +kernel
theorem dX13_wordOf_126 : decode cX13_wordOf 126 = .ok (.bipush (-9), 2) := by decide +kernel
theorem dX13_wordOf_128 : decode cX13_wordOf 128 = .ok (.ireturn, 1) := by decide +kernel
theorem dX13_advances_0 : decode cX13_advances 0 = .ok (.aload_n 0, 1) := by decide +kernel
theorem dX13_advances_1 : decode cX13_advances 1 = .ok (.aload_n 0, 1) := by decide +kernel
theorem dX13_advances_2 : decode cX13_advances 2 = .ok (.getfield 76, 3) := by decide +kernel
theorem dX13_advances_5 : decode cX13_advances 5 = .ok (.invokevirtual 79, 3) := by decide +kernel
theorem dX13_advances_8 : decode cX13_advances 8 = .ok (.bipush 32, 2) := by decide +kernel
theorem dX13_advances_10 : decode cX13_advances 10 = .ok (.if_icmp .ne 16, 3) := by decide +kernel
theorem dX13_advances_13 : decode cX13_advances 13 = .ok (.aload_n 0, 1) := by decide +kernel
theorem dX13_advances_14 : decode cX13_advances 14 = .ok (.dup, 1) := by decide +kernel
theorem dX13_advances_15 : decode cX13_advances 15 = .ok (.getfield 76, 3) := by decide +kernel
theorem dX13_advances_18 : decode cX13_advances 18 = .ok (.iconst 1, 1) := by decide +kernel
theorem dX13_advances_19 : decode cX13_advances 19 = .ok (.iadd, 1) := by decide +kernel
theorem dX13_advances_20 : decode cX13_advances 20 = .ok (.putfield 76, 3) := by decide +kernel
theorem dX13_advances_23 : decode cX13_advances 23 = .ok (.goto (-23), 3) := by decide +kernel
theorem dX13_advances_26 : decode cX13_advances 26 = .ok (.aload_n 0, 1) := by decide +kernel
theorem dX13_advances_27 : decode cX13_advances 27 = .ok (.aload_n 0, 1) := by decide +kernel
theorem dX13_advances_28 : decode cX13_advances 28 = .ok (.getfield 76, 3) := by decide +kernel
theorem dX13_advances_31 : decode cX13_advances 31 = .ok (.putfield 83, 3) := by decide +kernel
theorem dX13_advances_34 : decode cX13_advances 34 = .ok (.aload_n 0, 1) := by decide +kernel
theorem dX13_advances_35 : decode cX13_advances 35 = .ok (.aload_n 0, 1) := by decide +kernel
theorem dX13_advances_36 : decode cX13_advances 36 = .ok (.getfield 76, 3) := by decide +kernel
theorem dX13_advances_39 : decode cX13_advances 39 = .ok (.invokevirtual 79, 3) := by decide +kernel
theorem dX13_advances_42 : decode cX13_advances 42 = .ok (.istore_n 1, 1) := by decide +kernel
theorem dX13_advances_43 : decode cX13_advances 43 = .ok (.iload_n 1, 1) := by decide +kernel
theorem dX13_advances_44 : decode cX13_advances 44 = .ok (.ifCond .ge 11, 3) := by decide +kernel
theorem dX13_advances_47 : decode cX13_advances 47 = .ok (.aload_n 0, 1) := by decide +kernel
theorem dX13_advances_48 : decode cX13_advances 48 = .ok (.iconst 0, 1) := by decide +kernel
theorem dX13_advances_49 : decode cX13_advances 49 = .ok (.putfield 86, 3) := by decide +kernel
theorem dX13_advances_52 : decode cX13_advances 52 = .ok (.goto 260, 3) := by decide +kernel
theorem dX13_advances_55 : decode cX13_advances 55 = .ok (.iload_n 1, 1) := by decide +kernel
theorem dX13_advances_56 : decode cX13_advances 56 = .ok (.bipush 97, 2) := by decide +kernel
theorem dX13_advances_58 : decode cX13_advances 58 = .ok (.bipush 122, 2) := by decide +kernel
theorem dX13_advances_60 : decode cX13_advances 60 = .ok (.invokestatic 57, 3) := by decide +kernel
theorem dX13_advances_63 : decode cX13_advances 63 = .ok (.ifCond .eq 96, 3) := by decide +kernel
theorem dX13_advances_66 : decode cX13_advances 66 = .ok (.lconst 0, 1) := by decide +kernel
theorem dX13_advances_67 : decode cX13_advances 67 = .ok (.lstore_n 2, 1) := by decide +kernel
theorem dX13_advances_68 : decode cX13_advances 68 = .ok (.aload_n 0, 1) := by decide +kernel
theorem dX13_advances_69 : decode cX13_advances 69 = .ok (.aload_n 0, 1) := by decide +kernel
theorem dX13_advances_70 : decode cX13_advances 70 = .ok (.getfield 76, 3) := by decide +kernel
theorem dX13_advances_73 : decode cX13_advances 73 = .ok (.invokevirtual 79, 3) := by decide +kernel
theorem dX13_advances_76 : decode cX13_advances 76 = .ok (.bipush 97, 2) := by decide +kernel
theorem dX13_advances_78 : decode cX13_advances 78 = .ok (.bipush 122, 2) := by decide +kernel
theorem dX13_advances_80 : decode cX13_advances 80 = .ok (.invokestatic 57, 3) := by decide +kernel
theorem dX13_advances_83 : decode cX13_advances 83 = .ok (.ifCond .eq 47, 3) := by decide +kernel
theorem dX13_advances_86 : decode cX13_advances 86 = .ok (.aload_n 0, 1) := by decide +kernel
theorem dX13_advances_87 : decode cX13_advances 87 = .ok (.getfield 76, 3) := by decide +kernel
theorem dX13_advances_90 : decode cX13_advances 90 = .ok (.aload_n 0, 1) := by decide +kernel
theorem dX13_advances_91 : decode cX13_advances 91 = .ok (.getfield 83, 3) := by decide +kernel
theorem dX13_advances_94 : decode cX13_advances 94 = .ok (.isub, 1) := by decide +kernel
theorem dX13_advances_95 : decode cX13_advances 95 = .ok (.bipush 7, 2) := by decide +kernel
theorem dX13_advances_97 : decode cX13_advances 97 = .ok (.if_icmp .ge 18, 3) := by decide +kernel
theorem dX13_advances_100 : decode cX13_advances 100 = .ok (.lload_n 2, 1) := by decide +kernel
theorem dX13_advances_101 : decode cX13_advances 101 = .ok (.aload_n 0, 1) := by decide +kernel
theorem dX13_advances_102 : decode cX13_advances 102 = .ok (.aload_n 0, 1) := by decide +kernel
theorem dX13_advances_103 : decode cX13_advances 103 = .ok (.getfield 76, 3) := by decide +kernel
theorem dX13_advances_106 : decode cX13_advances 106 = .ok (.invokevirtual 79, 3) := by decide +kernel
theorem dX13_advances_109 : decode cX13_advances 109 = .ok (.invokestatic 68, 3) := by decide +kernel
theorem dX13_advances_112 : decode cX13_advances 112 = .ok (.goto 4, 3) := by decide +kernel
theorem dX13_advances_115 : decode cX13_advances 115 = .ok (.lload_n 2, 1) := by decide +kernel
theorem dX13_advances_116 : decode cX13_advances 116 = .ok (.lstore_n 2, 1) := by decide +kernel
theorem dX13_advances_117 : decode cX13_advances 117 = .ok (.aload_n 0, 1) := by decide +kernel
theorem dX13_advances_118 : decode cX13_advances 118 = .ok (.dup, 1) := by decide +kernel
theorem dX13_advances_119 : decode cX13_advances 119 = .ok (.getfield 76, 3) := by decide +kernel
theorem dX13_advances_122 : decode cX13_advances 122 = .ok (.iconst 1, 1) := by decide +kernel
theorem dX13_advances_123 : decode cX13_advances 123 = .ok (.iadd, 1) := by decide +kernel
theorem dX13_advances_124 : decode cX13_advances 124 = .ok (.putfield 76, 3) := by decide +kernel
theorem dX13_advances_127 : decode cX13_advances 127 = .ok (.goto (-59), 3) := by decide +kernel
theorem dX13_advances_130 : decode cX13_advances 130 = .ok (.aload_n 0, 1) := by decide +kernel
theorem dX13_advances_131 : decode cX13_advances 131 = .ok (.lload_n 2, 1) := by decide +kernel
theorem dX13_advances_132 : decode cX13_advances 132 = .ok (.invokestatic 89, 3) := by decide +kernel
theorem dX13_advances_135 : decode cX13_advances 135 = .ok (.putfield 93, 3) := by decide +kernel
theorem dX13_advances_138 : decode cX13_advances 138 = .ok (.aload_n 0, 1) := by decide +kernel
theorem dX13_advances_139 : decode cX13_advances 139 = .ok (.aload_n 0, 1) := by decide +kernel
theorem dX13_advances_140 : decode cX13_advances 140 = .ok (.getfield 93, 3) := by decide +kernel
theorem dX13_advances_143 : decode cX13_advances 143 = .ok (.bipush (-9), 2) := by decide +kernel
theorem dX13_advances_145 : decode cX13_advances 145 = .ok (.if_icmp .ne 7, 3) := by decide +kernel
theorem dX13_advances_148 : decode cX13_advances 148 = .ok (.iconst 4, 1) := by decide +kernel
theorem dX13_advances_149 : decode cX13_advances 149 = .ok (.goto 4, 3) := by decide +kernel
theorem dX13_advances_152 : decode cX13_advances 152 = .ok (.iconst 1, 1) := by decide +kernel
theorem dX13_advances_153 : decode cX13_advances 153 = .ok (.putfield 86, 3) := by decide +kernel
theorem dX13_advances_156 : decode cX13_advances 156 = .ok (.goto 156, 3) := by decide +kernel
theorem dX13_advances_159 : decode cX13_advances 159 = .ok (.iload_n 1, 1) := by decide +kernel
theorem dX13_advances_160 : decode cX13_advances 160 = .ok (.bipush 48, 2) := by decide +kernel
theorem dX13_advances_162 : decode cX13_advances 162 = .ok (.bipush 57, 2) := by decide +kernel
theorem dX13_advances_164 : decode cX13_advances 164 = .ok (.invokestatic 57, 3) := by decide +kernel
theorem dX13_advances_167 : decode cX13_advances 167 = .ok (.ifCond .eq 120, 3) := by decide +kernel
theorem dX13_advances_170 : decode cX13_advances 170 = .ok (.aload_n 0, 1) := by decide +kernel
theorem dX13_advances_171 : decode cX13_advances 171 = .ok (.iconst 0, 1) := by decide +kernel
theorem dX13_advances_172 : decode cX13_advances 172 = .ok (.putfield 93, 3) := by decide +kernel
theorem dX13_advances_175 : decode cX13_advances 175 = .ok (.aload_n 0, 1) := by decide +kernel
theorem dX13_advances_176 : decode cX13_advances 176 = .ok (.aload_n 0, 1) := by decide +kernel
theorem dX13_advances_177 : decode cX13_advances 177 = .ok (.getfield 76, 3) := by decide +kernel
theorem dX13_advances_180 : decode cX13_advances 180 = .ok (.invokevirtual 79, 3) := by decide +kernel
theorem dX13_advances_183 : decode cX13_advances 183 = .ok (.bipush 48, 2) := by decide +kernel
theorem dX13_advances_185 : decode cX13_advances 185 = .ok (.bipush 57, 2) := by decide +kernel
theorem dX13_advances_187 : decode cX13_advances 187 = .ok (.invokestatic 57, 3) := by decide +kernel
theorem dX13_advances_190 : decode cX13_advances 190 = .ok (.ifCond .eq 56, 3) := by decide +kernel
theorem dX13_advances_193 : decode cX13_advances 193 = .ok (.aload_n 0, 1) := by decide +kernel
theorem dX13_advances_194 : decode cX13_advances 194 = .ok (.aload_n 0, 1) := by decide +kernel
theorem dX13_advances_195 : decode cX13_advances 195 = .ok (.getfield 93, 3) := by decide +kernel
theorem dX13_advances_198 : decode cX13_advances 198 = .ok (.sipush 999, 3) := by decide +kernel
theorem dX13_advances_201 : decode cX13_advances 201 = .ok (.if_icmp .le 10, 3) := by decide +kernel
theorem dX13_advances_204 : decode cX13_advances 204 = .ok (.aload_n 0, 1) := by decide +kernel
theorem dX13_advances_205 : decode cX13_advances 205 = .ok (.getfield 93, 3) := by decide +kernel
theorem dX13_advances_208 : decode cX13_advances 208 = .ok (.goto 22, 3) := by decide +kernel
theorem dX13_advances_211 : decode cX13_advances 211 = .ok (.bipush 10, 2) := by decide +kernel
theorem dX13_advances_213 : decode cX13_advances 213 = .ok (.aload_n 0, 1) := by decide +kernel
theorem dX13_advances_214 : decode cX13_advances 214 = .ok (.getfield 93, 3) := by decide +kernel
theorem dX13_advances_217 : decode cX13_advances 217 = .ok (.imul, 1) := by decide +kernel
theorem dX13_advances_218 : decode cX13_advances 218 = .ok (.aload_n 0, 1) := by decide +kernel
theorem dX13_advances_219 : decode cX13_advances 219 = .ok (.aload_n 0, 1) := by decide +kernel
theorem dX13_advances_220 : decode cX13_advances 220 = .ok (.getfield 76, 3) := by decide +kernel
theorem dX13_advances_223 : decode cX13_advances 223 = .ok (.invokevirtual 79, 3) := by decide +kernel
theorem dX13_advances_226 : decode cX13_advances 226 = .ok (.iadd, 1) := by decide +kernel
theorem dX13_advances_227 : decode cX13_advances 227 = .ok (.bipush 48, 2) := by decide +kernel
theorem dX13_advances_229 : decode cX13_advances 229 = .ok (.isub, 1) := by decide +kernel
theorem dX13_advances_230 : decode cX13_advances 230 = .ok (.putfield 93, 3) := by decide +kernel
theorem dX13_advances_233 : decode cX13_advances 233 = .ok (.aload_n 0, 1) := by decide +kernel
theorem dX13_advances_234 : decode cX13_advances 234 = .ok (.dup, 1) := by decide +kernel
theorem dX13_advances_235 : decode cX13_advances 235 = .ok (.getfield 76, 3) := by decide +kernel
theorem dX13_advances_238 : decode cX13_advances 238 = .ok (.iconst 1, 1) := by decide +kernel
theorem dX13_advances_239 : decode cX13_advances 239 = .ok (.iadd, 1) := by decide +kernel
theorem dX13_advances_240 : decode cX13_advances 240 = .ok (.putfield 76, 3) := by decide +kernel
theorem dX13_advances_243 : decode cX13_advances 243 = .ok (.goto (-68), 3) := by decide +kernel
theorem dX13_advances_246 : decode cX13_advances 246 = .ok (.aload_n 0, 1) := by decide +kernel
theorem dX13_advances_247 : decode cX13_advances 247 = .ok (.aload_n 0, 1) := by decide +kernel
theorem dX13_advances_248 : decode cX13_advances 248 = .ok (.getfield 93, 3) := by decide +kernel
theorem dX13_advances_251 : decode cX13_advances 251 = .ok (.sipush 999, 3) := by decide +kernel
theorem dX13_advances_254 : decode cX13_advances 254 = .ok (.if_icmp .gt 22, 3) := by decide +kernel
theorem dX13_advances_257 : decode cX13_advances 257 = .ok (.iload_n 1, 1) := by decide +kernel
theorem dX13_advances_258 : decode cX13_advances 258 = .ok (.bipush 48, 2) := by decide +kernel
theorem dX13_advances_260 : decode cX13_advances 260 = .ok (.if_icmp .ne 20, 3) := by decide +kernel
theorem dX13_advances_263 : decode cX13_advances 263 = .ok (.aload_n 0, 1) := by decide +kernel
theorem dX13_advances_264 : decode cX13_advances 264 = .ok (.getfield 76, 3) := by decide +kernel
theorem dX13_advances_267 : decode cX13_advances 267 = .ok (.aload_n 0, 1) := by decide +kernel
theorem dX13_advances_268 : decode cX13_advances 268 = .ok (.getfield 83, 3) := by decide +kernel
theorem dX13_advances_271 : decode cX13_advances 271 = .ok (.isub, 1) := by decide +kernel
theorem dX13_advances_272 : decode cX13_advances 272 = .ok (.iconst 1, 1) := by decide +kernel
theorem dX13_advances_273 : decode cX13_advances 273 = .ok (.if_icmp .le 7, 3) := by decide +kernel
theorem dX13_advances_276 : decode cX13_advances 276 = .ok (.iconst 4, 1) := by decide +kernel
theorem dX13_advances_277 : decode cX13_advances 277 = .ok (.goto 4, 3) := by decide +kernel
theorem dX13_advances_280 : decode cX13_advances 280 = .ok (.iconst 2, 1) := by decide +kernel
theorem dX13_advances_281 : decode cX13_advances 281 = .ok (.putfield 86, 3) := by decide +kernel
theorem dX13_advances_284 : decode cX13_advances 284 = .ok (.goto 28, 3) := by decide +kernel
theorem dX13_advances_287 : decode cX13_advances 287 = .ok (.aload_n 0, 1) := by decide +kernel
theorem dX13_advances_288 : decode cX13_advances 288 = .ok (.dup, 1) := by decide +kernel
theorem dX13_advances_289 : decode cX13_advances 289 = .ok (.getfield 76, 3) := by decide +kernel
theorem dX13_advances_292 : decode cX13_advances 292 = .ok (.iconst 1, 1) := by decide +kernel
theorem dX13_advances_293 : decode cX13_advances 293 = .ok (.iadd, 1) := by decide +kernel
theorem dX13_advances_294 : decode cX13_advances 294 = .ok (.putfield 76, 3) := by decide +kernel
theorem dX13_advances_297 : decode cX13_advances 297 = .ok (.aload_n 0, 1) := by decide +kernel
theorem dX13_advances_298 : decode cX13_advances 298 = .ok (.iload_n 1, 1) := by decide +kernel
theorem dX13_advances_299 : decode cX13_advances 299 = .ok (.bipush 59, 2) := by decide +kernel
theorem dX13_advances_301 : decode cX13_advances 301 = .ok (.if_icmp .ne 7, 3) := by decide +kernel
theorem dX13_advances_304 : decode cX13_advances 304 = .ok (.iconst 3, 1) := by decide +kernel
theorem dX13_advances_305 : decode cX13_advances 305 = .ok (.goto 4, 3) := by decide +kernel
theorem dX13_advances_308 : decode cX13_advances 308 = .ok (.iconst 4, 1) := by decide +kernel
theorem dX13_advances_309 : decode cX13_advances 309 = .ok (.putfield 86, 3) := by decide +kernel
theorem dX13_advances_312 : decode cX13_advances 312 = .ok (.return_, 1) := by decide +kernel
theorem dX13_isWell_0 : decode cX13_isWell 0 = .ok (.aload_n 0, 1) := by decide +kernel
theorem dX13_isWell_1 : decode cX13_isWell 1 = .ok (.getfield 96, 3) := by decide +kernel
theorem dX13_isWell_4 : decode cX13_isWell 4 = .ok (.ifCond .ge 7, 3) := by decide +kernel
theorem dX13_isWell_7 : decode cX13_isWell 7 = .ok (.iconst 1, 1) := by decide +kernel
theorem dX13_isWell_8 : decode cX13_isWell 8 = .ok (.goto 4, 3) := by decide +kernel
theorem dX13_isWell_11 : decode cX13_isWell 11 = .ok (.iconst 0, 1) := by decide +kernel
theorem dX13_isWell_12 : decode cX13_isWell 12 = .ok (.ireturn, 1) := by decide +kernel
theorem dX13_takes_0 : decode cX13_takes 0 = .ok (.aload_n 0, 1) := by decide +kernel
theorem dX13_takes_1 : decode cX13_takes 1 = .ok (.invokevirtual 99, 3) := by decide +kernel
theorem dX13_takes_4 : decode cX13_takes 4 = .ok (.ifCond .ne 5, 3) := by decide +kernel
theorem dX13_takes_7 : decode cX13_takes 7 = .ok (.iconst 0, 1) := by decide +kernel
theorem dX13_takes_8 : decode cX13_takes 8 = .ok (.ireturn, 1) := by decide +kernel
theorem dX13_takes_9 : decode cX13_takes 9 = .ok (.iload_n 1, 1) := by decide +kernel
theorem dX13_takes_10 : decode cX13_takes 10 = .ok (.ifCond .ne 13, 3) := by decide +kernel
theorem dX13_takes_13 : decode cX13_takes 13 = .ok (.aload_n 0, 1) := by decide +kernel
theorem dX13_takes_14 : decode cX13_takes 14 = .ok (.aload_n 0, 1) := by decide +kernel
theorem dX13_takes_15 : decode cX13_takes 15 = .ok (.getfield 83, 3) := by decide +kernel
theorem dX13_takes_18 : decode cX13_takes 18 = .ok (.putfield 96, 3) := by decide +kernel
theorem dX13_takes_21 : decode cX13_takes 21 = .ok (.iconst 0, 1) := by decide +kernel
theorem dX13_takes_22 : decode cX13_takes 22 = .ok (.ireturn, 1) := by decide +kernel
theorem dX13_takes_23 : decode cX13_takes 23 = .ok (.aload_n 0, 1) := by decide +kernel
theorem dX13_takes_24 : decode cX13_takes 24 = .ok (.getfield 93, 3) := by decide +kernel
theorem dX13_takes_27 : decode cX13_takes 27 = .ok (.istore_n 2, 1) := by decide +kernel
theorem dX13_takes_28 : decode cX13_takes 28 = .ok (.aload_n 0, 1) := by decide +kernel
theorem dX13_takes_29 : decode cX13_takes 29 = .ok (.invokevirtual 103, 3) := by decide +kernel
theorem dX13_takes_32 : decode cX13_takes 32 = .ok (.iload_n 2, 1) := by decide +kernel
theorem dX13_takes_33 : decode cX13_takes 33 = .ok (.ireturn, 1) := by decide +kernel
theorem dX13_number_0 : decode cX13_number 0 = .ok (.aload_n 0, 1) := by decide +kernel
theorem dX13_number_1 : decode cX13_number 1 = .ok (.aload_n 0, 1) := by decide +kernel
theorem dX13_number_2 : decode cX13_number 2 = .ok (.getfield 86, 3) := by decide +kernel
theorem dX13_number_5 : decode cX13_number 5 = .ok (.iconst 2, 1) := by decide +kernel
theorem dX13_number_6 : decode cX13_number 6 = .ok (.if_icmp .ne 19, 3) := by decide +kernel
theorem dX13_number_9 : decode cX13_number 9 = .ok (.aload_n 0, 1) := by decide +kernel
theorem dX13_number_10 : decode cX13_number 10 = .ok (.getfield 93, 3) := by decide +kernel
theorem dX13_number_13 : decode cX13_number 13 = .ok (.iload_n 1, 1) := by decide +kernel
theorem dX13_number_14 : decode cX13_number 14 = .ok (.iload_n 2, 1) := by decide +kernel
theorem dX13_number_15 : decode cX13_number 15 = .ok (.invokestatic 57, 3) := by decide +kernel
theorem dX13_number_18 : decode cX13_number 18 = .ok (.ifCond .eq 7, 3) := by decide +kernel
theorem dX13_number_21 : decode cX13_number 21 = .ok (.iconst 1, 1) := by decide +kernel
theorem dX13_number_22 : decode cX13_number 22 = .ok (.goto 4, 3) := by decide +kernel
theorem dX13_number_25 : decode cX13_number 25 = .ok (.iconst 0, 1) := by decide +kernel
theorem dX13_number_26 : decode cX13_number 26 = .ok (.invokevirtual 106, 3) := by decide +kernel
theorem dX13_number_29 : decode cX13_number 29 = .ok (.ireturn, 1) := by decide +kernel
theorem dX13_readsItem_0 : decode cX13_readsItem 0 = .ok (.iload_n 1, 1) := by decide +kernel
theorem dX13_readsItem_1 : decode cX13_readsItem 1 = .ok (.ifCond .ne 134, 3) := by decide +kernel
theorem dX13_readsItem_4 : decode cX13_readsItem 4 = .ok (.bipush 7, 2) := by decide +kernel
theorem dX13_readsItem_6 : decode cX13_readsItem 6 = .ok (.aload_n 0, 1) := by decide +kernel
theorem dX13_readsItem_7 : decode cX13_readsItem 7 = .ok (.getfield 110, 3) := by decide +kernel
theorem dX13_readsItem_10 : decode cX13_readsItem 10 = .ok (.imul, 1) := by decide +kernel
theorem dX13_readsItem_11 : decode cX13_readsItem 11 = .ok (.istore_n 2, 1) := by decide +kernel
theorem dX13_readsItem_12 : decode cX13_readsItem 12 = .ok (.aload_n 0, 1) := by decide +kernel
theorem dX13_readsItem_13 : decode cX13_readsItem 13 = .ok (.getfield 29, 3) := by decide +kernel
theorem dX13_readsItem_16 : decode cX13_readsItem 16 = .ok (.iload_n 2, 1) := by decide +kernel
theorem dX13_readsItem_17 : decode cX13_readsItem 17 = .ok (.iconst 0, 1) := by decide +kernel
theorem dX13_readsItem_18 : decode cX13_readsItem 18 = .ok (.iadd, 1) := by decide +kernel
theorem dX13_readsItem_19 : decode cX13_readsItem 19 = .ok (.aload_n 0, 1) := by decide +kernel
theorem dX13_readsItem_20 : decode cX13_readsItem 20 = .ok (.bipush 80, 2) := by decide +kernel
theorem dX13_readsItem_22 : decode cX13_readsItem 22 = .ok (.sipush 130, 3) := by decide +kernel
theorem dX13_readsItem_25 : decode cX13_readsItem 25 = .ok (.invokevirtual 113, 3) := by decide +kernel
theorem dX13_readsItem_28 : decode cX13_readsItem 28 = .ok (.iastore, 1) := by decide +kernel
theorem dX13_readsItem_29 : decode cX13_readsItem 29 = .ok (.aload_n 0, 1) := by decide +kernel
theorem dX13_readsItem_30 : decode cX13_readsItem 30 = .ok (.getfield 29, 3) := by decide +kernel
theorem dX13_readsItem_33 : decode cX13_readsItem 33 = .ok (.iload_n 2, 1) := by decide +kernel
theorem dX13_readsItem_34 : decode cX13_readsItem 34 = .ok (.iconst 1, 1) := by decide +kernel
theorem dX13_readsItem_35 : decode cX13_readsItem 35 = .ok (.iadd, 1) := by decide +kernel
theorem dX13_readsItem_36 : decode cX13_readsItem 36 = .ok (.aload_n 0, 1) := by decide +kernel
theorem dX13_readsItem_37 : decode cX13_readsItem 37 = .ok (.sipush 200, 3) := by decide +kernel
theorem dX13_readsItem_40 : decode cX13_readsItem 40 = .ok (.sipush 600, 3) := by decide +kernel
theorem dX13_readsItem_43 : decode cX13_readsItem 43 = .ok (.invokevirtual 113, 3) := by decide +kernel
theorem dX13_readsItem_46 : decode cX13_readsItem 46 = .ok (.iastore, 1) := by decide +kernel
theorem dX13_readsItem_47 : decode cX13_readsItem 47 = .ok (.aload_n 0, 1) := by decide +kernel
theorem dX13_readsItem_48 : decode cX13_readsItem 48 = .ok (.getfield 29, 3) := by decide +kernel
theorem dX13_readsItem_51 : decode cX13_readsItem 51 = .ok (.iload_n 2, 1) := by decide +kernel
theorem dX13_readsItem_52 : decode cX13_readsItem 52 = .ok (.iconst 2, 1) := by decide +kernel
theorem dX13_readsItem_53 : decode cX13_readsItem 53 = .ok (.iadd, 1) := by decide +kernel
theorem dX13_readsItem_54 : decode cX13_readsItem 54 = .ok (.aload_n 0, 1) := by decide +kernel
theorem dX13_readsItem_55 : decode cX13_readsItem 55 = .ok (.bipush 20, 2) := by decide +kernel
theorem dX13_readsItem_57 : decode cX13_readsItem 57 = .ok (.bipush 99, 2) := by decide +kernel
theorem dX13_readsItem_59 : decode cX13_readsItem 59 = .ok (.invokevirtual 113, 3) := by decide +kernel
theorem dX13_readsItem_62 : decode cX13_readsItem 62 = .ok (.iastore, 1) := by decide +kernel
theorem dX13_readsItem_63 : decode cX13_readsItem 63 = .ok (.aload_n 0, 1) := by decide +kernel
theorem dX13_readsItem_64 : decode cX13_readsItem 64 = .ok (.getfield 29, 3) := by decide +kernel
theorem dX13_readsItem_67 : decode cX13_readsItem 67 = .ok (.iload_n 2, 1) := by decide +kernel
theorem dX13_readsItem_68 : decode cX13_readsItem 68 = .ok (.iconst 2, 1) := by decide +kernel
theorem dX13_readsItem_69 : decode cX13_readsItem 69 = .ok (.iadd, 1) := by decide +kernel
theorem dX13_readsItem_70 : decode cX13_readsItem 70 = .ok (.iconst 1, 1) := by decide +kernel
theorem dX13_readsItem_71 : decode cX13_readsItem 71 = .ok (.iadd, 1) := by decide +kernel
theorem dX13_readsItem_72 : decode cX13_readsItem 72 = .ok (.aload_n 0, 1) := by decide +kernel
theorem dX13_readsItem_73 : decode cX13_readsItem 73 = .ok (.bipush 20, 2) := by decide +kernel
theorem dX13_readsItem_75 : decode cX13_readsItem 75 = .ok (.bipush 99, 2) := by decide +kernel
theorem dX13_readsItem_77 : decode cX13_readsItem 77 = .ok (.invokevirtual 113, 3) := by decide +kernel
theorem dX13_readsItem_80 : decode cX13_readsItem 80 = .ok (.iastore, 1) := by decide +kernel
theorem dX13_readsItem_81 : decode cX13_readsItem 81 = .ok (.aload_n 0, 1) := by decide +kernel
theorem dX13_readsItem_82 : decode cX13_readsItem 82 = .ok (.getfield 29, 3) := by decide +kernel
theorem dX13_readsItem_85 : decode cX13_readsItem 85 = .ok (.iload_n 2, 1) := by decide +kernel
theorem dX13_readsItem_86 : decode cX13_readsItem 86 = .ok (.iconst 4, 1) := by decide +kernel
theorem dX13_readsItem_87 : decode cX13_readsItem 87 = .ok (.iadd, 1) := by decide +kernel
theorem dX13_readsItem_88 : decode cX13_readsItem 88 = .ok (.aload_n 0, 1) := by decide +kernel
theorem dX13_readsItem_89 : decode cX13_readsItem 89 = .ok (.iconst 0, 1) := by decide +kernel
theorem dX13_readsItem_90 : decode cX13_readsItem 90 = .ok (.sipush 200, 3) := by decide +kernel
theorem dX13_readsItem_93 : decode cX13_readsItem 93 = .ok (.invokevirtual 113, 3) := by decide +kernel
theorem dX13_readsItem_96 : decode cX13_readsItem 96 = .ok (.iastore, 1) := by decide +kernel
theorem dX13_readsItem_97 : decode cX13_readsItem 97 = .ok (.aload_n 0, 1) := by decide +kernel
theorem dX13_readsItem_98 : decode cX13_readsItem 98 = .ok (.getfield 29, 3) := by decide +kernel
theorem dX13_readsItem_101 : decode cX13_readsItem 101 = .ok (.iload_n 2, 1) := by decide +kernel
theorem dX13_readsItem_102 : decode cX13_readsItem 102 = .ok (.iconst 5, 1) := by decide +kernel
theorem dX13_readsItem_103 : decode cX13_readsItem 103 = .ok (.iadd, 1) := by decide +kernel
theorem dX13_readsItem_104 : decode cX13_readsItem 104 = .ok (.aload_n 0, 1) := by decide +kernel
theorem dX13_readsItem_105 : decode cX13_readsItem 105 = .ok (.iconst 0, 1) := by decide +kernel
theorem dX13_readsItem_106 : decode cX13_readsItem 106 = .ok (.bipush 9, 2) := by decide +kernel
theorem dX13_readsItem_108 : decode cX13_readsItem 108 = .ok (.invokevirtual 113, 3) := by decide +kernel
theorem dX13_readsItem_111 : decode cX13_readsItem 111 = .ok (.iastore, 1) := by decide +kernel
theorem dX13_readsItem_112 : decode cX13_readsItem 112 = .ok (.aload_n 0, 1) := by decide +kernel
theorem dX13_readsItem_113 : decode cX13_readsItem 113 = .ok (.getfield 29, 3) := by decide +kernel
theorem dX13_readsItem_116 : decode cX13_readsItem 116 = .ok (.iload_n 2, 1) := by decide +kernel
theorem dX13_readsItem_117 : decode cX13_readsItem 117 = .ok (.bipush 6, 2) := by decide +kernel
theorem dX13_readsItem_119 : decode cX13_readsItem 119 = .ok (.iadd, 1) := by decide +kernel
theorem dX13_readsItem_120 : decode cX13_readsItem 120 = .ok (.iconst 0, 1) := by decide +kernel
theorem dX13_readsItem_121 : decode cX13_readsItem 121 = .ok (.iastore, 1) := by decide +kernel
theorem dX13_readsItem_122 : decode cX13_readsItem 122 = .ok (.aload_n 0, 1) := by decide +kernel
theorem dX13_readsItem_123 : decode cX13_readsItem 123 = .ok (.dup, 1) := by decide +kernel
theorem dX13_readsItem_124 : decode cX13_readsItem 124 = .ok (.getfield 110, 3) := by decide +kernel
theorem dX13_readsItem_127 : decode cX13_readsItem 127 = .ok (.iconst 1, 1) := by decide +kernel
theorem dX13_readsItem_128 : decode cX13_readsItem 128 = .ok (.iadd, 1) := by decide +kernel
theorem dX13_readsItem_129 : decode cX13_readsItem 129 = .ok (.putfield 110, 3) := by decide +kernel
theorem dX13_readsItem_132 : decode cX13_readsItem 132 = .ok (.goto 150, 3) := by decide +kernel
theorem dX13_readsItem_135 : decode cX13_readsItem 135 = .ok (.iload_n 1, 1) := by decide +kernel
theorem dX13_readsItem_136 : decode cX13_readsItem 136 = .ok (.iconst 1, 1) := by decide +kernel
theorem dX13_readsItem_137 : decode cX13_readsItem 137 = .ok (.if_icmp .ne 55, 3) := by decide +kernel
theorem dX13_readsItem_140 : decode cX13_readsItem 140 = .ok (.aload_n 0, 1) := by decide +kernel
theorem dX13_readsItem_141 : decode cX13_readsItem 141 = .ok (.getfield 32, 3) := by decide +kernel
theorem dX13_readsItem_144 : decode cX13_readsItem 144 = .ok (.iconst 2, 1) := by decide +kernel
theorem dX13_readsItem_145 : decode cX13_readsItem 145 = .ok (.aload_n 0, 1) := by decide +kernel
theorem dX13_readsItem_146 : decode cX13_readsItem 146 = .ok (.getfield 117, 3) := by decide +kernel
theorem dX13_readsItem_149 : decode cX13_readsItem 149 = .ok (.imul, 1) := by decide +kernel
theorem dX13_readsItem_150 : decode cX13_readsItem 150 = .ok (.aload_n 0, 1) := by decide +kernel
theorem dX13_readsItem_151 : decode cX13_readsItem 151 = .ok (.bipush 20, 2) := by decide +kernel
theorem dX13_readsItem_153 : decode cX13_readsItem 153 = .ok (.bipush 70, 2) := by decide +kernel
theorem dX13_readsItem_155 : decode cX13_readsItem 155 = .ok (.invokevirtual 113, 3) := by decide +kernel
theorem dX13_readsItem_158 : decode cX13_readsItem 158 = .ok (.iastore, 1) := by decide +kernel
theorem dX13_readsItem_159 : decode cX13_readsItem 159 = .ok (.aload_n 0, 1) := by decide +kernel
theorem dX13_readsItem_160 : decode cX13_readsItem 160 = .ok (.getfield 32, 3) := by decide +kernel
theorem dX13_readsItem_163 : decode cX13_readsItem 163 = .ok (.iconst 2, 1) := by decide +kernel
theorem dX13_readsItem_164 : decode cX13_readsItem 164 = .ok (.aload_n 0, 1) := by decide +kernel
theorem dX13_readsItem_165 : decode cX13_readsItem 165 = .ok (.getfield 117, 3) := by decide +kernel
theorem dX13_readsItem_168 : decode cX13_readsItem 168 = .ok (.imul, 1) := by decide +kernel
theorem dX13_readsItem_169 : decode cX13_readsItem 169 = .ok (.iconst 1, 1) := by decide +kernel
theorem dX13_readsItem_170 : decode cX13_readsItem 170 = .ok (.iadd, 1) := by decide +kernel
theorem dX13_readsItem_171 : decode cX13_readsItem 171 = .ok (.aload_n 0, 1) := by decide +kernel
theorem dX13_readsItem_172 : decode cX13_readsItem 172 = .ok (.iconst 0, 1) := by decide +kernel
theorem dX13_readsItem_173 : decode cX13_readsItem 173 = .ok (.bipush 9, 2) := by decide +kernel
theorem dX13_readsItem_175 : decode cX13_readsItem 175 = .ok (.invokevirtual 113, 3) := by decide +kernel
theorem dX13_readsItem_178 : decode cX13_readsItem 178 = .ok (.iastore, 1) := by decide +kernel
theorem dX13_readsItem_179 : decode cX13_readsItem 179 = .ok (.aload_n 0, 1) := by decide +kernel
theorem dX13_readsItem_180 : decode cX13_readsItem 180 = .ok (.dup, 1) := by decide +kernel
theorem dX13_readsItem_181 : decode cX13_readsItem 181 = .ok (.getfield 117, 3) := by decide +kernel
theorem dX13_readsItem_184 : decode cX13_readsItem 184 = .ok (.iconst 1, 1) := by decide +kernel
theorem dX13_readsItem_185 : decode cX13_readsItem 185 = .ok (.iadd, 1) := by decide +kernel
theorem dX13_readsItem_186 : decode cX13_readsItem 186 = .ok (.putfield 117, 3) := by decide +kernel
theorem dX13_readsItem_189 : decode cX13_readsItem 189 = .ok (.goto 93, 3) := by decide +kernel
theorem dX13_readsItem_192 : decode cX13_readsItem 192 = .ok (.aload_n 0, 1) := by decide +kernel
theorem dX13_readsItem_193 : decode cX13_readsItem 193 = .ok (.aload_n 0, 1) := by decide +kernel
theorem dX13_readsItem_194 : decode cX13_readsItem 194 = .ok (.getfield 86, 3) := by decide +kernel
theorem dX13_readsItem_197 : decode cX13_readsItem 197 = .ok (.iconst 1, 1) := by decide +kernel
theorem dX13_readsItem_198 : decode cX13_readsItem 198 = .ok (.if_icmp .ne 19, 3) := by decide +kernel
theorem dX13_readsItem_201 : decode cX13_readsItem 201 = .ok (.aload_n 0, 1) := by decide +kernel
theorem dX13_readsItem_202 : decode cX13_readsItem 202 = .ok (.getfield 93, 3) := by decide +kernel
theorem dX13_readsItem_205 : decode cX13_readsItem 205 = .ok (.iconst 3, 1) := by decide +kernel
theorem dX13_readsItem_206 : decode cX13_readsItem 206 = .ok (.iconst 4, 1) := by decide +kernel
theorem dX13_readsItem_207 : decode cX13_readsItem 207 = .ok (.invokestatic 57, 3) := by decide +kernel
theorem dX13_readsItem_210 : decode cX13_readsItem 210 = .ok (.ifCond .eq 7, 3) := by decide +kernel
theorem dX13_readsItem_213 : decode cX13_readsItem 213 = .ok (.iconst 1, 1) := by decide +kernel
theorem dX13_readsItem_214 : decode cX13_readsItem 214 = .ok (.goto 4, 3) := by decide +kernel
theorem dX13_readsItem_217 : decode cX13_readsItem 217 = .ok (.iconst 0, 1) := by decide +kernel
theorem dX13_readsItem_218 : decode cX13_readsItem 218 = .ok (.invokevirtual 106, 3) := by decide +kernel
theorem dX13_readsItem_221 : decode cX13_readsItem 221 = .ok (.istore_n 2, 1) := by decide +kernel
theorem dX13_readsItem_222 : decode cX13_readsItem 222 = .ok (.aload_n 0, 1) := by decide +kernel
theorem dX13_readsItem_223 : decode cX13_readsItem 223 = .ok (.iconst 0, 1) := by decide +kernel
theorem dX13_readsItem_224 : decode cX13_readsItem 224 = .ok (.bipush 30, 2) := by decide +kernel
theorem dX13_readsItem_226 : decode cX13_readsItem 226 = .ok (.invokevirtual 113, 3) := by decide +kernel
theorem dX13_readsItem_229 : decode cX13_readsItem 229 = .ok (.istore_n 3, 1) := by decide +kernel
theorem dX13_readsItem_230 : decode cX13_readsItem 230 = .ok (.aload_n 0, 1) := by decide +kernel
theorem dX13_readsItem_231 : decode cX13_readsItem 231 = .ok (.getfield 35, 3) := by decide +kernel
theorem dX13_readsItem_234 : decode cX13_readsItem 234 = .ok (.iconst 2, 1) := by decide +kernel
theorem dX13_readsItem_235 : decode cX13_readsItem 235 = .ok (.aload_n 0, 1) := by decide +kernel
theorem dX13_readsItem_236 : decode cX13_readsItem 236 = .ok (.getfield 120, 3) := by decide +kernel
theorem dX13_readsItem_239 : decode cX13_readsItem 239 = .ok (.imul, 1) := by decide +kernel
theorem dX13_readsItem_240 : decode cX13_readsItem 240 = .ok (.iload_n 2, 1) := by decide +kernel
theorem dX13_readsItem_241 : decode cX13_readsItem 241 = .ok (.iconst 3, 1) := by decide +kernel
theorem dX13_readsItem_242 : decode cX13_readsItem 242 = .ok (.if_icmp .ne 8, 3) := by decide +kernel
theorem dX13_readsItem_245 : decode cX13_readsItem 245 = .ok (.iload_n 3, 1) := by decide +kernel
theorem dX13_readsItem_246 : decode cX13_readsItem 246 = .ok (.ineg, 1) := by decide +kernel
theorem dX13_readsItem_247 : decode cX13_readsItem 247 = .ok (.goto 4, 3) := by decide +kernel
theorem dX13_readsItem_250 : decode cX13_readsItem 250 = .ok (.iload_n 3, 1) := by decide +kernel
theorem dX13_readsItem_251 : decode cX13_readsItem 251 = .ok (.iastore, 1) := by decide +kernel
theorem dX13_readsItem_252 : decode cX13_readsItem 252 = .ok (.aload_n 0, 1) := by decide +kernel
theorem dX13_readsItem_253 : decode cX13_readsItem 253 = .ok (.getfield 35, 3) := by decide +kernel
theorem dX13_readsItem_256 : decode cX13_readsItem 256 = .ok (.iconst 2, 1) := by decide +kernel
theorem dX13_readsItem_257 : decode cX13_readsItem 257 = .ok (.aload_n 0, 1) := by decide +kernel
theorem dX13_readsItem_258 : decode cX13_readsItem 258 = .ok (.getfield 120, 3) := by decide +kernel
theorem dX13_readsItem_261 : decode cX13_readsItem 261 = .ok (.imul, 1) := by decide +kernel
theorem dX13_readsItem_262 : decode cX13_readsItem 262 = .ok (.iconst 1, 1) := by decide +kernel
theorem dX13_readsItem_263 : decode cX13_readsItem 263 = .ok (.iadd, 1) := by decide +kernel
theorem dX13_readsItem_264 : decode cX13_readsItem 264 = .ok (.aload_n 0, 1) := by decide +kernel
theorem dX13_readsItem_265 : decode cX13_readsItem 265 = .ok (.iconst 0, 1) := by decide +kernel
theorem dX13_readsItem_266 : decode cX13_readsItem 266 = .ok (.bipush 20, 2) := by decide +kernel
theorem dX13_readsItem_268 : decode cX13_readsItem 268 = .ok (.invokevirtual 113, 3) := by decide +kernel
theorem dX13_readsItem_271 : decode cX13_readsItem 271 = .ok (.iastore, 1) := by decide +kernel
theorem dX13_readsItem_272 : decode cX13_readsItem 272 = .ok (.aload_n 0, 1) := by decide +kernel
theorem dX13_readsItem_273 : decode cX13_readsItem 273 = .ok (.dup, 1) := by decide +kernel
theorem dX13_readsItem_274 : decode cX13_readsItem 274 = .ok (.getfield 120, 3) := by decide +kernel
theorem dX13_readsItem_277 : decode cX13_readsItem 277 = .ok (.iconst 1, 1) := by decide +kernel
theorem dX13_readsItem_278 : decode cX13_readsItem 278 = .ok (.iadd, 1) := by decide +kernel
theorem dX13_readsItem_279 : decode cX13_readsItem 279 = .ok (.putfield 120, 3) := by decide +kernel
theorem dX13_readsItem_282 : decode cX13_readsItem 282 = .ok (.return_, 1) := by decide +kernel
theorem dX13_arrows_0 : decode cX13_arrows 0 = .ok (.aload_n 0, 1) := by decide +kernel
theorem dX13_arrows_1 : decode cX13_arrows 1 = .ok (.iconst 0, 1) := by decide +kernel
theorem dX13_arrows_2 : decode cX13_arrows 2 = .ok (.putfield 53, 3) := by decide +kernel
theorem dX13_arrows_5 : decode cX13_arrows 5 = .ok (.aload_n 0, 1) := by decide +kernel
theorem dX13_arrows_6 : decode cX13_arrows 6 = .ok (.iconst (-1), 1) := by decide +kernel
theorem dX13_arrows_7 : decode cX13_arrows 7 = .ok (.putfield 96, 3) := by decide +kernel
theorem dX13_arrows_10 : decode cX13_arrows 10 = .ok (.aload_n 0, 1) := by decide +kernel
theorem dX13_arrows_11 : decode cX13_arrows 11 = .ok (.iconst 0, 1) := by decide +kernel
theorem dX13_arrows_12 : decode cX13_arrows 12 = .ok (.putfield 76, 3) := by decide +kernel
theorem dX13_arrows_15 : decode cX13_arrows 15 = .ok (.iconst 0, 1) := by decide +kernel
theorem dX13_arrows_16 : decode cX13_arrows 16 = .ok (.istore_n 1, 1) := by decide +kernel
theorem dX13_arrows_17 : decode cX13_arrows 17 = .ok (.aload_n 0, 1) := by decide +kernel
theorem dX13_arrows_18 : decode cX13_arrows 18 = .ok (.iconst 0, 1) := by decide +kernel
theorem dX13_arrows_19 : decode cX13_arrows 19 = .ok (.putfield 110, 3) := by decide +kernel
theorem dX13_arrows_22 : decode cX13_arrows 22 = .ok (.aload_n 0, 1) := by decide +kernel
theorem dX13_arrows_23 : decode cX13_arrows 23 = .ok (.iconst 0, 1) := by decide +kernel
theorem dX13_arrows_24 : decode cX13_arrows 24 = .ok (.putfield 117, 3) := by decide +kernel
theorem dX13_arrows_27 : decode cX13_arrows 27 = .ok (.aload_n 0, 1) := by decide +kernel
theorem dX13_arrows_28 : decode cX13_arrows 28 = .ok (.iconst 0, 1) := by decide +kernel
theorem dX13_arrows_29 : decode cX13_arrows 29 = .ok (.putfield 120, 3) := by decide +kernel
theorem dX13_arrows_32 : decode cX13_arrows 32 = .ok (.aload_n 0, 1) := by decide +kernel
theorem dX13_arrows_33 : decode cX13_arrows 33 = .ok (.invokevirtual 103, 3) := by decide +kernel
theorem dX13_arrows_36 : decode cX13_arrows 36 = .ok (.aload_n 0, 1) := by decide +kernel
theorem dX13_arrows_37 : decode cX13_arrows 37 = .ok (.invokevirtual 99, 3) := by decide +kernel
theorem dX13_arrows_40 : decode cX13_arrows 40 = .ok (.ifCond .eq 118, 3) := by decide +kernel
theorem dX13_arrows_43 : decode cX13_arrows 43 = .ok (.aload_n 0, 1) := by decide +kernel
theorem dX13_arrows_44 : decode cX13_arrows 44 = .ok (.getfield 86, 3) := by decide +kernel
theorem dX13_arrows_47 : decode cX13_arrows 47 = .ok (.ifCond .eq 111, 3) := by decide +kernel
theorem dX13_arrows_50 : decode cX13_arrows 50 = .ok (.aload_n 0, 1) := by decide +kernel
theorem dX13_arrows_51 : decode cX13_arrows 51 = .ok (.aload_n 0, 1) := by decide +kernel
theorem dX13_arrows_52 : decode cX13_arrows 52 = .ok (.getfield 86, 3) := by decide +kernel
theorem dX13_arrows_55 : decode cX13_arrows 55 = .ok (.iconst 1, 1) := by decide +kernel
theorem dX13_arrows_56 : decode cX13_arrows 56 = .ok (.if_icmp .ne 61, 3) := by decide +kernel
theorem dX13_arrows_59 : decode cX13_arrows 59 = .ok (.aload_n 0, 1) := by decide +kernel
theorem dX13_arrows_60 : decode cX13_arrows 60 = .ok (.getfield 93, 3) := by decide +kernel
theorem dX13_arrows_63 : decode cX13_arrows 63 = .ok (.ifCond .ne 15, 3) := by decide +kernel
theorem dX13_arrows_66 : decode cX13_arrows 66 = .ok (.aload_n 0, 1) := by decide +kernel
theorem dX13_arrows_67 : decode cX13_arrows 67 = .ok (.getfield 110, 3) := by decide +kernel
theorem dX13_arrows_70 : decode cX13_arrows 70 = .ok (.bipush 12, 2) := by decide +kernel
theorem dX13_arrows_72 : decode cX13_arrows 72 = .ok (.if_icmp .ge 45, 3) := by decide +kernel
theorem dX13_arrows_75 : decode cX13_arrows 75 = .ok (.goto 38, 3) := by decide +kernel
theorem dX13_arrows_78 : decode cX13_arrows 78 = .ok (.aload_n 0, 1) := by decide +kernel
theorem dX13_arrows_79 : decode cX13_arrows 79 = .ok (.getfield 93, 3) := by decide +kernel
theorem dX13_arrows_82 : decode cX13_arrows 82 = .ok (.iconst 1, 1) := by decide +kernel
theorem dX13_arrows_83 : decode cX13_arrows 83 = .ok (.if_icmp .ne 14, 3) := by decide +kernel
theorem dX13_arrows_86 : decode cX13_arrows 86 = .ok (.aload_n 0, 1) := by decide +kernel
theorem dX13_arrows_87 : decode cX13_arrows 87 = .ok (.getfield 117, 3) := by decide +kernel
theorem dX13_arrows_90 : decode cX13_arrows 90 = .ok (.iconst 3, 1) := by decide +kernel
theorem dX13_arrows_91 : decode cX13_arrows 91 = .ok (.if_icmp .ge 26, 3) := by decide +kernel
theorem dX13_arrows_94 : decode cX13_arrows 94 = .ok (.goto 19, 3) := by decide +kernel
theorem dX13_arrows_97 : decode cX13_arrows 97 = .ok (.aload_n 0, 1) := by decide +kernel
theorem dX13_arrows_98 : decode cX13_arrows 98 = .ok (.getfield 93, 3) := by decide +kernel
theorem dX13_arrows_101 : decode cX13_arrows 101 = .ok (.iconst 2, 1) := by decide +kernel
theorem dX13_arrows_102 : decode cX13_arrows 102 = .ok (.if_icmp .ne 15, 3) := by decide +kernel
theorem dX13_arrows_105 : decode cX13_arrows 105 = .ok (.aload_n 0, 1) := by decide +kernel
theorem dX13_arrows_106 : decode cX13_arrows 106 = .ok (.getfield 120, 3) := by decide +kernel
theorem dX13_arrows_109 : decode cX13_arrows 109 = .ok (.iconst 3, 1) := by decide +kernel
theorem dX13_arrows_110 : decode cX13_arrows 110 = .ok (.if_icmp .ge 7, 3) := by decide +kernel
theorem dX13_arrows_113 : decode cX13_arrows 113 = .ok (.iconst 1, 1) := by decide +kernel
theorem dX13_arrows_114 : decode cX13_arrows 114 = .ok (.goto 4, 3) := by decide +kernel
theorem dX13_arrows_117 : decode cX13_arrows 117 = .ok (.iconst 0, 1) := by decide +kernel
theorem dX13_arrows_118 : decode cX13_arrows 118 = .ok (.invokevirtual 106, 3) := by decide +kernel
theorem dX13_arrows_121 : decode cX13_arrows 121 = .ok (.istore_n 2, 1) := by decide +kernel
theorem dX13_arrows_122 : decode cX13_arrows 122 = .ok (.aload_n 0, 1) := by decide +kernel
theorem dX13_arrows_123 : decode cX13_arrows 123 = .ok (.invokevirtual 99, 3) := by decide +kernel
theorem dX13_arrows_126 : decode cX13_arrows 126 = .ok (.ifCond .eq 8, 3) := by decide +kernel
theorem dX13_arrows_129 : decode cX13_arrows 129 = .ok (.aload_n 0, 1) := by decide +kernel
theorem dX13_arrows_130 : decode cX13_arrows 130 = .ok (.iload_n 2, 1) := by decide +kernel
theorem dX13_arrows_131 : decode cX13_arrows 131 = .ok (.invokevirtual 123, 3) := by decide +kernel
theorem dX13_arrows_134 : decode cX13_arrows 134 = .ok (.aload_n 0, 1) := by decide +kernel
theorem dX13_arrows_135 : decode cX13_arrows 135 = .ok (.aload_n 0, 1) := by decide +kernel
theorem dX13_arrows_136 : decode cX13_arrows 136 = .ok (.getfield 86, 3) := by decide +kernel
theorem dX13_arrows_139 : decode cX13_arrows 139 = .ok (.iconst 3, 1) := by decide +kernel
theorem dX13_arrows_140 : decode cX13_arrows 140 = .ok (.if_icmp .ne 7, 3) := by decide +kernel
theorem dX13_arrows_143 : decode cX13_arrows 143 = .ok (.iconst 1, 1) := by decide +kernel
theorem dX13_arrows_144 : decode cX13_arrows 144 = .ok (.goto 4, 3) := by decide +kernel
theorem dX13_arrows_147 : decode cX13_arrows 147 = .ok (.iconst 0, 1) := by decide +kernel
theorem dX13_arrows_148 : decode cX13_arrows 148 = .ok (.invokevirtual 106, 3) := by decide +kernel
theorem dX13_arrows_151 : decode cX13_arrows 151 = .ok (.pop, 1) := by decide +kernel
theorem dX13_arrows_152 : decode cX13_arrows 152 = .ok (.iinc 1 1, 3) := by decide +kernel
theorem dX13_arrows_155 : decode cX13_arrows 155 = .ok (.goto (-119), 3) := by decide +kernel
theorem dX13_arrows_158 : decode cX13_arrows 158 = .ok (.aload_n 0, 1) := by decide +kernel
theorem dX13_arrows_159 : decode cX13_arrows 159 = .ok (.invokevirtual 99, 3) := by decide +kernel
theorem dX13_arrows_162 : decode cX13_arrows 162 = .ok (.ifCond .ne 11, 3) := by decide +kernel
theorem dX13_arrows_165 : decode cX13_arrows 165 = .ok (.bipush (-10), 2) := by decide +kernel
theorem dX13_arrows_167 : decode cX13_arrows 167 = .ok (.aload_n 0, 1) := by decide +kernel
theorem dX13_arrows_168 : decode cX13_arrows 168 = .ok (.getfield 96, 3) := by decide +kernel
theorem dX13_arrows_171 : decode cX13_arrows 171 = .ok (.isub, 1) := by decide +kernel
theorem dX13_arrows_172 : decode cX13_arrows 172 = .ok (.ireturn, 1) := by decide +kernel
theorem dX13_arrows_173 : decode cX13_arrows 173 = .ok (.iconst 0, 1) := by decide +kernel
theorem dX13_arrows_174 : decode cX13_arrows 174 = .ok (.istore_n 2, 1) := by decide +kernel
theorem dX13_arrows_175 : decode cX13_arrows 175 = .ok (.iload_n 2, 1) := by decide +kernel
theorem dX13_arrows_176 : decode cX13_arrows 176 = .ok (.bipush 84, 2) := by decide +kernel
theorem dX13_arrows_178 : decode cX13_arrows 178 = .ok (.if_icmp .ge 21, 3) := by decide +kernel
theorem dX13_arrows_181 : decode cX13_arrows 181 = .ok (.aload_n 0, 1) := by decide +kernel
theorem dX13_arrows_182 : decode cX13_arrows 182 = .ok (.getfield 13, 3) := by decide +kernel
theorem dX13_arrows_185 : decode cX13_arrows 185 = .ok (.iload_n 2, 1) := by decide +kernel
theorem dX13_arrows_186 : decode cX13_arrows 186 = .ok (.aload_n 0, 1) := by decide +kernel
theorem dX13_arrows_187 : decode cX13_arrows 187 = .ok (.getfield 29, 3) := by decide +kernel
theorem dX13_arrows_190 : decode cX13_arrows 190 = .ok (.iload_n 2, 1) := by decide +kernel
theorem dX13_arrows_191 : decode cX13_arrows 191 = .ok (.iaload, 1) := by decide +kernel
theorem dX13_arrows_192 : decode cX13_arrows 192 = .ok (.iastore, 1) := by decide +kernel
theorem dX13_arrows_193 : decode cX13_arrows 193 = .ok (.iinc 2 1, 3) := by decide +kernel
theorem dX13_arrows_196 : decode cX13_arrows 196 = .ok (.goto (-21), 3) := by decide +kernel
theorem dX13_arrows_199 : decode cX13_arrows 199 = .ok (.iconst 0, 1) := by decide +kernel
theorem dX13_arrows_200 : decode cX13_arrows 200 = .ok (.istore_n 2, 1) := by decide +kernel
theorem dX13_arrows_201 : decode cX13_arrows 201 = .ok (.iload_n 2, 1) := by decide +kernel
theorem dX13_arrows_202 : decode cX13_arrows 202 = .ok (.bipush 6, 2) := by decide +kernel
theorem dX13_arrows_204 : decode cX13_arrows 204 = .ok (.if_icmp .ge 33, 3) := by decide +kernel
theorem dX13_arrows_207 : decode cX13_arrows 207 = .ok (.aload_n 0, 1) := by decide +kernel
theorem dX13_arrows_208 : decode cX13_arrows 208 = .ok (.getfield 23, 3) := by decide +kernel
theorem dX13_arrows_211 : decode cX13_arrows 211 = .ok (.iload_n 2, 1) := by decide +kernel
theorem dX13_arrows_212 : decode cX13_arrows 212 = .ok (.aload_n 0, 1) := by decide +kernel
theorem dX13_arrows_213 : decode cX13_arrows 213 = .ok (.getfield 32, 3) := by decide +kernel
theorem dX13_arrows_216 : decode cX13_arrows 216 = .ok (.iload_n 2, 1) := by decide +kernel
theorem dX13_arrows_217 : decode cX13_arrows 217 = .ok (.iaload, 1) := by decide +kernel
theorem dX13_arrows_218 : decode cX13_arrows 218 = .ok (.iastore, 1) := by decide +kernel
theorem dX13_arrows_219 : decode cX13_arrows 219 = .ok (.aload_n 0, 1) := by decide +kernel
theorem dX13_arrows_220 : decode cX13_arrows 220 = .ok (.getfield 26, 3) := by decide +kernel
theorem dX13_arrows_223 : decode cX13_arrows 223 = .ok (.iload_n 2, 1) := by decide +kernel
theorem dX13_arrows_224 : decode cX13_arrows 224 = .ok (.aload_n 0, 1) := by decide +kernel
theorem dX13_arrows_225 : decode cX13_arrows 225 = .ok (.getfield 35, 3) := by decide +kernel
theorem dX13_arrows_228 : decode cX13_arrows 228 = .ok (.iload_n 2, 1) := by decide +kernel
theorem dX13_arrows_229 : decode cX13_arrows 229 = .ok (.iaload, 1) := by decide +kernel
theorem dX13_arrows_230 : decode cX13_arrows 230 = .ok (.iastore, 1) := by decide +kernel
theorem dX13_arrows_231 : decode cX13_arrows 231 = .ok (.iinc 2 1, 3) := by decide +kernel
theorem dX13_arrows_234 : decode cX13_arrows 234 = .ok (.goto (-33), 3) := by decide +kernel
theorem dX13_arrows_237 : decode cX13_arrows 237 = .ok (.aload_n 0, 1) := by decide +kernel
theorem dX13_arrows_238 : decode cX13_arrows 238 = .ok (.aload_n 0, 1) := by decide +kernel
theorem dX13_arrows_239 : decode cX13_arrows 239 = .ok (.getfield 110, 3) := by decide +kernel
theorem dX13_arrows_242 : decode cX13_arrows 242 = .ok (.putfield 127, 3) := by decide +kernel
theorem dX13_arrows_245 : decode cX13_arrows 245 = .ok (.aload_n 0, 1) := by decide +kernel
theorem dX13_arrows_246 : decode cX13_arrows 246 = .ok (.aload_n 0, 1) := by decide +kernel
theorem dX13_arrows_247 : decode cX13_arrows 247 = .ok (.getfield 117, 3) := by decide +kernel
theorem dX13_arrows_250 : decode cX13_arrows 250 = .ok (.putfield 130, 3) := by decide +kernel
theorem dX13_arrows_253 : decode cX13_arrows 253 = .ok (.aload_n 0, 1) := by decide +kernel
theorem dX13_arrows_254 : decode cX13_arrows 254 = .ok (.aload_n 0, 1) := by decide +kernel
theorem dX13_arrows_255 : decode cX13_arrows 255 = .ok (.getfield 120, 3) := by decide +kernel
theorem dX13_arrows_258 : decode cX13_arrows 258 = .ok (.putfield 133, 3) := by decide +kernel
theorem dX13_arrows_261 : decode cX13_arrows 261 = .ok (.aload_n 0, 1) := by decide +kernel
theorem dX13_arrows_262 : decode cX13_arrows 262 = .ok (.getfield 13, 3) := by decide +kernel
theorem dX13_arrows_265 : decode cX13_arrows 265 = .ok (.bipush 85, 2) := by decide +kernel
theorem dX13_arrows_267 : decode cX13_arrows 267 = .ok (.iconst 0, 1) := by decide +kernel
theorem dX13_arrows_268 : decode cX13_arrows 268 = .ok (.iastore, 1) := by decide +kernel
theorem dX13_arrows_269 : decode cX13_arrows 269 = .ok (.aload_n 0, 1) := by decide +kernel
theorem dX13_arrows_270 : decode cX13_arrows 270 = .ok (.getfield 19, 3) := by decide +kernel
theorem dX13_arrows_273 : decode cX13_arrows 273 = .ok (.iconst 0, 1) := by decide +kernel
theorem dX13_arrows_274 : decode cX13_arrows 274 = .ok (.iconst 0, 1) := by decide +kernel
theorem dX13_arrows_275 : decode cX13_arrows 275 = .ok (.bastore, 1) := by decide +kernel
theorem dX13_arrows_276 : decode cX13_arrows 276 = .ok (.aload_n 0, 1) := by decide +kernel
theorem dX13_arrows_277 : decode cX13_arrows 277 = .ok (.getfield 19, 3) := by decide +kernel
theorem dX13_arrows_280 : decode cX13_arrows 280 = .ok (.iconst 1, 1) := by decide +kernel
theorem dX13_arrows_281 : decode cX13_arrows 281 = .ok (.iconst 0, 1) := by decide +kernel
theorem dX13_arrows_282 : decode cX13_arrows 282 = .ok (.bastore, 1) := by decide +kernel
theorem dX13_arrows_283 : decode cX13_arrows 283 = .ok (.aload_n 0, 1) := by decide +kernel
theorem dX13_arrows_284 : decode cX13_arrows 284 = .ok (.iconst 0, 1) := by decide +kernel
theorem dX13_arrows_285 : decode cX13_arrows 285 = .ok (.putfield 61, 3) := by decide +kernel
theorem dX13_arrows_288 : decode cX13_arrows 288 = .ok (.iload_n 1, 1) := by decide +kernel
theorem dX13_arrows_289 : decode cX13_arrows 289 = .ok (.ireturn, 1) := by decide +kernel
theorem dX13_isStick_0 : decode cX13_isStick 0 = .ok (.iload_n 1, 1) := by decide +kernel
theorem dX13_isStick_1 : decode cX13_isStick 1 = .ok (.iconst 0, 1) := by decide +kernel
theorem dX13_isStick_2 : decode cX13_isStick 2 = .ok (.aload_n 0, 1) := by decide +kernel
theorem dX13_isStick_3 : decode cX13_isStick 3 = .ok (.getfield 127, 3) := by decide +kernel
theorem dX13_isStick_6 : decode cX13_isStick 6 = .ok (.iconst 1, 1) := by decide +kernel
theorem dX13_isStick_7 : decode cX13_isStick 7 = .ok (.isub, 1) := by decide +kernel
theorem dX13_isStick_8 : decode cX13_isStick 8 = .ok (.invokestatic 57, 3) := by decide +kernel
theorem dX13_isStick_11 : decode cX13_isStick 11 = .ok (.ireturn, 1) := by decide +kernel
theorem dX13_isBow_0 : decode cX13_isBow 0 = .ok (.iload_n 1, 1) := by decide +kernel
theorem dX13_isBow_1 : decode cX13_isBow 1 = .ok (.iconst 0, 1) := by decide +kernel
theorem dX13_isBow_2 : decode cX13_isBow 2 = .ok (.aload_n 0, 1) := by decide +kernel
theorem dX13_isBow_3 : decode cX13_isBow 3 = .ok (.getfield 130, 3) := by decide +kernel
theorem dX13_isBow_6 : decode cX13_isBow 6 = .ok (.iconst 1, 1) := by decide +kernel
theorem dX13_isBow_7 : decode cX13_isBow 7 = .ok (.isub, 1) := by decide +kernel
theorem dX13_isBow_8 : decode cX13_isBow 8 = .ok (.invokestatic 57, 3) := by decide +kernel
theorem dX13_isBow_11 : decode cX13_isBow 11 = .ok (.ireturn, 1) := by decide +kernel
theorem dX13_stick_0 : decode cX13_stick 0 = .ok (.aload_n 0, 1) := by decide +kernel
theorem dX13_stick_1 : decode cX13_stick 1 = .ok (.iconst 0, 1) := by decide +kernel
theorem dX13_stick_2 : decode cX13_stick 2 = .ok (.putfield 53, 3) := by decide +kernel
theorem dX13_stick_5 : decode cX13_stick 5 = .ok (.aload_n 0, 1) := by decide +kernel
theorem dX13_stick_6 : decode cX13_stick 6 = .ok (.iload_n 1, 1) := by decide +kernel
theorem dX13_stick_7 : decode cX13_stick 7 = .ok (.invokevirtual 136, 3) := by decide +kernel
theorem dX13_stick_10 : decode cX13_stick 10 = .ok (.ifCond .eq 27, 3) := by decide +kernel
theorem dX13_stick_13 : decode cX13_stick 13 = .ok (.iload_n 2, 1) := by decide +kernel
theorem dX13_stick_14 : decode cX13_stick 14 = .ok (.iconst 0, 1) := by decide +kernel
theorem dX13_stick_15 : decode cX13_stick 15 = .ok (.bipush 6, 2) := by decide +kernel
theorem dX13_stick_17 : decode cX13_stick 17 = .ok (.invokestatic 57, 3) := by decide +kernel
theorem dX13_stick_20 : decode cX13_stick 20 = .ok (.ifCond .eq 17, 3) := by decide +kernel
theorem dX13_stick_23 : decode cX13_stick 23 = .ok (.aload_n 0, 1) := by decide +kernel
theorem dX13_stick_24 : decode cX13_stick 24 = .ok (.getfield 13, 3) := by decide +kernel
theorem dX13_stick_27 : decode cX13_stick 27 = .ok (.bipush 7, 2) := by decide +kernel
theorem dX13_stick_29 : decode cX13_stick 29 = .ok (.iload_n 1, 1) := by decide +kernel
theorem dX13_stick_30 : decode cX13_stick 30 = .ok (.imul, 1) := by decide +kernel
theorem dX13_stick_31 : decode cX13_stick 31 = .ok (.iload_n 2, 1) := by decide +kernel
theorem dX13_stick_32 : decode cX13_stick 32 = .ok (.iadd, 1) := by decide +kernel
theorem dX13_stick_33 : decode cX13_stick 33 = .ok (.iaload, 1) := by decide +kernel
theorem dX13_stick_34 : decode cX13_stick 34 = .ok (.goto 4, 3) := by decide +kernel
theorem dX13_stick_37 : decode cX13_stick 37 = .ok (.iconst (-1), 1) := by decide +kernel
theorem dX13_stick_38 : decode cX13_stick 38 = .ok (.ireturn, 1) := by decide +kernel
theorem dX13_bow_0 : decode cX13_bow 0 = .ok (.aload_n 0, 1) := by decide +kernel
theorem dX13_bow_1 : decode cX13_bow 1 = .ok (.iconst 0, 1) := by decide +kernel
theorem dX13_bow_2 : decode cX13_bow 2 = .ok (.putfield 53, 3) := by decide +kernel
theorem dX13_bow_5 : decode cX13_bow 5 = .ok (.aload_n 0, 1) := by decide +kernel
theorem dX13_bow_6 : decode cX13_bow 6 = .ok (.iload_n 1, 1) := by decide +kernel
theorem dX13_bow_7 : decode cX13_bow 7 = .ok (.invokevirtual 140, 3) := by decide +kernel
theorem dX13_bow_10 : decode cX13_bow 10 = .ok (.ifCond .eq 12, 3) := by decide +kernel
theorem dX13_bow_13 : decode cX13_bow 13 = .ok (.iload_n 2, 1) := by decide +kernel
theorem dX13_bow_14 : decode cX13_bow 14 = .ok (.iconst 0, 1) := by decide +kernel
theorem dX13_bow_15 : decode cX13_bow 15 = .ok (.iconst 2, 1) := by decide +kernel
theorem dX13_bow_16 : decode cX13_bow 16 = .ok (.invokestatic 57, 3) := by decide +kernel
theorem dX13_bow_19 : decode cX13_bow 19 = .ok (.ifCond .ne 7, 3) := by decide +kernel
theorem dX13_bow_22 : decode cX13_bow 22 = .ok (.iconst (-1), 1) := by decide +kernel
theorem dX13_bow_23 : decode cX13_bow 23 = .ok (.goto 42, 3) := by decide +kernel
theorem dX13_bow_26 : decode cX13_bow 26 = .ok (.iload_n 2, 1) := by decide +kernel
theorem dX13_bow_27 : decode cX13_bow 27 = .ok (.iconst 2, 1) := by decide +kernel
theorem dX13_bow_28 : decode cX13_bow 28 = .ok (.if_icmp .ge 16, 3) := by decide +kernel
theorem dX13_bow_31 : decode cX13_bow 31 = .ok (.aload_n 0, 1) := by decide +kernel
theorem dX13_bow_32 : decode cX13_bow 32 = .ok (.getfield 23, 3) := by decide +kernel
theorem dX13_bow_35 : decode cX13_bow 35 = .ok (.iconst 2, 1) := by decide +kernel
theorem dX13_bow_36 : decode cX13_bow 36 = .ok (.iload_n 1, 1) := by decide +kernel
theorem dX13_bow_37 : decode cX13_bow 37 = .ok (.imul, 1) := by decide +kernel
theorem dX13_bow_38 : decode cX13_bow 38 = .ok (.iload_n 2, 1) := by decide +kernel
theorem dX13_bow_39 : decode cX13_bow 39 = .ok (.iadd, 1) := by decide +kernel
theorem dX13_bow_40 : decode cX13_bow 40 = .ok (.iaload, 1) := by decide +kernel
theorem dX13_bow_41 : decode cX13_bow 41 = .ok (.goto 24, 3) := by decide +kernel
theorem dX13_bow_44 : decode cX13_bow 44 = .ok (.aload_n 0, 1) := by decide +kernel
theorem dX13_bow_45 : decode cX13_bow 45 = .ok (.getfield 23, 3) := by decide +kernel
theorem dX13_bow_48 : decode cX13_bow 48 = .ok (.iconst 2, 1) := by decide +kernel
theorem dX13_bow_49 : decode cX13_bow 49 = .ok (.iload_n 1, 1) := by decide +kernel
theorem dX13_bow_50 : decode cX13_bow 50 = .ok (.imul, 1) := by decide +kernel
theorem dX13_bow_51 : decode cX13_bow 51 = .ok (.iaload, 1) := by decide +kernel
theorem dX13_bow_52 : decode cX13_bow 52 = .ok (.iconst 2, 1) := by decide +kernel
theorem dX13_bow_53 : decode cX13_bow 53 = .ok (.aload_n 0, 1) := by decide +kernel
theorem dX13_bow_54 : decode cX13_bow 54 = .ok (.getfield 23, 3) := by decide +kernel
theorem dX13_bow_57 : decode cX13_bow 57 = .ok (.iconst 2, 1) := by decide +kernel
theorem dX13_bow_58 : decode cX13_bow 58 = .ok (.iload_n 1, 1) := by decide +kernel
theorem dX13_bow_59 : decode cX13_bow 59 = .ok (.imul, 1) := by decide +kernel
theorem dX13_bow_60 : decode cX13_bow 60 = .ok (.iconst 1, 1) := by decide +kernel
theorem dX13_bow_61 : decode cX13_bow 61 = .ok (.iadd, 1) := by decide +kernel
theorem dX13_bow_62 : decode cX13_bow 62 = .ok (.iaload, 1) := by decide +kernel
theorem dX13_bow_63 : decode cX13_bow 63 = .ok (.imul, 1) := by decide +kernel
theorem dX13_bow_64 : decode cX13_bow 64 = .ok (.iadd, 1) := by decide +kernel
theorem dX13_bow_65 : decode cX13_bow 65 = .ok (.ireturn, 1) := by decide +kernel
theorem dX13_archer_0 : decode cX13_archer 0 = .ok (.aload_n 0, 1) := by decide +kernel
theorem dX13_archer_1 : decode cX13_archer 1 = .ok (.iconst 0, 1) := by decide +kernel
theorem dX13_archer_2 : decode cX13_archer 2 = .ok (.putfield 53, 3) := by decide +kernel
theorem dX13_archer_5 : decode cX13_archer 5 = .ok (.iload_n 1, 1) := by decide +kernel
theorem dX13_archer_6 : decode cX13_archer 6 = .ok (.iconst 0, 1) := by decide +kernel
theorem dX13_archer_7 : decode cX13_archer 7 = .ok (.aload_n 0, 1) := by decide +kernel
theorem dX13_archer_8 : decode cX13_archer 8 = .ok (.getfield 133, 3) := by decide +kernel
theorem dX13_archer_11 : decode cX13_archer 11 = .ok (.iconst 1, 1) := by decide +kernel
theorem dX13_archer_12 : decode cX13_archer 12 = .ok (.isub, 1) := by decide +kernel
theorem dX13_archer_13 : decode cX13_archer 13 = .ok (.invokestatic 57, 3) := by decide +kernel
theorem dX13_archer_16 : decode cX13_archer 16 = .ok (.ifCond .eq 25, 3) := by decide +kernel
theorem dX13_archer_19 : decode cX13_archer 19 = .ok (.iload_n 2, 1) := by decide +kernel
theorem dX13_archer_20 : decode cX13_archer 20 = .ok (.iconst 0, 1) := by decide +kernel
theorem dX13_archer_21 : decode cX13_archer 21 = .ok (.iconst 1, 1) := by decide +kernel
theorem dX13_archer_22 : decode cX13_archer 22 = .ok (.invokestatic 57, 3) := by decide +kernel
theorem dX13_archer_25 : decode cX13_archer 25 = .ok (.ifCond .eq 16, 3) := by decide +kernel
theorem dX13_archer_28 : decode cX13_archer 28 = .ok (.aload_n 0, 1) := by decide +kernel
theorem dX13_archer_29 : decode cX13_archer 29 = .ok (.getfield 26, 3) := by decide +kernel
theorem dX13_archer_32 : decode cX13_archer 32 = .ok (.iconst 2, 1) := by decide +kernel
theorem dX13_archer_33 : decode cX13_archer 33 = .ok (.iload_n 1, 1) := by decide +kernel
theorem dX13_archer_34 : decode cX13_archer 34 = .ok (.imul, 1) := by decide +kernel
theorem dX13_archer_35 : decode cX13_archer 35 = .ok (.iload_n 2, 1) := by decide +kernel
theorem dX13_archer_36 : decode cX13_archer 36 = .ok (.iadd, 1) := by decide +kernel
theorem dX13_archer_37 : decode cX13_archer 37 = .ok (.iaload, 1) := by decide +kernel
theorem dX13_archer_38 : decode cX13_archer 38 = .ok (.goto 5, 3) := by decide +kernel
theorem dX13_archer_41 : decode cX13_archer 41 = .ok (.ldc 143, 2) := by decide +kernel
theorem dX13_archer_43 : decode cX13_archer 43 = .ok (.ireturn, 1) := by decide +kernel
theorem dX13_tune_0 : decode cX13_tune 0 = .ok (.aload_n 0, 1) := by decide +kernel
theorem dX13_tune_1 : decode cX13_tune 1 = .ok (.iconst 0, 1) := by decide +kernel
theorem dX13_tune_2 : decode cX13_tune 2 = .ok (.putfield 53, 3) := by decide +kernel
theorem dX13_tune_5 : decode cX13_tune 5 = .ok (.iload_n 1, 1) := by decide +kernel
theorem dX13_tune_6 : decode cX13_tune 6 = .ok (.ifCond .ne 8, 3) := by decide +kernel
theorem dX13_tune_9 : decode cX13_tune 9 = .ok (.bipush 20, 2) := by decide +kernel
theorem dX13_tune_11 : decode cX13_tune 11 = .ok (.goto 25, 3) := by decide +kernel
theorem dX13_tune_14 : decode cX13_tune 14 = .ok (.iload_n 1, 1) := by decide +kernel
theorem dX13_tune_15 : decode cX13_tune 15 = .ok (.iconst 1, 1) := by decide +kernel
theorem dX13_tune_16 : decode cX13_tune 16 = .ok (.if_icmp .ne 8, 3) := by decide +kernel
theorem dX13_tune_19 : decode cX13_tune 19 = .ok (.bipush 60, 2) := by decide +kernel
theorem dX13_tune_21 : decode cX13_tune 21 = .ok (.goto 15, 3) := by decide +kernel
theorem dX13_tune_24 : decode cX13_tune 24 = .ok (.iload_n 1, 1) := by decide +kernel
theorem dX13_tune_25 : decode cX13_tune 25 = .ok (.iconst 2, 1) := by decide +kernel
theorem dX13_tune_26 : decode cX13_tune 26 = .ok (.if_icmp .ne 8, 3) := by decide +kernel
theorem dX13_tune_29 : decode cX13_tune 29 = .ok (.bipush 30, 2) := by decide +kernel
theorem dX13_tune_31 : decode cX13_tune 31 = .ok (.goto 5, 3) := by decide +kernel
theorem dX13_tune_34 : decode cX13_tune 34 = .ok (.bipush 9, 2) := by decide +kernel
theorem dX13_tune_36 : decode cX13_tune 36 = .ok (.istore_n 3, 1) := by decide +kernel
theorem dX13_tune_37 : decode cX13_tune 37 = .ok (.iload_n 1, 1) := by decide +kernel
theorem dX13_tune_38 : decode cX13_tune 38 = .ok (.iconst 0, 1) := by decide +kernel
theorem dX13_tune_39 : decode cX13_tune 39 = .ok (.iconst 3, 1) := by decide +kernel
theorem dX13_tune_40 : decode cX13_tune 40 = .ok (.invokestatic 57, 3) := by decide +kernel
theorem dX13_tune_43 : decode cX13_tune 43 = .ok (.ifCond .eq 22, 3) := by decide +kernel
theorem dX13_tune_46 : decode cX13_tune 46 = .ok (.iload_n 2, 1) := by decide +kernel
theorem dX13_tune_47 : decode cX13_tune 47 = .ok (.iload_n 1, 1) := by decide +kernel
theorem dX13_tune_48 : decode cX13_tune 48 = .ok (.iconst 3, 1) := by decide +kernel
theorem dX13_tune_49 : decode cX13_tune 49 = .ok (.if_icmp .ne 8, 3) := by decide +kernel
theorem dX13_tune_52 : decode cX13_tune 52 = .ok (.bipush (-9), 2) := by decide +kernel
theorem dX13_tune_54 : decode cX13_tune 54 = .ok (.goto 4, 3) := by decide +kernel
theorem dX13_tune_57 : decode cX13_tune 57 = .ok (.iconst 0, 1) := by decide +kernel
theorem dX13_tune_58 : decode cX13_tune 58 = .ok (.iload_n 3, 1) := by decide +kernel
theorem dX13_tune_59 : decode cX13_tune 59 = .ok (.invokestatic 57, 3) := by decide +kernel
theorem dX13_tune_62 : decode cX13_tune 62 = .ok (.ifCond .ne 6, 3) := by decide +kernel
theorem dX13_tune_65 : decode cX13_tune 65 = .ok (.ldc 143, 2) := by decide +kernel
theorem dX13_tune_67 : decode cX13_tune 67 = .ok (.ireturn, 1) := by decide +kernel
theorem dX13_tune_68 : decode cX13_tune 68 = .ok (.aload_n 0, 1) := by decide +kernel
theorem dX13_tune_69 : decode cX13_tune 69 = .ok (.getfield 38, 3) := by decide +kernel
theorem dX13_tune_72 : decode cX13_tune 72 = .ok (.iload_n 1, 1) := by decide +kernel
theorem dX13_tune_73 : decode cX13_tune 73 = .ok (.iaload, 1) := by decide +kernel
theorem dX13_tune_74 : decode cX13_tune 74 = .ok (.istore 4, 2) := by decide +kernel
theorem dX13_tune_76 : decode cX13_tune 76 = .ok (.aload_n 0, 1) := by decide +kernel
theorem dX13_tune_77 : decode cX13_tune 77 = .ok (.getfield 38, 3) := by decide +kernel
theorem dX13_tune_80 : decode cX13_tune 80 = .ok (.iload_n 1, 1) := by decide +kernel
theorem dX13_tune_81 : decode cX13_tune 81 = .ok (.iload_n 2, 1) := by decide +kernel
theorem dX13_tune_82 : decode cX13_tune 82 = .ok (.iastore, 1) := by decide +kernel
theorem dX13_tune_83 : decode cX13_tune 83 = .ok (.iload 4, 2) := by decide +kernel
theorem dX13_tune_85 : decode cX13_tune 85 = .ok (.ireturn, 1) := by decide +kernel
theorem dX13_cut_0 : decode cX13_cut 0 = .ok (.aload_n 0, 1) := by decide +kernel
theorem dX13_cut_1 : decode cX13_cut 1 = .ok (.iconst 0, 1) := by decide +kernel
theorem dX13_cut_2 : decode cX13_cut 2 = .ok (.putfield 53, 3) := by decide +kernel
theorem dX13_cut_5 : decode cX13_cut 5 = .ok (.aload_n 0, 1) := by decide +kernel
theorem dX13_cut_6 : decode cX13_cut 6 = .ok (.iload_n 1, 1) := by decide +kernel
theorem dX13_cut_7 : decode cX13_cut 7 = .ok (.invokevirtual 136, 3) := by decide +kernel
theorem dX13_cut_10 : decode cX13_cut 10 = .ok (.ifCond .ne 5, 3) := by decide +kernel
theorem dX13_cut_13 : decode cX13_cut 13 = .ok (.iconst (-1), 1) := by decide +kernel
theorem dX13_cut_14 : decode cX13_cut 14 = .ok (.ireturn, 1) := by decide +kernel
theorem dX13_cut_15 : decode cX13_cut 15 = .ok (.aload_n 0, 1) := by decide +kernel
theorem dX13_cut_16 : decode cX13_cut 16 = .ok (.getfield 13, 3) := by decide +kernel
theorem dX13_cut_19 : decode cX13_cut 19 = .ok (.bipush 7, 2) := by decide +kernel
theorem dX13_cut_21 : decode cX13_cut 21 = .ok (.iload_n 1, 1) := by decide +kernel
theorem dX13_cut_22 : decode cX13_cut 22 = .ok (.imul, 1) := by decide +kernel
theorem dX13_cut_23 : decode cX13_cut 23 = .ok (.iconst 0, 1) := by decide +kernel
theorem dX13_cut_24 : decode cX13_cut 24 = .ok (.iadd, 1) := by decide +kernel
theorem dX13_cut_25 : decode cX13_cut 25 = .ok (.iaload, 1) := by decide +kernel
theorem dX13_cut_26 : decode cX13_cut 26 = .ok (.bipush 80, 2) := by decide +kernel
theorem dX13_cut_28 : decode cX13_cut 28 = .ok (.if_icmp .ne 6, 3) := by decide +kernel
theorem dX13_cut_31 : decode cX13_cut 31 = .ok (.bipush (-2), 2) := by decide +kernel
theorem dX13_cut_33 : decode cX13_cut 33 = .ok (.ireturn, 1) := by decide +kernel
theorem dX13_cut_34 : decode cX13_cut 34 = .ok (.aload_n 0, 1) := by decide +kernel
theorem dX13_cut_35 : decode cX13_cut 35 = .ok (.getfield 13, 3) := by decide +kernel
theorem dX13_cut_38 : decode cX13_cut 38 = .ok (.bipush 7, 2) := by decide +kernel
theorem dX13_cut_40 : decode cX13_cut 40 = .ok (.iload_n 1, 1) := by decide +kernel
theorem dX13_cut_41 : decode cX13_cut 41 = .ok (.imul, 1) := by decide +kernel
theorem dX13_cut_42 : decode cX13_cut 42 = .ok (.iconst 0, 1) := by decide +kernel
theorem dX13_cut_43 : decode cX13_cut 43 = .ok (.iadd, 1) := by decide +kernel
theorem dX13_cut_44 : decode cX13_cut 44 = .ok (.dup2, 1) := by decide +kernel
theorem dX13_cut_45 : decode cX13_cut 45 = .ok (.iaload, 1) := by decide +kernel
theorem dX13_cut_46 : decode cX13_cut 46 = .ok (.iconst 1, 1) := by decide +kernel
theorem dX13_cut_47 : decode cX13_cut 47 = .ok (.isub, 1) := by decide +kernel
theorem dX13_cut_48 : decode cX13_cut 48 = .ok (.iastore, 1) := by decide +kernel
theorem dX13_cut_49 : decode cX13_cut 49 = .ok (.aload_n 0, 1) := by decide +kernel
theorem dX13_cut_50 : decode cX13_cut 50 = .ok (.getfield 13, 3) := by decide +kernel
theorem dX13_cut_53 : decode cX13_cut 53 = .ok (.bipush 7, 2) := by decide +kernel
theorem dX13_cut_55 : decode cX13_cut 55 = .ok (.iload_n 1, 1) := by decide +kernel
theorem dX13_cut_56 : decode cX13_cut 56 = .ok (.imul, 1) := by decide +kernel
theorem dX13_cut_57 : decode cX13_cut 57 = .ok (.iconst 0, 1) := by decide +kernel
theorem dX13_cut_58 : decode cX13_cut 58 = .ok (.iadd, 1) := by decide +kernel
theorem dX13_cut_59 : decode cX13_cut 59 = .ok (.iaload, 1) := by decide +kernel
theorem dX13_cut_60 : decode cX13_cut 60 = .ok (.ireturn, 1) := by decide +kernel
theorem dX13_mayScrape_0 : decode cX13_mayScrape 0 = .ok (.aload_n 1, 1) := by decide +kernel
theorem dX13_mayScrape_1 : decode cX13_mayScrape 1 = .ok (.iload_n 2, 1) := by decide +kernel
theorem dX13_mayScrape_2 : decode cX13_mayScrape 2 = .ok (.iconst 2, 1) := by decide +kernel
theorem dX13_mayScrape_3 : decode cX13_mayScrape 3 = .ok (.iadd, 1) := by decide +kernel
theorem dX13_mayScrape_4 : decode cX13_mayScrape 4 = .ok (.iaload, 1) := by decide +kernel
theorem dX13_mayScrape_5 : decode cX13_mayScrape 5 = .ok (.iload_n 3, 1) := by decide +kernel
theorem dX13_mayScrape_6 : decode cX13_mayScrape 6 = .ok (.isub, 1) := by decide +kernel
theorem dX13_mayScrape_7 : decode cX13_mayScrape 7 = .ok (.bipush 20, 2) := by decide +kernel
theorem dX13_mayScrape_9 : decode cX13_mayScrape 9 = .ok (.if_icmp .lt 36, 3) := by decide +kernel
theorem dX13_mayScrape_12 : decode cX13_mayScrape 12 = .ok (.aload_n 1, 1) := by decide +kernel
theorem dX13_mayScrape_13 : decode cX13_mayScrape 13 = .ok (.iload_n 2, 1) := by decide +kernel
theorem dX13_mayScrape_14 : decode cX13_mayScrape 14 = .ok (.iconst 2, 1) := by decide +kernel
theorem dX13_mayScrape_15 : decode cX13_mayScrape 15 = .ok (.iadd, 1) := by decide +kernel
theorem dX13_mayScrape_16 : decode cX13_mayScrape 16 = .ok (.iconst 1, 1) := by decide +kernel
theorem dX13_mayScrape_17 : decode cX13_mayScrape 17 = .ok (.iadd, 1) := by decide +kernel
theorem dX13_mayScrape_18 : decode cX13_mayScrape 18 = .ok (.iaload, 1) := by decide +kernel
theorem dX13_mayScrape_19 : decode cX13_mayScrape 19 = .ok (.iload_n 3, 1) := by decide +kernel
theorem dX13_mayScrape_20 : decode cX13_mayScrape 20 = .ok (.isub, 1) := by decide +kernel
theorem dX13_mayScrape_21 : decode cX13_mayScrape 21 = .ok (.bipush 20, 2) := by decide +kernel
theorem dX13_mayScrape_23 : decode cX13_mayScrape 23 = .ok (.if_icmp .lt 22, 3) := by decide +kernel
theorem dX13_mayScrape_26 : decode cX13_mayScrape 26 = .ok (.aload_n 1, 1) := by decide +kernel
theorem dX13_mayScrape_27 : decode cX13_mayScrape 27 = .ok (.iload_n 2, 1) := by decide +kernel
theorem dX13_mayScrape_28 : decode cX13_mayScrape 28 = .ok (.iconst 1, 1) := by decide +kernel
theorem dX13_mayScrape_29 : decode cX13_mayScrape 29 = .ok (.iadd, 1) := by decide +kernel
theorem dX13_mayScrape_30 : decode cX13_mayScrape 30 = .ok (.iaload, 1) := by decide +kernel
theorem dX13_mayScrape_31 : decode cX13_mayScrape 31 = .ok (.iconst 2, 1) := by decide +kernel
theorem dX13_mayScrape_32 : decode cX13_mayScrape 32 = .ok (.iload_n 3, 1) := by decide +kernel
theorem dX13_mayScrape_33 : decode cX13_mayScrape 33 = .ok (.imul, 1) := by decide +kernel
theorem dX13_mayScrape_34 : decode cX13_mayScrape 34 = .ok (.isub, 1) := by decide +kernel
theorem dX13_mayScrape_35 : decode cX13_mayScrape 35 = .ok (.sipush 200, 3) := by decide +kernel
theorem dX13_mayScrape_38 : decode cX13_mayScrape 38 = .ok (.if_icmp .lt 7, 3) := by decide +kernel
theorem dX13_mayScrape_41 : decode cX13_mayScrape 41 = .ok (.iconst 1, 1) := by decide +kernel
theorem dX13_mayScrape_42 : decode cX13_mayScrape 42 = .ok (.goto 4, 3) := by decide +kernel
theorem dX13_mayScrape_45 : decode cX13_mayScrape 45 = .ok (.iconst 0, 1) := by decide +kernel
theorem dX13_mayScrape_46 : decode cX13_mayScrape 46 = .ok (.ireturn, 1) := by decide +kernel
theorem dX13_scrape_0 : decode cX13_scrape 0 = .ok (.aload_n 0, 1) := by decide +kernel
theorem dX13_scrape_1 : decode cX13_scrape 1 = .ok (.iconst 0, 1) := by decide +kernel
theorem dX13_scrape_2 : decode cX13_scrape 2 = .ok (.putfield 53, 3) := by decide +kernel
theorem dX13_scrape_5 : decode cX13_scrape 5 = .ok (.aload_n 0, 1) := by decide +kernel
theorem dX13_scrape_6 : decode cX13_scrape 6 = .ok (.iload_n 1, 1) := by decide +kernel
theorem dX13_scrape_7 : decode cX13_scrape 7 = .ok (.invokevirtual 136, 3) := by decide +kernel
theorem dX13_scrape_10 : decode cX13_scrape 10 = .ok (.ifCond .ne 5, 3) := by decide +kernel
theorem dX13_scrape_13 : decode cX13_scrape 13 = .ok (.iconst (-1), 1) := by decide +kernel
theorem dX13_scrape_14 : decode cX13_scrape 14 = .ok (.ireturn, 1) := by decide +kernel
theorem dX13_scrape_15 : decode cX13_scrape 15 = .ok (.bipush 7, 2) := by decide +kernel
theorem dX13_scrape_17 : decode cX13_scrape 17 = .ok (.iload_n 1, 1) := by decide +kernel
theorem dX13_scrape_18 : decode cX13_scrape 18 = .ok (.imul, 1) := by decide +kernel
theorem dX13_scrape_19 : decode cX13_scrape 19 = .ok (.istore_n 2, 1) := by decide +kernel
theorem dX13_scrape_20 : decode cX13_scrape 20 = .ok (.aload_n 0, 1) := by decide +kernel
theorem dX13_scrape_21 : decode cX13_scrape 21 = .ok (.aload_n 0, 1) := by decide +kernel
theorem dX13_scrape_22 : decode cX13_scrape 22 = .ok (.getfield 13, 3) := by decide +kernel
theorem dX13_scrape_25 : decode cX13_scrape 25 = .ok (.iload_n 2, 1) := by decide +kernel
theorem dX13_scrape_26 : decode cX13_scrape 26 = .ok (.iconst 1, 1) := by decide +kernel
theorem dX13_scrape_27 : decode cX13_scrape 27 = .ok (.invokevirtual 144, 3) := by decide +kernel
theorem dX13_scrape_30 : decode cX13_scrape 30 = .ok (.ifCond .ne 6, 3) := by decide +kernel
theorem dX13_scrape_33 : decode cX13_scrape 33 = .ok (.bipush (-2), 2) := by decide +kernel
theorem dX13_scrape_35 : decode cX13_scrape 35 = .ok (.ireturn, 1) := by decide +kernel
theorem dX13_scrape_36 : decode cX13_scrape 36 = .ok (.aload_n 0, 1) := by decide +kernel
theorem dX13_scrape_37 : decode cX13_scrape 37 = .ok (.getfield 13, 3) := by decide +kernel
theorem dX13_scrape_40 : decode cX13_scrape 40 = .ok (.iload_n 2, 1) := by decide +kernel
theorem dX13_scrape_41 : decode cX13_scrape 41 = .ok (.iconst 2, 1) := by decide +kernel
theorem dX13_scrape_42 : decode cX13_scrape 42 = .ok (.iadd, 1) := by decide +kernel
theorem dX13_scrape_43 : decode cX13_scrape 43 = .ok (.dup2, 1) := by decide +kernel
theorem dX13_scrape_44 : decode cX13_scrape 44 = .ok (.iaload, 1) := by decide +kernel
theorem dX13_scrape_45 : decode cX13_scrape 45 = .ok (.iconst 1, 1) := by decide +kernel
theorem dX13_scrape_46 : decode cX13_scrape 46 = .ok (.isub, 1) := by decide +kernel
theorem dX13_scrape_47 : decode cX13_scrape 47 = .ok (.iastore, 1) := by decide +kernel
theorem dX13_scrape_48 : decode cX13_scrape 48 = .ok (.aload_n 0, 1) := by decide +kernel
theorem dX13_scrape_49 : decode cX13_scrape 49 = .ok (.getfield 13, 3) := by decide +kernel
theorem dX13_scrape_52 : decode cX13_scrape 52 = .ok (.iload_n 2, 1) := by decide +kernel
theorem dX13_scrape_53 : decode cX13_scrape 53 = .ok (.iconst 2, 1) := by decide +kernel
theorem dX13_scrape_54 : decode cX13_scrape 54 = .ok (.iadd, 1) := by decide +kernel
theorem dX13_scrape_55 : decode cX13_scrape 55 = .ok (.iconst 1, 1) := by decide +kernel
theorem dX13_scrape_56 : decode cX13_scrape 56 = .ok (.iadd, 1) := by decide +kernel
theorem dX13_scrape_57 : decode cX13_scrape 57 = .ok (.dup2, 1) := by decide +kernel
theorem dX13_scrape_58 : decode cX13_scrape 58 = .ok (.iaload, 1) := by decide +kernel
theorem dX13_scrape_59 : decode cX13_scrape 59 = .ok (.iconst 1, 1) := by decide +kernel
theorem dX13_scrape_60 : decode cX13_scrape 60 = .ok (.isub, 1) := by decide +kernel
theorem dX13_scrape_61 : decode cX13_scrape 61 = .ok (.iastore, 1) := by decide +kernel
theorem dX13_scrape_62 : decode cX13_scrape 62 = .ok (.aload_n 0, 1) := by decide +kernel
theorem dX13_scrape_63 : decode cX13_scrape 63 = .ok (.getfield 13, 3) := by decide +kernel
theorem dX13_scrape_66 : decode cX13_scrape 66 = .ok (.iload_n 2, 1) := by decide +kernel
theorem dX13_scrape_67 : decode cX13_scrape 67 = .ok (.iconst 1, 1) := by decide +kernel
theorem dX13_scrape_68 : decode cX13_scrape 68 = .ok (.iadd, 1) := by decide +kernel
theorem dX13_scrape_69 : decode cX13_scrape 69 = .ok (.dup2, 1) := by decide +kernel
theorem dX13_scrape_70 : decode cX13_scrape 70 = .ok (.iaload, 1) := by decide +kernel
theorem dX13_scrape_71 : decode cX13_scrape 71 = .ok (.iconst 2, 1) := by decide +kernel
theorem dX13_scrape_72 : decode cX13_scrape 72 = .ok (.isub, 1) := by decide +kernel
theorem dX13_scrape_73 : decode cX13_scrape 73 = .ok (.iastore, 1) := by decide +kernel
theorem dX13_scrape_74 : decode cX13_scrape 74 = .ok (.aload_n 0, 1) := by decide +kernel
theorem dX13_scrape_75 : decode cX13_scrape 75 = .ok (.getfield 13, 3) := by decide +kernel
theorem dX13_scrape_78 : decode cX13_scrape 78 = .ok (.iload_n 2, 1) := by decide +kernel
theorem dX13_scrape_79 : decode cX13_scrape 79 = .ok (.iconst 1, 1) := by decide +kernel
theorem dX13_scrape_80 : decode cX13_scrape 80 = .ok (.iadd, 1) := by decide +kernel
theorem dX13_scrape_81 : decode cX13_scrape 81 = .ok (.iaload, 1) := by decide +kernel
theorem dX13_scrape_82 : decode cX13_scrape 82 = .ok (.ireturn, 1) := by decide +kernel
theorem dX13_load_0 : decode cX13_load 0 = .ok (.aload_n 0, 1) := by decide +kernel
theorem dX13_load_1 : decode cX13_load 1 = .ok (.iconst 0, 1) := by decide +kernel
theorem dX13_load_2 : decode cX13_load 2 = .ok (.putfield 53, 3) := by decide +kernel
theorem dX13_load_5 : decode cX13_load 5 = .ok (.aload_n 0, 1) := by decide +kernel
theorem dX13_load_6 : decode cX13_load 6 = .ok (.iload_n 1, 1) := by decide +kernel
theorem dX13_load_7 : decode cX13_load 7 = .ok (.invokevirtual 136, 3) := by decide +kernel
theorem dX13_load_10 : decode cX13_load 10 = .ok (.ifCond .ne 5, 3) := by decide +kernel
theorem dX13_load_13 : decode cX13_load 13 = .ok (.iconst (-1), 1) := by decide +kernel
theorem dX13_load_14 : decode cX13_load 14 = .ok (.ireturn, 1) := by decide +kernel
theorem dX13_load_15 : decode cX13_load 15 = .ok (.aload_n 0, 1) := by decide +kernel
theorem dX13_load_16 : decode cX13_load 16 = .ok (.getfield 13, 3) := by decide +kernel
theorem dX13_load_19 : decode cX13_load 19 = .ok (.bipush 7, 2) := by decide +kernel
theorem dX13_load_21 : decode cX13_load 21 = .ok (.iload_n 1, 1) := by decide +kernel
theorem dX13_load_22 : decode cX13_load 22 = .ok (.imul, 1) := by decide +kernel
theorem dX13_load_23 : decode cX13_load 23 = .ok (.iconst 4, 1) := by decide +kernel
theorem dX13_load_24 : decode cX13_load 24 = .ok (.iadd, 1) := by decide +kernel
theorem dX13_load_25 : decode cX13_load 25 = .ok (.iaload, 1) := by decide +kernel
theorem dX13_load_26 : decode cX13_load 26 = .ok (.iconst 5, 1) := by decide +kernel
theorem dX13_load_27 : decode cX13_load 27 = .ok (.iadd, 1) := by decide +kernel
theorem dX13_load_28 : decode cX13_load 28 = .ok (.sipush 200, 3) := by decide +kernel
theorem dX13_load_31 : decode cX13_load 31 = .ok (.if_icmp .le 6, 3) := by decide +kernel
theorem dX13_load_34 : decode cX13_load 34 = .ok (.bipush (-2), 2) := by decide +kernel
theorem dX13_load_36 : decode cX13_load 36 = .ok (.ireturn, 1) := by decide +kernel
theorem dX13_load_37 : decode cX13_load 37 = .ok (.aload_n 0, 1) := by decide +kernel
theorem dX13_load_38 : decode cX13_load 38 = .ok (.getfield 13, 3) := by decide +kernel
theorem dX13_load_41 : decode cX13_load 41 = .ok (.bipush 7, 2) := by decide +kernel
theorem dX13_load_43 : decode cX13_load 43 = .ok (.iload_n 1, 1) := by decide +kernel
theorem dX13_load_44 : decode cX13_load 44 = .ok (.imul, 1) := by decide +kernel
theorem dX13_load_45 : decode cX13_load 45 = .ok (.iconst 4, 1) := by decide +kernel
theorem dX13_load_46 : decode cX13_load 46 = .ok (.iadd, 1) := by decide +kernel
theorem dX13_load_47 : decode cX13_load 47 = .ok (.dup2, 1) := by decide +kernel
theorem dX13_load_48 : decode cX13_load 48 = .ok (.iaload, 1) := by decide +kernel
theorem dX13_load_49 : decode cX13_load 49 = .ok (.iconst 5, 1) := by decide +kernel
theorem dX13_load_50 : decode cX13_load 50 = .ok (.iadd, 1) := by decide +kernel
theorem dX13_load_51 : decode cX13_load 51 = .ok (.iastore, 1) := by decide +kernel
theorem dX13_load_52 : decode cX13_load 52 = .ok (.aload_n 0, 1) := by decide +kernel
theorem dX13_load_53 : decode cX13_load 53 = .ok (.getfield 13, 3) := by decide +kernel
theorem dX13_load_56 : decode cX13_load 56 = .ok (.bipush 7, 2) := by decide +kernel
theorem dX13_load_58 : decode cX13_load 58 = .ok (.iload_n 1, 1) := by decide +kernel
theorem dX13_load_59 : decode cX13_load 59 = .ok (.imul, 1) := by decide +kernel
theorem dX13_load_60 : decode cX13_load 60 = .ok (.iconst 4, 1) := by decide +kernel
theorem dX13_load_61 : decode cX13_load 61 = .ok (.iadd, 1) := by decide +kernel
theorem dX13_load_62 : decode cX13_load 62 = .ok (.iaload, 1) := by decide +kernel
theorem dX13_load_63 : decode cX13_load 63 = .ok (.ireturn, 1) := by decide +kernel
theorem dX13_turn_0 : decode cX13_turn 0 = .ok (.aload_n 0, 1) := by decide +kernel
theorem dX13_turn_1 : decode cX13_turn 1 = .ok (.iconst 0, 1) := by decide +kernel
theorem dX13_turn_2 : decode cX13_turn 2 = .ok (.putfield 53, 3) := by decide +kernel
theorem dX13_turn_5 : decode cX13_turn 5 = .ok (.aload_n 0, 1) := by decide +kernel
theorem dX13_turn_6 : decode cX13_turn 6 = .ok (.iload_n 1, 1) := by decide +kernel
theorem dX13_turn_7 : decode cX13_turn 7 = .ok (.invokevirtual 136, 3) := by decide +kernel
theorem dX13_turn_10 : decode cX13_turn 10 = .ok (.ifCond .ne 5, 3) := by decide +kernel
theorem dX13_turn_13 : decode cX13_turn 13 = .ok (.iconst (-1), 1) := by decide +kernel
theorem dX13_turn_14 : decode cX13_turn 14 = .ok (.ireturn, 1) := by decide +kernel
theorem dX13_turn_15 : decode cX13_turn 15 = .ok (.aload_n 0, 1) := by decide +kernel
theorem dX13_turn_16 : decode cX13_turn 16 = .ok (.getfield 13, 3) := by decide +kernel
theorem dX13_turn_19 : decode cX13_turn 19 = .ok (.bipush 7, 2) := by decide +kernel
theorem dX13_turn_21 : decode cX13_turn 21 = .ok (.iload_n 1, 1) := by decide +kernel
theorem dX13_turn_22 : decode cX13_turn 22 = .ok (.imul, 1) := by decide +kernel
theorem dX13_turn_23 : decode cX13_turn 23 = .ok (.bipush 6, 2) := by decide +kernel
theorem dX13_turn_25 : decode cX13_turn 25 = .ok (.iadd, 1) := by decide +kernel
theorem dX13_turn_26 : decode cX13_turn 26 = .ok (.iconst 1, 1) := by decide +kernel
theorem dX13_turn_27 : decode cX13_turn 27 = .ok (.aload_n 0, 1) := by decide +kernel
theorem dX13_turn_28 : decode cX13_turn 28 = .ok (.getfield 13, 3) := by decide +kernel
theorem dX13_turn_31 : decode cX13_turn 31 = .ok (.bipush 7, 2) := by decide +kernel
theorem dX13_turn_33 : decode cX13_turn 33 = .ok (.iload_n 1, 1) := by decide +kernel
theorem dX13_turn_34 : decode cX13_turn 34 = .ok (.imul, 1) := by decide +kernel
theorem dX13_turn_35 : decode cX13_turn 35 = .ok (.bipush 6, 2) := by decide +kernel
theorem dX13_turn_37 : decode cX13_turn 37 = .ok (.iadd, 1) := by decide +kernel
theorem dX13_turn_38 : decode cX13_turn 38 = .ok (.iaload, 1) := by decide +kernel
theorem dX13_turn_39 : decode cX13_turn 39 = .ok (.isub, 1) := by decide +kernel
theorem dX13_turn_40 : decode cX13_turn 40 = .ok (.iastore, 1) := by decide +kernel
theorem dX13_turn_41 : decode cX13_turn 41 = .ok (.aload_n 0, 1) := by decide +kernel
theorem dX13_turn_42 : decode cX13_turn 42 = .ok (.getfield 13, 3) := by decide +kernel
theorem dX13_turn_45 : decode cX13_turn 45 = .ok (.bipush 7, 2) := by decide +kernel
theorem dX13_turn_47 : decode cX13_turn 47 = .ok (.iload_n 1, 1) := by decide +kernel
theorem dX13_turn_48 : decode cX13_turn 48 = .ok (.imul, 1) := by decide +kernel
theorem dX13_turn_49 : decode cX13_turn 49 = .ok (.bipush 6, 2) := by decide +kernel
theorem dX13_turn_51 : decode cX13_turn 51 = .ok (.iadd, 1) := by decide +kernel
theorem dX13_turn_52 : decode cX13_turn 52 = .ok (.iaload, 1) := by decide +kernel
theorem dX13_turn_53 : decode cX13_turn 53 = .ok (.ireturn, 1) := by decide +kernel
theorem dX13_tries_0 : decode cX13_tries 0 = .ok (.bipush 7, 2) := by decide +kernel
theorem dX13_tries_2 : decode cX13_tries 2 = .ok (.iload_n 1, 1) := by decide +kernel
theorem dX13_tries_3 : decode cX13_tries 3 = .ok (.imul, 1) := by decide +kernel
theorem dX13_tries_4 : decode cX13_tries 4 = .ok (.istore 6, 2) := by decide +kernel
theorem dX13_tries_6 : decode cX13_tries 6 = .ok (.aload_n 0, 1) := by decide +kernel
theorem dX13_tries_7 : decode cX13_tries 7 = .ok (.getfield 13, 3) := by decide +kernel
theorem dX13_tries_10 : decode cX13_tries 10 = .ok (.iload 6, 2) := by decide +kernel
theorem dX13_tries_12 : decode cX13_tries 12 = .ok (.iconst 0, 1) := by decide +kernel
theorem dX13_tries_13 : decode cX13_tries 13 = .ok (.iadd, 1) := by decide +kernel
theorem dX13_tries_14 : decode cX13_tries 14 = .ok (.iaload, 1) := by decide +kernel
theorem dX13_tries_15 : decode cX13_tries 15 = .ok (.iload_n 2, 1) := by decide +kernel
theorem dX13_tries_16 : decode cX13_tries 16 = .ok (.isub, 1) := by decide +kernel
theorem dX13_tries_17 : decode cX13_tries 17 = .ok (.bipush 80, 2) := by decide +kernel
theorem dX13_tries_19 : decode cX13_tries 19 = .ok (.if_icmp .lt 46, 3) := by decide +kernel
theorem dX13_tries_22 : decode cX13_tries 22 = .ok (.iload_n 3, 1) := by decide +kernel
theorem dX13_tries_23 : decode cX13_tries 23 = .ok (.ifCond .le 17, 3) := by decide +kernel
theorem dX13_tries_26 : decode cX13_tries 26 = .ok (.aload_n 0, 1) := by decide +kernel
theorem dX13_tries_27 : decode cX13_tries 27 = .ok (.aload_n 0, 1) := by decide +kernel
theorem dX13_tries_28 : decode cX13_tries 28 = .ok (.getfield 13, 3) := by decide +kernel
theorem dX13_tries_31 : decode cX13_tries 31 = .ok (.iload 6, 2) := by decide +kernel
theorem dX13_tries_33 : decode cX13_tries 33 = .ok (.iload_n 3, 1) := by decide +kernel
theorem dX13_tries_34 : decode cX13_tries 34 = .ok (.invokevirtual 144, 3) := by decide +kernel
theorem dX13_tries_37 : decode cX13_tries 37 = .ok (.ifCond .eq 28, 3) := by decide +kernel
theorem dX13_tries_40 : decode cX13_tries 40 = .ok (.iload 4, 2) := by decide +kernel
theorem dX13_tries_42 : decode cX13_tries 42 = .ok (.ifCond .le 25, 3) := by decide +kernel
theorem dX13_tries_45 : decode cX13_tries 45 = .ok (.aload_n 0, 1) := by decide +kernel
theorem dX13_tries_46 : decode cX13_tries 46 = .ok (.getfield 13, 3) := by decide +kernel
theorem dX13_tries_49 : decode cX13_tries 49 = .ok (.iload 6, 2) := by decide +kernel
theorem dX13_tries_51 : decode cX13_tries 51 = .ok (.iconst 4, 1) := by decide +kernel
theorem dX13_tries_52 : decode cX13_tries 52 = .ok (.iadd, 1) := by decide +kernel
theorem dX13_tries_53 : decode cX13_tries 53 = .ok (.iaload, 1) := by decide +kernel
theorem dX13_tries_54 : decode cX13_tries 54 = .ok (.iconst 5, 1) := by decide +kernel
theorem dX13_tries_55 : decode cX13_tries 55 = .ok (.iload 4, 2) := by decide +kernel
theorem dX13_tries_57 : decode cX13_tries 57 = .ok (.imul, 1) := by decide +kernel
theorem dX13_tries_58 : decode cX13_tries 58 = .ok (.iadd, 1) := by decide +kernel
theorem dX13_tries_59 : decode cX13_tries 59 = .ok (.sipush 200, 3) := by decide +kernel
theorem dX13_tries_62 : decode cX13_tries 62 = .ok (.if_icmp .le 5, 3) := by decide +kernel
theorem dX13_tries_65 : decode cX13_tries 65 = .ok (.iconst 0, 1) := by decide +kernel
theorem dX13_tries_66 : decode cX13_tries 66 = .ok (.ireturn, 1) := by decide +kernel
theorem dX13_tries_67 : decode cX13_tries 67 = .ok (.aload_n 0, 1) := by decide +kernel
theorem dX13_tries_68 : decode cX13_tries 68 = .ok (.iload_n 1, 1) := by decide +kernel
theorem dX13_tries_69 : decode cX13_tries 69 = .ok (.invokevirtual 148, 3) := by decide +kernel
theorem dX13_tries_72 : decode cX13_tries 72 = .ok (.aload_n 0, 1) := by decide +kernel
theorem dX13_tries_73 : decode cX13_tries 73 = .ok (.getfield 41, 3) := by decide +kernel
theorem dX13_tries_76 : decode cX13_tries 76 = .ok (.iconst 0, 1) := by decide +kernel
theorem dX13_tries_77 : decode cX13_tries 77 = .ok (.dup2, 1) := by decide +kernel
theorem dX13_tries_78 : decode cX13_tries 78 = .ok (.iaload, 1) := by decide +kernel
theorem dX13_tries_79 : decode cX13_tries 79 = .ok (.iload_n 2, 1) := by decide +kernel
theorem dX13_tries_80 : decode cX13_tries 80 = .ok (.isub, 1) := by decide +kernel
theorem dX13_tries_81 : decode cX13_tries 81 = .ok (.iastore, 1) := by decide +kernel
theorem dX13_tries_82 : decode cX13_tries 82 = .ok (.aload_n 0, 1) := by decide +kernel
theorem dX13_tries_83 : decode cX13_tries 83 = .ok (.getfield 41, 3) := by decide +kernel
theorem dX13_tries_86 : decode cX13_tries 86 = .ok (.iconst 2, 1) := by decide +kernel
theorem dX13_tries_87 : decode cX13_tries 87 = .ok (.dup2, 1) := by decide +kernel
theorem dX13_tries_88 : decode cX13_tries 88 = .ok (.iaload, 1) := by decide +kernel
theorem dX13_tries_89 : decode cX13_tries 89 = .ok (.iload_n 3, 1) := by decide +kernel
theorem dX13_tries_90 : decode cX13_tries 90 = .ok (.isub, 1) := by decide +kernel
theorem dX13_tries_91 : decode cX13_tries 91 = .ok (.iastore, 1) := by decide +kernel
theorem dX13_tries_92 : decode cX13_tries 92 = .ok (.aload_n 0, 1) := by decide +kernel
theorem dX13_tries_93 : decode cX13_tries 93 = .ok (.getfield 41, 3) := by decide +kernel
theorem dX13_tries_96 : decode cX13_tries 96 = .ok (.iconst 3, 1) := by decide +kernel
theorem dX13_tries_97 : decode cX13_tries 97 = .ok (.dup2, 1) := by decide +kernel
theorem dX13_tries_98 : decode cX13_tries 98 = .ok (.iaload, 1) := by decide +kernel
theorem dX13_tries_99 : decode cX13_tries 99 = .ok (.iload_n 3, 1) := by decide +kernel
theorem dX13_tries_100 : decode cX13_tries 100 = .ok (.isub, 1) := by decide +kernel
theorem dX13_tries_101 : decode cX13_tries 101 = .ok (.iastore, 1) := by decide +kernel
theorem dX13_tries_102 : decode cX13_tries 102 = .ok (.aload_n 0, 1) := by decide +kernel
theorem dX13_tries_103 : decode cX13_tries 103 = .ok (.getfield 41, 3) := by decide +kernel
theorem dX13_tries_106 : decode cX13_tries 106 = .ok (.iconst 1, 1) := by decide +kernel
theorem dX13_tries_107 : decode cX13_tries 107 = .ok (.dup2, 1) := by decide +kernel
theorem dX13_tries_108 : decode cX13_tries 108 = .ok (.iaload, 1) := by decide +kernel
theorem dX13_tries_109 : decode cX13_tries 109 = .ok (.iconst 2, 1) := by decide +kernel
theorem dX13_tries_110 : decode cX13_tries 110 = .ok (.iload_n 3, 1) := by decide +kernel
theorem dX13_tries_111 : decode cX13_tries 111 = .ok (.imul, 1) := by decide +kernel
theorem dX13_tries_112 : decode cX13_tries 112 = .ok (.isub, 1) := by decide +kernel
theorem dX13_tries_113 : decode cX13_tries 113 = .ok (.iastore, 1) := by decide +kernel
theorem dX13_tries_114 : decode cX13_tries 114 = .ok (.aload_n 0, 1) := by decide +kernel
theorem dX13_tries_115 : decode cX13_tries 115 = .ok (.getfield 41, 3) := by decide +kernel
theorem dX13_tries_118 : decode cX13_tries 118 = .ok (.iconst 4, 1) := by decide +kernel
theorem dX13_tries_119 : decode cX13_tries 119 = .ok (.dup2, 1) := by decide +kernel
theorem dX13_tries_120 : decode cX13_tries 120 = .ok (.iaload, 1) := by decide +kernel
theorem dX13_tries_121 : decode cX13_tries 121 = .ok (.iconst 5, 1) := by decide +kernel
theorem dX13_tries_122 : decode cX13_tries 122 = .ok (.iload 4, 2) := by decide +kernel
theorem dX13_tries_124 : decode cX13_tries 124 = .ok (.imul, 1) := by decide +kernel
theorem dX13_tries_125 : decode cX13_tries 125 = .ok (.iadd, 1) := by decide +kernel
theorem dX13_tries_126 : decode cX13_tries 126 = .ok (.iastore, 1) := by decide +kernel
theorem dX13_tries_127 : decode cX13_tries 127 = .ok (.aload_n 0, 1) := by decide +kernel
theorem dX13_tries_128 : decode cX13_tries 128 = .ok (.getfield 41, 3) := by decide +kernel
theorem dX13_tries_131 : decode cX13_tries 131 = .ok (.bipush 6, 2) := by decide +kernel
theorem dX13_tries_133 : decode cX13_tries 133 = .ok (.iload 5, 2) := by decide +kernel
theorem dX13_tries_135 : decode cX13_tries 135 = .ok (.ifCond .ne 13, 3) := by decide +kernel
theorem dX13_tries_138 : decode cX13_tries 138 = .ok (.aload_n 0, 1) := by decide +kernel
theorem dX13_tries_139 : decode cX13_tries 139 = .ok (.getfield 41, 3) := by decide +kernel
theorem dX13_tries_142 : decode cX13_tries 142 = .ok (.bipush 6, 2) := by decide +kernel
theorem dX13_tries_144 : decode cX13_tries 144 = .ok (.iaload, 1) := by decide +kernel
theorem dX13_tries_145 : decode cX13_tries 145 = .ok (.goto 12, 3) := by decide +kernel
theorem dX13_tries_148 : decode cX13_tries 148 = .ok (.iconst 1, 1) := by decide +kernel
theorem dX13_tries_149 : decode cX13_tries 149 = .ok (.aload_n 0, 1) := by decide +kernel
theorem dX13_tries_150 : decode cX13_tries 150 = .ok (.getfield 41, 3) := by decide +kernel
theorem dX13_tries_153 : decode cX13_tries 153 = .ok (.bipush 6, 2) := by decide +kernel
theorem dX13_tries_155 : decode cX13_tries 155 = .ok (.iaload, 1) := by decide +kernel
theorem dX13_tries_156 : decode cX13_tries 156 = .ok (.isub, 1) := by decide +kernel
theorem dX13_tries_157 : decode cX13_tries 157 = .ok (.iastore, 1) := by decide +kernel
theorem dX13_tries_158 : decode cX13_tries 158 = .ok (.iconst 1, 1) := by decide +kernel
theorem dX13_tries_159 : decode cX13_tries 159 = .ok (.ireturn, 1) := by decide +kernel
theorem dX13_isAct_0 : decode cX13_isAct 0 = .ok (.iload_n 0, 1) := by decide +kernel
theorem dX13_isAct_1 : decode cX13_isAct 1 = .ok (.iconst 0, 1) := by decide +kernel
theorem dX13_isAct_2 : decode cX13_isAct 2 = .ok (.iconst 4, 1) := by decide +kernel
theorem dX13_isAct_3 : decode cX13_isAct 3 = .ok (.invokestatic 57, 3) := by decide +kernel
theorem dX13_isAct_6 : decode cX13_isAct 6 = .ok (.ireturn, 1) := by decide +kernel
theorem dX13_least_0 : decode cX13_least 0 = .ok (.aload_n 0, 1) := by decide +kernel
theorem dX13_least_1 : decode cX13_least 1 = .ok (.iconst 0, 1) := by decide +kernel
theorem dX13_least_2 : decode cX13_least 2 = .ok (.putfield 53, 3) := by decide +kernel
theorem dX13_least_5 : decode cX13_least 5 = .ok (.aload_n 0, 1) := by decide +kernel
theorem dX13_least_6 : decode cX13_least 6 = .ok (.iload_n 1, 1) := by decide +kernel
theorem dX13_least_7 : decode cX13_least 7 = .ok (.invokevirtual 136, 3) := by decide +kernel
theorem dX13_least_10 : decode cX13_least 10 = .ok (.ifCond .eq 45, 3) := by decide +kernel
theorem dX13_least_13 : decode cX13_least 13 = .ok (.aload_n 0, 1) := by decide +kernel
theorem dX13_least_14 : decode cX13_least 14 = .ok (.iload_n 2, 1) := by decide +kernel
theorem dX13_least_15 : decode cX13_least 15 = .ok (.invokevirtual 140, 3) := by decide +kernel
theorem dX13_least_18 : decode cX13_least 18 = .ok (.ifCond .eq 37, 3) := by decide +kernel
theorem dX13_least_21 : decode cX13_least 21 = .ok (.iload 4, 2) := by decide +kernel
theorem dX13_least_23 : decode cX13_least 23 = .ok (.sipush 200, 3) := by decide +kernel
theorem dX13_least_26 : decode cX13_least 26 = .ok (.sipush 800, 3) := by decide +kernel
theorem dX13_least_29 : decode cX13_least 29 = .ok (.invokestatic 57, 3) := by decide +kernel
theorem dX13_least_32 : decode cX13_least 32 = .ok (.ifCond .eq 23, 3) := by decide +kernel
theorem dX13_least_35 : decode cX13_least 35 = .ok (.iload_n 3, 1) := by decide +kernel
theorem dX13_least_36 : decode cX13_least 36 = .ok (.sipush 200, 3) := by decide +kernel
theorem dX13_least_39 : decode cX13_least 39 = .ok (.iload 4, 2) := by decide +kernel
theorem dX13_least_41 : decode cX13_least 41 = .ok (.invokestatic 57, 3) := by decide +kernel
theorem dX13_least_44 : decode cX13_least 44 = .ok (.ifCond .eq 11, 3) := by decide +kernel
theorem dX13_least_47 : decode cX13_least 47 = .ok (.iload 5, 2) := by decide +kernel
theorem dX13_least_49 : decode cX13_least 49 = .ok (.invokestatic 151, 3) := by decide +kernel
theorem dX13_least_52 : decode cX13_least 52 = .ok (.ifCond .ne 5, 3) := by decide +kernel
theorem dX13_least_55 : decode cX13_least 55 = .ok (.iconst (-1), 1) := by decide +kernel
theorem dX13_least_56 : decode cX13_least 56 = .ok (.ireturn, 1) := by decide +kernel
theorem dX13_least_57 : decode cX13_least 57 = .ok (.aload_n 0, 1) := by decide +kernel
theorem dX13_least_58 : decode cX13_least 58 = .ok (.getfield 50, 3) := by decide +kernel
theorem dX13_least_61 : decode cX13_least 61 = .ok (.iconst 0, 1) := by decide +kernel
theorem dX13_least_62 : decode cX13_least 62 = .ok (.bipush (-9), 2) := by decide +kernel
theorem dX13_least_64 : decode cX13_least 64 = .ok (.iastore, 1) := by decide +kernel
theorem dX13_least_65 : decode cX13_least 65 = .ok (.iconst 0, 1) := by decide +kernel
theorem dX13_least_66 : decode cX13_least 66 = .ok (.istore 6, 2) := by decide +kernel
theorem dX13_least_68 : decode cX13_least 68 = .ok (.iload 6, 2) := by decide +kernel
theorem dX13_least_70 : decode cX13_least 70 = .ok (.iconst 2, 1) := by decide +kernel
theorem dX13_least_71 : decode cX13_least 71 = .ok (.if_icmp .ge 212, 3) := by decide +kernel
theorem dX13_least_74 : decode cX13_least 74 = .ok (.iconst 0, 1) := by decide +kernel
theorem dX13_least_75 : decode cX13_least 75 = .ok (.istore 7, 2) := by decide +kernel
theorem dX13_least_77 : decode cX13_least 77 = .ok (.iload 7, 2) := by decide +kernel
theorem dX13_least_79 : decode cX13_least 79 = .ok (.bipush 16, 2) := by decide +kernel
theorem dX13_least_81 : decode cX13_least 81 = .ok (.if_icmp .ge 196, 3) := by decide +kernel
theorem dX13_least_84 : decode cX13_least 84 = .ok (.iconst 0, 1) := by decide +kernel
theorem dX13_least_85 : decode cX13_least 85 = .ok (.istore 8, 2) := by decide +kernel
theorem dX13_least_87 : decode cX13_least 87 = .ok (.iload 8, 2) := by decide +kernel
theorem dX13_least_89 : decode cX13_least 89 = .ok (.bipush 16, 2) := by decide +kernel
theorem dX13_least_91 : decode cX13_least 91 = .ok (.if_icmp .ge 180, 3) := by decide +kernel
theorem dX13_least_94 : decode cX13_least 94 = .ok (.iconst 0, 1) := by decide +kernel
theorem dX13_least_95 : decode cX13_least 95 = .ok (.istore 9, 2) := by decide +kernel
theorem dX13_least_97 : decode cX13_least 97 = .ok (.iload 9, 2) := by decide +kernel
theorem dX13_least_99 : decode cX13_least 99 = .ok (.bipush 16, 2) := by decide +kernel
theorem dX13_least_101 : decode cX13_least 101 = .ok (.if_icmp .ge 164, 3) := by decide +kernel
theorem dX13_least_104 : decode cX13_least 104 = .ok (.iload 6, 2) := by decide +kernel
theorem dX13_least_106 : decode cX13_least 106 = .ok (.iload 7, 2) := by decide +kernel
theorem dX13_least_108 : decode cX13_least 108 = .ok (.iadd, 1) := by decide +kernel
theorem dX13_least_109 : decode cX13_least 109 = .ok (.iload 8, 2) := by decide +kernel
theorem dX13_least_111 : decode cX13_least 111 = .ok (.iadd, 1) := by decide +kernel
theorem dX13_least_112 : decode cX13_least 112 = .ok (.iload 9, 2) := by decide +kernel
theorem dX13_least_114 : decode cX13_least 114 = .ok (.iadd, 1) := by decide +kernel
theorem dX13_least_115 : decode cX13_least 115 = .ok (.istore 10, 2) := by decide +kernel
theorem dX13_least_117 : decode cX13_least 117 = .ok (.aload_n 0, 1) := by decide +kernel
theorem dX13_least_118 : decode cX13_least 118 = .ok (.getfield 50, 3) := by decide +kernel
theorem dX13_least_121 : decode cX13_least 121 = .ok (.iconst 0, 1) := by decide +kernel
theorem dX13_least_122 : decode cX13_least 122 = .ok (.iaload, 1) := by decide +kernel
theorem dX13_least_123 : decode cX13_least 123 = .ok (.bipush (-9), 2) := by decide +kernel
theorem dX13_least_125 : decode cX13_least 125 = .ok (.if_icmp .eq 14, 3) := by decide +kernel
theorem dX13_least_128 : decode cX13_least 128 = .ok (.iload 10, 2) := by decide +kernel
theorem dX13_least_130 : decode cX13_least 130 = .ok (.aload_n 0, 1) := by decide +kernel
theorem dX13_least_131 : decode cX13_least 131 = .ok (.getfield 50, 3) := by decide +kernel
theorem dX13_least_134 : decode cX13_least 134 = .ok (.iconst 0, 1) := by decide +kernel
theorem dX13_least_135 : decode cX13_least 135 = .ok (.iaload, 1) := by decide +kernel
theorem dX13_least_136 : decode cX13_least 136 = .ok (.if_icmp .ge 7, 3) := by decide +kernel
theorem dX13_least_139 : decode cX13_least 139 = .ok (.iconst 1, 1) := by decide +kernel
theorem dX13_least_140 : decode cX13_least 140 = .ok (.goto 4, 3) := by decide +kernel
theorem dX13_least_143 : decode cX13_least 143 = .ok (.iconst 0, 1) := by decide +kernel
theorem dX13_least_144 : decode cX13_least 144 = .ok (.istore 11, 2) := by decide +kernel
theorem dX13_least_146 : decode cX13_least 146 = .ok (.iload 11, 2) := by decide +kernel
theorem dX13_least_148 : decode cX13_least 148 = .ok (.ifCond .eq 111, 3) := by decide +kernel
theorem dX13_least_151 : decode cX13_least 151 = .ok (.aload_n 0, 1) := by decide +kernel
theorem dX13_least_152 : decode cX13_least 152 = .ok (.iload_n 1, 1) := by decide +kernel
theorem dX13_least_153 : decode cX13_least 153 = .ok (.iload 7, 2) := by decide +kernel
theorem dX13_least_155 : decode cX13_least 155 = .ok (.iload 8, 2) := by decide +kernel
theorem dX13_least_157 : decode cX13_least 157 = .ok (.iload 9, 2) := by decide +kernel
theorem dX13_least_159 : decode cX13_least 159 = .ok (.iload 6, 2) := by decide +kernel
theorem dX13_least_161 : decode cX13_least 161 = .ok (.invokevirtual 154, 3) := by decide +kernel
theorem dX13_least_164 : decode cX13_least 164 = .ok (.ifCond .eq 95, 3) := by decide +kernel
theorem dX13_least_167 : decode cX13_least 167 = .ok (.aload_n 0, 1) := by decide +kernel
theorem dX13_least_168 : decode cX13_least 168 = .ok (.getfield 41, 3) := by decide +kernel
theorem dX13_least_171 : decode cX13_least 171 = .ok (.iconst 1, 1) := by decide +kernel
theorem dX13_least_172 : decode cX13_least 172 = .ok (.iaload, 1) := by decide +kernel
theorem dX13_least_173 : decode cX13_least 173 = .ok (.aload_n 0, 1) := by decide +kernel
theorem dX13_least_174 : decode cX13_least 174 = .ok (.getfield 41, 3) := by decide +kernel
theorem dX13_least_177 : decode cX13_least 177 = .ok (.iconst 4, 1) := by decide +kernel
theorem dX13_least_178 : decode cX13_least 178 = .ok (.iaload, 1) := by decide +kernel
theorem dX13_least_179 : decode cX13_least 179 = .ok (.iadd, 1) := by decide +kernel
theorem dX13_least_180 : decode cX13_least 180 = .ok (.iload_n 3, 1) := by decide +kernel
theorem dX13_least_181 : decode cX13_least 181 = .ok (.iload 4, 2) := by decide +kernel
theorem dX13_least_183 : decode cX13_least 183 = .ok (.invokestatic 57, 3) := by decide +kernel
theorem dX13_least_186 : decode cX13_least 186 = .ok (.ifCond .eq 73, 3) := by decide +kernel
theorem dX13_least_189 : decode cX13_least 189 = .ok (.aload_n 0, 1) := by decide +kernel
theorem dX13_least_190 : decode cX13_least 190 = .ok (.aload_n 0, 1) := by decide +kernel
theorem dX13_least_191 : decode cX13_least 191 = .ok (.getfield 23, 3) := by decide +kernel
theorem dX13_least_194 : decode cX13_least 194 = .ok (.iconst 2, 1) := by decide +kernel
theorem dX13_least_195 : decode cX13_least 195 = .ok (.iload_n 2, 1) := by decide +kernel
theorem dX13_least_196 : decode cX13_least 196 = .ok (.imul, 1) := by decide +kernel
theorem dX13_least_197 : decode cX13_least 197 = .ok (.iaload, 1) := by decide +kernel
theorem dX13_least_198 : decode cX13_least 198 = .ok (.aload_n 0, 1) := by decide +kernel
theorem dX13_least_199 : decode cX13_least 199 = .ok (.getfield 23, 3) := by decide +kernel
theorem dX13_least_202 : decode cX13_least 202 = .ok (.iconst 2, 1) := by decide +kernel
theorem dX13_least_203 : decode cX13_least 203 = .ok (.iload_n 2, 1) := by decide +kernel
theorem dX13_least_204 : decode cX13_least 204 = .ok (.imul, 1) := by decide +kernel
theorem dX13_least_205 : decode cX13_least 205 = .ok (.iconst 1, 1) := by decide +kernel
theorem dX13_least_206 : decode cX13_least 206 = .ok (.iadd, 1) := by decide +kernel
theorem dX13_least_207 : decode cX13_least 207 = .ok (.iaload, 1) := by decide +kernel
theorem dX13_least_208 : decode cX13_least 208 = .ok (.invokevirtual 158, 3) := by decide +kernel
theorem dX13_least_211 : decode cX13_least 211 = .ok (.aload_n 0, 1) := by decide +kernel
theorem dX13_least_212 : decode cX13_least 212 = .ok (.getfield 162, 3) := by decide +kernel
theorem dX13_least_215 : decode cX13_least 215 = .ok (.iconst 1, 1) := by decide +kernel
theorem dX13_least_216 : decode cX13_least 216 = .ok (.if_icmp .ne 43, 3) := by decide +kernel
theorem dX13_least_219 : decode cX13_least 219 = .ok (.aload_n 0, 1) := by decide +kernel
theorem dX13_least_220 : decode cX13_least 220 = .ok (.getfield 50, 3) := by decide +kernel
theorem dX13_least_223 : decode cX13_least 223 = .ok (.iconst 0, 1) := by decide +kernel
theorem dX13_least_224 : decode cX13_least 224 = .ok (.iload 10, 2) := by decide +kernel
theorem dX13_least_226 : decode cX13_least 226 = .ok (.iastore, 1) := by decide +kernel
theorem dX13_least_227 : decode cX13_least 227 = .ok (.aload_n 0, 1) := by decide +kernel
theorem dX13_least_228 : decode cX13_least 228 = .ok (.getfield 50, 3) := by decide +kernel
theorem dX13_least_231 : decode cX13_least 231 = .ok (.iconst 1, 1) := by decide +kernel
theorem dX13_least_232 : decode cX13_least 232 = .ok (.iload 7, 2) := by decide +kernel
theorem dX13_least_234 : decode cX13_least 234 = .ok (.iastore, 1) := by decide +kernel
theorem dX13_least_235 : decode cX13_least 235 = .ok (.aload_n 0, 1) := by decide +kernel
theorem dX13_least_236 : decode cX13_least 236 = .ok (.getfield 50, 3) := by decide +kernel
theorem dX13_least_239 : decode cX13_least 239 = .ok (.iconst 2, 1) := by decide +kernel
theorem dX13_least_240 : decode cX13_least 240 = .ok (.iload 8, 2) := by decide +kernel
theorem dX13_least_242 : decode cX13_least 242 = .ok (.iastore, 1) := by decide +kernel
theorem dX13_least_243 : decode cX13_least 243 = .ok (.aload_n 0, 1) := by decide +kernel
theorem dX13_least_244 : decode cX13_least 244 = .ok (.getfield 50, 3) := by decide +kernel
theorem dX13_least_247 : decode cX13_least 247 = .ok (.iconst 3, 1) := by decide +kernel
theorem dX13_least_248 : decode cX13_least 248 = .ok (.iload 9, 2) := by decide +kernel
theorem dX13_least_250 : decode cX13_least 250 = .ok (.iastore, 1) := by decide +kernel
theorem dX13_least_251 : decode cX13_least 251 = .ok (.aload_n 0, 1) := by decide +kernel
theorem dX13_least_252 : decode cX13_least 252 = .ok (.getfield 50, 3) := by decide +kernel
theorem dX13_least_255 : decode cX13_least 255 = .ok (.iconst 4, 1) := by decide +kernel
theorem dX13_least_256 : decode cX13_least 256 = .ok (.iload 6, 2) := by decide +kernel
theorem dX13_least_258 : decode cX13_least 258 = .ok (.iastore, 1) := by decide +kernel
theorem dX13_least_259 : decode cX13_least 259 = .ok (.iinc 9 1, 3) := by decide +kernel
theorem dX13_least_262 : decode cX13_least 262 = .ok (.goto (-165), 3) := by decide +kernel
theorem dX13_least_265 : decode cX13_least 265 = .ok (.iinc 8 1, 3) := by decide +kernel
theorem dX13_least_268 : decode cX13_least 268 = .ok (.goto (-181), 3) := by decide +kernel
theorem dX13_least_271 : decode cX13_least 271 = .ok (.iinc 7 1, 3) := by decide +kernel
theorem dX13_least_274 : decode cX13_least 274 = .ok (.goto (-197), 3) := by decide +kernel
theorem dX13_least_277 : decode cX13_least 277 = .ok (.iinc 6 1, 3) := by decide +kernel
theorem dX13_least_280 : decode cX13_least 280 = .ok (.goto (-212), 3) := by decide +kernel
theorem dX13_least_283 : decode cX13_least 283 = .ok (.aload_n 0, 1) := by decide +kernel
theorem dX13_least_284 : decode cX13_least 284 = .ok (.getfield 50, 3) := by decide +kernel
theorem dX13_least_287 : decode cX13_least 287 = .ok (.iconst 0, 1) := by decide +kernel
theorem dX13_least_288 : decode cX13_least 288 = .ok (.iaload, 1) := by decide +kernel
theorem dX13_least_289 : decode cX13_least 289 = .ok (.bipush (-9), 2) := by decide +kernel
theorem dX13_least_291 : decode cX13_least 291 = .ok (.if_icmp .ne 8, 3) := by decide +kernel
theorem dX13_least_294 : decode cX13_least 294 = .ok (.bipush (-9), 2) := by decide +kernel
theorem dX13_least_296 : decode cX13_least 296 = .ok (.goto 10, 3) := by decide +kernel
theorem dX13_least_299 : decode cX13_least 299 = .ok (.aload_n 0, 1) := by decide +kernel
theorem dX13_least_300 : decode cX13_least 300 = .ok (.getfield 50, 3) := by decide +kernel
theorem dX13_least_303 : decode cX13_least 303 = .ok (.iload 5, 2) := by decide +kernel
theorem dX13_least_305 : decode cX13_least 305 = .ok (.iaload, 1) := by decide +kernel
theorem dX13_least_306 : decode cX13_least 306 = .ok (.ireturn, 1) := by decide +kernel
theorem dX13_lays_0 : decode cX13_lays 0 = .ok (.iconst 0, 1) := by decide +kernel
theorem dX13_lays_1 : decode cX13_lays 1 = .ok (.istore_n 2, 1) := by decide +kernel
theorem dX13_lays_2 : decode cX13_lays 2 = .ok (.iload_n 2, 1) := by decide +kernel
theorem dX13_lays_3 : decode cX13_lays 3 = .ok (.bipush 7, 2) := by decide +kernel
theorem dX13_lays_5 : decode cX13_lays 5 = .ok (.if_icmp .ge 26, 3) := by decide +kernel
theorem dX13_lays_8 : decode cX13_lays 8 = .ok (.aload_n 0, 1) := by decide +kernel
theorem dX13_lays_9 : decode cX13_lays 9 = .ok (.getfield 41, 3) := by decide +kernel
theorem dX13_lays_12 : decode cX13_lays 12 = .ok (.iload_n 2, 1) := by decide +kernel
theorem dX13_lays_13 : decode cX13_lays 13 = .ok (.aload_n 0, 1) := by decide +kernel
theorem dX13_lays_14 : decode cX13_lays 14 = .ok (.getfield 13, 3) := by decide +kernel
theorem dX13_lays_17 : decode cX13_lays 17 = .ok (.bipush 7, 2) := by decide +kernel
theorem dX13_lays_19 : decode cX13_lays 19 = .ok (.iload_n 1, 1) := by decide +kernel
theorem dX13_lays_20 : decode cX13_lays 20 = .ok (.imul, 1) := by decide +kernel
theorem dX13_lays_21 : decode cX13_lays 21 = .ok (.iload_n 2, 1) := by decide +kernel
theorem dX13_lays_22 : decode cX13_lays 22 = .ok (.iadd, 1) := by decide +kernel
theorem dX13_lays_23 : decode cX13_lays 23 = .ok (.iaload, 1) := by decide +kernel
theorem dX13_lays_24 : decode cX13_lays 24 = .ok (.iastore, 1) := by decide +kernel
theorem dX13_lays_25 : decode cX13_lays 25 = .ok (.iinc 2 1, 3) := by decide +kernel
theorem dX13_lays_28 : decode cX13_lays 28 = .ok (.goto (-26), 3) := by decide +kernel
theorem dX13_lays_31 : decode cX13_lays 31 = .ok (.return_, 1) := by decide +kernel
theorem dX13_kindOf_0 : decode cX13_kindOf 0 = .ok (.iload_n 1, 1) := by decide +kernel
theorem dX13_kindOf_1 : decode cX13_kindOf 1 = .ok (.invokestatic 165, 3) := by decide +kernel
theorem dX13_kindOf_4 : decode cX13_kindOf 4 = .ok (.aload_n 0, 1) := by decide +kernel
theorem dX13_kindOf_5 : decode cX13_kindOf 5 = .ok (.getfield 38, 3) := by decide +kernel
theorem dX13_kindOf_8 : decode cX13_kindOf 8 = .ok (.iconst 0, 1) := by decide +kernel
theorem dX13_kindOf_9 : decode cX13_kindOf 9 = .ok (.iaload, 1) := by decide +kernel
theorem dX13_kindOf_10 : decode cX13_kindOf 10 = .ok (.if_icmp .gt 7, 3) := by decide +kernel
theorem dX13_kindOf_13 : decode cX13_kindOf 13 = .ok (.iconst 1, 1) := by decide +kernel
theorem dX13_kindOf_14 : decode cX13_kindOf 14 = .ok (.goto 29, 3) := by decide +kernel
theorem dX13_kindOf_17 : decode cX13_kindOf 17 = .ok (.iload_n 1, 1) := by decide +kernel
theorem dX13_kindOf_18 : decode cX13_kindOf 18 = .ok (.invokestatic 165, 3) := by decide +kernel
theorem dX13_kindOf_21 : decode cX13_kindOf 21 = .ok (.aload_n 0, 1) := by decide +kernel
theorem dX13_kindOf_22 : decode cX13_kindOf 22 = .ok (.getfield 38, 3) := by decide +kernel
theorem dX13_kindOf_25 : decode cX13_kindOf 25 = .ok (.iconst 1, 1) := by decide +kernel
theorem dX13_kindOf_26 : decode cX13_kindOf 26 = .ok (.iaload, 1) := by decide +kernel
theorem dX13_kindOf_27 : decode cX13_kindOf 27 = .ok (.if_icmp .le 7, 3) := by decide +kernel
theorem dX13_kindOf_30 : decode cX13_kindOf 30 = .ok (.iconst 4, 1) := by decide +kernel
theorem dX13_kindOf_31 : decode cX13_kindOf 31 = .ok (.goto 12, 3) := by decide +kernel
theorem dX13_kindOf_34 : decode cX13_kindOf 34 = .ok (.iload_n 1, 1) := by decide +kernel
theorem dX13_kindOf_35 : decode cX13_kindOf 35 = .ok (.ifCond .le 7, 3) := by decide +kernel
theorem dX13_kindOf_38 : decode cX13_kindOf 38 = .ok (.iconst 2, 1) := by decide +kernel
theorem dX13_kindOf_39 : decode cX13_kindOf 39 = .ok (.goto 4, 3) := by decide +kernel
theorem dX13_kindOf_42 : decode cX13_kindOf 42 = .ok (.iconst 5, 1) := by decide +kernel
theorem dX13_kindOf_43 : decode cX13_kindOf 43 = .ok (.ireturn, 1) := by decide +kernel
theorem dX13_bareOf_0 : decode cX13_bareOf 0 = .ok (.aload_n 0, 1) := by decide +kernel
theorem dX13_bareOf_1 : decode cX13_bareOf 1 = .ok (.iload_n 1, 1) := by decide +kernel
theorem dX13_bareOf_2 : decode cX13_bareOf 2 = .ok (.invokevirtual 168, 3) := by decide +kernel
theorem dX13_bareOf_5 : decode cX13_bareOf 5 = .ok (.istore_n 2, 1) := by decide +kernel
theorem dX13_bareOf_6 : decode cX13_bareOf 6 = .ok (.iload_n 1, 1) := by decide +kernel
theorem dX13_bareOf_7 : decode cX13_bareOf 7 = .ok (.ineg, 1) := by decide +kernel
theorem dX13_bareOf_8 : decode cX13_bareOf 8 = .ok (.aload_n 0, 1) := by decide +kernel
theorem dX13_bareOf_9 : decode cX13_bareOf 9 = .ok (.getfield 38, 3) := by decide +kernel
theorem dX13_bareOf_12 : decode cX13_bareOf 12 = .ok (.iconst 2, 1) := by decide +kernel
theorem dX13_bareOf_13 : decode cX13_bareOf 13 = .ok (.iaload, 1) := by decide +kernel
theorem dX13_bareOf_14 : decode cX13_bareOf 14 = .ok (.imul, 1) := by decide +kernel
theorem dX13_bareOf_15 : decode cX13_bareOf 15 = .ok (.bipush 10, 2) := by decide +kernel
theorem dX13_bareOf_17 : decode cX13_bareOf 17 = .ok (.idiv, 1) := by decide +kernel
theorem dX13_bareOf_18 : decode cX13_bareOf 18 = .ok (.istore_n 3, 1) := by decide +kernel
theorem dX13_bareOf_19 : decode cX13_bareOf 19 = .ok (.iload_n 2, 1) := by decide +kernel
theorem dX13_bareOf_20 : decode cX13_bareOf 20 = .ok (.iconst 1, 1) := by decide +kernel
theorem dX13_bareOf_21 : decode cX13_bareOf 21 = .ok (.if_icmp .ne 7, 3) := by decide +kernel
theorem dX13_bareOf_24 : decode cX13_bareOf 24 = .ok (.iconst 0, 1) := by decide +kernel
theorem dX13_bareOf_25 : decode cX13_bareOf 25 = .ok (.goto 15, 3) := by decide +kernel
theorem dX13_bareOf_28 : decode cX13_bareOf 28 = .ok (.iload_n 2, 1) := by decide +kernel
theorem dX13_bareOf_29 : decode cX13_bareOf 29 = .ok (.iconst 4, 1) := by decide +kernel
theorem dX13_bareOf_30 : decode cX13_bareOf 30 = .ok (.if_icmp .ne 9, 3) := by decide +kernel
theorem dX13_bareOf_33 : decode cX13_bareOf 33 = .ok (.iconst 2, 1) := by decide +kernel
theorem dX13_bareOf_34 : decode cX13_bareOf 34 = .ok (.iload_n 3, 1) := by decide +kernel
theorem dX13_bareOf_35 : decode cX13_bareOf 35 = .ok (.imul, 1) := by decide +kernel
theorem dX13_bareOf_36 : decode cX13_bareOf 36 = .ok (.goto 4, 3) := by decide +kernel
theorem dX13_bareOf_39 : decode cX13_bareOf 39 = .ok (.iload_n 3, 1) := by decide +kernel
theorem dX13_bareOf_40 : decode cX13_bareOf 40 = .ok (.ireturn, 1) := by decide +kernel
theorem dX13_flies_0 : decode cX13_flies 0 = .ok (.aload_n 0, 1) := by decide +kernel
theorem dX13_flies_1 : decode cX13_flies 1 = .ok (.aload_n 0, 1) := by decide +kernel
theorem dX13_flies_2 : decode cX13_flies 2 = .ok (.getfield 41, 3) := by decide +kernel
theorem dX13_flies_5 : decode cX13_flies 5 = .ok (.iconst 2, 1) := by decide +kernel
theorem dX13_flies_6 : decode cX13_flies 6 = .ok (.aload_n 0, 1) := by decide +kernel
theorem dX13_flies_7 : decode cX13_flies 7 = .ok (.getfield 41, 3) := by decide +kernel
theorem dX13_flies_10 : decode cX13_flies 10 = .ok (.bipush 6, 2) := by decide +kernel
theorem dX13_flies_12 : decode cX13_flies 12 = .ok (.iaload, 1) := by decide +kernel
theorem dX13_flies_13 : decode cX13_flies 13 = .ok (.iadd, 1) := by decide +kernel
theorem dX13_flies_14 : decode cX13_flies 14 = .ok (.iaload, 1) := by decide +kernel
theorem dX13_flies_15 : decode cX13_flies 15 = .ok (.bipush 112, 2) := by decide +kernel
theorem dX13_flies_17 : decode cX13_flies 17 = .ok (.imul, 1) := by decide +kernel
theorem dX13_flies_18 : decode cX13_flies 18 = .ok (.aload_n 0, 1) := by decide +kernel
theorem dX13_flies_19 : decode cX13_flies 19 = .ok (.getfield 41, 3) := by decide +kernel
theorem dX13_flies_22 : decode cX13_flies 22 = .ok (.iconst 0, 1) := by decide +kernel
theorem dX13_flies_23 : decode cX13_flies 23 = .ok (.iaload, 1) := by decide +kernel
theorem dX13_flies_24 : decode cX13_flies 24 = .ok (.idiv, 1) := by decide +kernel
theorem dX13_flies_25 : decode cX13_flies 25 = .ok (.aload_n 0, 1) := by decide +kernel
theorem dX13_flies_26 : decode cX13_flies 26 = .ok (.getfield 41, 3) := by decide +kernel
theorem dX13_flies_29 : decode cX13_flies 29 = .ok (.iconst 4, 1) := by decide +kernel
theorem dX13_flies_30 : decode cX13_flies 30 = .ok (.iaload, 1) := by decide +kernel
theorem dX13_flies_31 : decode cX13_flies 31 = .ok (.bipush 10, 2) := by decide +kernel
theorem dX13_flies_33 : decode cX13_flies 33 = .ok (.idiv, 1) := by decide +kernel
theorem dX13_flies_34 : decode cX13_flies 34 = .ok (.isub, 1) := by decide +kernel
theorem dX13_flies_35 : decode cX13_flies 35 = .ok (.putfield 171, 3) := by decide +kernel
theorem dX13_flies_38 : decode cX13_flies 38 = .ok (.aload_n 0, 1) := by decide +kernel
theorem dX13_flies_39 : decode cX13_flies 39 = .ok (.aload_n 0, 1) := by decide +kernel
theorem dX13_flies_40 : decode cX13_flies 40 = .ok (.getfield 171, 3) := by decide +kernel
theorem dX13_flies_43 : decode cX13_flies 43 = .ok (.iload_n 1, 1) := by decide +kernel
theorem dX13_flies_44 : decode cX13_flies 44 = .ok (.isub, 1) := by decide +kernel
theorem dX13_flies_45 : decode cX13_flies 45 = .ok (.iconst 2, 1) := by decide +kernel
theorem dX13_flies_46 : decode cX13_flies 46 = .ok (.iload_n 2, 1) := by decide +kernel
theorem dX13_flies_47 : decode cX13_flies 47 = .ok (.imul, 1) := by decide +kernel
theorem dX13_flies_48 : decode cX13_flies 48 = .ok (.isub, 1) := by decide +kernel
theorem dX13_flies_49 : decode cX13_flies 49 = .ok (.putfield 174, 3) := by decide +kernel
theorem dX13_flies_52 : decode cX13_flies 52 = .ok (.aload_n 0, 1) := by decide +kernel
theorem dX13_flies_53 : decode cX13_flies 53 = .ok (.aload_n 0, 1) := by decide +kernel
theorem dX13_flies_54 : decode cX13_flies 54 = .ok (.aload_n 0, 1) := by decide +kernel
theorem dX13_flies_55 : decode cX13_flies 55 = .ok (.getfield 174, 3) := by decide +kernel
theorem dX13_flies_58 : decode cX13_flies 58 = .ok (.invokevirtual 168, 3) := by decide +kernel
theorem dX13_flies_61 : decode cX13_flies 61 = .ok (.putfield 162, 3) := by decide +kernel
theorem dX13_flies_64 : decode cX13_flies 64 = .ok (.aload_n 0, 1) := by decide +kernel
theorem dX13_flies_65 : decode cX13_flies 65 = .ok (.aload_n 0, 1) := by decide +kernel
theorem dX13_flies_66 : decode cX13_flies 66 = .ok (.aload_n 0, 1) := by decide +kernel
theorem dX13_flies_67 : decode cX13_flies 67 = .ok (.getfield 174, 3) := by decide +kernel
theorem dX13_flies_70 : decode cX13_flies 70 = .ok (.invokevirtual 177, 3) := by decide +kernel
theorem dX13_flies_73 : decode cX13_flies 73 = .ok (.putfield 180, 3) := by decide +kernel
theorem dX13_flies_76 : decode cX13_flies 76 = .ok (.aload_n 0, 1) := by decide +kernel
theorem dX13_flies_77 : decode cX13_flies 77 = .ok (.aload_n 0, 1) := by decide +kernel
theorem dX13_flies_78 : decode cX13_flies 78 = .ok (.getfield 180, 3) := by decide +kernel
theorem dX13_flies_81 : decode cX13_flies 81 = .ok (.bipush 10, 2) := by decide +kernel
theorem dX13_flies_83 : decode cX13_flies 83 = .ok (.aload_n 0, 1) := by decide +kernel
theorem dX13_flies_84 : decode cX13_flies 84 = .ok (.getfield 41, 3) := by decide +kernel
theorem dX13_flies_87 : decode cX13_flies 87 = .ok (.iconst 5, 1) := by decide +kernel
theorem dX13_flies_88 : decode cX13_flies 88 = .ok (.iaload, 1) := by decide +kernel
theorem dX13_flies_89 : decode cX13_flies 89 = .ok (.isub, 1) := by decide +kernel
theorem dX13_flies_90 : decode cX13_flies 90 = .ok (.imul, 1) := by decide +kernel
theorem dX13_flies_91 : decode cX13_flies 91 = .ok (.bipush 10, 2) := by decide +kernel
theorem dX13_flies_93 : decode cX13_flies 93 = .ok (.idiv, 1) := by decide +kernel
theorem dX13_flies_94 : decode cX13_flies 94 = .ok (.aload_n 0, 1) := by decide +kernel
theorem dX13_flies_95 : decode cX13_flies 95 = .ok (.getfield 38, 3) := by decide +kernel
theorem dX13_flies_98 : decode cX13_flies 98 = .ok (.iconst 3, 1) := by decide +kernel
theorem dX13_flies_99 : decode cX13_flies 99 = .ok (.iaload, 1) := by decide +kernel
theorem dX13_flies_100 : decode cX13_flies 100 = .ok (.sipush 600, 3) := by decide +kernel
theorem dX13_flies_103 : decode cX13_flies 103 = .ok (.imul, 1) := by decide +kernel
theorem dX13_flies_104 : decode cX13_flies 104 = .ok (.aload_n 0, 1) := by decide +kernel
theorem dX13_flies_105 : decode cX13_flies 105 = .ok (.getfield 41, 3) := by decide +kernel
theorem dX13_flies_108 : decode cX13_flies 108 = .ok (.iconst 1, 1) := by decide +kernel
theorem dX13_flies_109 : decode cX13_flies 109 = .ok (.iaload, 1) := by decide +kernel
theorem dX13_flies_110 : decode cX13_flies 110 = .ok (.aload_n 0, 1) := by decide +kernel
theorem dX13_flies_111 : decode cX13_flies 111 = .ok (.getfield 41, 3) := by decide +kernel
theorem dX13_flies_114 : decode cX13_flies 114 = .ok (.iconst 4, 1) := by decide +kernel
theorem dX13_flies_115 : decode cX13_flies 115 = .ok (.iaload, 1) := by decide +kernel
theorem dX13_flies_116 : decode cX13_flies 116 = .ok (.iadd, 1) := by decide +kernel
theorem dX13_flies_117 : decode cX13_flies 117 = .ok (.idiv, 1) := by decide +kernel
theorem dX13_flies_118 : decode cX13_flies 118 = .ok (.iadd, 1) := by decide +kernel
theorem dX13_flies_119 : decode cX13_flies 119 = .ok (.putfield 183, 3) := by decide +kernel
theorem dX13_flies_122 : decode cX13_flies 122 = .ok (.aload_n 0, 1) := by decide +kernel
theorem dX13_flies_123 : decode cX13_flies 123 = .ok (.bipush 10, 2) := by decide +kernel
theorem dX13_flies_125 : decode cX13_flies 125 = .ok (.aload_n 0, 1) := by decide +kernel
theorem dX13_flies_126 : decode cX13_flies 126 = .ok (.getfield 41, 3) := by decide +kernel
theorem dX13_flies_129 : decode cX13_flies 129 = .ok (.iconst 1, 1) := by decide +kernel
theorem dX13_flies_130 : decode cX13_flies 130 = .ok (.iaload, 1) := by decide +kernel
theorem dX13_flies_131 : decode cX13_flies 131 = .ok (.aload_n 0, 1) := by decide +kernel
theorem dX13_flies_132 : decode cX13_flies 132 = .ok (.getfield 41, 3) := by decide +kernel
theorem dX13_flies_135 : decode cX13_flies 135 = .ok (.iconst 4, 1) := by decide +kernel
theorem dX13_flies_136 : decode cX13_flies 136 = .ok (.iaload, 1) := by decide +kernel
theorem dX13_flies_137 : decode cX13_flies 137 = .ok (.iadd, 1) := by decide +kernel
theorem dX13_flies_138 : decode cX13_flies 138 = .ok (.imul, 1) := by decide +kernel
theorem dX13_flies_139 : decode cX13_flies 139 = .ok (.iload_n 1, 1) := by decide +kernel
theorem dX13_flies_140 : decode cX13_flies 140 = .ok (.idiv, 1) := by decide +kernel
theorem dX13_flies_141 : decode cX13_flies 141 = .ok (.aload_n 0, 1) := by decide +kernel
theorem dX13_flies_142 : decode cX13_flies 142 = .ok (.getfield 41, 3) := by decide +kernel
theorem dX13_flies_145 : decode cX13_flies 145 = .ok (.iconst 5, 1) := by decide +kernel
theorem dX13_flies_146 : decode cX13_flies 146 = .ok (.iaload, 1) := by decide +kernel
theorem dX13_flies_147 : decode cX13_flies 147 = .ok (.iadd, 1) := by decide +kernel
theorem dX13_flies_148 : decode cX13_flies 148 = .ok (.putfield 186, 3) := by decide +kernel
theorem dX13_flies_151 : decode cX13_flies 151 = .ok (.return_, 1) := by decide +kernel
theorem dX13_fliesWith_0 : decode cX13_fliesWith 0 = .ok (.aload_n 0, 1) := by decide +kernel
theorem dX13_fliesWith_1 : decode cX13_fliesWith 1 = .ok (.iload_n 1, 1) := by decide +kernel
theorem dX13_fliesWith_2 : decode cX13_fliesWith 2 = .ok (.invokevirtual 148, 3) := by decide +kernel
theorem dX13_fliesWith_5 : decode cX13_fliesWith 5 = .ok (.aload_n 0, 1) := by decide +kernel
theorem dX13_fliesWith_6 : decode cX13_fliesWith 6 = .ok (.aload_n 0, 1) := by decide +kernel
theorem dX13_fliesWith_7 : decode cX13_fliesWith 7 = .ok (.getfield 23, 3) := by decide +kernel
theorem dX13_fliesWith_10 : decode cX13_fliesWith 10 = .ok (.iconst 2, 1) := by decide +kernel
theorem dX13_fliesWith_11 : decode cX13_fliesWith 11 = .ok (.iload_n 2, 1) := by decide +kernel
theorem dX13_fliesWith_12 : decode cX13_fliesWith 12 = .ok (.imul, 1) := by decide +kernel
theorem dX13_fliesWith_13 : decode cX13_fliesWith 13 = .ok (.iaload, 1) := by decide +kernel
theorem dX13_fliesWith_14 : decode cX13_fliesWith 14 = .ok (.aload_n 0, 1) := by decide +kernel
theorem dX13_fliesWith_15 : decode cX13_fliesWith 15 = .ok (.getfield 23, 3) := by decide +kernel
theorem dX13_fliesWith_18 : decode cX13_fliesWith 18 = .ok (.iconst 2, 1) := by decide +kernel
theorem dX13_fliesWith_19 : decode cX13_fliesWith 19 = .ok (.iload_n 2, 1) := by decide +kernel
theorem dX13_fliesWith_20 : decode cX13_fliesWith 20 = .ok (.imul, 1) := by decide +kernel
theorem dX13_fliesWith_21 : decode cX13_fliesWith 21 = .ok (.iconst 1, 1) := by decide +kernel
theorem dX13_fliesWith_22 : decode cX13_fliesWith 22 = .ok (.iadd, 1) := by decide +kernel
theorem dX13_fliesWith_23 : decode cX13_fliesWith 23 = .ok (.iaload, 1) := by decide +kernel
theorem dX13_fliesWith_24 : decode cX13_fliesWith 24 = .ok (.invokevirtual 158, 3) := by decide +kernel
theorem dX13_fliesWith_27 : decode cX13_fliesWith 27 = .ok (.return_, 1) := by decide +kernel
theorem dX13_flight_0 : decode cX13_flight 0 = .ok (.aload_n 0, 1) := by decide +kernel
theorem dX13_flight_1 : decode cX13_flight 1 = .ok (.iconst 0, 1) := by decide +kernel
theorem dX13_flight_2 : decode cX13_flight 2 = .ok (.putfield 53, 3) := by decide +kernel
theorem dX13_flight_5 : decode cX13_flight 5 = .ok (.aload_n 0, 1) := by decide +kernel
theorem dX13_flight_6 : decode cX13_flight 6 = .ok (.iload_n 1, 1) := by decide +kernel
theorem dX13_flight_7 : decode cX13_flight 7 = .ok (.invokevirtual 136, 3) := by decide +kernel
theorem dX13_flight_10 : decode cX13_flight 10 = .ok (.ifCond .eq 20, 3) := by decide +kernel
theorem dX13_flight_13 : decode cX13_flight 13 = .ok (.aload_n 0, 1) := by decide +kernel
theorem dX13_flight_14 : decode cX13_flight 14 = .ok (.iload_n 2, 1) := by decide +kernel
theorem dX13_flight_15 : decode cX13_flight 15 = .ok (.invokevirtual 140, 3) := by decide +kernel
theorem dX13_flight_18 : decode cX13_flight 18 = .ok (.ifCond .eq 12, 3) := by decide +kernel
theorem dX13_flight_21 : decode cX13_flight 21 = .ok (.iload_n 3, 1) := by decide +kernel
theorem dX13_flight_22 : decode cX13_flight 22 = .ok (.iconst 0, 1) := by decide +kernel
theorem dX13_flight_23 : decode cX13_flight 23 = .ok (.iconst 5, 1) := by decide +kernel
theorem dX13_flight_24 : decode cX13_flight 24 = .ok (.invokestatic 57, 3) := by decide +kernel
theorem dX13_flight_27 : decode cX13_flight 27 = .ok (.ifCond .ne 6, 3) := by decide +kernel
theorem dX13_flight_30 : decode cX13_flight 30 = .ok (.ldc 143, 2) := by decide +kernel
theorem dX13_flight_32 : decode cX13_flight 32 = .ok (.ireturn, 1) := by decide +kernel
theorem dX13_flight_33 : decode cX13_flight 33 = .ok (.aload_n 0, 1) := by decide +kernel
theorem dX13_flight_34 : decode cX13_flight 34 = .ok (.iload_n 1, 1) := by decide +kernel
theorem dX13_flight_35 : decode cX13_flight 35 = .ok (.iload_n 2, 1) := by decide +kernel
theorem dX13_flight_36 : decode cX13_flight 36 = .ok (.invokevirtual 189, 3) := by decide +kernel
theorem dX13_flight_39 : decode cX13_flight 39 = .ok (.iload_n 3, 1) := by decide +kernel
theorem dX13_flight_40 : decode cX13_flight 40 = .ok (.ifCond .ne 10, 3) := by decide +kernel
theorem dX13_flight_43 : decode cX13_flight 43 = .ok (.aload_n 0, 1) := by decide +kernel
theorem dX13_flight_44 : decode cX13_flight 44 = .ok (.getfield 171, 3) := by decide +kernel
theorem dX13_flight_47 : decode cX13_flight 47 = .ok (.goto 55, 3) := by decide +kernel
theorem dX13_flight_50 : decode cX13_flight 50 = .ok (.iload_n 3, 1) := by decide +kernel
theorem dX13_flight_51 : decode cX13_flight 51 = .ok (.iconst 1, 1) := by decide +kernel
theorem dX13_flight_52 : decode cX13_flight 52 = .ok (.if_icmp .ne 10, 3) := by decide +kernel
theorem dX13_flight_55 : decode cX13_flight 55 = .ok (.aload_n 0, 1) := by decide +kernel
theorem dX13_flight_56 : decode cX13_flight 56 = .ok (.getfield 174, 3) := by decide +kernel
theorem dX13_flight_59 : decode cX13_flight 59 = .ok (.goto 43, 3) := by decide +kernel
theorem dX13_flight_62 : decode cX13_flight 62 = .ok (.iload_n 3, 1) := by decide +kernel
theorem dX13_flight_63 : decode cX13_flight 63 = .ok (.iconst 2, 1) := by decide +kernel
theorem dX13_flight_64 : decode cX13_flight 64 = .ok (.if_icmp .ne 10, 3) := by decide +kernel
theorem dX13_flight_67 : decode cX13_flight 67 = .ok (.aload_n 0, 1) := by decide +kernel
theorem dX13_flight_68 : decode cX13_flight 68 = .ok (.getfield 180, 3) := by decide +kernel
theorem dX13_flight_71 : decode cX13_flight 71 = .ok (.goto 31, 3) := by decide +kernel
theorem dX13_flight_74 : decode cX13_flight 74 = .ok (.iload_n 3, 1) := by decide +kernel
theorem dX13_flight_75 : decode cX13_flight 75 = .ok (.iconst 3, 1) := by decide +kernel
theorem dX13_flight_76 : decode cX13_flight 76 = .ok (.if_icmp .ne 10, 3) := by decide +kernel
theorem dX13_flight_79 : decode cX13_flight 79 = .ok (.aload_n 0, 1) := by decide +kernel
theorem dX13_flight_80 : decode cX13_flight 80 = .ok (.getfield 183, 3) := by decide +kernel
theorem dX13_flight_83 : decode cX13_flight 83 = .ok (.goto 19, 3) := by decide +kernel
theorem dX13_flight_86 : decode cX13_flight 86 = .ok (.iload_n 3, 1) := by decide +kernel
theorem dX13_flight_87 : decode cX13_flight 87 = .ok (.iconst 4, 1) := by decide +kernel
theorem dX13_flight_88 : decode cX13_flight 88 = .ok (.if_icmp .ne 10, 3) := by decide +kernel
theorem dX13_flight_91 : decode cX13_flight 91 = .ok (.aload_n 0, 1) := by decide +kernel
theorem dX13_flight_92 : decode cX13_flight 92 = .ok (.getfield 186, 3) := by decide +kernel
theorem dX13_flight_95 : decode cX13_flight 95 = .ok (.goto 7, 3) := by decide +kernel
theorem dX13_flight_98 : decode cX13_flight 98 = .ok (.aload_n 0, 1) := by decide +kernel
theorem dX13_flight_99 : decode cX13_flight 99 = .ok (.getfield 162, 3) := by decide +kernel
theorem dX13_flight_102 : decode cX13_flight 102 = .ok (.ireturn, 1) := by decide +kernel
theorem dX13_band_0 : decode cX13_band 0 = .ok (.aload_n 0, 1) := by decide +kernel
theorem dX13_band_1 : decode cX13_band 1 = .ok (.iconst 0, 1) := by decide +kernel
theorem dX13_band_2 : decode cX13_band 2 = .ok (.putfield 53, 3) := by decide +kernel
theorem dX13_band_5 : decode cX13_band 5 = .ok (.aload_n 0, 1) := by decide +kernel
theorem dX13_band_6 : decode cX13_band 6 = .ok (.iload_n 1, 1) := by decide +kernel
theorem dX13_band_7 : decode cX13_band 7 = .ok (.invokevirtual 140, 3) := by decide +kernel
theorem dX13_band_10 : decode cX13_band 10 = .ok (.ifCond .eq 36, 3) := by decide +kernel
theorem dX13_band_13 : decode cX13_band 13 = .ok (.iload_n 2, 1) := by decide +kernel
theorem dX13_band_14 : decode cX13_band 14 = .ok (.bipush 80, 2) := by decide +kernel
theorem dX13_band_16 : decode cX13_band 16 = .ok (.sipush 130, 3) := by decide +kernel
theorem dX13_band_19 : decode cX13_band 19 = .ok (.invokestatic 57, 3) := by decide +kernel
theorem dX13_band_22 : decode cX13_band 22 = .ok (.ifCond .eq 24, 3) := by decide +kernel
theorem dX13_band_25 : decode cX13_band 25 = .ok (.iload_n 3, 1) := by decide +kernel
theorem dX13_band_26 : decode cX13_band 26 = .ok (.iconst 0, 1) := by decide +kernel
theorem dX13_band_27 : decode cX13_band 27 = .ok (.sipush 200, 3) := by decide +kernel
theorem dX13_band_30 : decode cX13_band 30 = .ok (.invokestatic 57, 3) := by decide +kernel
theorem dX13_band_33 : decode cX13_band 33 = .ok (.ifCond .eq 13, 3) := by decide +kernel
theorem dX13_band_36 : decode cX13_band 36 = .ok (.iload 4, 2) := by decide +kernel
theorem dX13_band_38 : decode cX13_band 38 = .ok (.iconst 0, 1) := by decide +kernel
theorem dX13_band_39 : decode cX13_band 39 = .ok (.iconst 1, 1) := by decide +kernel
theorem dX13_band_40 : decode cX13_band 40 = .ok (.invokestatic 57, 3) := by decide +kernel
theorem dX13_band_43 : decode cX13_band 43 = .ok (.ifCond .ne 5, 3) := by decide +kernel
theorem dX13_band_46 : decode cX13_band 46 = .ok (.iconst (-1), 1) := by decide +kernel
theorem dX13_band_47 : decode cX13_band 47 = .ok (.ireturn, 1) := by decide +kernel
theorem dX13_band_48 : decode cX13_band 48 = .ok (.bipush (-9), 2) := by decide +kernel
theorem dX13_band_50 : decode cX13_band 50 = .ok (.istore 5, 2) := by decide +kernel
theorem dX13_band_52 : decode cX13_band 52 = .ok (.bipush (-9), 2) := by decide +kernel
theorem dX13_band_54 : decode cX13_band 54 = .ok (.istore 6, 2) := by decide +kernel
theorem dX13_band_56 : decode cX13_band 56 = .ok (.bipush 20, 2) := by decide +kernel
theorem dX13_band_58 : decode cX13_band 58 = .ok (.istore 7, 2) := by decide +kernel
theorem dX13_band_60 : decode cX13_band 60 = .ok (.iload 7, 2) := by decide +kernel
theorem dX13_band_62 : decode cX13_band 62 = .ok (.bipush 100, 2) := by decide +kernel
theorem dX13_band_64 : decode cX13_band 64 = .ok (.if_icmp .ge 75, 3) := by decide +kernel
theorem dX13_band_67 : decode cX13_band 67 = .ok (.iload 7, 2) := by decide +kernel
theorem dX13_band_69 : decode cX13_band 69 = .ok (.bipush 112, 2) := by decide +kernel
theorem dX13_band_71 : decode cX13_band 71 = .ok (.imul, 1) := by decide +kernel
theorem dX13_band_72 : decode cX13_band 72 = .ok (.iload_n 2, 1) := by decide +kernel
theorem dX13_band_73 : decode cX13_band 73 = .ok (.idiv, 1) := by decide +kernel
theorem dX13_band_74 : decode cX13_band 74 = .ok (.iload_n 3, 1) := by decide +kernel
theorem dX13_band_75 : decode cX13_band 75 = .ok (.bipush 10, 2) := by decide +kernel
theorem dX13_band_77 : decode cX13_band 77 = .ok (.idiv, 1) := by decide +kernel
theorem dX13_band_78 : decode cX13_band 78 = .ok (.isub, 1) := by decide +kernel
theorem dX13_band_79 : decode cX13_band 79 = .ok (.aload_n 0, 1) := by decide +kernel
theorem dX13_band_80 : decode cX13_band 80 = .ok (.getfield 23, 3) := by decide +kernel
theorem dX13_band_83 : decode cX13_band 83 = .ok (.iconst 2, 1) := by decide +kernel
theorem dX13_band_84 : decode cX13_band 84 = .ok (.iload_n 1, 1) := by decide +kernel
theorem dX13_band_85 : decode cX13_band 85 = .ok (.imul, 1) := by decide +kernel
theorem dX13_band_86 : decode cX13_band 86 = .ok (.iaload, 1) := by decide +kernel
theorem dX13_band_87 : decode cX13_band 87 = .ok (.isub, 1) := by decide +kernel
theorem dX13_band_88 : decode cX13_band 88 = .ok (.iconst 2, 1) := by decide +kernel
theorem dX13_band_89 : decode cX13_band 89 = .ok (.aload_n 0, 1) := by decide +kernel
theorem dX13_band_90 : decode cX13_band 90 = .ok (.getfield 23, 3) := by decide +kernel
theorem dX13_band_93 : decode cX13_band 93 = .ok (.iconst 2, 1) := by decide +kernel
theorem dX13_band_94 : decode cX13_band 94 = .ok (.iload_n 1, 1) := by decide +kernel
theorem dX13_band_95 : decode cX13_band 95 = .ok (.imul, 1) := by decide +kernel
theorem dX13_band_96 : decode cX13_band 96 = .ok (.iconst 1, 1) := by decide +kernel
theorem dX13_band_97 : decode cX13_band 97 = .ok (.iadd, 1) := by decide +kernel
theorem dX13_band_98 : decode cX13_band 98 = .ok (.iaload, 1) := by decide +kernel
theorem dX13_band_99 : decode cX13_band 99 = .ok (.imul, 1) := by decide +kernel
theorem dX13_band_100 : decode cX13_band 100 = .ok (.isub, 1) := by decide +kernel
theorem dX13_band_101 : decode cX13_band 101 = .ok (.istore 8, 2) := by decide +kernel
theorem dX13_band_103 : decode cX13_band 103 = .ok (.aload_n 0, 1) := by decide +kernel
theorem dX13_band_104 : decode cX13_band 104 = .ok (.iload 8, 2) := by decide +kernel
theorem dX13_band_106 : decode cX13_band 106 = .ok (.invokevirtual 168, 3) := by decide +kernel
theorem dX13_band_109 : decode cX13_band 109 = .ok (.iconst 1, 1) := by decide +kernel
theorem dX13_band_110 : decode cX13_band 110 = .ok (.if_icmp .ne 23, 3) := by decide +kernel
theorem dX13_band_113 : decode cX13_band 113 = .ok (.iload 5, 2) := by decide +kernel
theorem dX13_band_115 : decode cX13_band 115 = .ok (.bipush (-9), 2) := by decide +kernel
theorem dX13_band_117 : decode cX13_band 117 = .ok (.if_icmp .ne 8, 3) := by decide +kernel
theorem dX13_band_120 : decode cX13_band 120 = .ok (.iload 7, 2) := by decide +kernel
theorem dX13_band_122 : decode cX13_band 122 = .ok (.goto 5, 3) := by decide +kernel
theorem dX13_band_125 : decode cX13_band 125 = .ok (.iload 5, 2) := by decide +kernel
theorem dX13_band_127 : decode cX13_band 127 = .ok (.istore 5, 2) := by decide +kernel
theorem dX13_band_129 : decode cX13_band 129 = .ok (.iload 7, 2) := by decide +kernel
theorem dX13_band_131 : decode cX13_band 131 = .ok (.istore 6, 2) := by decide +kernel
theorem dX13_band_133 : decode cX13_band 133 = .ok (.iinc 7 1, 3) := by decide +kernel
theorem dX13_band_136 : decode cX13_band 136 = .ok (.goto (-76), 3) := by decide +kernel
theorem dX13_band_139 : decode cX13_band 139 = .ok (.iload 4, 2) := by decide +kernel
theorem dX13_band_141 : decode cX13_band 141 = .ok (.ifCond .ne 8, 3) := by decide +kernel
theorem dX13_band_144 : decode cX13_band 144 = .ok (.iload 5, 2) := by decide +kernel
theorem dX13_band_146 : decode cX13_band 146 = .ok (.goto 5, 3) := by decide +kernel
theorem dX13_band_149 : decode cX13_band 149 = .ok (.iload 6, 2) := by decide +kernel
theorem dX13_band_151 : decode cX13_band 151 = .ok (.ireturn, 1) := by decide +kernel
theorem dX13_says_0 : decode cX13_says 0 = .ok (.aload_n 0, 1) := by decide +kernel
theorem dX13_says_1 : decode cX13_says 1 = .ok (.iconst 0, 1) := by decide +kernel
theorem dX13_says_2 : decode cX13_says 2 = .ok (.putfield 53, 3) := by decide +kernel
theorem dX13_says_5 : decode cX13_says 5 = .ok (.iload_n 1, 1) := by decide +kernel
theorem dX13_says_6 : decode cX13_says 6 = .ok (.sipush (-999), 3) := by decide +kernel
theorem dX13_says_9 : decode cX13_says 9 = .ok (.sipush 999, 3) := by decide +kernel
theorem dX13_says_12 : decode cX13_says 12 = .ok (.invokestatic 57, 3) := by decide +kernel
theorem dX13_says_15 : decode cX13_says 15 = .ok (.ifCond .eq 22, 3) := by decide +kernel
theorem dX13_says_18 : decode cX13_says 18 = .ok (.iload_n 2, 1) := by decide +kernel
theorem dX13_says_19 : decode cX13_says 19 = .ok (.iconst 0, 1) := by decide +kernel
theorem dX13_says_20 : decode cX13_says 20 = .ok (.bipush 9, 2) := by decide +kernel
theorem dX13_says_22 : decode cX13_says 22 = .ok (.invokestatic 57, 3) := by decide +kernel
theorem dX13_says_25 : decode cX13_says 25 = .ok (.ifCond .eq 12, 3) := by decide +kernel
theorem dX13_says_28 : decode cX13_says 28 = .ok (.iload_n 3, 1) := by decide +kernel
theorem dX13_says_29 : decode cX13_says 29 = .ok (.iconst 0, 1) := by decide +kernel
theorem dX13_says_30 : decode cX13_says 30 = .ok (.iconst 1, 1) := by decide +kernel
theorem dX13_says_31 : decode cX13_says 31 = .ok (.invokestatic 57, 3) := by decide +kernel
theorem dX13_says_34 : decode cX13_says 34 = .ok (.ifCond .ne 6, 3) := by decide +kernel
theorem dX13_says_37 : decode cX13_says 37 = .ok (.ldc 143, 2) := by decide +kernel
theorem dX13_says_39 : decode cX13_says 39 = .ok (.ireturn, 1) := by decide +kernel
theorem dX13_says_40 : decode cX13_says 40 = .ok (.ldc 143, 2) := by decide +kernel
theorem dX13_says_42 : decode cX13_says 42 = .ok (.istore 4, 2) := by decide +kernel
theorem dX13_says_44 : decode cX13_says 44 = .ok (.ldc 143, 2) := by decide +kernel
theorem dX13_says_46 : decode cX13_says 46 = .ok (.istore 5, 2) := by decide +kernel
theorem dX13_says_48 : decode cX13_says 48 = .ok (.bipush (-60), 2) := by decide +kernel
theorem dX13_says_50 : decode cX13_says 50 = .ok (.istore 6, 2) := by decide +kernel
theorem dX13_says_52 : decode cX13_says 52 = .ok (.iload 6, 2) := by decide +kernel
theorem dX13_says_54 : decode cX13_says 54 = .ok (.bipush 61, 2) := by decide +kernel
theorem dX13_says_56 : decode cX13_says 56 = .ok (.if_icmp .ge 54, 3) := by decide +kernel
theorem dX13_says_59 : decode cX13_says 59 = .ok (.aload_n 0, 1) := by decide +kernel
theorem dX13_says_60 : decode cX13_says 60 = .ok (.iload 6, 2) := by decide +kernel
theorem dX13_says_62 : decode cX13_says 62 = .ok (.invokevirtual 177, 3) := by decide +kernel
theorem dX13_says_65 : decode cX13_says 65 = .ok (.istore 7, 2) := by decide +kernel
theorem dX13_says_67 : decode cX13_says 67 = .ok (.iload 7, 2) := by decide +kernel
theorem dX13_says_69 : decode cX13_says 69 = .ok (.bipush 10, 2) := by decide +kernel
theorem dX13_says_71 : decode cX13_says 71 = .ok (.iload_n 2, 1) := by decide +kernel
theorem dX13_says_72 : decode cX13_says 72 = .ok (.isub, 1) := by decide +kernel
theorem dX13_says_73 : decode cX13_says 73 = .ok (.imul, 1) := by decide +kernel
theorem dX13_says_74 : decode cX13_says 74 = .ok (.bipush 10, 2) := by decide +kernel
theorem dX13_says_76 : decode cX13_says 76 = .ok (.idiv, 1) := by decide +kernel
theorem dX13_says_77 : decode cX13_says 77 = .ok (.iload 7, 2) := by decide +kernel
theorem dX13_says_79 : decode cX13_says 79 = .ok (.isub, 1) := by decide +kernel
theorem dX13_says_80 : decode cX13_says 80 = .ok (.iload_n 1, 1) := by decide +kernel
theorem dX13_says_81 : decode cX13_says 81 = .ok (.if_icmp .ne 23, 3) := by decide +kernel
theorem dX13_says_84 : decode cX13_says 84 = .ok (.iload 4, 2) := by decide +kernel
theorem dX13_says_86 : decode cX13_says 86 = .ok (.ldc 143, 2) := by decide +kernel
theorem dX13_says_88 : decode cX13_says 88 = .ok (.if_icmp .ne 8, 3) := by decide +kernel
theorem dX13_says_91 : decode cX13_says 91 = .ok (.iload 6, 2) := by decide +kernel
theorem dX13_says_93 : decode cX13_says 93 = .ok (.goto 5, 3) := by decide +kernel
theorem dX13_says_96 : decode cX13_says 96 = .ok (.iload 4, 2) := by decide +kernel
theorem dX13_says_98 : decode cX13_says 98 = .ok (.istore 4, 2) := by decide +kernel
theorem dX13_says_100 : decode cX13_says 100 = .ok (.iload 6, 2) := by decide +kernel
theorem dX13_says_102 : decode cX13_says 102 = .ok (.istore 5, 2) := by decide +kernel
theorem dX13_says_104 : decode cX13_says 104 = .ok (.iinc 6 1, 3) := by decide +kernel
theorem dX13_says_107 : decode cX13_says 107 = .ok (.goto (-55), 3) := by decide +kernel
theorem dX13_says_110 : decode cX13_says 110 = .ok (.iload_n 3, 1) := by decide +kernel
theorem dX13_says_111 : decode cX13_says 111 = .ok (.ifCond .ne 8, 3) := by decide +kernel
theorem dX13_says_114 : decode cX13_says 114 = .ok (.iload 4, 2) := by decide +kernel
theorem dX13_says_116 : decode cX13_says 116 = .ok (.goto 5, 3) := by decide +kernel
theorem dX13_says_119 : decode cX13_says 119 = .ok (.iload 5, 2) := by decide +kernel
theorem dX13_says_121 : decode cX13_says 121 = .ok (.ireturn, 1) := by decide +kernel
theorem dX13_areSame_0 : decode cX13_areSame 0 = .ok (.iload_n 0, 1) := by decide +kernel
theorem dX13_areSame_1 : decode cX13_areSame 1 = .ok (.iconst 0, 1) := by decide +kernel
theorem dX13_areSame_2 : decode cX13_areSame 2 = .ok (.sipush 999, 3) := by decide +kernel
theorem dX13_areSame_5 : decode cX13_areSame 5 = .ok (.invokestatic 57, 3) := by decide +kernel
theorem dX13_areSame_8 : decode cX13_areSame 8 = .ok (.ifCond .eq 18, 3) := by decide +kernel
theorem dX13_areSame_11 : decode cX13_areSame 11 = .ok (.iload_n 1, 1) := by decide +kernel
theorem dX13_areSame_12 : decode cX13_areSame 12 = .ok (.iconst 0, 1) := by decide +kernel
theorem dX13_areSame_13 : decode cX13_areSame 13 = .ok (.sipush 999, 3) := by decide +kernel
theorem dX13_areSame_16 : decode cX13_areSame 16 = .ok (.invokestatic 57, 3) := by decide +kernel
theorem dX13_areSame_19 : decode cX13_areSame 19 = .ok (.ifCond .eq 7, 3) := by decide +kernel
theorem dX13_areSame_22 : decode cX13_areSame 22 = .ok (.iconst 1, 1) := by decide +kernel
theorem dX13_areSame_23 : decode cX13_areSame 23 = .ok (.goto 4, 3) := by decide +kernel
theorem dX13_areSame_26 : decode cX13_areSame 26 = .ok (.iconst 0, 1) := by decide +kernel
theorem dX13_areSame_27 : decode cX13_areSame 27 = .ok (.ireturn, 1) := by decide +kernel
theorem dX13_fliesAll_0 : decode cX13_fliesAll 0 = .ok (.iconst 0, 1) := by decide +kernel
theorem dX13_fliesAll_1 : decode cX13_fliesAll 1 = .ok (.istore_n 2, 1) := by decide +kernel
theorem dX13_fliesAll_2 : decode cX13_fliesAll 2 = .ok (.iload_n 2, 1) := by decide +kernel
theorem dX13_fliesAll_3 : decode cX13_fliesAll 3 = .ok (.aload_n 0, 1) := by decide +kernel
theorem dX13_fliesAll_4 : decode cX13_fliesAll 4 = .ok (.getfield 127, 3) := by decide +kernel
theorem dX13_fliesAll_7 : decode cX13_fliesAll 7 = .ok (.if_icmp .ge 81, 3) := by decide +kernel
theorem dX13_fliesAll_10 : decode cX13_fliesAll 10 = .ok (.iconst 0, 1) := by decide +kernel
theorem dX13_fliesAll_11 : decode cX13_fliesAll 11 = .ok (.istore_n 3, 1) := by decide +kernel
theorem dX13_fliesAll_12 : decode cX13_fliesAll 12 = .ok (.iload_n 3, 1) := by decide +kernel
theorem dX13_fliesAll_13 : decode cX13_fliesAll 13 = .ok (.iconst 2, 1) := by decide +kernel
theorem dX13_fliesAll_14 : decode cX13_fliesAll 14 = .ok (.if_icmp .ge 68, 3) := by decide +kernel
theorem dX13_fliesAll_17 : decode cX13_fliesAll 17 = .ok (.aload_n 0, 1) := by decide +kernel
theorem dX13_fliesAll_18 : decode cX13_fliesAll 18 = .ok (.iload_n 2, 1) := by decide +kernel
theorem dX13_fliesAll_19 : decode cX13_fliesAll 19 = .ok (.invokevirtual 148, 3) := by decide +kernel
theorem dX13_fliesAll_22 : decode cX13_fliesAll 22 = .ok (.aload_n 0, 1) := by decide +kernel
theorem dX13_fliesAll_23 : decode cX13_fliesAll 23 = .ok (.getfield 41, 3) := by decide +kernel
theorem dX13_fliesAll_26 : decode cX13_fliesAll 26 = .ok (.bipush 6, 2) := by decide +kernel
theorem dX13_fliesAll_28 : decode cX13_fliesAll 28 = .ok (.iload_n 3, 1) := by decide +kernel
theorem dX13_fliesAll_29 : decode cX13_fliesAll 29 = .ok (.iastore, 1) := by decide +kernel
theorem dX13_fliesAll_30 : decode cX13_fliesAll 30 = .ok (.aload_n 0, 1) := by decide +kernel
theorem dX13_fliesAll_31 : decode cX13_fliesAll 31 = .ok (.aload_n 0, 1) := by decide +kernel
theorem dX13_fliesAll_32 : decode cX13_fliesAll 32 = .ok (.getfield 23, 3) := by decide +kernel
theorem dX13_fliesAll_35 : decode cX13_fliesAll 35 = .ok (.iconst 2, 1) := by decide +kernel
theorem dX13_fliesAll_36 : decode cX13_fliesAll 36 = .ok (.iload_n 1, 1) := by decide +kernel
theorem dX13_fliesAll_37 : decode cX13_fliesAll 37 = .ok (.imul, 1) := by decide +kernel
theorem dX13_fliesAll_38 : decode cX13_fliesAll 38 = .ok (.iaload, 1) := by decide +kernel
theorem dX13_fliesAll_39 : decode cX13_fliesAll 39 = .ok (.aload_n 0, 1) := by decide +kernel
theorem dX13_fliesAll_40 : decode cX13_fliesAll 40 = .ok (.getfield 23, 3) := by decide +kernel
theorem dX13_fliesAll_43 : decode cX13_fliesAll 43 = .ok (.iconst 2, 1) := by decide +kernel
theorem dX13_fliesAll_44 : decode cX13_fliesAll 44 = .ok (.iload_n 1, 1) := by decide +kernel
theorem dX13_fliesAll_45 : decode cX13_fliesAll 45 = .ok (.imul, 1) := by decide +kernel
theorem dX13_fliesAll_46 : decode cX13_fliesAll 46 = .ok (.iconst 1, 1) := by decide +kernel
theorem dX13_fliesAll_47 : decode cX13_fliesAll 47 = .ok (.iadd, 1) := by decide +kernel
theorem dX13_fliesAll_48 : decode cX13_fliesAll 48 = .ok (.iaload, 1) := by decide +kernel
theorem dX13_fliesAll_49 : decode cX13_fliesAll 49 = .ok (.invokevirtual 158, 3) := by decide +kernel
theorem dX13_fliesAll_52 : decode cX13_fliesAll 52 = .ok (.aload_n 0, 1) := by decide +kernel
theorem dX13_fliesAll_53 : decode cX13_fliesAll 53 = .ok (.getfield 44, 3) := by decide +kernel
theorem dX13_fliesAll_56 : decode cX13_fliesAll 56 = .ok (.iconst 2, 1) := by decide +kernel
theorem dX13_fliesAll_57 : decode cX13_fliesAll 57 = .ok (.iload_n 2, 1) := by decide +kernel
theorem dX13_fliesAll_58 : decode cX13_fliesAll 58 = .ok (.imul, 1) := by decide +kernel
theorem dX13_fliesAll_59 : decode cX13_fliesAll 59 = .ok (.iload_n 3, 1) := by decide +kernel
theorem dX13_fliesAll_60 : decode cX13_fliesAll 60 = .ok (.iadd, 1) := by decide +kernel
theorem dX13_fliesAll_61 : decode cX13_fliesAll 61 = .ok (.aload_n 0, 1) := by decide +kernel
theorem dX13_fliesAll_62 : decode cX13_fliesAll 62 = .ok (.getfield 183, 3) := by decide +kernel
theorem dX13_fliesAll_65 : decode cX13_fliesAll 65 = .ok (.iastore, 1) := by decide +kernel
theorem dX13_fliesAll_66 : decode cX13_fliesAll 66 = .ok (.aload_n 0, 1) := by decide +kernel
theorem dX13_fliesAll_67 : decode cX13_fliesAll 67 = .ok (.getfield 47, 3) := by decide +kernel
theorem dX13_fliesAll_70 : decode cX13_fliesAll 70 = .ok (.iload_n 2, 1) := by decide +kernel
theorem dX13_fliesAll_71 : decode cX13_fliesAll 71 = .ok (.aload_n 0, 1) := by decide +kernel
theorem dX13_fliesAll_72 : decode cX13_fliesAll 72 = .ok (.getfield 186, 3) := by decide +kernel
theorem dX13_fliesAll_75 : decode cX13_fliesAll 75 = .ok (.iastore, 1) := by decide +kernel
theorem dX13_fliesAll_76 : decode cX13_fliesAll 76 = .ok (.iinc 3 1, 3) := by decide +kernel
theorem dX13_fliesAll_79 : decode cX13_fliesAll 79 = .ok (.goto (-67), 3) := by decide +kernel
theorem dX13_fliesAll_82 : decode cX13_fliesAll 82 = .ok (.iinc 2 1, 3) := by decide +kernel
theorem dX13_fliesAll_85 : decode cX13_fliesAll 85 = .ok (.goto (-83), 3) := by decide +kernel
theorem dX13_fliesAll_88 : decode cX13_fliesAll 88 = .ok (.return_, 1) := by decide +kernel
theorem dX13_areAlike_0 : decode cX13_areAlike 0 = .ok (.iconst 0, 1) := by decide +kernel
theorem dX13_areAlike_1 : decode cX13_areAlike 1 = .ok (.istore 4, 2) := by decide +kernel
theorem dX13_areAlike_3 : decode cX13_areAlike 3 = .ok (.iload 4, 2) := by decide +kernel
theorem dX13_areAlike_5 : decode cX13_areAlike 5 = .ok (.aload_n 0, 1) := by decide +kernel
theorem dX13_areAlike_6 : decode cX13_areAlike 6 = .ok (.getfield 127, 3) := by decide +kernel
theorem dX13_areAlike_9 : decode cX13_areAlike 9 = .ok (.if_icmp .ge 127, 3) := by decide +kernel
theorem dX13_areAlike_12 : decode cX13_areAlike 12 = .ok (.iconst 0, 1) := by decide +kernel
theorem dX13_areAlike_13 : decode cX13_areAlike 13 = .ok (.istore 5, 2) := by decide +kernel
theorem dX13_areAlike_15 : decode cX13_areAlike 15 = .ok (.iload 5, 2) := by decide +kernel
theorem dX13_areAlike_17 : decode cX13_areAlike 17 = .ok (.iload 4, 2) := by decide +kernel
theorem dX13_areAlike_19 : decode cX13_areAlike 19 = .ok (.if_icmp .ge 111, 3) := by decide +kernel
theorem dX13_areAlike_22 : decode cX13_areAlike 22 = .ok (.iload_n 1, 1) := by decide +kernel
theorem dX13_areAlike_23 : decode cX13_areAlike 23 = .ok (.iload 4, 2) := by decide +kernel
theorem dX13_areAlike_25 : decode cX13_areAlike 25 = .ok (.ishr, 1) := by decide +kernel
theorem dX13_areAlike_26 : decode cX13_areAlike 26 = .ok (.iconst 1, 1) := by decide +kernel
theorem dX13_areAlike_27 : decode cX13_areAlike 27 = .ok (.iand, 1) := by decide +kernel
theorem dX13_areAlike_28 : decode cX13_areAlike 28 = .ok (.iconst 1, 1) := by decide +kernel
theorem dX13_areAlike_29 : decode cX13_areAlike 29 = .ok (.if_icmp .ne 95, 3) := by decide +kernel
theorem dX13_areAlike_32 : decode cX13_areAlike 32 = .ok (.iload_n 1, 1) := by decide +kernel
theorem dX13_areAlike_33 : decode cX13_areAlike 33 = .ok (.iload 5, 2) := by decide +kernel
theorem dX13_areAlike_35 : decode cX13_areAlike 35 = .ok (.ishr, 1) := by decide +kernel
theorem dX13_areAlike_36 : decode cX13_areAlike 36 = .ok (.iconst 1, 1) := by decide +kernel
theorem dX13_areAlike_37 : decode cX13_areAlike 37 = .ok (.iand, 1) := by decide +kernel
theorem dX13_areAlike_38 : decode cX13_areAlike 38 = .ok (.iconst 1, 1) := by decide +kernel
theorem dX13_areAlike_39 : decode cX13_areAlike 39 = .ok (.if_icmp .ne 85, 3) := by decide +kernel
theorem dX13_areAlike_42 : decode cX13_areAlike 42 = .ok (.aload_n 0, 1) := by decide +kernel
theorem dX13_areAlike_43 : decode cX13_areAlike 43 = .ok (.getfield 44, 3) := by decide +kernel
theorem dX13_areAlike_46 : decode cX13_areAlike 46 = .ok (.iconst 2, 1) := by decide +kernel
theorem dX13_areAlike_47 : decode cX13_areAlike 47 = .ok (.iload 4, 2) := by decide +kernel
theorem dX13_areAlike_49 : decode cX13_areAlike 49 = .ok (.imul, 1) := by decide +kernel
theorem dX13_areAlike_50 : decode cX13_areAlike 50 = .ok (.aload_n 0, 1) := by decide +kernel
theorem dX13_areAlike_51 : decode cX13_areAlike 51 = .ok (.getfield 13, 3) := by decide +kernel
theorem dX13_areAlike_54 : decode cX13_areAlike 54 = .ok (.bipush 7, 2) := by decide +kernel
theorem dX13_areAlike_56 : decode cX13_areAlike 56 = .ok (.iload 4, 2) := by decide +kernel
theorem dX13_areAlike_58 : decode cX13_areAlike 58 = .ok (.imul, 1) := by decide +kernel
theorem dX13_areAlike_59 : decode cX13_areAlike 59 = .ok (.bipush 6, 2) := by decide +kernel
theorem dX13_areAlike_61 : decode cX13_areAlike 61 = .ok (.iadd, 1) := by decide +kernel
theorem dX13_areAlike_62 : decode cX13_areAlike 62 = .ok (.iaload, 1) := by decide +kernel
theorem dX13_areAlike_63 : decode cX13_areAlike 63 = .ok (.iadd, 1) := by decide +kernel
theorem dX13_areAlike_64 : decode cX13_areAlike 64 = .ok (.iaload, 1) := by decide +kernel
theorem dX13_areAlike_65 : decode cX13_areAlike 65 = .ok (.aload_n 0, 1) := by decide +kernel
theorem dX13_areAlike_66 : decode cX13_areAlike 66 = .ok (.getfield 44, 3) := by decide +kernel
theorem dX13_areAlike_69 : decode cX13_areAlike 69 = .ok (.iconst 2, 1) := by decide +kernel
theorem dX13_areAlike_70 : decode cX13_areAlike 70 = .ok (.iload 5, 2) := by decide +kernel
theorem dX13_areAlike_72 : decode cX13_areAlike 72 = .ok (.imul, 1) := by decide +kernel
theorem dX13_areAlike_73 : decode cX13_areAlike 73 = .ok (.aload_n 0, 1) := by decide +kernel
theorem dX13_areAlike_74 : decode cX13_areAlike 74 = .ok (.getfield 13, 3) := by decide +kernel
theorem dX13_areAlike_77 : decode cX13_areAlike 77 = .ok (.bipush 7, 2) := by decide +kernel
theorem dX13_areAlike_79 : decode cX13_areAlike 79 = .ok (.iload 5, 2) := by decide +kernel
theorem dX13_areAlike_81 : decode cX13_areAlike 81 = .ok (.imul, 1) := by decide +kernel
theorem dX13_areAlike_82 : decode cX13_areAlike 82 = .ok (.bipush 6, 2) := by decide +kernel
theorem dX13_areAlike_84 : decode cX13_areAlike 84 = .ok (.iadd, 1) := by decide +kernel
theorem dX13_areAlike_85 : decode cX13_areAlike 85 = .ok (.iaload, 1) := by decide +kernel
theorem dX13_areAlike_86 : decode cX13_areAlike 86 = .ok (.iadd, 1) := by decide +kernel
theorem dX13_areAlike_87 : decode cX13_areAlike 87 = .ok (.iaload, 1) := by decide +kernel
theorem dX13_areAlike_88 : decode cX13_areAlike 88 = .ok (.isub, 1) := by decide +kernel
theorem dX13_areAlike_89 : decode cX13_areAlike 89 = .ok (.istore 6, 2) := by decide +kernel
theorem dX13_areAlike_91 : decode cX13_areAlike 91 = .ok (.iload 6, 2) := by decide +kernel
theorem dX13_areAlike_93 : decode cX13_areAlike 93 = .ok (.invokestatic 165, 3) := by decide +kernel
theorem dX13_areAlike_96 : decode cX13_areAlike 96 = .ok (.iload_n 2, 1) := by decide +kernel
theorem dX13_areAlike_97 : decode cX13_areAlike 97 = .ok (.if_icmp .gt 25, 3) := by decide +kernel
theorem dX13_areAlike_100 : decode cX13_areAlike 100 = .ok (.aload_n 0, 1) := by decide +kernel
theorem dX13_areAlike_101 : decode cX13_areAlike 101 = .ok (.getfield 47, 3) := by decide +kernel
theorem dX13_areAlike_104 : decode cX13_areAlike 104 = .ok (.iload 4, 2) := by decide +kernel
theorem dX13_areAlike_106 : decode cX13_areAlike 106 = .ok (.iaload, 1) := by decide +kernel
theorem dX13_areAlike_107 : decode cX13_areAlike 107 = .ok (.aload_n 0, 1) := by decide +kernel
theorem dX13_areAlike_108 : decode cX13_areAlike 108 = .ok (.getfield 47, 3) := by decide +kernel
theorem dX13_areAlike_111 : decode cX13_areAlike 111 = .ok (.iload 5, 2) := by decide +kernel
theorem dX13_areAlike_113 : decode cX13_areAlike 113 = .ok (.iaload, 1) := by decide +kernel
theorem dX13_areAlike_114 : decode cX13_areAlike 114 = .ok (.isub, 1) := by decide +kernel
theorem dX13_areAlike_115 : decode cX13_areAlike 115 = .ok (.invokestatic 165, 3) := by decide +kernel
theorem dX13_areAlike_118 : decode cX13_areAlike 118 = .ok (.iload_n 3, 1) := by decide +kernel
theorem dX13_areAlike_119 : decode cX13_areAlike 119 = .ok (.if_icmp .le 5, 3) := by decide +kernel
theorem dX13_areAlike_122 : decode cX13_areAlike 122 = .ok (.iconst 0, 1) := by decide +kernel
theorem dX13_areAlike_123 : decode cX13_areAlike 123 = .ok (.ireturn, 1) := by decide +kernel
theorem dX13_areAlike_124 : decode cX13_areAlike 124 = .ok (.iinc 5 1, 3) := by decide +kernel
theorem dX13_areAlike_127 : decode cX13_areAlike 127 = .ok (.goto (-112), 3) := by decide +kernel
theorem dX13_areAlike_130 : decode cX13_areAlike 130 = .ok (.iinc 4 1, 3) := by decide +kernel
theorem dX13_areAlike_133 : decode cX13_areAlike 133 = .ok (.goto (-130), 3) := by decide +kernel
theorem dX13_areAlike_136 : decode cX13_areAlike 136 = .ok (.iconst 1, 1) := by decide +kernel
theorem dX13_areAlike_137 : decode cX13_areAlike 137 = .ok (.ireturn, 1) := by decide +kernel
theorem dX13_manyOf_0 : decode cX13_manyOf 0 = .ok (.iconst 0, 1) := by decide +kernel
theorem dX13_manyOf_1 : decode cX13_manyOf 1 = .ok (.istore_n 2, 1) := by decide +kernel
theorem dX13_manyOf_2 : decode cX13_manyOf 2 = .ok (.iconst 0, 1) := by decide +kernel
theorem dX13_manyOf_3 : decode cX13_manyOf 3 = .ok (.istore_n 3, 1) := by decide +kernel
theorem dX13_manyOf_4 : decode cX13_manyOf 4 = .ok (.iload_n 3, 1) := by decide +kernel
theorem dX13_manyOf_5 : decode cX13_manyOf 5 = .ok (.aload_n 0, 1) := by decide +kernel
theorem dX13_manyOf_6 : decode cX13_manyOf 6 = .ok (.getfield 127, 3) := by decide +kernel
theorem dX13_manyOf_9 : decode cX13_manyOf 9 = .ok (.if_icmp .ge 17, 3) := by decide +kernel
theorem dX13_manyOf_12 : decode cX13_manyOf 12 = .ok (.iload_n 2, 1) := by decide +kernel
theorem dX13_manyOf_13 : decode cX13_manyOf 13 = .ok (.iload_n 1, 1) := by decide +kernel
theorem dX13_manyOf_14 : decode cX13_manyOf 14 = .ok (.iload_n 3, 1) := by decide +kernel
theorem dX13_manyOf_15 : decode cX13_manyOf 15 = .ok (.ishr, 1) := by decide +kernel
theorem dX13_manyOf_16 : decode cX13_manyOf 16 = .ok (.iconst 1, 1) := by decide +kernel
theorem dX13_manyOf_17 : decode cX13_manyOf 17 = .ok (.iand, 1) := by decide +kernel
theorem dX13_manyOf_18 : decode cX13_manyOf 18 = .ok (.iadd, 1) := by decide +kernel
theorem dX13_manyOf_19 : decode cX13_manyOf 19 = .ok (.istore_n 2, 1) := by decide +kernel
theorem dX13_manyOf_20 : decode cX13_manyOf 20 = .ok (.iinc 3 1, 3) := by decide +kernel
theorem dX13_manyOf_23 : decode cX13_manyOf 23 = .ok (.goto (-19), 3) := by decide +kernel
theorem dX13_manyOf_26 : decode cX13_manyOf 26 = .ok (.iload_n 2, 1) := by decide +kernel
theorem dX13_manyOf_27 : decode cX13_manyOf 27 = .ok (.ireturn, 1) := by decide +kernel
theorem dX13_alike_0 : decode cX13_alike 0 = .ok (.aload_n 0, 1) := by decide +kernel
theorem dX13_alike_1 : decode cX13_alike 1 = .ok (.iconst 0, 1) := by decide +kernel
theorem dX13_alike_2 : decode cX13_alike 2 = .ok (.putfield 53, 3) := by decide +kernel
theorem dX13_alike_5 : decode cX13_alike 5 = .ok (.aload_n 0, 1) := by decide +kernel
theorem dX13_alike_6 : decode cX13_alike 6 = .ok (.iload_n 1, 1) := by decide +kernel
theorem dX13_alike_7 : decode cX13_alike 7 = .ok (.invokevirtual 140, 3) := by decide +kernel
theorem dX13_alike_10 : decode cX13_alike 10 = .ok (.ifCond .eq 21, 3) := by decide +kernel
theorem dX13_alike_13 : decode cX13_alike 13 = .ok (.iload_n 2, 1) := by decide +kernel
theorem dX13_alike_14 : decode cX13_alike 14 = .ok (.iload_n 3, 1) := by decide +kernel
theorem dX13_alike_15 : decode cX13_alike 15 = .ok (.invokestatic 192, 3) := by decide +kernel
theorem dX13_alike_18 : decode cX13_alike 18 = .ok (.ifCond .eq 13, 3) := by decide +kernel
theorem dX13_alike_21 : decode cX13_alike 21 = .ok (.iload 4, 2) := by decide +kernel
theorem dX13_alike_23 : decode cX13_alike 23 = .ok (.iconst 0, 1) := by decide +kernel
theorem dX13_alike_24 : decode cX13_alike 24 = .ok (.iconst 1, 1) := by decide +kernel
theorem dX13_alike_25 : decode cX13_alike 25 = .ok (.invokestatic 57, 3) := by decide +kernel
theorem dX13_alike_28 : decode cX13_alike 28 = .ok (.ifCond .ne 5, 3) := by decide +kernel
theorem dX13_alike_31 : decode cX13_alike 31 = .ok (.iconst (-1), 1) := by decide +kernel
theorem dX13_alike_32 : decode cX13_alike 32 = .ok (.ireturn, 1) := by decide +kernel
theorem dX13_alike_33 : decode cX13_alike 33 = .ok (.aload_n 0, 1) := by decide +kernel
theorem dX13_alike_34 : decode cX13_alike 34 = .ok (.iload_n 1, 1) := by decide +kernel
theorem dX13_alike_35 : decode cX13_alike 35 = .ok (.invokevirtual 196, 3) := by decide +kernel
theorem dX13_alike_38 : decode cX13_alike 38 = .ok (.iconst 0, 1) := by decide +kernel
theorem dX13_alike_39 : decode cX13_alike 39 = .ok (.istore 5, 2) := by decide +kernel
theorem dX13_alike_41 : decode cX13_alike 41 = .ok (.iconst 0, 1) := by decide +kernel
theorem dX13_alike_42 : decode cX13_alike 42 = .ok (.istore 6, 2) := by decide +kernel
theorem dX13_alike_44 : decode cX13_alike 44 = .ok (.iload 6, 2) := by decide +kernel
theorem dX13_alike_46 : decode cX13_alike 46 = .ok (.iconst 1, 1) := by decide +kernel
theorem dX13_alike_47 : decode cX13_alike 47 = .ok (.aload_n 0, 1) := by decide +kernel
theorem dX13_alike_48 : decode cX13_alike 48 = .ok (.getfield 127, 3) := by decide +kernel
theorem dX13_alike_51 : decode cX13_alike 51 = .ok (.ishl, 1) := by decide +kernel
theorem dX13_alike_52 : decode cX13_alike 52 = .ok (.if_icmp .ge 44, 3) := by decide +kernel
theorem dX13_alike_55 : decode cX13_alike 55 = .ok (.aload_n 0, 1) := by decide +kernel
theorem dX13_alike_56 : decode cX13_alike 56 = .ok (.iload 6, 2) := by decide +kernel
theorem dX13_alike_58 : decode cX13_alike 58 = .ok (.invokevirtual 199, 3) := by decide +kernel
theorem dX13_alike_61 : decode cX13_alike 61 = .ok (.aload_n 0, 1) := by decide +kernel
theorem dX13_alike_62 : decode cX13_alike 62 = .ok (.iload 5, 2) := by decide +kernel
theorem dX13_alike_64 : decode cX13_alike 64 = .ok (.invokevirtual 199, 3) := by decide +kernel
theorem dX13_alike_67 : decode cX13_alike 67 = .ok (.if_icmp .le 19, 3) := by decide +kernel
theorem dX13_alike_70 : decode cX13_alike 70 = .ok (.aload_n 0, 1) := by decide +kernel
theorem dX13_alike_71 : decode cX13_alike 71 = .ok (.iload 6, 2) := by decide +kernel
theorem dX13_alike_73 : decode cX13_alike 73 = .ok (.iload_n 2, 1) := by decide +kernel
theorem dX13_alike_74 : decode cX13_alike 74 = .ok (.iload_n 3, 1) := by decide +kernel
theorem dX13_alike_75 : decode cX13_alike 75 = .ok (.invokevirtual 202, 3) := by decide +kernel
theorem dX13_alike_78 : decode cX13_alike 78 = .ok (.ifCond .eq 8, 3) := by decide +kernel
theorem dX13_alike_81 : decode cX13_alike 81 = .ok (.iload 6, 2) := by decide +kernel
theorem dX13_alike_83 : decode cX13_alike 83 = .ok (.goto 5, 3) := by decide +kernel
theorem dX13_alike_86 : decode cX13_alike 86 = .ok (.iload 5, 2) := by decide +kernel
theorem dX13_alike_88 : decode cX13_alike 88 = .ok (.istore 5, 2) := by decide +kernel
theorem dX13_alike_90 : decode cX13_alike 90 = .ok (.iinc 6 1, 3) := by decide +kernel
theorem dX13_alike_93 : decode cX13_alike 93 = .ok (.goto (-49), 3) := by decide +kernel
theorem dX13_alike_96 : decode cX13_alike 96 = .ok (.iload 4, 2) := by decide +kernel
theorem dX13_alike_98 : decode cX13_alike 98 = .ok (.ifCond .ne 8, 3) := by decide +kernel
theorem dX13_alike_101 : decode cX13_alike 101 = .ok (.iload 5, 2) := by decide +kernel
theorem dX13_alike_103 : decode cX13_alike 103 = .ok (.goto 9, 3) := by decide +kernel
theorem dX13_alike_106 : decode cX13_alike 106 = .ok (.aload_n 0, 1) := by decide +kernel
theorem dX13_alike_107 : decode cX13_alike 107 = .ok (.iload 5, 2) := by decide +kernel
theorem dX13_alike_109 : decode cX13_alike 109 = .ok (.invokevirtual 199, 3) := by decide +kernel
theorem dX13_alike_112 : decode cX13_alike 112 = .ok (.ireturn, 1) := by decide +kernel
theorem dX13_turned_0 : decode cX13_turned 0 = .ok (.aload_n 0, 1) := by decide +kernel
theorem dX13_turned_1 : decode cX13_turned 1 = .ok (.iconst 0, 1) := by decide +kernel
theorem dX13_turned_2 : decode cX13_turned 2 = .ok (.putfield 53, 3) := by decide +kernel
theorem dX13_turned_5 : decode cX13_turned 5 = .ok (.aload_n 0, 1) := by decide +kernel
theorem dX13_turned_6 : decode cX13_turned 6 = .ok (.iload_n 1, 1) := by decide +kernel
theorem dX13_turned_7 : decode cX13_turned 7 = .ok (.invokevirtual 140, 3) := by decide +kernel
theorem dX13_turned_10 : decode cX13_turned 10 = .ok (.ifCond .eq 11, 3) := by decide +kernel
theorem dX13_turned_13 : decode cX13_turned 13 = .ok (.iload_n 2, 1) := by decide +kernel
theorem dX13_turned_14 : decode cX13_turned 14 = .ok (.iload_n 3, 1) := by decide +kernel
theorem dX13_turned_15 : decode cX13_turned 15 = .ok (.invokestatic 192, 3) := by decide +kernel
theorem dX13_turned_18 : decode cX13_turned 18 = .ok (.ifCond .ne 5, 3) := by decide +kernel
theorem dX13_turned_21 : decode cX13_turned 21 = .ok (.iconst (-1), 1) := by decide +kernel
theorem dX13_turned_22 : decode cX13_turned 22 = .ok (.ireturn, 1) := by decide +kernel
theorem dX13_turned_23 : decode cX13_turned 23 = .ok (.aload_n 0, 1) := by decide +kernel
theorem dX13_turned_24 : decode cX13_turned 24 = .ok (.iload_n 1, 1) := by decide +kernel
theorem dX13_turned_25 : decode cX13_turned 25 = .ok (.invokevirtual 196, 3) := by decide +kernel
theorem dX13_turned_28 : decode cX13_turned 28 = .ok (.iconst 0, 1) := by decide +kernel
theorem dX13_turned_29 : decode cX13_turned 29 = .ok (.istore 4, 2) := by decide +kernel
theorem dX13_turned_31 : decode cX13_turned 31 = .ok (.iconst 0, 1) := by decide +kernel
theorem dX13_turned_32 : decode cX13_turned 32 = .ok (.istore 5, 2) := by decide +kernel
theorem dX13_turned_34 : decode cX13_turned 34 = .ok (.iload 5, 2) := by decide +kernel
theorem dX13_turned_36 : decode cX13_turned 36 = .ok (.iconst 2, 1) := by decide +kernel
theorem dX13_turned_37 : decode cX13_turned 37 = .ok (.aload_n 0, 1) := by decide +kernel
theorem dX13_turned_38 : decode cX13_turned 38 = .ok (.getfield 127, 3) := by decide +kernel
theorem dX13_turned_41 : decode cX13_turned 41 = .ok (.imul, 1) := by decide +kernel
theorem dX13_turned_42 : decode cX13_turned 42 = .ok (.if_icmp .ge 179, 3) := by decide +kernel
theorem dX13_turned_45 : decode cX13_turned 45 = .ok (.iconst 0, 1) := by decide +kernel
theorem dX13_turned_46 : decode cX13_turned 46 = .ok (.istore 6, 2) := by decide +kernel
theorem dX13_turned_48 : decode cX13_turned 48 = .ok (.iload 6, 2) := by decide +kernel
theorem dX13_turned_50 : decode cX13_turned 50 = .ok (.aload_n 0, 1) := by decide +kernel
theorem dX13_turned_51 : decode cX13_turned 51 = .ok (.getfield 127, 3) := by decide +kernel
theorem dX13_turned_54 : decode cX13_turned 54 = .ok (.if_icmp .ge 161, 3) := by decide +kernel
theorem dX13_turned_57 : decode cX13_turned 57 = .ok (.iconst 0, 1) := by decide +kernel
theorem dX13_turned_58 : decode cX13_turned 58 = .ok (.istore 7, 2) := by decide +kernel
theorem dX13_turned_60 : decode cX13_turned 60 = .ok (.iconst 0, 1) := by decide +kernel
theorem dX13_turned_61 : decode cX13_turned 61 = .ok (.istore 8, 2) := by decide +kernel
theorem dX13_turned_63 : decode cX13_turned 63 = .ok (.iload 8, 2) := by decide +kernel
theorem dX13_turned_65 : decode cX13_turned 65 = .ok (.aload_n 0, 1) := by decide +kernel
theorem dX13_turned_66 : decode cX13_turned 66 = .ok (.getfield 127, 3) := by decide +kernel
theorem dX13_turned_69 : decode cX13_turned 69 = .ok (.if_icmp .ge 124, 3) := by decide +kernel
theorem dX13_turned_72 : decode cX13_turned 72 = .ok (.aload_n 0, 1) := by decide +kernel
theorem dX13_turned_73 : decode cX13_turned 73 = .ok (.getfield 44, 3) := by decide +kernel
theorem dX13_turned_76 : decode cX13_turned 76 = .ok (.iconst 2, 1) := by decide +kernel
theorem dX13_turned_77 : decode cX13_turned 77 = .ok (.iload 8, 2) := by decide +kernel
theorem dX13_turned_79 : decode cX13_turned 79 = .ok (.imul, 1) := by decide +kernel
theorem dX13_turned_80 : decode cX13_turned 80 = .ok (.iaload, 1) := by decide +kernel
theorem dX13_turned_81 : decode cX13_turned 81 = .ok (.aload_n 0, 1) := by decide +kernel
theorem dX13_turned_82 : decode cX13_turned 82 = .ok (.getfield 44, 3) := by decide +kernel
theorem dX13_turned_85 : decode cX13_turned 85 = .ok (.iload 5, 2) := by decide +kernel
theorem dX13_turned_87 : decode cX13_turned 87 = .ok (.iaload, 1) := by decide +kernel
theorem dX13_turned_88 : decode cX13_turned 88 = .ok (.aload_n 0, 1) := by decide +kernel
theorem dX13_turned_89 : decode cX13_turned 89 = .ok (.getfield 44, 3) := by decide +kernel
theorem dX13_turned_92 : decode cX13_turned 92 = .ok (.iload 5, 2) := by decide +kernel
theorem dX13_turned_94 : decode cX13_turned 94 = .ok (.iaload, 1) := by decide +kernel
theorem dX13_turned_95 : decode cX13_turned 95 = .ok (.iload_n 2, 1) := by decide +kernel
theorem dX13_turned_96 : decode cX13_turned 96 = .ok (.iadd, 1) := by decide +kernel
theorem dX13_turned_97 : decode cX13_turned 97 = .ok (.invokestatic 57, 3) := by decide +kernel
theorem dX13_turned_100 : decode cX13_turned 100 = .ok (.ifCond .ne 36, 3) := by decide +kernel
theorem dX13_turned_103 : decode cX13_turned 103 = .ok (.aload_n 0, 1) := by decide +kernel
theorem dX13_turned_104 : decode cX13_turned 104 = .ok (.getfield 44, 3) := by decide +kernel
theorem dX13_turned_107 : decode cX13_turned 107 = .ok (.iconst 2, 1) := by decide +kernel
theorem dX13_turned_108 : decode cX13_turned 108 = .ok (.iload 8, 2) := by decide +kernel
theorem dX13_turned_110 : decode cX13_turned 110 = .ok (.imul, 1) := by decide +kernel
theorem dX13_turned_111 : decode cX13_turned 111 = .ok (.iconst 1, 1) := by decide +kernel
theorem dX13_turned_112 : decode cX13_turned 112 = .ok (.iadd, 1) := by decide +kernel
theorem dX13_turned_113 : decode cX13_turned 113 = .ok (.iaload, 1) := by decide +kernel
theorem dX13_turned_114 : decode cX13_turned 114 = .ok (.aload_n 0, 1) := by decide +kernel
theorem dX13_turned_115 : decode cX13_turned 115 = .ok (.getfield 44, 3) := by decide +kernel
theorem dX13_turned_118 : decode cX13_turned 118 = .ok (.iload 5, 2) := by decide +kernel
theorem dX13_turned_120 : decode cX13_turned 120 = .ok (.iaload, 1) := by decide +kernel
theorem dX13_turned_121 : decode cX13_turned 121 = .ok (.aload_n 0, 1) := by decide +kernel
theorem dX13_turned_122 : decode cX13_turned 122 = .ok (.getfield 44, 3) := by decide +kernel
theorem dX13_turned_125 : decode cX13_turned 125 = .ok (.iload 5, 2) := by decide +kernel
theorem dX13_turned_127 : decode cX13_turned 127 = .ok (.iaload, 1) := by decide +kernel
theorem dX13_turned_128 : decode cX13_turned 128 = .ok (.iload_n 2, 1) := by decide +kernel
theorem dX13_turned_129 : decode cX13_turned 129 = .ok (.iadd, 1) := by decide +kernel
theorem dX13_turned_130 : decode cX13_turned 130 = .ok (.invokestatic 57, 3) := by decide +kernel
theorem dX13_turned_133 : decode cX13_turned 133 = .ok (.ifCond .eq 7, 3) := by decide +kernel
theorem dX13_turned_136 : decode cX13_turned 136 = .ok (.iconst 1, 1) := by decide +kernel
theorem dX13_turned_137 : decode cX13_turned 137 = .ok (.goto 4, 3) := by decide +kernel
theorem dX13_turned_140 : decode cX13_turned 140 = .ok (.iconst 0, 1) := by decide +kernel
theorem dX13_turned_141 : decode cX13_turned 141 = .ok (.istore 9, 2) := by decide +kernel
theorem dX13_turned_143 : decode cX13_turned 143 = .ok (.iload 7, 2) := by decide +kernel
theorem dX13_turned_145 : decode cX13_turned 145 = .ok (.iload 9, 2) := by decide +kernel
theorem dX13_turned_147 : decode cX13_turned 147 = .ok (.ifCond .eq 36, 3) := by decide +kernel
theorem dX13_turned_150 : decode cX13_turned 150 = .ok (.aload_n 0, 1) := by decide +kernel
theorem dX13_turned_151 : decode cX13_turned 151 = .ok (.getfield 47, 3) := by decide +kernel
theorem dX13_turned_154 : decode cX13_turned 154 = .ok (.iload 8, 2) := by decide +kernel
theorem dX13_turned_156 : decode cX13_turned 156 = .ok (.iaload, 1) := by decide +kernel
theorem dX13_turned_157 : decode cX13_turned 157 = .ok (.aload_n 0, 1) := by decide +kernel
theorem dX13_turned_158 : decode cX13_turned 158 = .ok (.getfield 47, 3) := by decide +kernel
theorem dX13_turned_161 : decode cX13_turned 161 = .ok (.iload 6, 2) := by decide +kernel
theorem dX13_turned_163 : decode cX13_turned 163 = .ok (.iaload, 1) := by decide +kernel
theorem dX13_turned_164 : decode cX13_turned 164 = .ok (.aload_n 0, 1) := by decide +kernel
theorem dX13_turned_165 : decode cX13_turned 165 = .ok (.getfield 47, 3) := by decide +kernel
theorem dX13_turned_168 : decode cX13_turned 168 = .ok (.iload 6, 2) := by decide +kernel
theorem dX13_turned_170 : decode cX13_turned 170 = .ok (.iaload, 1) := by decide +kernel
theorem dX13_turned_171 : decode cX13_turned 171 = .ok (.iload_n 3, 1) := by decide +kernel
theorem dX13_turned_172 : decode cX13_turned 172 = .ok (.iadd, 1) := by decide +kernel
theorem dX13_turned_173 : decode cX13_turned 173 = .ok (.invokestatic 57, 3) := by decide +kernel
theorem dX13_turned_176 : decode cX13_turned 176 = .ok (.ifCond .eq 7, 3) := by decide +kernel
theorem dX13_turned_179 : decode cX13_turned 179 = .ok (.iconst 1, 1) := by decide +kernel
theorem dX13_turned_180 : decode cX13_turned 180 = .ok (.goto 4, 3) := by decide +kernel
theorem dX13_turned_183 : decode cX13_turned 183 = .ok (.iconst 0, 1) := by decide +kernel
theorem dX13_turned_184 : decode cX13_turned 184 = .ok (.iadd, 1) := by decide +kernel
theorem dX13_turned_185 : decode cX13_turned 185 = .ok (.istore 7, 2) := by decide +kernel
theorem dX13_turned_187 : decode cX13_turned 187 = .ok (.iinc 8 1, 3) := by decide +kernel
theorem dX13_turned_190 : decode cX13_turned 190 = .ok (.goto (-127), 3) := by decide +kernel
theorem dX13_turned_193 : decode cX13_turned 193 = .ok (.iload 7, 2) := by decide +kernel
theorem dX13_turned_195 : decode cX13_turned 195 = .ok (.iload 4, 2) := by decide +kernel
theorem dX13_turned_197 : decode cX13_turned 197 = .ok (.if_icmp .le 8, 3) := by decide +kernel
theorem dX13_turned_200 : decode cX13_turned 200 = .ok (.iload 7, 2) := by decide +kernel
theorem dX13_turned_202 : decode cX13_turned 202 = .ok (.goto 5, 3) := by decide +kernel
theorem dX13_turned_205 : decode cX13_turned 205 = .ok (.iload 4, 2) := by decide +kernel
theorem dX13_turned_207 : decode cX13_turned 207 = .ok (.istore 4, 2) := by decide +kernel
theorem dX13_turned_209 : decode cX13_turned 209 = .ok (.iinc 6 1, 3) := by decide +kernel
theorem dX13_turned_212 : decode cX13_turned 212 = .ok (.goto (-164), 3) := by decide +kernel
theorem dX13_turned_215 : decode cX13_turned 215 = .ok (.iinc 5 1, 3) := by decide +kernel
theorem dX13_turned_218 : decode cX13_turned 218 = .ok (.goto (-184), 3) := by decide +kernel
theorem dX13_turned_221 : decode cX13_turned 221 = .ok (.iload 4, 2) := by decide +kernel
theorem dX13_turned_223 : decode cX13_turned 223 = .ok (.ireturn, 1) := by decide +kernel
theorem dX13_wreck_0 : decode cX13_wreck 0 = .ok (.aload_n 0, 1) := by decide +kernel
theorem dX13_wreck_1 : decode cX13_wreck 1 = .ok (.iconst 0, 1) := by decide +kernel
theorem dX13_wreck_2 : decode cX13_wreck 2 = .ok (.putfield 53, 3) := by decide +kernel
theorem dX13_wreck_5 : decode cX13_wreck 5 = .ok (.aload_n 0, 1) := by decide +kernel
theorem dX13_wreck_6 : decode cX13_wreck 6 = .ok (.iload_n 1, 1) := by decide +kernel
theorem dX13_wreck_7 : decode cX13_wreck 7 = .ok (.invokevirtual 136, 3) := by decide +kernel
theorem dX13_wreck_10 : decode cX13_wreck 10 = .ok (.ifCond .eq 22, 3) := by decide +kernel
theorem dX13_wreck_13 : decode cX13_wreck 13 = .ok (.iload_n 2, 1) := by decide +kernel
theorem dX13_wreck_14 : decode cX13_wreck 14 = .ok (.iconst 0, 1) := by decide +kernel
theorem dX13_wreck_15 : decode cX13_wreck 15 = .ok (.bipush 9, 2) := by decide +kernel
theorem dX13_wreck_17 : decode cX13_wreck 17 = .ok (.invokestatic 57, 3) := by decide +kernel
theorem dX13_wreck_20 : decode cX13_wreck 20 = .ok (.ifCond .eq 12, 3) := by decide +kernel
theorem dX13_wreck_23 : decode cX13_wreck 23 = .ok (.iload_n 3, 1) := by decide +kernel
theorem dX13_wreck_24 : decode cX13_wreck 24 = .ok (.iconst 0, 1) := by decide +kernel
theorem dX13_wreck_25 : decode cX13_wreck 25 = .ok (.iconst 1, 1) := by decide +kernel
theorem dX13_wreck_26 : decode cX13_wreck 26 = .ok (.invokestatic 57, 3) := by decide +kernel
theorem dX13_wreck_29 : decode cX13_wreck 29 = .ok (.ifCond .ne 5, 3) := by decide +kernel
theorem dX13_wreck_32 : decode cX13_wreck 32 = .ok (.iconst (-1), 1) := by decide +kernel
theorem dX13_wreck_33 : decode cX13_wreck 33 = .ok (.ireturn, 1) := by decide +kernel
theorem dX13_wreck_34 : decode cX13_wreck 34 = .ok (.aload_n 0, 1) := by decide +kernel
theorem dX13_wreck_35 : decode cX13_wreck 35 = .ok (.iload_n 1, 1) := by decide +kernel
theorem dX13_wreck_36 : decode cX13_wreck 36 = .ok (.invokevirtual 148, 3) := by decide +kernel
theorem dX13_wreck_39 : decode cX13_wreck 39 = .ok (.bipush (-9), 2) := by decide +kernel
theorem dX13_wreck_41 : decode cX13_wreck 41 = .ok (.istore 4, 2) := by decide +kernel
theorem dX13_wreck_43 : decode cX13_wreck 43 = .ok (.bipush (-9), 2) := by decide +kernel
theorem dX13_wreck_45 : decode cX13_wreck 45 = .ok (.istore 5, 2) := by decide +kernel
theorem dX13_wreck_47 : decode cX13_wreck 47 = .ok (.bipush 20, 2) := by decide +kernel
theorem dX13_wreck_49 : decode cX13_wreck 49 = .ok (.istore 6, 2) := by decide +kernel
theorem dX13_wreck_51 : decode cX13_wreck 51 = .ok (.iload 6, 2) := by decide +kernel
theorem dX13_wreck_53 : decode cX13_wreck 53 = .ok (.bipush 71, 2) := by decide +kernel
theorem dX13_wreck_55 : decode cX13_wreck 55 = .ok (.if_icmp .ge 44, 3) := by decide +kernel
theorem dX13_wreck_58 : decode cX13_wreck 58 = .ok (.aload_n 0, 1) := by decide +kernel
theorem dX13_wreck_59 : decode cX13_wreck 59 = .ok (.iload 6, 2) := by decide +kernel
theorem dX13_wreck_61 : decode cX13_wreck 61 = .ok (.iload_n 2, 1) := by decide +kernel
theorem dX13_wreck_62 : decode cX13_wreck 62 = .ok (.invokevirtual 158, 3) := by decide +kernel
theorem dX13_wreck_65 : decode cX13_wreck 65 = .ok (.aload_n 0, 1) := by decide +kernel
theorem dX13_wreck_66 : decode cX13_wreck 66 = .ok (.getfield 162, 3) := by decide +kernel
theorem dX13_wreck_69 : decode cX13_wreck 69 = .ok (.iconst 1, 1) := by decide +kernel
theorem dX13_wreck_70 : decode cX13_wreck 70 = .ok (.if_icmp .ne 23, 3) := by decide +kernel
theorem dX13_wreck_73 : decode cX13_wreck 73 = .ok (.iload 4, 2) := by decide +kernel
theorem dX13_wreck_75 : decode cX13_wreck 75 = .ok (.bipush (-9), 2) := by decide +kernel
theorem dX13_wreck_77 : decode cX13_wreck 77 = .ok (.if_icmp .ne 8, 3) := by decide +kernel
theorem dX13_wreck_80 : decode cX13_wreck 80 = .ok (.iload 6, 2) := by decide +kernel
theorem dX13_wreck_82 : decode cX13_wreck 82 = .ok (.goto 5, 3) := by decide +kernel
theorem dX13_wreck_85 : decode cX13_wreck 85 = .ok (.iload 4, 2) := by decide +kernel
theorem dX13_wreck_87 : decode cX13_wreck 87 = .ok (.istore 4, 2) := by decide +kernel
theorem dX13_wreck_89 : decode cX13_wreck 89 = .ok (.iload 6, 2) := by decide +kernel
theorem dX13_wreck_91 : decode cX13_wreck 91 = .ok (.istore 5, 2) := by decide +kernel
theorem dX13_wreck_93 : decode cX13_wreck 93 = .ok (.iinc 6 1, 3) := by decide +kernel
theorem dX13_wreck_96 : decode cX13_wreck 96 = .ok (.goto (-45), 3) := by decide +kernel
theorem dX13_wreck_99 : decode cX13_wreck 99 = .ok (.iload_n 3, 1) := by decide +kernel
theorem dX13_wreck_100 : decode cX13_wreck 100 = .ok (.ifCond .ne 8, 3) := by decide +kernel
theorem dX13_wreck_103 : decode cX13_wreck 103 = .ok (.iload 4, 2) := by decide +kernel
theorem dX13_wreck_105 : decode cX13_wreck 105 = .ok (.goto 5, 3) := by decide +kernel
theorem dX13_wreck_108 : decode cX13_wreck 108 = .ok (.iload 5, 2) := by decide +kernel
theorem dX13_wreck_110 : decode cX13_wreck 110 = .ok (.ireturn, 1) := by decide +kernel
theorem dX13_feather_0 : decode cX13_feather 0 = .ok (.aload_n 0, 1) := by decide +kernel
theorem dX13_feather_1 : decode cX13_feather 1 = .ok (.iconst 0, 1) := by decide +kernel
theorem dX13_feather_2 : decode cX13_feather 2 = .ok (.putfield 53, 3) := by decide +kernel
theorem dX13_feather_5 : decode cX13_feather 5 = .ok (.aload_n 0, 1) := by decide +kernel
theorem dX13_feather_6 : decode cX13_feather 6 = .ok (.iload_n 1, 1) := by decide +kernel
theorem dX13_feather_7 : decode cX13_feather 7 = .ok (.invokevirtual 136, 3) := by decide +kernel
theorem dX13_feather_10 : decode cX13_feather 10 = .ok (.ifCond .eq 21, 3) := by decide +kernel
theorem dX13_feather_13 : decode cX13_feather 13 = .ok (.aload_n 0, 1) := by decide +kernel
theorem dX13_feather_14 : decode cX13_feather 14 = .ok (.iload_n 2, 1) := by decide +kernel
theorem dX13_feather_15 : decode cX13_feather 15 = .ok (.invokevirtual 140, 3) := by decide +kernel
theorem dX13_feather_18 : decode cX13_feather 18 = .ok (.ifCond .eq 13, 3) := by decide +kernel
theorem dX13_feather_21 : decode cX13_feather 21 = .ok (.iload_n 3, 1) := by decide +kernel
theorem dX13_feather_22 : decode cX13_feather 22 = .ok (.iconst 0, 1) := by decide +kernel
theorem dX13_feather_23 : decode cX13_feather 23 = .ok (.bipush 99, 2) := by decide +kernel
theorem dX13_feather_25 : decode cX13_feather 25 = .ok (.invokestatic 57, 3) := by decide +kernel
theorem dX13_feather_28 : decode cX13_feather 28 = .ok (.ifCond .ne 5, 3) := by decide +kernel
theorem dX13_feather_31 : decode cX13_feather 31 = .ok (.iconst (-1), 1) := by decide +kernel
theorem dX13_feather_32 : decode cX13_feather 32 = .ok (.ireturn, 1) := by decide +kernel
theorem dX13_feather_33 : decode cX13_feather 33 = .ok (.iconst 0, 1) := by decide +kernel
theorem dX13_feather_34 : decode cX13_feather 34 = .ok (.istore 4, 2) := by decide +kernel
theorem dX13_feather_36 : decode cX13_feather 36 = .ok (.iconst 0, 1) := by decide +kernel
theorem dX13_feather_37 : decode cX13_feather 37 = .ok (.istore 5, 2) := by decide +kernel
theorem dX13_feather_39 : decode cX13_feather 39 = .ok (.iconst 0, 1) := by decide +kernel
theorem dX13_feather_40 : decode cX13_feather 40 = .ok (.istore 6, 2) := by decide +kernel
theorem dX13_feather_42 : decode cX13_feather 42 = .ok (.iload 6, 2) := by decide +kernel
theorem dX13_feather_44 : decode cX13_feather 44 = .ok (.bipush 10, 2) := by decide +kernel
theorem dX13_feather_46 : decode cX13_feather 46 = .ok (.if_icmp .ge 105, 3) := by decide +kernel
theorem dX13_feather_49 : decode cX13_feather 49 = .ok (.aload_n 0, 1) := by decide +kernel
theorem dX13_feather_50 : decode cX13_feather 50 = .ok (.iload_n 1, 1) := by decide +kernel
theorem dX13_feather_51 : decode cX13_feather 51 = .ok (.invokevirtual 148, 3) := by decide +kernel
theorem dX13_feather_54 : decode cX13_feather 54 = .ok (.aload_n 0, 1) := by decide +kernel
theorem dX13_feather_55 : decode cX13_feather 55 = .ok (.getfield 41, 3) := by decide +kernel
theorem dX13_feather_58 : decode cX13_feather 58 = .ok (.iconst 5, 1) := by decide +kernel
theorem dX13_feather_59 : decode cX13_feather 59 = .ok (.iload 6, 2) := by decide +kernel
theorem dX13_feather_61 : decode cX13_feather 61 = .ok (.iastore, 1) := by decide +kernel
theorem dX13_feather_62 : decode cX13_feather 62 = .ok (.aload_n 0, 1) := by decide +kernel
theorem dX13_feather_63 : decode cX13_feather 63 = .ok (.aload_n 0, 1) := by decide +kernel
theorem dX13_feather_64 : decode cX13_feather 64 = .ok (.getfield 23, 3) := by decide +kernel
theorem dX13_feather_67 : decode cX13_feather 67 = .ok (.iconst 2, 1) := by decide +kernel
theorem dX13_feather_68 : decode cX13_feather 68 = .ok (.iload_n 2, 1) := by decide +kernel
theorem dX13_feather_69 : decode cX13_feather 69 = .ok (.imul, 1) := by decide +kernel
theorem dX13_feather_70 : decode cX13_feather 70 = .ok (.iaload, 1) := by decide +kernel
theorem dX13_feather_71 : decode cX13_feather 71 = .ok (.aload_n 0, 1) := by decide +kernel
theorem dX13_feather_72 : decode cX13_feather 72 = .ok (.getfield 23, 3) := by decide +kernel
theorem dX13_feather_75 : decode cX13_feather 75 = .ok (.iconst 2, 1) := by decide +kernel
theorem dX13_feather_76 : decode cX13_feather 76 = .ok (.iload_n 2, 1) := by decide +kernel
theorem dX13_feather_77 : decode cX13_feather 77 = .ok (.imul, 1) := by decide +kernel
theorem dX13_feather_78 : decode cX13_feather 78 = .ok (.iconst 1, 1) := by decide +kernel
theorem dX13_feather_79 : decode cX13_feather 79 = .ok (.iadd, 1) := by decide +kernel
theorem dX13_feather_80 : decode cX13_feather 80 = .ok (.iaload, 1) := by decide +kernel
theorem dX13_feather_81 : decode cX13_feather 81 = .ok (.invokevirtual 158, 3) := by decide +kernel
theorem dX13_feather_84 : decode cX13_feather 84 = .ok (.aload_n 0, 1) := by decide +kernel
theorem dX13_feather_85 : decode cX13_feather 85 = .ok (.getfield 183, 3) := by decide +kernel
theorem dX13_feather_88 : decode cX13_feather 88 = .ok (.invokestatic 165, 3) := by decide +kernel
theorem dX13_feather_91 : decode cX13_feather 91 = .ok (.aload_n 0, 1) := by decide +kernel
theorem dX13_feather_92 : decode cX13_feather 92 = .ok (.getfield 186, 3) := by decide +kernel
theorem dX13_feather_95 : decode cX13_feather 95 = .ok (.iload_n 3, 1) := by decide +kernel
theorem dX13_feather_96 : decode cX13_feather 96 = .ok (.imul, 1) := by decide +kernel
theorem dX13_feather_97 : decode cX13_feather 97 = .ok (.bipush 100, 2) := by decide +kernel
theorem dX13_feather_99 : decode cX13_feather 99 = .ok (.idiv, 1) := by decide +kernel
theorem dX13_feather_100 : decode cX13_feather 100 = .ok (.iadd, 1) := by decide +kernel
theorem dX13_feather_101 : decode cX13_feather 101 = .ok (.istore 7, 2) := by decide +kernel
theorem dX13_feather_103 : decode cX13_feather 103 = .ok (.iload 6, 2) := by decide +kernel
theorem dX13_feather_105 : decode cX13_feather 105 = .ok (.ifCond .eq 10, 3) := by decide +kernel
theorem dX13_feather_108 : decode cX13_feather 108 = .ok (.iload 7, 2) := by decide +kernel
theorem dX13_feather_110 : decode cX13_feather 110 = .ok (.iload 5, 2) := by decide +kernel
theorem dX13_feather_112 : decode cX13_feather 112 = .ok (.if_icmp .ge 8, 3) := by decide +kernel
theorem dX13_feather_115 : decode cX13_feather 115 = .ok (.iload 6, 2) := by decide +kernel
theorem dX13_feather_117 : decode cX13_feather 117 = .ok (.goto 5, 3) := by decide +kernel
theorem dX13_feather_120 : decode cX13_feather 120 = .ok (.iload 4, 2) := by decide +kernel
theorem dX13_feather_122 : decode cX13_feather 122 = .ok (.istore 4, 2) := by decide +kernel
theorem dX13_feather_124 : decode cX13_feather 124 = .ok (.iload 6, 2) := by decide +kernel
theorem dX13_feather_126 : decode cX13_feather 126 = .ok (.ifCond .eq 10, 3) := by decide +kernel
theorem dX13_feather_129 : decode cX13_feather 129 = .ok (.iload 7, 2) := by decide +kernel
theorem dX13_feather_131 : decode cX13_feather 131 = .ok (.iload 5, 2) := by decide +kernel
theorem dX13_feather_133 : decode cX13_feather 133 = .ok (.if_icmp .ge 8, 3) := by decide +kernel
theorem dX13_feather_136 : decode cX13_feather 136 = .ok (.iload 7, 2) := by decide +kernel
theorem dX13_feather_138 : decode cX13_feather 138 = .ok (.goto 5, 3) := by decide +kernel
theorem dX13_feather_141 : decode cX13_feather 141 = .ok (.iload 5, 2) := by decide +kernel
theorem dX13_feather_143 : decode cX13_feather 143 = .ok (.istore 5, 2) := by decide +kernel
theorem dX13_feather_145 : decode cX13_feather 145 = .ok (.iinc 6 1, 3) := by decide +kernel
theorem dX13_feather_148 : decode cX13_feather 148 = .ok (.goto (-106), 3) := by decide +kernel
theorem dX13_feather_151 : decode cX13_feather 151 = .ok (.iload 4, 2) := by decide +kernel
theorem dX13_feather_153 : decode cX13_feather 153 = .ok (.ireturn, 1) := by decide +kernel
theorem dX13_warm_0 : decode cX13_warm 0 = .ok (.aload_n 0, 1) := by decide +kernel
theorem dX13_warm_1 : decode cX13_warm 1 = .ok (.iconst 0, 1) := by decide +kernel
theorem dX13_warm_2 : decode cX13_warm 2 = .ok (.putfield 53, 3) := by decide +kernel
theorem dX13_warm_5 : decode cX13_warm 5 = .ok (.aload_n 0, 1) := by decide +kernel
theorem dX13_warm_6 : decode cX13_warm 6 = .ok (.iload_n 1, 1) := by decide +kernel
theorem dX13_warm_7 : decode cX13_warm 7 = .ok (.invokevirtual 140, 3) := by decide +kernel
theorem dX13_warm_10 : decode cX13_warm 10 = .ok (.ifCond .eq 22, 3) := by decide +kernel
theorem dX13_warm_13 : decode cX13_warm 13 = .ok (.iload_n 2, 1) := by decide +kernel
theorem dX13_warm_14 : decode cX13_warm 14 = .ok (.iconst 0, 1) := by decide +kernel
theorem dX13_warm_15 : decode cX13_warm 15 = .ok (.bipush 20, 2) := by decide +kernel
theorem dX13_warm_17 : decode cX13_warm 17 = .ok (.invokestatic 57, 3) := by decide +kernel
theorem dX13_warm_20 : decode cX13_warm 20 = .ok (.ifCond .eq 12, 3) := by decide +kernel
theorem dX13_warm_23 : decode cX13_warm 23 = .ok (.iload_n 3, 1) := by decide +kernel
theorem dX13_warm_24 : decode cX13_warm 24 = .ok (.iconst 0, 1) := by decide +kernel
theorem dX13_warm_25 : decode cX13_warm 25 = .ok (.iconst 1, 1) := by decide +kernel
theorem dX13_warm_26 : decode cX13_warm 26 = .ok (.invokestatic 57, 3) := by decide +kernel
theorem dX13_warm_29 : decode cX13_warm 29 = .ok (.ifCond .ne 5, 3) := by decide +kernel
theorem dX13_warm_32 : decode cX13_warm 32 = .ok (.iconst (-1), 1) := by decide +kernel
theorem dX13_warm_33 : decode cX13_warm 33 = .ok (.ireturn, 1) := by decide +kernel
theorem dX13_warm_34 : decode cX13_warm 34 = .ok (.aload_n 0, 1) := by decide +kernel
theorem dX13_warm_35 : decode cX13_warm 35 = .ok (.getfield 23, 3) := by decide +kernel
theorem dX13_warm_38 : decode cX13_warm 38 = .ok (.iconst 2, 1) := by decide +kernel
theorem dX13_warm_39 : decode cX13_warm 39 = .ok (.iload_n 1, 1) := by decide +kernel
theorem dX13_warm_40 : decode cX13_warm 40 = .ok (.imul, 1) := by decide +kernel
theorem dX13_warm_41 : decode cX13_warm 41 = .ok (.iaload, 1) := by decide +kernel
theorem dX13_warm_42 : decode cX13_warm 42 = .ok (.iload_n 2, 1) := by decide +kernel
theorem dX13_warm_43 : decode cX13_warm 43 = .ok (.isub, 1) := by decide +kernel
theorem dX13_warm_44 : decode cX13_warm 44 = .ok (.iconst 1, 1) := by decide +kernel
theorem dX13_warm_45 : decode cX13_warm 45 = .ok (.if_icmp .ge 7, 3) := by decide +kernel
theorem dX13_warm_48 : decode cX13_warm 48 = .ok (.iconst 1, 1) := by decide +kernel
theorem dX13_warm_49 : decode cX13_warm 49 = .ok (.goto 13, 3) := by decide +kernel
theorem dX13_warm_52 : decode cX13_warm 52 = .ok (.aload_n 0, 1) := by decide +kernel
theorem dX13_warm_53 : decode cX13_warm 53 = .ok (.getfield 23, 3) := by decide +kernel
theorem dX13_warm_56 : decode cX13_warm 56 = .ok (.iconst 2, 1) := by decide +kernel
theorem dX13_warm_57 : decode cX13_warm 57 = .ok (.iload_n 1, 1) := by decide +kernel
theorem dX13_warm_58 : decode cX13_warm 58 = .ok (.imul, 1) := by decide +kernel
theorem dX13_warm_59 : decode cX13_warm 59 = .ok (.iaload, 1) := by decide +kernel
theorem dX13_warm_60 : decode cX13_warm 60 = .ok (.iload_n 2, 1) := by decide +kernel
theorem dX13_warm_61 : decode cX13_warm 61 = .ok (.isub, 1) := by decide +kernel
theorem dX13_warm_62 : decode cX13_warm 62 = .ok (.istore 4, 2) := by decide +kernel
theorem dX13_warm_64 : decode cX13_warm 64 = .ok (.iconst 0, 1) := by decide +kernel
theorem dX13_warm_65 : decode cX13_warm 65 = .ok (.istore 5, 2) := by decide +kernel
theorem dX13_warm_67 : decode cX13_warm 67 = .ok (.iconst 0, 1) := by decide +kernel
theorem dX13_warm_68 : decode cX13_warm 68 = .ok (.istore 6, 2) := by decide +kernel
theorem dX13_warm_70 : decode cX13_warm 70 = .ok (.iload 6, 2) := by decide +kernel
theorem dX13_warm_72 : decode cX13_warm 72 = .ok (.aload_n 0, 1) := by decide +kernel
theorem dX13_warm_73 : decode cX13_warm 73 = .ok (.getfield 127, 3) := by decide +kernel
theorem dX13_warm_76 : decode cX13_warm 76 = .ok (.if_icmp .ge 90, 3) := by decide +kernel
theorem dX13_warm_79 : decode cX13_warm 79 = .ok (.aload_n 0, 1) := by decide +kernel
theorem dX13_warm_80 : decode cX13_warm 80 = .ok (.iload 6, 2) := by decide +kernel
theorem dX13_warm_82 : decode cX13_warm 82 = .ok (.iload_n 1, 1) := by decide +kernel
theorem dX13_warm_83 : decode cX13_warm 83 = .ok (.invokevirtual 189, 3) := by decide +kernel
theorem dX13_warm_86 : decode cX13_warm 86 = .ok (.aload_n 0, 1) := by decide +kernel
theorem dX13_warm_87 : decode cX13_warm 87 = .ok (.getfield 162, 3) := by decide +kernel
theorem dX13_warm_90 : decode cX13_warm 90 = .ok (.iconst 1, 1) := by decide +kernel
theorem dX13_warm_91 : decode cX13_warm 91 = .ok (.if_icmp .ne 7, 3) := by decide +kernel
theorem dX13_warm_94 : decode cX13_warm 94 = .ok (.iconst 1, 1) := by decide +kernel
theorem dX13_warm_95 : decode cX13_warm 95 = .ok (.goto 4, 3) := by decide +kernel
theorem dX13_warm_98 : decode cX13_warm 98 = .ok (.iconst 0, 1) := by decide +kernel
theorem dX13_warm_99 : decode cX13_warm 99 = .ok (.istore 7, 2) := by decide +kernel
theorem dX13_warm_101 : decode cX13_warm 101 = .ok (.aload_n 0, 1) := by decide +kernel
theorem dX13_warm_102 : decode cX13_warm 102 = .ok (.iload 4, 2) := by decide +kernel
theorem dX13_warm_104 : decode cX13_warm 104 = .ok (.aload_n 0, 1) := by decide +kernel
theorem dX13_warm_105 : decode cX13_warm 105 = .ok (.getfield 23, 3) := by decide +kernel
theorem dX13_warm_108 : decode cX13_warm 108 = .ok (.iconst 2, 1) := by decide +kernel
theorem dX13_warm_109 : decode cX13_warm 109 = .ok (.iload_n 1, 1) := by decide +kernel
theorem dX13_warm_110 : decode cX13_warm 110 = .ok (.imul, 1) := by decide +kernel
theorem dX13_warm_111 : decode cX13_warm 111 = .ok (.iconst 1, 1) := by decide +kernel
theorem dX13_warm_112 : decode cX13_warm 112 = .ok (.iadd, 1) := by decide +kernel
theorem dX13_warm_113 : decode cX13_warm 113 = .ok (.iaload, 1) := by decide +kernel
theorem dX13_warm_114 : decode cX13_warm 114 = .ok (.invokevirtual 158, 3) := by decide +kernel
theorem dX13_warm_117 : decode cX13_warm 117 = .ok (.iload 5, 2) := by decide +kernel
theorem dX13_warm_119 : decode cX13_warm 119 = .ok (.iload_n 3, 1) := by decide +kernel
theorem dX13_warm_120 : decode cX13_warm 120 = .ok (.ifCond .ne 19, 3) := by decide +kernel
theorem dX13_warm_123 : decode cX13_warm 123 = .ok (.iload 7, 2) := by decide +kernel
theorem dX13_warm_125 : decode cX13_warm 125 = .ok (.ifCond .eq 31, 3) := by decide +kernel
theorem dX13_warm_128 : decode cX13_warm 128 = .ok (.aload_n 0, 1) := by decide +kernel
theorem dX13_warm_129 : decode cX13_warm 129 = .ok (.getfield 162, 3) := by decide +kernel
theorem dX13_warm_132 : decode cX13_warm 132 = .ok (.iconst 1, 1) := by decide +kernel
theorem dX13_warm_133 : decode cX13_warm 133 = .ok (.if_icmp .eq 23, 3) := by decide +kernel
theorem dX13_warm_136 : decode cX13_warm 136 = .ok (.goto 16, 3) := by decide +kernel
theorem dX13_warm_139 : decode cX13_warm 139 = .ok (.iload 7, 2) := by decide +kernel
theorem dX13_warm_141 : decode cX13_warm 141 = .ok (.ifCond .ne 15, 3) := by decide +kernel
theorem dX13_warm_144 : decode cX13_warm 144 = .ok (.aload_n 0, 1) := by decide +kernel
theorem dX13_warm_145 : decode cX13_warm 145 = .ok (.getfield 162, 3) := by decide +kernel
theorem dX13_warm_148 : decode cX13_warm 148 = .ok (.iconst 1, 1) := by decide +kernel
theorem dX13_warm_149 : decode cX13_warm 149 = .ok (.if_icmp .ne 7, 3) := by decide +kernel
theorem dX13_warm_152 : decode cX13_warm 152 = .ok (.iconst 1, 1) := by decide +kernel
theorem dX13_warm_153 : decode cX13_warm 153 = .ok (.goto 4, 3) := by decide +kernel
theorem dX13_warm_156 : decode cX13_warm 156 = .ok (.iconst 0, 1) := by decide +kernel
theorem dX13_warm_157 : decode cX13_warm 157 = .ok (.iadd, 1) := by decide +kernel
theorem dX13_warm_158 : decode cX13_warm 158 = .ok (.istore 5, 2) := by decide +kernel
theorem dX13_warm_160 : decode cX13_warm 160 = .ok (.iinc 6 1, 3) := by decide +kernel
theorem dX13_warm_163 : decode cX13_warm 163 = .ok (.goto (-93), 3) := by decide +kernel
theorem dX13_warm_166 : decode cX13_warm 166 = .ok (.iload 5, 2) := by decide +kernel
theorem dX13_warm_168 : decode cX13_warm 168 = .ok (.ireturn, 1) := by decide +kernel
theorem dX13_shoot_0 : decode cX13_shoot 0 = .ok (.aload_n 0, 1) := by decide +kernel
theorem dX13_shoot_1 : decode cX13_shoot 1 = .ok (.iconst 0, 1) := by decide +kernel
theorem dX13_shoot_2 : decode cX13_shoot 2 = .ok (.putfield 53, 3) := by decide +kernel
theorem dX13_shoot_5 : decode cX13_shoot 5 = .ok (.aload_n 0, 1) := by decide +kernel
theorem dX13_shoot_6 : decode cX13_shoot 6 = .ok (.iload_n 1, 1) := by decide +kernel
theorem dX13_shoot_7 : decode cX13_shoot 7 = .ok (.invokevirtual 136, 3) := by decide +kernel
theorem dX13_shoot_10 : decode cX13_shoot 10 = .ok (.ifCond .eq 37, 3) := by decide +kernel
theorem dX13_shoot_13 : decode cX13_shoot 13 = .ok (.aload_n 0, 1) := by decide +kernel
theorem dX13_shoot_14 : decode cX13_shoot 14 = .ok (.iload_n 2, 1) := by decide +kernel
theorem dX13_shoot_15 : decode cX13_shoot 15 = .ok (.invokevirtual 140, 3) := by decide +kernel
theorem dX13_shoot_18 : decode cX13_shoot 18 = .ok (.ifCond .eq 29, 3) := by decide +kernel
theorem dX13_shoot_21 : decode cX13_shoot 21 = .ok (.iload_n 3, 1) := by decide +kernel
theorem dX13_shoot_22 : decode cX13_shoot 22 = .ok (.iconst 0, 1) := by decide +kernel
theorem dX13_shoot_23 : decode cX13_shoot 23 = .ok (.aload_n 0, 1) := by decide +kernel
theorem dX13_shoot_24 : decode cX13_shoot 24 = .ok (.getfield 133, 3) := by decide +kernel
theorem dX13_shoot_27 : decode cX13_shoot 27 = .ok (.iconst 1, 1) := by decide +kernel
theorem dX13_shoot_28 : decode cX13_shoot 28 = .ok (.isub, 1) := by decide +kernel
theorem dX13_shoot_29 : decode cX13_shoot 29 = .ok (.invokestatic 57, 3) := by decide +kernel
theorem dX13_shoot_32 : decode cX13_shoot 32 = .ok (.ifCond .eq 15, 3) := by decide +kernel
theorem dX13_shoot_35 : decode cX13_shoot 35 = .ok (.aload_n 0, 1) := by decide +kernel
theorem dX13_shoot_36 : decode cX13_shoot 36 = .ok (.getfield 13, 3) := by decide +kernel
theorem dX13_shoot_39 : decode cX13_shoot 39 = .ok (.bipush 85, 2) := by decide +kernel
theorem dX13_shoot_41 : decode cX13_shoot 41 = .ok (.iaload, 1) := by decide +kernel
theorem dX13_shoot_42 : decode cX13_shoot 42 = .ok (.bipush 60, 2) := by decide +kernel
theorem dX13_shoot_44 : decode cX13_shoot 44 = .ok (.if_icmp .ne 6, 3) := by decide +kernel
theorem dX13_shoot_47 : decode cX13_shoot 47 = .ok (.ldc 143, 2) := by decide +kernel
theorem dX13_shoot_49 : decode cX13_shoot 49 = .ok (.ireturn, 1) := by decide +kernel
theorem dX13_shoot_50 : decode cX13_shoot 50 = .ok (.aload_n 0, 1) := by decide +kernel
theorem dX13_shoot_51 : decode cX13_shoot 51 = .ok (.iload_n 1, 1) := by decide +kernel
theorem dX13_shoot_52 : decode cX13_shoot 52 = .ok (.iload_n 2, 1) := by decide +kernel
theorem dX13_shoot_53 : decode cX13_shoot 53 = .ok (.invokevirtual 189, 3) := by decide +kernel
theorem dX13_shoot_56 : decode cX13_shoot 56 = .ok (.aload_n 0, 1) := by decide +kernel
theorem dX13_shoot_57 : decode cX13_shoot 57 = .ok (.getfield 26, 3) := by decide +kernel
theorem dX13_shoot_60 : decode cX13_shoot 60 = .ok (.iconst 2, 1) := by decide +kernel
theorem dX13_shoot_61 : decode cX13_shoot 61 = .ok (.iload_n 3, 1) := by decide +kernel
theorem dX13_shoot_62 : decode cX13_shoot 62 = .ok (.imul, 1) := by decide +kernel
theorem dX13_shoot_63 : decode cX13_shoot 63 = .ok (.iconst 1, 1) := by decide +kernel
theorem dX13_shoot_64 : decode cX13_shoot 64 = .ok (.iadd, 1) := by decide +kernel
theorem dX13_shoot_65 : decode cX13_shoot 65 = .ok (.iaload, 1) := by decide +kernel
theorem dX13_shoot_66 : decode cX13_shoot 66 = .ok (.istore 4, 2) := by decide +kernel
theorem dX13_shoot_68 : decode cX13_shoot 68 = .ok (.aload_n 0, 1) := by decide +kernel
theorem dX13_shoot_69 : decode cX13_shoot 69 = .ok (.getfield 13, 3) := by decide +kernel
theorem dX13_shoot_72 : decode cX13_shoot 72 = .ok (.bipush 84, 2) := by decide +kernel
theorem dX13_shoot_74 : decode cX13_shoot 74 = .ok (.aload_n 0, 1) := by decide +kernel
theorem dX13_shoot_75 : decode cX13_shoot 75 = .ok (.getfield 13, 3) := by decide +kernel
theorem dX13_shoot_78 : decode cX13_shoot 78 = .ok (.bipush 84, 2) := by decide +kernel
theorem dX13_shoot_80 : decode cX13_shoot 80 = .ok (.iaload, 1) := by decide +kernel
theorem dX13_shoot_81 : decode cX13_shoot 81 = .ok (.ldc 205, 2) := by decide +kernel
theorem dX13_shoot_83 : decode cX13_shoot 83 = .ok (.imul, 1) := by decide +kernel
theorem dX13_shoot_84 : decode cX13_shoot 84 = .ok (.sipush 12345, 3) := by decide +kernel
theorem dX13_shoot_87 : decode cX13_shoot 87 = .ok (.iadd, 1) := by decide +kernel
theorem dX13_shoot_88 : decode cX13_shoot 88 = .ok (.iastore, 1) := by decide +kernel
theorem dX13_shoot_89 : decode cX13_shoot 89 = .ok (.aload_n 0, 1) := by decide +kernel
theorem dX13_shoot_90 : decode cX13_shoot 90 = .ok (.getfield 13, 3) := by decide +kernel
theorem dX13_shoot_93 : decode cX13_shoot 93 = .ok (.bipush 84, 2) := by decide +kernel
theorem dX13_shoot_95 : decode cX13_shoot 95 = .ok (.iaload, 1) := by decide +kernel
theorem dX13_shoot_96 : decode cX13_shoot 96 = .ok (.bipush 16, 2) := by decide +kernel
theorem dX13_shoot_98 : decode cX13_shoot 98 = .ok (.ishr, 1) := by decide +kernel
theorem dX13_shoot_99 : decode cX13_shoot 99 = .ok (.ldc 206, 2) := by decide +kernel
theorem dX13_shoot_101 : decode cX13_shoot 101 = .ok (.iand, 1) := by decide +kernel
theorem dX13_shoot_102 : decode cX13_shoot 102 = .ok (.iconst 2, 1) := by decide +kernel
theorem dX13_shoot_103 : decode cX13_shoot 103 = .ok (.iload 4, 2) := by decide +kernel
theorem dX13_shoot_105 : decode cX13_shoot 105 = .ok (.imul, 1) := by decide +kernel
theorem dX13_shoot_106 : decode cX13_shoot 106 = .ok (.iconst 1, 1) := by decide +kernel
theorem dX13_shoot_107 : decode cX13_shoot 107 = .ok (.iadd, 1) := by decide +kernel
theorem dX13_shoot_108 : decode cX13_shoot 108 = .ok (.irem, 1) := by decide +kernel
theorem dX13_shoot_109 : decode cX13_shoot 109 = .ok (.istore 5, 2) := by decide +kernel
theorem dX13_shoot_111 : decode cX13_shoot 111 = .ok (.bipush 86, 2) := by decide +kernel
theorem dX13_shoot_113 : decode cX13_shoot 113 = .ok (.iconst 5, 1) := by decide +kernel
theorem dX13_shoot_114 : decode cX13_shoot 114 = .ok (.aload_n 0, 1) := by decide +kernel
theorem dX13_shoot_115 : decode cX13_shoot 115 = .ok (.getfield 13, 3) := by decide +kernel
theorem dX13_shoot_118 : decode cX13_shoot 118 = .ok (.bipush 85, 2) := by decide +kernel
theorem dX13_shoot_120 : decode cX13_shoot 120 = .ok (.iaload, 1) := by decide +kernel
theorem dX13_shoot_121 : decode cX13_shoot 121 = .ok (.imul, 1) := by decide +kernel
theorem dX13_shoot_122 : decode cX13_shoot 122 = .ok (.iadd, 1) := by decide +kernel
theorem dX13_shoot_123 : decode cX13_shoot 123 = .ok (.istore 6, 2) := by decide +kernel
theorem dX13_shoot_125 : decode cX13_shoot 125 = .ok (.aload_n 0, 1) := by decide +kernel
theorem dX13_shoot_126 : decode cX13_shoot 126 = .ok (.getfield 13, 3) := by decide +kernel
theorem dX13_shoot_129 : decode cX13_shoot 129 = .ok (.iload 6, 2) := by decide +kernel
theorem dX13_shoot_131 : decode cX13_shoot 131 = .ok (.iload_n 1, 1) := by decide +kernel
theorem dX13_shoot_132 : decode cX13_shoot 132 = .ok (.iastore, 1) := by decide +kernel
theorem dX13_shoot_133 : decode cX13_shoot 133 = .ok (.aload_n 0, 1) := by decide +kernel
theorem dX13_shoot_134 : decode cX13_shoot 134 = .ok (.getfield 13, 3) := by decide +kernel
theorem dX13_shoot_137 : decode cX13_shoot 137 = .ok (.iload 6, 2) := by decide +kernel
theorem dX13_shoot_139 : decode cX13_shoot 139 = .ok (.iconst 1, 1) := by decide +kernel
theorem dX13_shoot_140 : decode cX13_shoot 140 = .ok (.iadd, 1) := by decide +kernel
theorem dX13_shoot_141 : decode cX13_shoot 141 = .ok (.iload_n 2, 1) := by decide +kernel
theorem dX13_shoot_142 : decode cX13_shoot 142 = .ok (.iastore, 1) := by decide +kernel
theorem dX13_shoot_143 : decode cX13_shoot 143 = .ok (.aload_n 0, 1) := by decide +kernel
theorem dX13_shoot_144 : decode cX13_shoot 144 = .ok (.getfield 13, 3) := by decide +kernel
theorem dX13_shoot_147 : decode cX13_shoot 147 = .ok (.iload 6, 2) := by decide +kernel
theorem dX13_shoot_149 : decode cX13_shoot 149 = .ok (.iconst 2, 1) := by decide +kernel
theorem dX13_shoot_150 : decode cX13_shoot 150 = .ok (.iadd, 1) := by decide +kernel
theorem dX13_shoot_151 : decode cX13_shoot 151 = .ok (.iload_n 3, 1) := by decide +kernel
theorem dX13_shoot_152 : decode cX13_shoot 152 = .ok (.iastore, 1) := by decide +kernel
theorem dX13_shoot_153 : decode cX13_shoot 153 = .ok (.aload_n 0, 1) := by decide +kernel
theorem dX13_shoot_154 : decode cX13_shoot 154 = .ok (.getfield 13, 3) := by decide +kernel
theorem dX13_shoot_157 : decode cX13_shoot 157 = .ok (.iload 6, 2) := by decide +kernel
theorem dX13_shoot_159 : decode cX13_shoot 159 = .ok (.iconst 3, 1) := by decide +kernel
theorem dX13_shoot_160 : decode cX13_shoot 160 = .ok (.iadd, 1) := by decide +kernel
theorem dX13_shoot_161 : decode cX13_shoot 161 = .ok (.aload_n 0, 1) := by decide +kernel
theorem dX13_shoot_162 : decode cX13_shoot 162 = .ok (.getfield 183, 3) := by decide +kernel
theorem dX13_shoot_165 : decode cX13_shoot 165 = .ok (.aload_n 0, 1) := by decide +kernel
theorem dX13_shoot_166 : decode cX13_shoot 166 = .ok (.getfield 26, 3) := by decide +kernel
theorem dX13_shoot_169 : decode cX13_shoot 169 = .ok (.iconst 2, 1) := by decide +kernel
theorem dX13_shoot_170 : decode cX13_shoot 170 = .ok (.iload_n 3, 1) := by decide +kernel
theorem dX13_shoot_171 : decode cX13_shoot 171 = .ok (.imul, 1) := by decide +kernel
theorem dX13_shoot_172 : decode cX13_shoot 172 = .ok (.iaload, 1) := by decide +kernel
theorem dX13_shoot_173 : decode cX13_shoot 173 = .ok (.iadd, 1) := by decide +kernel
theorem dX13_shoot_174 : decode cX13_shoot 174 = .ok (.iload 5, 2) := by decide +kernel
theorem dX13_shoot_176 : decode cX13_shoot 176 = .ok (.iadd, 1) := by decide +kernel
theorem dX13_shoot_177 : decode cX13_shoot 177 = .ok (.iload 4, 2) := by decide +kernel
theorem dX13_shoot_179 : decode cX13_shoot 179 = .ok (.isub, 1) := by decide +kernel
theorem dX13_shoot_180 : decode cX13_shoot 180 = .ok (.iastore, 1) := by decide +kernel
theorem dX13_shoot_181 : decode cX13_shoot 181 = .ok (.aload_n 0, 1) := by decide +kernel
theorem dX13_shoot_182 : decode cX13_shoot 182 = .ok (.getfield 13, 3) := by decide +kernel
theorem dX13_shoot_185 : decode cX13_shoot 185 = .ok (.iload 6, 2) := by decide +kernel
theorem dX13_shoot_187 : decode cX13_shoot 187 = .ok (.iconst 4, 1) := by decide +kernel
theorem dX13_shoot_188 : decode cX13_shoot 188 = .ok (.iadd, 1) := by decide +kernel
theorem dX13_shoot_189 : decode cX13_shoot 189 = .ok (.aload_n 0, 1) := by decide +kernel
theorem dX13_shoot_190 : decode cX13_shoot 190 = .ok (.getfield 186, 3) := by decide +kernel
theorem dX13_shoot_193 : decode cX13_shoot 193 = .ok (.iastore, 1) := by decide +kernel
theorem dX13_shoot_194 : decode cX13_shoot 194 = .ok (.aload_n 0, 1) := by decide +kernel
theorem dX13_shoot_195 : decode cX13_shoot 195 = .ok (.getfield 13, 3) := by decide +kernel
theorem dX13_shoot_198 : decode cX13_shoot 198 = .ok (.bipush 85, 2) := by decide +kernel
theorem dX13_shoot_200 : decode cX13_shoot 200 = .ok (.dup2, 1) := by decide +kernel
theorem dX13_shoot_201 : decode cX13_shoot 201 = .ok (.iaload, 1) := by decide +kernel
theorem dX13_shoot_202 : decode cX13_shoot 202 = .ok (.iconst 1, 1) := by decide +kernel
theorem dX13_shoot_203 : decode cX13_shoot 203 = .ok (.iadd, 1) := by decide +kernel
theorem dX13_shoot_204 : decode cX13_shoot 204 = .ok (.iastore, 1) := by decide +kernel
theorem dX13_shoot_205 : decode cX13_shoot 205 = .ok (.aload_n 0, 1) := by decide +kernel
theorem dX13_shoot_206 : decode cX13_shoot 206 = .ok (.getfield 13, 3) := by decide +kernel
theorem dX13_shoot_209 : decode cX13_shoot 209 = .ok (.iload 6, 2) := by decide +kernel
theorem dX13_shoot_211 : decode cX13_shoot 211 = .ok (.iconst 3, 1) := by decide +kernel
theorem dX13_shoot_212 : decode cX13_shoot 212 = .ok (.iadd, 1) := by decide +kernel
theorem dX13_shoot_213 : decode cX13_shoot 213 = .ok (.iaload, 1) := by decide +kernel
theorem dX13_shoot_214 : decode cX13_shoot 214 = .ok (.ireturn, 1) := by decide +kernel
theorem dX13_shot_0 : decode cX13_shot 0 = .ok (.aload_n 0, 1) := by decide +kernel
theorem dX13_shot_1 : decode cX13_shot 1 = .ok (.iconst 0, 1) := by decide +kernel
theorem dX13_shot_2 : decode cX13_shot 2 = .ok (.putfield 53, 3) := by decide +kernel
theorem dX13_shot_5 : decode cX13_shot 5 = .ok (.iload_n 1, 1) := by decide +kernel
theorem dX13_shot_6 : decode cX13_shot 6 = .ok (.iconst 0, 1) := by decide +kernel
theorem dX13_shot_7 : decode cX13_shot 7 = .ok (.aload_n 0, 1) := by decide +kernel
theorem dX13_shot_8 : decode cX13_shot 8 = .ok (.getfield 13, 3) := by decide +kernel
theorem dX13_shot_11 : decode cX13_shot 11 = .ok (.bipush 85, 2) := by decide +kernel
theorem dX13_shot_13 : decode cX13_shot 13 = .ok (.iaload, 1) := by decide +kernel
theorem dX13_shot_14 : decode cX13_shot 14 = .ok (.iconst 1, 1) := by decide +kernel
theorem dX13_shot_15 : decode cX13_shot 15 = .ok (.isub, 1) := by decide +kernel
theorem dX13_shot_16 : decode cX13_shot 16 = .ok (.invokestatic 57, 3) := by decide +kernel
theorem dX13_shot_19 : decode cX13_shot 19 = .ok (.ifCond .eq 28, 3) := by decide +kernel
theorem dX13_shot_22 : decode cX13_shot 22 = .ok (.iload_n 2, 1) := by decide +kernel
theorem dX13_shot_23 : decode cX13_shot 23 = .ok (.iconst 0, 1) := by decide +kernel
theorem dX13_shot_24 : decode cX13_shot 24 = .ok (.iconst 4, 1) := by decide +kernel
theorem dX13_shot_25 : decode cX13_shot 25 = .ok (.invokestatic 57, 3) := by decide +kernel
theorem dX13_shot_28 : decode cX13_shot 28 = .ok (.ifCond .eq 19, 3) := by decide +kernel
theorem dX13_shot_31 : decode cX13_shot 31 = .ok (.aload_n 0, 1) := by decide +kernel
theorem dX13_shot_32 : decode cX13_shot 32 = .ok (.getfield 13, 3) := by decide +kernel
theorem dX13_shot_35 : decode cX13_shot 35 = .ok (.bipush 86, 2) := by decide +kernel
theorem dX13_shot_37 : decode cX13_shot 37 = .ok (.iconst 5, 1) := by decide +kernel
theorem dX13_shot_38 : decode cX13_shot 38 = .ok (.iload_n 1, 1) := by decide +kernel
theorem dX13_shot_39 : decode cX13_shot 39 = .ok (.imul, 1) := by decide +kernel
theorem dX13_shot_40 : decode cX13_shot 40 = .ok (.iadd, 1) := by decide +kernel
theorem dX13_shot_41 : decode cX13_shot 41 = .ok (.iload_n 2, 1) := by decide +kernel
theorem dX13_shot_42 : decode cX13_shot 42 = .ok (.iadd, 1) := by decide +kernel
theorem dX13_shot_43 : decode cX13_shot 43 = .ok (.iaload, 1) := by decide +kernel
theorem dX13_shot_44 : decode cX13_shot 44 = .ok (.goto 5, 3) := by decide +kernel
theorem dX13_shot_47 : decode cX13_shot 47 = .ok (.ldc 143, 2) := by decide +kernel
theorem dX13_shot_49 : decode cX13_shot 49 = .ok (.ireturn, 1) := by decide +kernel
theorem dX13_wipe_0 : decode cX13_wipe 0 = .ok (.aload_n 0, 1) := by decide +kernel
theorem dX13_wipe_1 : decode cX13_wipe 1 = .ok (.iconst 0, 1) := by decide +kernel
theorem dX13_wipe_2 : decode cX13_wipe 2 = .ok (.putfield 53, 3) := by decide +kernel
theorem dX13_wipe_5 : decode cX13_wipe 5 = .ok (.aload_n 0, 1) := by decide +kernel
theorem dX13_wipe_6 : decode cX13_wipe 6 = .ok (.getfield 13, 3) := by decide +kernel
theorem dX13_wipe_9 : decode cX13_wipe 9 = .ok (.bipush 85, 2) := by decide +kernel
theorem dX13_wipe_11 : decode cX13_wipe 11 = .ok (.iaload, 1) := by decide +kernel
theorem dX13_wipe_12 : decode cX13_wipe 12 = .ok (.istore_n 1, 1) := by decide +kernel
theorem dX13_wipe_13 : decode cX13_wipe 13 = .ok (.aload_n 0, 1) := by decide +kernel
theorem dX13_wipe_14 : decode cX13_wipe 14 = .ok (.getfield 13, 3) := by decide +kernel
theorem dX13_wipe_17 : decode cX13_wipe 17 = .ok (.bipush 85, 2) := by decide +kernel
theorem dX13_wipe_19 : decode cX13_wipe 19 = .ok (.iconst 0, 1) := by decide +kernel
theorem dX13_wipe_20 : decode cX13_wipe 20 = .ok (.iastore, 1) := by decide +kernel
theorem dX13_wipe_21 : decode cX13_wipe 21 = .ok (.iload_n 1, 1) := by decide +kernel
theorem dX13_wipe_22 : decode cX13_wipe 22 = .ok (.ireturn, 1) := by decide +kernel
theorem dX13_gcd_0 : decode cX13_gcd 0 = .ok (.lload_n 0, 1) := by decide +kernel
theorem dX13_gcd_1 : decode cX13_gcd 1 = .ok (.lconst 0, 1) := by decide +kernel
theorem dX13_gcd_2 : decode cX13_gcd 2 = .ok (.lcmp, 1) := by decide +kernel
theorem dX13_gcd_3 : decode cX13_gcd 3 = .ok (.ifCond .ge 8, 3) := by decide +kernel
theorem dX13_gcd_6 : decode cX13_gcd 6 = .ok (.lload_n 0, 1) := by decide +kernel
theorem dX13_gcd_7 : decode cX13_gcd 7 = .ok (.lneg, 1) := by decide +kernel
theorem dX13_gcd_8 : decode cX13_gcd 8 = .ok (.goto 4, 3) := by decide +kernel
theorem dX13_gcd_11 : decode cX13_gcd 11 = .ok (.lload_n 0, 1) := by decide +kernel
theorem dX13_gcd_12 : decode cX13_gcd 12 = .ok (.lstore 4, 2) := by decide +kernel
theorem dX13_gcd_14 : decode cX13_gcd 14 = .ok (.lload_n 2, 1) := by decide +kernel
theorem dX13_gcd_15 : decode cX13_gcd 15 = .ok (.lstore 6, 2) := by decide +kernel
theorem dX13_gcd_17 : decode cX13_gcd 17 = .ok (.lload 6, 2) := by decide +kernel
theorem dX13_gcd_19 : decode cX13_gcd 19 = .ok (.lconst 0, 1) := by decide +kernel
theorem dX13_gcd_20 : decode cX13_gcd 20 = .ok (.lcmp, 1) := by decide +kernel
theorem dX13_gcd_21 : decode cX13_gcd 21 = .ok (.ifCond .eq 21, 3) := by decide +kernel
theorem dX13_gcd_24 : decode cX13_gcd 24 = .ok (.lload 4, 2) := by decide +kernel
theorem dX13_gcd_26 : decode cX13_gcd 26 = .ok (.lload 6, 2) := by decide +kernel
theorem dX13_gcd_28 : decode cX13_gcd 28 = .ok (.lrem, 1) := by decide +kernel
theorem dX13_gcd_29 : decode cX13_gcd 29 = .ok (.lstore 8, 2) := by decide +kernel
theorem dX13_gcd_31 : decode cX13_gcd 31 = .ok (.lload 6, 2) := by decide +kernel
theorem dX13_gcd_33 : decode cX13_gcd 33 = .ok (.lstore 4, 2) := by decide +kernel
theorem dX13_gcd_35 : decode cX13_gcd 35 = .ok (.lload 8, 2) := by decide +kernel
theorem dX13_gcd_37 : decode cX13_gcd 37 = .ok (.lstore 6, 2) := by decide +kernel
theorem dX13_gcd_39 : decode cX13_gcd 39 = .ok (.goto (-22), 3) := by decide +kernel
theorem dX13_gcd_42 : decode cX13_gcd 42 = .ok (.lload 4, 2) := by decide +kernel
theorem dX13_gcd_44 : decode cX13_gcd 44 = .ok (.lreturn, 1) := by decide +kernel
theorem dX13_adds_0 : decode cX13_adds 0 = .ok (.aload_n 0, 1) := by decide +kernel
theorem dX13_adds_1 : decode cX13_adds 1 = .ok (.getfield 207, 3) := by decide +kernel
theorem dX13_adds_4 : decode cX13_adds 4 = .ok (.lload_n 3, 1) := by decide +kernel
theorem dX13_adds_5 : decode cX13_adds 5 = .ok (.invokestatic 211, 3) := by decide +kernel
theorem dX13_adds_8 : decode cX13_adds 8 = .ok (.lstore 5, 2) := by decide +kernel
theorem dX13_adds_10 : decode cX13_adds 10 = .ok (.aload_n 0, 1) := by decide +kernel
theorem dX13_adds_11 : decode cX13_adds 11 = .ok (.aload_n 0, 1) := by decide +kernel
theorem dX13_adds_12 : decode cX13_adds 12 = .ok (.getfield 215, 3) := by decide +kernel
theorem dX13_adds_15 : decode cX13_adds 15 = .ok (.lload_n 3, 1) := by decide +kernel
theorem dX13_adds_16 : decode cX13_adds 16 = .ok (.lload 5, 2) := by decide +kernel
theorem dX13_adds_18 : decode cX13_adds 18 = .ok (.ldiv, 1) := by decide +kernel
theorem dX13_adds_19 : decode cX13_adds 19 = .ok (.lmul, 1) := by decide +kernel
theorem dX13_adds_20 : decode cX13_adds 20 = .ok (.lload_n 1, 1) := by decide +kernel
theorem dX13_adds_21 : decode cX13_adds 21 = .ok (.aload_n 0, 1) := by decide +kernel
theorem dX13_adds_22 : decode cX13_adds 22 = .ok (.getfield 207, 3) := by decide +kernel
theorem dX13_adds_25 : decode cX13_adds 25 = .ok (.lload 5, 2) := by decide +kernel
theorem dX13_adds_27 : decode cX13_adds 27 = .ok (.ldiv, 1) := by decide +kernel
theorem dX13_adds_28 : decode cX13_adds 28 = .ok (.lmul, 1) := by decide +kernel
theorem dX13_adds_29 : decode cX13_adds 29 = .ok (.ladd, 1) := by decide +kernel
theorem dX13_adds_30 : decode cX13_adds 30 = .ok (.putfield 215, 3) := by decide +kernel
theorem dX13_adds_33 : decode cX13_adds 33 = .ok (.aload_n 0, 1) := by decide +kernel
theorem dX13_adds_34 : decode cX13_adds 34 = .ok (.aload_n 0, 1) := by decide +kernel
theorem dX13_adds_35 : decode cX13_adds 35 = .ok (.getfield 207, 3) := by decide +kernel
theorem dX13_adds_38 : decode cX13_adds 38 = .ok (.lload 5, 2) := by decide +kernel
theorem dX13_adds_40 : decode cX13_adds 40 = .ok (.ldiv, 1) := by decide +kernel
theorem dX13_adds_41 : decode cX13_adds 41 = .ok (.lload_n 3, 1) := by decide +kernel
theorem dX13_adds_42 : decode cX13_adds 42 = .ok (.lmul, 1) := by decide +kernel
theorem dX13_adds_43 : decode cX13_adds 43 = .ok (.putfield 207, 3) := by decide +kernel
theorem dX13_adds_46 : decode cX13_adds 46 = .ok (.aload_n 0, 1) := by decide +kernel
theorem dX13_adds_47 : decode cX13_adds 47 = .ok (.getfield 215, 3) := by decide +kernel
theorem dX13_adds_50 : decode cX13_adds 50 = .ok (.aload_n 0, 1) := by decide +kernel
theorem dX13_adds_51 : decode cX13_adds 51 = .ok (.getfield 207, 3) := by decide +kernel
theorem dX13_adds_54 : decode cX13_adds 54 = .ok (.invokestatic 211, 3) := by decide +kernel
theorem dX13_adds_57 : decode cX13_adds 57 = .ok (.lstore 5, 2) := by decide +kernel
theorem dX13_adds_59 : decode cX13_adds 59 = .ok (.aload_n 0, 1) := by decide +kernel
theorem dX13_adds_60 : decode cX13_adds 60 = .ok (.dup, 1) := by decide +kernel
theorem dX13_adds_61 : decode cX13_adds 61 = .ok (.getfield 215, 3) := by decide +kernel
theorem dX13_adds_64 : decode cX13_adds 64 = .ok (.lload 5, 2) := by decide +kernel
theorem dX13_adds_66 : decode cX13_adds 66 = .ok (.ldiv, 1) := by decide +kernel
theorem dX13_adds_67 : decode cX13_adds 67 = .ok (.putfield 215, 3) := by decide +kernel
theorem dX13_adds_70 : decode cX13_adds 70 = .ok (.aload_n 0, 1) := by decide +kernel
theorem dX13_adds_71 : decode cX13_adds 71 = .ok (.dup, 1) := by decide +kernel
theorem dX13_adds_72 : decode cX13_adds 72 = .ok (.getfield 207, 3) := by decide +kernel
theorem dX13_adds_75 : decode cX13_adds 75 = .ok (.lload 5, 2) := by decide +kernel
theorem dX13_adds_77 : decode cX13_adds 77 = .ok (.ldiv, 1) := by decide +kernel
theorem dX13_adds_78 : decode cX13_adds 78 = .ok (.putfield 207, 3) := by decide +kernel
theorem dX13_adds_81 : decode cX13_adds 81 = .ok (.return_, 1) := by decide +kernel
theorem dX13_parts_0 : decode cX13_parts 0 = .ok (.aload_n 0, 1) := by decide +kernel
theorem dX13_parts_1 : decode cX13_parts 1 = .ok (.lconst 0, 1) := by decide +kernel
theorem dX13_parts_2 : decode cX13_parts 2 = .ok (.putfield 215, 3) := by decide +kernel
theorem dX13_parts_5 : decode cX13_parts 5 = .ok (.aload_n 0, 1) := by decide +kernel
theorem dX13_parts_6 : decode cX13_parts 6 = .ok (.lconst 1, 1) := by decide +kernel
theorem dX13_parts_7 : decode cX13_parts 7 = .ok (.putfield 207, 3) := by decide +kernel
theorem dX13_parts_10 : decode cX13_parts 10 = .ok (.iload_n 1, 1) := by decide +kernel
theorem dX13_parts_11 : decode cX13_parts 11 = .ok (.ifCond .ne 7, 3) := by decide +kernel
theorem dX13_parts_14 : decode cX13_parts 14 = .ok (.iconst 0, 1) := by decide +kernel
theorem dX13_parts_15 : decode cX13_parts 15 = .ok (.goto 13, 3) := by decide +kernel
theorem dX13_parts_18 : decode cX13_parts 18 = .ok (.iload_n 1, 1) := by decide +kernel
theorem dX13_parts_19 : decode cX13_parts 19 = .ok (.iconst 1, 1) := by decide +kernel
theorem dX13_parts_20 : decode cX13_parts 20 = .ok (.if_icmp .ne 7, 3) := by decide +kernel
theorem dX13_parts_23 : decode cX13_parts 23 = .ok (.iconst 2, 1) := by decide +kernel
theorem dX13_parts_24 : decode cX13_parts 24 = .ok (.goto 4, 3) := by decide +kernel
theorem dX13_parts_27 : decode cX13_parts 27 = .ok (.iconst 1, 1) := by decide +kernel
theorem dX13_parts_28 : decode cX13_parts 28 = .ok (.istore_n 2, 1) := by decide +kernel
theorem dX13_parts_29 : decode cX13_parts 29 = .ok (.iconst 0, 1) := by decide +kernel
theorem dX13_parts_30 : decode cX13_parts 30 = .ok (.istore_n 3, 1) := by decide +kernel
theorem dX13_parts_31 : decode cX13_parts 31 = .ok (.iload_n 3, 1) := by decide +kernel
theorem dX13_parts_32 : decode cX13_parts 32 = .ok (.bipush 12, 2) := by decide +kernel
theorem dX13_parts_34 : decode cX13_parts 34 = .ok (.if_icmp .ge 98, 3) := by decide +kernel
theorem dX13_parts_37 : decode cX13_parts 37 = .ok (.lconst 0, 1) := by decide +kernel
theorem dX13_parts_38 : decode cX13_parts 38 = .ok (.lstore 4, 2) := by decide +kernel
theorem dX13_parts_40 : decode cX13_parts 40 = .ok (.lconst 0, 1) := by decide +kernel
theorem dX13_parts_41 : decode cX13_parts 41 = .ok (.lstore 6, 2) := by decide +kernel
theorem dX13_parts_43 : decode cX13_parts 43 = .ok (.iconst 0, 1) := by decide +kernel
theorem dX13_parts_44 : decode cX13_parts 44 = .ok (.istore 8, 2) := by decide +kernel
theorem dX13_parts_46 : decode cX13_parts 46 = .ok (.iload 8, 2) := by decide +kernel
theorem dX13_parts_48 : decode cX13_parts 48 = .ok (.aload_n 0, 1) := by decide +kernel
theorem dX13_parts_49 : decode cX13_parts 49 = .ok (.getfield 13, 3) := by decide +kernel
theorem dX13_parts_52 : decode cX13_parts 52 = .ok (.bipush 85, 2) := by decide +kernel
theorem dX13_parts_54 : decode cX13_parts 54 = .ok (.iaload, 1) := by decide +kernel
theorem dX13_parts_55 : decode cX13_parts 55 = .ok (.if_icmp .ge 53, 3) := by decide +kernel
theorem dX13_parts_58 : decode cX13_parts 58 = .ok (.aload_n 0, 1) := by decide +kernel
theorem dX13_parts_59 : decode cX13_parts 59 = .ok (.getfield 13, 3) := by decide +kernel
theorem dX13_parts_62 : decode cX13_parts 62 = .ok (.bipush 86, 2) := by decide +kernel
theorem dX13_parts_64 : decode cX13_parts 64 = .ok (.iconst 5, 1) := by decide +kernel
theorem dX13_parts_65 : decode cX13_parts 65 = .ok (.iload 8, 2) := by decide +kernel
theorem dX13_parts_67 : decode cX13_parts 67 = .ok (.imul, 1) := by decide +kernel
theorem dX13_parts_68 : decode cX13_parts 68 = .ok (.iadd, 1) := by decide +kernel
theorem dX13_parts_69 : decode cX13_parts 69 = .ok (.iload_n 2, 1) := by decide +kernel
theorem dX13_parts_70 : decode cX13_parts 70 = .ok (.iadd, 1) := by decide +kernel
theorem dX13_parts_71 : decode cX13_parts 71 = .ok (.iaload, 1) := by decide +kernel
theorem dX13_parts_72 : decode cX13_parts 72 = .ok (.iload_n 3, 1) := by decide +kernel
theorem dX13_parts_73 : decode cX13_parts 73 = .ok (.if_icmp .ne 29, 3) := by decide +kernel
theorem dX13_parts_76 : decode cX13_parts 76 = .ok (.lload 4, 2) := by decide +kernel
theorem dX13_parts_78 : decode cX13_parts 78 = .ok (.aload_n 0, 1) := by decide +kernel
theorem dX13_parts_79 : decode cX13_parts 79 = .ok (.getfield 13, 3) := by decide +kernel
theorem dX13_parts_82 : decode cX13_parts 82 = .ok (.bipush 86, 2) := by decide +kernel
theorem dX13_parts_84 : decode cX13_parts 84 = .ok (.iconst 5, 1) := by decide +kernel
theorem dX13_parts_85 : decode cX13_parts 85 = .ok (.iload 8, 2) := by decide +kernel
theorem dX13_parts_87 : decode cX13_parts 87 = .ok (.imul, 1) := by decide +kernel
theorem dX13_parts_88 : decode cX13_parts 88 = .ok (.iadd, 1) := by decide +kernel
theorem dX13_parts_89 : decode cX13_parts 89 = .ok (.iconst 3, 1) := by decide +kernel
theorem dX13_parts_90 : decode cX13_parts 90 = .ok (.iadd, 1) := by decide +kernel
theorem dX13_parts_91 : decode cX13_parts 91 = .ok (.iaload, 1) := by decide +kernel
theorem dX13_parts_92 : decode cX13_parts 92 = .ok (.i2l, 1) := by decide +kernel
theorem dX13_parts_93 : decode cX13_parts 93 = .ok (.ladd, 1) := by decide +kernel
theorem dX13_parts_94 : decode cX13_parts 94 = .ok (.lstore 4, 2) := by decide +kernel
theorem dX13_parts_96 : decode cX13_parts 96 = .ok (.lload 6, 2) := by decide +kernel
theorem dX13_parts_98 : decode cX13_parts 98 = .ok (.lconst 1, 1) := by decide +kernel
theorem dX13_parts_99 : decode cX13_parts 99 = .ok (.ladd, 1) := by decide +kernel
theorem dX13_parts_100 : decode cX13_parts 100 = .ok (.lstore 6, 2) := by decide +kernel
theorem dX13_parts_102 : decode cX13_parts 102 = .ok (.iinc 8 1, 3) := by decide +kernel
theorem dX13_parts_105 : decode cX13_parts 105 = .ok (.goto (-59), 3) := by decide +kernel
theorem dX13_parts_108 : decode cX13_parts 108 = .ok (.lload 6, 2) := by decide +kernel
theorem dX13_parts_110 : decode cX13_parts 110 = .ok (.lconst 0, 1) := by decide +kernel
theorem dX13_parts_111 : decode cX13_parts 111 = .ok (.lcmp, 1) := by decide +kernel
theorem dX13_parts_112 : decode cX13_parts 112 = .ok (.ifCond .le 14, 3) := by decide +kernel
theorem dX13_parts_115 : decode cX13_parts 115 = .ok (.aload_n 0, 1) := by decide +kernel
theorem dX13_parts_116 : decode cX13_parts 116 = .ok (.lload 4, 2) := by decide +kernel
theorem dX13_parts_118 : decode cX13_parts 118 = .ok (.lload 4, 2) := by decide +kernel
theorem dX13_parts_120 : decode cX13_parts 120 = .ok (.lmul, 1) := by decide +kernel
theorem dX13_parts_121 : decode cX13_parts 121 = .ok (.lload 6, 2) := by decide +kernel
theorem dX13_parts_123 : decode cX13_parts 123 = .ok (.invokevirtual 218, 3) := by decide +kernel
theorem dX13_parts_126 : decode cX13_parts 126 = .ok (.iinc 3 1, 3) := by decide +kernel
theorem dX13_parts_129 : decode cX13_parts 129 = .ok (.goto (-98), 3) := by decide +kernel
theorem dX13_parts_132 : decode cX13_parts 132 = .ok (.return_, 1) := by decide +kernel
theorem dX13_parted_0 : decode cX13_parted 0 = .ok (.aload_n 0, 1) := by decide +kernel
theorem dX13_parted_1 : decode cX13_parted 1 = .ok (.iconst 0, 1) := by decide +kernel
theorem dX13_parted_2 : decode cX13_parted 2 = .ok (.putfield 53, 3) := by decide +kernel
theorem dX13_parted_5 : decode cX13_parted 5 = .ok (.aload_n 0, 1) := by decide +kernel
theorem dX13_parted_6 : decode cX13_parted 6 = .ok (.getfield 13, 3) := by decide +kernel
theorem dX13_parted_9 : decode cX13_parted 9 = .ok (.bipush 85, 2) := by decide +kernel
theorem dX13_parted_11 : decode cX13_parted 11 = .ok (.iaload, 1) := by decide +kernel
theorem dX13_parted_12 : decode cX13_parted 12 = .ok (.ifCond .ne 6, 3) := by decide +kernel
theorem dX13_parted_15 : decode cX13_parted 15 = .ok (.bipush (-9), 2) := by decide +kernel
theorem dX13_parted_17 : decode cX13_parted 17 = .ok (.ireturn, 1) := by decide +kernel
theorem dX13_parted_18 : decode cX13_parted 18 = .ok (.iconst 0, 1) := by decide +kernel
theorem dX13_parted_19 : decode cX13_parted 19 = .ok (.istore_n 1, 1) := by decide +kernel
theorem dX13_parted_20 : decode cX13_parted 20 = .ok (.aload_n 0, 1) := by decide +kernel
theorem dX13_parted_21 : decode cX13_parted 21 = .ok (.iconst 0, 1) := by decide +kernel
theorem dX13_parted_22 : decode cX13_parted 22 = .ok (.invokevirtual 222, 3) := by decide +kernel
theorem dX13_parted_25 : decode cX13_parted 25 = .ok (.aload_n 0, 1) := by decide +kernel
theorem dX13_parted_26 : decode cX13_parted 26 = .ok (.getfield 215, 3) := by decide +kernel
theorem dX13_parted_29 : decode cX13_parted 29 = .ok (.lstore_n 2, 1) := by decide +kernel
theorem dX13_parted_30 : decode cX13_parted 30 = .ok (.aload_n 0, 1) := by decide +kernel
theorem dX13_parted_31 : decode cX13_parted 31 = .ok (.getfield 207, 3) := by decide +kernel
theorem dX13_parted_34 : decode cX13_parted 34 = .ok (.lstore 4, 2) := by decide +kernel
theorem dX13_parted_36 : decode cX13_parted 36 = .ok (.iconst 1, 1) := by decide +kernel
theorem dX13_parted_37 : decode cX13_parted 37 = .ok (.istore 6, 2) := by decide +kernel
theorem dX13_parted_39 : decode cX13_parted 39 = .ok (.iload 6, 2) := by decide +kernel
theorem dX13_parted_41 : decode cX13_parted 41 = .ok (.iconst 3, 1) := by decide +kernel
theorem dX13_parted_42 : decode cX13_parted 42 = .ok (.if_icmp .ge 54, 3) := by decide +kernel
theorem dX13_parted_45 : decode cX13_parted 45 = .ok (.aload_n 0, 1) := by decide +kernel
theorem dX13_parted_46 : decode cX13_parted 46 = .ok (.iload 6, 2) := by decide +kernel
theorem dX13_parted_48 : decode cX13_parted 48 = .ok (.invokevirtual 222, 3) := by decide +kernel
theorem dX13_parted_51 : decode cX13_parted 51 = .ok (.aload_n 0, 1) := by decide +kernel
theorem dX13_parted_52 : decode cX13_parted 52 = .ok (.getfield 215, 3) := by decide +kernel
theorem dX13_parted_55 : decode cX13_parted 55 = .ok (.lstore 7, 2) := by decide +kernel
theorem dX13_parted_57 : decode cX13_parted 57 = .ok (.aload_n 0, 1) := by decide +kernel
theorem dX13_parted_58 : decode cX13_parted 58 = .ok (.getfield 207, 3) := by decide +kernel
theorem dX13_parted_61 : decode cX13_parted 61 = .ok (.lstore 9, 2) := by decide +kernel
theorem dX13_parted_63 : decode cX13_parted 63 = .ok (.aload_n 0, 1) := by decide +kernel
theorem dX13_parted_64 : decode cX13_parted 64 = .ok (.lload_n 2, 1) := by decide +kernel
theorem dX13_parted_65 : decode cX13_parted 65 = .ok (.lneg, 1) := by decide +kernel
theorem dX13_parted_66 : decode cX13_parted 66 = .ok (.lload 4, 2) := by decide +kernel
theorem dX13_parted_68 : decode cX13_parted 68 = .ok (.invokevirtual 218, 3) := by decide +kernel
theorem dX13_parted_71 : decode cX13_parted 71 = .ok (.aload_n 0, 1) := by decide +kernel
theorem dX13_parted_72 : decode cX13_parted 72 = .ok (.getfield 215, 3) := by decide +kernel
theorem dX13_parted_75 : decode cX13_parted 75 = .ok (.lconst 0, 1) := by decide +kernel
theorem dX13_parted_76 : decode cX13_parted 76 = .ok (.lcmp, 1) := by decide +kernel
theorem dX13_parted_77 : decode cX13_parted 77 = .ok (.ifCond .le 13, 3) := by decide +kernel
theorem dX13_parted_80 : decode cX13_parted 80 = .ok (.iload 6, 2) := by decide +kernel
theorem dX13_parted_82 : decode cX13_parted 82 = .ok (.istore_n 1, 1) := by decide +kernel
theorem dX13_parted_83 : decode cX13_parted 83 = .ok (.lload 7, 2) := by decide +kernel
theorem dX13_parted_85 : decode cX13_parted 85 = .ok (.lstore_n 2, 1) := by decide +kernel
theorem dX13_parted_86 : decode cX13_parted 86 = .ok (.lload 9, 2) := by decide +kernel
theorem dX13_parted_88 : decode cX13_parted 88 = .ok (.lstore 4, 2) := by decide +kernel
theorem dX13_parted_90 : decode cX13_parted 90 = .ok (.iinc 6 1, 3) := by decide +kernel
theorem dX13_parted_93 : decode cX13_parted 93 = .ok (.goto (-54), 3) := by decide +kernel
theorem dX13_parted_96 : decode cX13_parted 96 = .ok (.iload_n 1, 1) := by decide +kernel
theorem dX13_parted_97 : decode cX13_parted 97 = .ok (.ireturn, 1) := by decide +kernel
theorem dX13_spread_0 : decode cX13_spread 0 = .ok (.aload_n 0, 1) := by decide +kernel
theorem dX13_spread_1 : decode cX13_spread 1 = .ok (.iconst 0, 1) := by decide +kernel
theorem dX13_spread_2 : decode cX13_spread 2 = .ok (.putfield 53, 3) := by decide +kernel
theorem dX13_spread_5 : decode cX13_spread 5 = .ok (.aload_n 0, 1) := by decide +kernel
theorem dX13_spread_6 : decode cX13_spread 6 = .ok (.iload_n 1, 1) := by decide +kernel
theorem dX13_spread_7 : decode cX13_spread 7 = .ok (.invokevirtual 136, 3) := by decide +kernel
theorem dX13_spread_10 : decode cX13_spread 10 = .ok (.ifCond .ne 5, 3) := by decide +kernel
theorem dX13_spread_13 : decode cX13_spread 13 = .ok (.iconst (-1), 1) := by decide +kernel
theorem dX13_spread_14 : decode cX13_spread 14 = .ok (.ireturn, 1) := by decide +kernel
theorem dX13_spread_15 : decode cX13_spread 15 = .ok (.iconst 0, 1) := by decide +kernel
theorem dX13_spread_16 : decode cX13_spread 16 = .ok (.istore_n 2, 1) := by decide +kernel
theorem dX13_spread_17 : decode cX13_spread 17 = .ok (.iconst 0, 1) := by decide +kernel
theorem dX13_spread_18 : decode cX13_spread 18 = .ok (.istore_n 3, 1) := by decide +kernel
theorem dX13_spread_19 : decode cX13_spread 19 = .ok (.iconst 0, 1) := by decide +kernel
theorem dX13_spread_20 : decode cX13_spread 20 = .ok (.istore 4, 2) := by decide +kernel
theorem dX13_spread_22 : decode cX13_spread 22 = .ok (.iconst 0, 1) := by decide +kernel
theorem dX13_spread_23 : decode cX13_spread 23 = .ok (.istore 5, 2) := by decide +kernel
theorem dX13_spread_25 : decode cX13_spread 25 = .ok (.iload 5, 2) := by decide +kernel
theorem dX13_spread_27 : decode cX13_spread 27 = .ok (.aload_n 0, 1) := by decide +kernel
theorem dX13_spread_28 : decode cX13_spread 28 = .ok (.getfield 13, 3) := by decide +kernel
theorem dX13_spread_31 : decode cX13_spread 31 = .ok (.bipush 85, 2) := by decide +kernel
theorem dX13_spread_33 : decode cX13_spread 33 = .ok (.iaload, 1) := by decide +kernel
theorem dX13_spread_34 : decode cX13_spread 34 = .ok (.if_icmp .ge 81, 3) := by decide +kernel
theorem dX13_spread_37 : decode cX13_spread 37 = .ok (.aload_n 0, 1) := by decide +kernel
theorem dX13_spread_38 : decode cX13_spread 38 = .ok (.getfield 13, 3) := by decide +kernel
theorem dX13_spread_41 : decode cX13_spread 41 = .ok (.bipush 86, 2) := by decide +kernel
theorem dX13_spread_43 : decode cX13_spread 43 = .ok (.iconst 5, 1) := by decide +kernel
theorem dX13_spread_44 : decode cX13_spread 44 = .ok (.iload 5, 2) := by decide +kernel
theorem dX13_spread_46 : decode cX13_spread 46 = .ok (.imul, 1) := by decide +kernel
theorem dX13_spread_47 : decode cX13_spread 47 = .ok (.iadd, 1) := by decide +kernel
theorem dX13_spread_48 : decode cX13_spread 48 = .ok (.iconst 3, 1) := by decide +kernel
theorem dX13_spread_49 : decode cX13_spread 49 = .ok (.iadd, 1) := by decide +kernel
theorem dX13_spread_50 : decode cX13_spread 50 = .ok (.iaload, 1) := by decide +kernel
theorem dX13_spread_51 : decode cX13_spread 51 = .ok (.istore 6, 2) := by decide +kernel
theorem dX13_spread_53 : decode cX13_spread 53 = .ok (.aload_n 0, 1) := by decide +kernel
theorem dX13_spread_54 : decode cX13_spread 54 = .ok (.getfield 13, 3) := by decide +kernel
theorem dX13_spread_57 : decode cX13_spread 57 = .ok (.bipush 86, 2) := by decide +kernel
theorem dX13_spread_59 : decode cX13_spread 59 = .ok (.iconst 5, 1) := by decide +kernel
theorem dX13_spread_60 : decode cX13_spread 60 = .ok (.iload 5, 2) := by decide +kernel
theorem dX13_spread_62 : decode cX13_spread 62 = .ok (.imul, 1) := by decide +kernel
theorem dX13_spread_63 : decode cX13_spread 63 = .ok (.iadd, 1) := by decide +kernel
theorem dX13_spread_64 : decode cX13_spread 64 = .ok (.iaload, 1) := by decide +kernel
theorem dX13_spread_65 : decode cX13_spread 65 = .ok (.iload_n 1, 1) := by decide +kernel
theorem dX13_spread_66 : decode cX13_spread 66 = .ok (.if_icmp .ne 43, 3) := by decide +kernel
theorem dX13_spread_69 : decode cX13_spread 69 = .ok (.iload_n 2, 1) := by decide +kernel
theorem dX13_spread_70 : decode cX13_spread 70 = .ok (.ifCond .eq 9, 3) := by decide +kernel
theorem dX13_spread_73 : decode cX13_spread 73 = .ok (.iload 6, 2) := by decide +kernel
theorem dX13_spread_75 : decode cX13_spread 75 = .ok (.iload_n 3, 1) := by decide +kernel
theorem dX13_spread_76 : decode cX13_spread 76 = .ok (.if_icmp .ge 8, 3) := by decide +kernel
theorem dX13_spread_79 : decode cX13_spread 79 = .ok (.iload 6, 2) := by decide +kernel
theorem dX13_spread_81 : decode cX13_spread 81 = .ok (.goto 4, 3) := by decide +kernel
theorem dX13_spread_84 : decode cX13_spread 84 = .ok (.iload_n 3, 1) := by decide +kernel
theorem dX13_spread_85 : decode cX13_spread 85 = .ok (.istore_n 3, 1) := by decide +kernel
theorem dX13_spread_86 : decode cX13_spread 86 = .ok (.iload_n 2, 1) := by decide +kernel
theorem dX13_spread_87 : decode cX13_spread 87 = .ok (.ifCond .eq 10, 3) := by decide +kernel
theorem dX13_spread_90 : decode cX13_spread 90 = .ok (.iload 6, 2) := by decide +kernel
theorem dX13_spread_92 : decode cX13_spread 92 = .ok (.iload 4, 2) := by decide +kernel
theorem dX13_spread_94 : decode cX13_spread 94 = .ok (.if_icmp .le 8, 3) := by decide +kernel
theorem dX13_spread_97 : decode cX13_spread 97 = .ok (.iload 6, 2) := by decide +kernel
theorem dX13_spread_99 : decode cX13_spread 99 = .ok (.goto 5, 3) := by decide +kernel
theorem dX13_spread_102 : decode cX13_spread 102 = .ok (.iload 4, 2) := by decide +kernel
theorem dX13_spread_104 : decode cX13_spread 104 = .ok (.istore 4, 2) := by decide +kernel
theorem dX13_spread_106 : decode cX13_spread 106 = .ok (.iinc 2 1, 3) := by decide +kernel
theorem dX13_spread_109 : decode cX13_spread 109 = .ok (.iinc 5 1, 3) := by decide +kernel
theorem dX13_spread_112 : decode cX13_spread 112 = .ok (.goto (-87), 3) := by decide +kernel
theorem dX13_spread_115 : decode cX13_spread 115 = .ok (.iload_n 2, 1) := by decide +kernel
theorem dX13_spread_116 : decode cX13_spread 116 = .ok (.ifCond .ne 8, 3) := by decide +kernel
theorem dX13_spread_119 : decode cX13_spread 119 = .ok (.bipush (-9), 2) := by decide +kernel
theorem dX13_spread_121 : decode cX13_spread 121 = .ok (.goto 7, 3) := by decide +kernel
theorem dX13_spread_124 : decode cX13_spread 124 = .ok (.iload 4, 2) := by decide +kernel
theorem dX13_spread_126 : decode cX13_spread 126 = .ok (.iload_n 3, 1) := by decide +kernel
theorem dX13_spread_127 : decode cX13_spread 127 = .ok (.isub, 1) := by decide +kernel
theorem dX13_spread_128 : decode cX13_spread 128 = .ok (.ireturn, 1) := by decide +kernel
theorem dX13_out_0 : decode cX13_out 0 = .ok (.aload_n 0, 1) := by decide +kernel
theorem dX13_out_1 : decode cX13_out 1 = .ok (.iconst 0, 1) := by decide +kernel
theorem dX13_out_2 : decode cX13_out 2 = .ok (.putfield 53, 3) := by decide +kernel
theorem dX13_out_5 : decode cX13_out 5 = .ok (.aload_n 0, 1) := by decide +kernel
theorem dX13_out_6 : decode cX13_out 6 = .ok (.iload_n 1, 1) := by decide +kernel
theorem dX13_out_7 : decode cX13_out 7 = .ok (.invokevirtual 136, 3) := by decide +kernel
theorem dX13_out_10 : decode cX13_out 10 = .ok (.ifCond .eq 13, 3) := by decide +kernel
theorem dX13_out_13 : decode cX13_out 13 = .ok (.iload_n 2, 1) := by decide +kernel
theorem dX13_out_14 : decode cX13_out 14 = .ok (.iconst 0, 1) := by decide +kernel
theorem dX13_out_15 : decode cX13_out 15 = .ok (.bipush 99, 2) := by decide +kernel
theorem dX13_out_17 : decode cX13_out 17 = .ok (.invokestatic 57, 3) := by decide +kernel
theorem dX13_out_20 : decode cX13_out 20 = .ok (.ifCond .ne 5, 3) := by decide +kernel
theorem dX13_out_23 : decode cX13_out 23 = .ok (.iconst (-1), 1) := by decide +kernel
theorem dX13_out_24 : decode cX13_out 24 = .ok (.ireturn, 1) := by decide +kernel
theorem dX13_out_25 : decode cX13_out 25 = .ok (.iconst 0, 1) := by decide +kernel
theorem dX13_out_26 : decode cX13_out 26 = .ok (.istore_n 3, 1) := by decide +kernel
theorem dX13_out_27 : decode cX13_out 27 = .ok (.iconst 0, 1) := by decide +kernel
theorem dX13_out_28 : decode cX13_out 28 = .ok (.istore 4, 2) := by decide +kernel
theorem dX13_out_30 : decode cX13_out 30 = .ok (.iconst 0, 1) := by decide +kernel
theorem dX13_out_31 : decode cX13_out 31 = .ok (.istore 5, 2) := by decide +kernel
theorem dX13_out_33 : decode cX13_out 33 = .ok (.iconst 0, 1) := by decide +kernel
theorem dX13_out_34 : decode cX13_out 34 = .ok (.istore 6, 2) := by decide +kernel
theorem dX13_out_36 : decode cX13_out 36 = .ok (.iconst 0, 1) := by decide +kernel
theorem dX13_out_37 : decode cX13_out 37 = .ok (.istore 7, 2) := by decide +kernel
theorem dX13_out_39 : decode cX13_out 39 = .ok (.iload 7, 2) := by decide +kernel
theorem dX13_out_41 : decode cX13_out 41 = .ok (.aload_n 0, 1) := by decide +kernel
theorem dX13_out_42 : decode cX13_out 42 = .ok (.getfield 13, 3) := by decide +kernel
theorem dX13_out_45 : decode cX13_out 45 = .ok (.bipush 85, 2) := by decide +kernel
theorem dX13_out_47 : decode cX13_out 47 = .ok (.iaload, 1) := by decide +kernel
theorem dX13_out_48 : decode cX13_out 48 = .ok (.if_icmp .ge 116, 3) := by decide +kernel
theorem dX13_out_51 : decode cX13_out 51 = .ok (.aload_n 0, 1) := by decide +kernel
theorem dX13_out_52 : decode cX13_out 52 = .ok (.getfield 13, 3) := by decide +kernel
theorem dX13_out_55 : decode cX13_out 55 = .ok (.bipush 86, 2) := by decide +kernel
theorem dX13_out_57 : decode cX13_out 57 = .ok (.iconst 5, 1) := by decide +kernel
theorem dX13_out_58 : decode cX13_out 58 = .ok (.iload 7, 2) := by decide +kernel
theorem dX13_out_60 : decode cX13_out 60 = .ok (.imul, 1) := by decide +kernel
theorem dX13_out_61 : decode cX13_out 61 = .ok (.iadd, 1) := by decide +kernel
theorem dX13_out_62 : decode cX13_out 62 = .ok (.iaload, 1) := by decide +kernel
theorem dX13_out_63 : decode cX13_out 63 = .ok (.iload_n 1, 1) := by decide +kernel
theorem dX13_out_64 : decode cX13_out 64 = .ok (.if_icmp .ne 7, 3) := by decide +kernel
theorem dX13_out_67 : decode cX13_out 67 = .ok (.iconst 1, 1) := by decide +kernel
theorem dX13_out_68 : decode cX13_out 68 = .ok (.goto 4, 3) := by decide +kernel
theorem dX13_out_71 : decode cX13_out 71 = .ok (.iconst 0, 1) := by decide +kernel
theorem dX13_out_72 : decode cX13_out 72 = .ok (.istore 8, 2) := by decide +kernel
theorem dX13_out_74 : decode cX13_out 74 = .ok (.iload_n 3, 1) := by decide +kernel
theorem dX13_out_75 : decode cX13_out 75 = .ok (.iload 8, 2) := by decide +kernel
theorem dX13_out_77 : decode cX13_out 77 = .ok (.ifCond .eq 20, 3) := by decide +kernel
theorem dX13_out_80 : decode cX13_out 80 = .ok (.aload_n 0, 1) := by decide +kernel
theorem dX13_out_81 : decode cX13_out 81 = .ok (.getfield 13, 3) := by decide +kernel
theorem dX13_out_84 : decode cX13_out 84 = .ok (.bipush 86, 2) := by decide +kernel
theorem dX13_out_86 : decode cX13_out 86 = .ok (.iconst 5, 1) := by decide +kernel
theorem dX13_out_87 : decode cX13_out 87 = .ok (.iload 7, 2) := by decide +kernel
theorem dX13_out_89 : decode cX13_out 89 = .ok (.imul, 1) := by decide +kernel
theorem dX13_out_90 : decode cX13_out 90 = .ok (.iadd, 1) := by decide +kernel
theorem dX13_out_91 : decode cX13_out 91 = .ok (.iconst 3, 1) := by decide +kernel
theorem dX13_out_92 : decode cX13_out 92 = .ok (.iadd, 1) := by decide +kernel
theorem dX13_out_93 : decode cX13_out 93 = .ok (.iaload, 1) := by decide +kernel
theorem dX13_out_94 : decode cX13_out 94 = .ok (.goto 4, 3) := by decide +kernel
theorem dX13_out_97 : decode cX13_out 97 = .ok (.iconst 0, 1) := by decide +kernel
theorem dX13_out_98 : decode cX13_out 98 = .ok (.iadd, 1) := by decide +kernel
theorem dX13_out_99 : decode cX13_out 99 = .ok (.istore_n 3, 1) := by decide +kernel
theorem dX13_out_100 : decode cX13_out 100 = .ok (.iload 4, 2) := by decide +kernel
theorem dX13_out_102 : decode cX13_out 102 = .ok (.iload 8, 2) := by decide +kernel
theorem dX13_out_104 : decode cX13_out 104 = .ok (.ifCond .eq 7, 3) := by decide +kernel
theorem dX13_out_107 : decode cX13_out 107 = .ok (.iconst 1, 1) := by decide +kernel
theorem dX13_out_108 : decode cX13_out 108 = .ok (.goto 4, 3) := by decide +kernel
theorem dX13_out_111 : decode cX13_out 111 = .ok (.iconst 0, 1) := by decide +kernel
theorem dX13_out_112 : decode cX13_out 112 = .ok (.iadd, 1) := by decide +kernel
theorem dX13_out_113 : decode cX13_out 113 = .ok (.istore 4, 2) := by decide +kernel
theorem dX13_out_115 : decode cX13_out 115 = .ok (.iload 5, 2) := by decide +kernel
theorem dX13_out_117 : decode cX13_out 117 = .ok (.iload 8, 2) := by decide +kernel
theorem dX13_out_119 : decode cX13_out 119 = .ok (.ifCond .eq 7, 3) := by decide +kernel
theorem dX13_out_122 : decode cX13_out 122 = .ok (.iconst 0, 1) := by decide +kernel
theorem dX13_out_123 : decode cX13_out 123 = .ok (.goto 17, 3) := by decide +kernel
theorem dX13_out_126 : decode cX13_out 126 = .ok (.aload_n 0, 1) := by decide +kernel
theorem dX13_out_127 : decode cX13_out 127 = .ok (.getfield 13, 3) := by decide +kernel
theorem dX13_out_130 : decode cX13_out 130 = .ok (.bipush 86, 2) := by decide +kernel
theorem dX13_out_132 : decode cX13_out 132 = .ok (.iconst 5, 1) := by decide +kernel
theorem dX13_out_133 : decode cX13_out 133 = .ok (.iload 7, 2) := by decide +kernel
theorem dX13_out_135 : decode cX13_out 135 = .ok (.imul, 1) := by decide +kernel
theorem dX13_out_136 : decode cX13_out 136 = .ok (.iadd, 1) := by decide +kernel
theorem dX13_out_137 : decode cX13_out 137 = .ok (.iconst 3, 1) := by decide +kernel
theorem dX13_out_138 : decode cX13_out 138 = .ok (.iadd, 1) := by decide +kernel
theorem dX13_out_139 : decode cX13_out 139 = .ok (.iaload, 1) := by decide +kernel
theorem dX13_out_140 : decode cX13_out 140 = .ok (.iadd, 1) := by decide +kernel
theorem dX13_out_141 : decode cX13_out 141 = .ok (.istore 5, 2) := by decide +kernel
theorem dX13_out_143 : decode cX13_out 143 = .ok (.iload 6, 2) := by decide +kernel
theorem dX13_out_145 : decode cX13_out 145 = .ok (.iload 8, 2) := by decide +kernel
theorem dX13_out_147 : decode cX13_out 147 = .ok (.ifCond .eq 7, 3) := by decide +kernel
theorem dX13_out_150 : decode cX13_out 150 = .ok (.iconst 0, 1) := by decide +kernel
theorem dX13_out_151 : decode cX13_out 151 = .ok (.goto 4, 3) := by decide +kernel
theorem dX13_out_154 : decode cX13_out 154 = .ok (.iconst 1, 1) := by decide +kernel
theorem dX13_out_155 : decode cX13_out 155 = .ok (.iadd, 1) := by decide +kernel
theorem dX13_out_156 : decode cX13_out 156 = .ok (.istore 6, 2) := by decide +kernel
theorem dX13_out_158 : decode cX13_out 158 = .ok (.iinc 7 1, 3) := by decide +kernel
theorem dX13_out_161 : decode cX13_out 161 = .ok (.goto (-122), 3) := by decide +kernel
theorem dX13_out_164 : decode cX13_out 164 = .ok (.iload 4, 2) := by decide +kernel
theorem dX13_out_166 : decode cX13_out 166 = .ok (.ifCond .eq 8, 3) := by decide +kernel
theorem dX13_out_169 : decode cX13_out 169 = .ok (.iload 6, 2) := by decide +kernel
theorem dX13_out_171 : decode cX13_out 171 = .ok (.ifCond .ne 6, 3) := by decide +kernel
theorem dX13_out_174 : decode cX13_out 174 = .ok (.bipush (-2), 2) := by decide +kernel
theorem dX13_out_176 : decode cX13_out 176 = .ok (.ireturn, 1) := by decide +kernel
theorem dX13_out_177 : decode cX13_out 177 = .ok (.iload_n 3, 1) := by decide +kernel
theorem dX13_out_178 : decode cX13_out 178 = .ok (.iload 6, 2) := by decide +kernel
theorem dX13_out_180 : decode cX13_out 180 = .ok (.imul, 1) := by decide +kernel
theorem dX13_out_181 : decode cX13_out 181 = .ok (.iload 5, 2) := by decide +kernel
theorem dX13_out_183 : decode cX13_out 183 = .ok (.iload 4, 2) := by decide +kernel
theorem dX13_out_185 : decode cX13_out 185 = .ok (.imul, 1) := by decide +kernel
theorem dX13_out_186 : decode cX13_out 186 = .ok (.isub, 1) := by decide +kernel
theorem dX13_out_187 : decode cX13_out 187 = .ok (.invokestatic 165, 3) := by decide +kernel
theorem dX13_out_190 : decode cX13_out 190 = .ok (.istore 7, 2) := by decide +kernel
theorem dX13_out_192 : decode cX13_out 192 = .ok (.iload 4, 2) := by decide +kernel
theorem dX13_out_194 : decode cX13_out 194 = .ok (.iconst 2, 1) := by decide +kernel
theorem dX13_out_195 : decode cX13_out 195 = .ok (.if_icmp .le 19, 3) := by decide +kernel
theorem dX13_out_198 : decode cX13_out 198 = .ok (.iload 7, 2) := by decide +kernel
theorem dX13_out_200 : decode cX13_out 200 = .ok (.iload_n 2, 1) := by decide +kernel
theorem dX13_out_201 : decode cX13_out 201 = .ok (.iload 4, 2) := by decide +kernel
theorem dX13_out_203 : decode cX13_out 203 = .ok (.imul, 1) := by decide +kernel
theorem dX13_out_204 : decode cX13_out 204 = .ok (.iload 6, 2) := by decide +kernel
theorem dX13_out_206 : decode cX13_out 206 = .ok (.imul, 1) := by decide +kernel
theorem dX13_out_207 : decode cX13_out 207 = .ok (.if_icmp .le 7, 3) := by decide +kernel
theorem dX13_out_210 : decode cX13_out 210 = .ok (.iconst 1, 1) := by decide +kernel
theorem dX13_out_211 : decode cX13_out 211 = .ok (.goto 4, 3) := by decide +kernel
theorem dX13_out_214 : decode cX13_out 214 = .ok (.iconst 0, 1) := by decide +kernel
theorem dX13_out_215 : decode cX13_out 215 = .ok (.ireturn, 1) := by decide +kernel
theorem dX13_lot_0 : decode cX13_lot 0 = .ok (.aload_n 0, 1) := by decide +kernel
theorem dX13_lot_1 : decode cX13_lot 1 = .ok (.iconst 0, 1) := by decide +kernel
theorem dX13_lot_2 : decode cX13_lot 2 = .ok (.putfield 53, 3) := by decide +kernel
theorem dX13_lot_5 : decode cX13_lot 5 = .ok (.aload_n 0, 1) := by decide +kernel
theorem dX13_lot_6 : decode cX13_lot 6 = .ok (.getfield 13, 3) := by decide +kernel
theorem dX13_lot_9 : decode cX13_lot 9 = .ok (.bipush 84, 2) := by decide +kernel
theorem dX13_lot_11 : decode cX13_lot 11 = .ok (.iaload, 1) := by decide +kernel
theorem dX13_lot_12 : decode cX13_lot 12 = .ok (.istore_n 2, 1) := by decide +kernel
theorem dX13_lot_13 : decode cX13_lot 13 = .ok (.aload_n 0, 1) := by decide +kernel
theorem dX13_lot_14 : decode cX13_lot 14 = .ok (.getfield 13, 3) := by decide +kernel
theorem dX13_lot_17 : decode cX13_lot 17 = .ok (.bipush 84, 2) := by decide +kernel
theorem dX13_lot_19 : decode cX13_lot 19 = .ok (.iload_n 1, 1) := by decide +kernel
theorem dX13_lot_20 : decode cX13_lot 20 = .ok (.iastore, 1) := by decide +kernel
theorem dX13_lot_21 : decode cX13_lot 21 = .ok (.iload_n 2, 1) := by decide +kernel
theorem dX13_lot_22 : decode cX13_lot 22 = .ok (.ireturn, 1) := by decide +kernel
theorem dX13_rate_0 : decode cX13_rate 0 = .ok (.aload_n 0, 1) := by decide +kernel
theorem dX13_rate_1 : decode cX13_rate 1 = .ok (.iconst 0, 1) := by decide +kernel
theorem dX13_rate_2 : decode cX13_rate 2 = .ok (.putfield 53, 3) := by decide +kernel
theorem dX13_rate_5 : decode cX13_rate 5 = .ok (.iload_n 1, 1) := by decide +kernel
theorem dX13_rate_6 : decode cX13_rate 6 = .ok (.iconst 0, 1) := by decide +kernel
theorem dX13_rate_7 : decode cX13_rate 7 = .ok (.iconst 5, 1) := by decide +kernel
theorem dX13_rate_8 : decode cX13_rate 8 = .ok (.invokestatic 57, 3) := by decide +kernel
theorem dX13_rate_11 : decode cX13_rate 11 = .ok (.ifCond .eq 18, 3) := by decide +kernel
theorem dX13_rate_14 : decode cX13_rate 14 = .ok (.aload_n 0, 1) := by decide +kernel
theorem dX13_rate_15 : decode cX13_rate 15 = .ok (.iload_n 2, 1) := by decide +kernel
theorem dX13_rate_16 : decode cX13_rate 16 = .ok (.invokevirtual 136, 3) := by decide +kernel
theorem dX13_rate_19 : decode cX13_rate 19 = .ok (.ifCond .eq 10, 3) := by decide +kernel
theorem dX13_rate_22 : decode cX13_rate 22 = .ok (.aload_n 0, 1) := by decide +kernel
theorem dX13_rate_23 : decode cX13_rate 23 = .ok (.getfield 130, 3) := by decide +kernel
theorem dX13_rate_26 : decode cX13_rate 26 = .ok (.ifCond .ne 6, 3) := by decide +kernel
theorem dX13_rate_29 : decode cX13_rate 29 = .ok (.ldc 143, 2) := by decide +kernel
theorem dX13_rate_31 : decode cX13_rate 31 = .ok (.ireturn, 1) := by decide +kernel
theorem dX13_rate_32 : decode cX13_rate 32 = .ok (.aload_n 0, 1) := by decide +kernel
theorem dX13_rate_33 : decode cX13_rate 33 = .ok (.iload_n 2, 1) := by decide +kernel
theorem dX13_rate_34 : decode cX13_rate 34 = .ok (.iconst 0, 1) := by decide +kernel
theorem dX13_rate_35 : decode cX13_rate 35 = .ok (.invokevirtual 189, 3) := by decide +kernel
theorem dX13_rate_38 : decode cX13_rate 38 = .ok (.aload_n 0, 1) := by decide +kernel
theorem dX13_rate_39 : decode cX13_rate 39 = .ok (.getfield 171, 3) := by decide +kernel
theorem dX13_rate_42 : decode cX13_rate 42 = .ok (.aload_n 0, 1) := by decide +kernel
theorem dX13_rate_43 : decode cX13_rate 43 = .ok (.getfield 41, 3) := by decide +kernel
theorem dX13_rate_46 : decode cX13_rate 46 = .ok (.iconst 1, 1) := by decide +kernel
theorem dX13_rate_47 : decode cX13_rate 47 = .ok (.iaload, 1) := by decide +kernel
theorem dX13_rate_48 : decode cX13_rate 48 = .ok (.iadd, 1) := by decide +kernel
theorem dX13_rate_49 : decode cX13_rate 49 = .ok (.istore_n 3, 1) := by decide +kernel
theorem dX13_rate_50 : decode cX13_rate 50 = .ok (.aload_n 0, 1) := by decide +kernel
theorem dX13_rate_51 : decode cX13_rate 51 = .ok (.getfield 171, 3) := by decide +kernel
theorem dX13_rate_54 : decode cX13_rate 54 = .ok (.aload_n 0, 1) := by decide +kernel
theorem dX13_rate_55 : decode cX13_rate 55 = .ok (.getfield 186, 3) := by decide +kernel
theorem dX13_rate_58 : decode cX13_rate 58 = .ok (.isub, 1) := by decide +kernel
theorem dX13_rate_59 : decode cX13_rate 59 = .ok (.istore 4, 2) := by decide +kernel
theorem dX13_rate_61 : decode cX13_rate 61 = .ok (.aload_n 0, 1) := by decide +kernel
theorem dX13_rate_62 : decode cX13_rate 62 = .ok (.dup, 1) := by decide +kernel
theorem dX13_rate_63 : decode cX13_rate 63 = .ok (.getfield 225, 3) := by decide +kernel
theorem dX13_rate_66 : decode cX13_rate 66 = .ok (.iload_n 1, 1) := by decide +kernel
theorem dX13_rate_67 : decode cX13_rate 67 = .ok (.ifCond .ne 7, 3) := by decide +kernel
theorem dX13_rate_70 : decode cX13_rate 70 = .ok (.lconst 1, 1) := by decide +kernel
theorem dX13_rate_71 : decode cX13_rate 71 = .ok (.goto 50, 3) := by decide +kernel
theorem dX13_rate_74 : decode cX13_rate 74 = .ok (.iload_n 1, 1) := by decide +kernel
theorem dX13_rate_75 : decode cX13_rate 75 = .ok (.iconst 1, 1) := by decide +kernel
theorem dX13_rate_76 : decode cX13_rate 76 = .ok (.if_icmp .ne 9, 3) := by decide +kernel
theorem dX13_rate_79 : decode cX13_rate 79 = .ok (.ldc2_w 228, 3) := by decide +kernel
theorem dX13_rate_82 : decode cX13_rate 82 = .ok (.goto 39, 3) := by decide +kernel
theorem dX13_rate_85 : decode cX13_rate 85 = .ok (.iload_n 1, 1) := by decide +kernel
theorem dX13_rate_86 : decode cX13_rate 86 = .ok (.iconst 2, 1) := by decide +kernel
theorem dX13_rate_87 : decode cX13_rate 87 = .ok (.if_icmp .ne 9, 3) := by decide +kernel
theorem dX13_rate_90 : decode cX13_rate 90 = .ok (.ldc2_w 230, 3) := by decide +kernel
theorem dX13_rate_93 : decode cX13_rate 93 = .ok (.goto 28, 3) := by decide +kernel
theorem dX13_rate_96 : decode cX13_rate 96 = .ok (.iload_n 1, 1) := by decide +kernel
theorem dX13_rate_97 : decode cX13_rate 97 = .ok (.iconst 3, 1) := by decide +kernel
theorem dX13_rate_98 : decode cX13_rate 98 = .ok (.if_icmp .ne 9, 3) := by decide +kernel
theorem dX13_rate_101 : decode cX13_rate 101 = .ok (.ldc2_w 232, 3) := by decide +kernel
theorem dX13_rate_104 : decode cX13_rate 104 = .ok (.goto 17, 3) := by decide +kernel
theorem dX13_rate_107 : decode cX13_rate 107 = .ok (.iload_n 1, 1) := by decide +kernel
theorem dX13_rate_108 : decode cX13_rate 108 = .ok (.iconst 4, 1) := by decide +kernel
theorem dX13_rate_109 : decode cX13_rate 109 = .ok (.if_icmp .ne 9, 3) := by decide +kernel
theorem dX13_rate_112 : decode cX13_rate 112 = .ok (.ldc2_w 234, 3) := by decide +kernel
theorem dX13_rate_115 : decode cX13_rate 115 = .ok (.goto 6, 3) := by decide +kernel
theorem dX13_rate_118 : decode cX13_rate 118 = .ok (.ldc2_w 236, 3) := by decide +kernel
theorem dX13_rate_121 : decode cX13_rate 121 = .ok (.ladd, 1) := by decide +kernel
theorem dX13_rate_122 : decode cX13_rate 122 = .ok (.putfield 225, 3) := by decide +kernel
theorem dX13_rate_125 : decode cX13_rate 125 = .ok (.iload_n 1, 1) := by decide +kernel
theorem dX13_rate_126 : decode cX13_rate 126 = .ok (.ifCond .ne 10, 3) := by decide +kernel
theorem dX13_rate_129 : decode cX13_rate 129 = .ok (.aload_n 0, 1) := by decide +kernel
theorem dX13_rate_130 : decode cX13_rate 130 = .ok (.getfield 171, 3) := by decide +kernel
theorem dX13_rate_133 : decode cX13_rate 133 = .ok (.goto 61, 3) := by decide +kernel
theorem dX13_rate_136 : decode cX13_rate 136 = .ok (.iload_n 1, 1) := by decide +kernel
theorem dX13_rate_137 : decode cX13_rate 137 = .ok (.iconst 1, 1) := by decide +kernel
theorem dX13_rate_138 : decode cX13_rate 138 = .ok (.if_icmp .ne 7, 3) := by decide +kernel
theorem dX13_rate_141 : decode cX13_rate 141 = .ok (.iload_n 3, 1) := by decide +kernel
theorem dX13_rate_142 : decode cX13_rate 142 = .ok (.goto 52, 3) := by decide +kernel
theorem dX13_rate_145 : decode cX13_rate 145 = .ok (.iload_n 1, 1) := by decide +kernel
theorem dX13_rate_146 : decode cX13_rate 146 = .ok (.iconst 2, 1) := by decide +kernel
theorem dX13_rate_147 : decode cX13_rate 147 = .ok (.if_icmp .ne 8, 3) := by decide +kernel
theorem dX13_rate_150 : decode cX13_rate 150 = .ok (.iload 4, 2) := by decide +kernel
theorem dX13_rate_152 : decode cX13_rate 152 = .ok (.goto 42, 3) := by decide +kernel
theorem dX13_rate_155 : decode cX13_rate 155 = .ok (.iload_n 1, 1) := by decide +kernel
theorem dX13_rate_156 : decode cX13_rate 156 = .ok (.iconst 3, 1) := by decide +kernel
theorem dX13_rate_157 : decode cX13_rate 157 = .ok (.if_icmp .ne 14, 3) := by decide +kernel
theorem dX13_rate_160 : decode cX13_rate 160 = .ok (.iload_n 3, 1) := by decide +kernel
theorem dX13_rate_161 : decode cX13_rate 161 = .ok (.aload_n 0, 1) := by decide +kernel
theorem dX13_rate_162 : decode cX13_rate 162 = .ok (.getfield 38, 3) := by decide +kernel
theorem dX13_rate_165 : decode cX13_rate 165 = .ok (.iconst 3, 1) := by decide +kernel
theorem dX13_rate_166 : decode cX13_rate 166 = .ok (.iaload, 1) := by decide +kernel
theorem dX13_rate_167 : decode cX13_rate 167 = .ok (.iadd, 1) := by decide +kernel
theorem dX13_rate_168 : decode cX13_rate 168 = .ok (.goto 26, 3) := by decide +kernel
theorem dX13_rate_171 : decode cX13_rate 171 = .ok (.iload_n 1, 1) := by decide +kernel
theorem dX13_rate_172 : decode cX13_rate 172 = .ok (.iconst 4, 1) := by decide +kernel
theorem dX13_rate_173 : decode cX13_rate 173 = .ok (.if_icmp .ne 10, 3) := by decide +kernel
theorem dX13_rate_176 : decode cX13_rate 176 = .ok (.iconst 2, 1) := by decide +kernel
theorem dX13_rate_177 : decode cX13_rate 177 = .ok (.iload 4, 2) := by decide +kernel
theorem dX13_rate_179 : decode cX13_rate 179 = .ok (.imul, 1) := by decide +kernel
theorem dX13_rate_180 : decode cX13_rate 180 = .ok (.goto 14, 3) := by decide +kernel
theorem dX13_rate_183 : decode cX13_rate 183 = .ok (.aload_n 0, 1) := by decide +kernel
theorem dX13_rate_184 : decode cX13_rate 184 = .ok (.getfield 171, 3) := by decide +kernel
theorem dX13_rate_187 : decode cX13_rate 187 = .ok (.aload_n 0, 1) := by decide +kernel
theorem dX13_rate_188 : decode cX13_rate 188 = .ok (.getfield 41, 3) := by decide +kernel
theorem dX13_rate_191 : decode cX13_rate 191 = .ok (.iconst 4, 1) := by decide +kernel
theorem dX13_rate_192 : decode cX13_rate 192 = .ok (.iaload, 1) := by decide +kernel
theorem dX13_rate_193 : decode cX13_rate 193 = .ok (.iadd, 1) := by decide +kernel
theorem dX13_rate_194 : decode cX13_rate 194 = .ok (.ireturn, 1) := by decide +kernel
theorem dX13_keep_0 : decode cX13_keep 0 = .ok (.aload_n 0, 1) := by decide +kernel
theorem dX13_keep_1 : decode cX13_keep 1 = .ok (.iconst 0, 1) := by decide +kernel
theorem dX13_keep_2 : decode cX13_keep 2 = .ok (.putfield 53, 3) := by decide +kernel
theorem dX13_keep_5 : decode cX13_keep 5 = .ok (.iload_n 1, 1) := by decide +kernel
theorem dX13_keep_6 : decode cX13_keep 6 = .ok (.iconst 0, 1) := by decide +kernel
theorem dX13_keep_7 : decode cX13_keep 7 = .ok (.iconst 1, 1) := by decide +kernel
theorem dX13_keep_8 : decode cX13_keep 8 = .ok (.invokestatic 57, 3) := by decide +kernel
theorem dX13_keep_11 : decode cX13_keep 11 = .ok (.ifCond .ne 5, 3) := by decide +kernel
theorem dX13_keep_14 : decode cX13_keep 14 = .ok (.iconst (-1), 1) := by decide +kernel
theorem dX13_keep_15 : decode cX13_keep 15 = .ok (.ireturn, 1) := by decide +kernel
theorem dX13_keep_16 : decode cX13_keep 16 = .ok (.iconst 0, 1) := by decide +kernel
theorem dX13_keep_17 : decode cX13_keep 17 = .ok (.istore_n 2, 1) := by decide +kernel
theorem dX13_keep_18 : decode cX13_keep 18 = .ok (.iload_n 2, 1) := by decide +kernel
theorem dX13_keep_19 : decode cX13_keep 19 = .ok (.sipush 386, 3) := by decide +kernel
theorem dX13_keep_22 : decode cX13_keep 22 = .ok (.if_icmp .ge 27, 3) := by decide +kernel
theorem dX13_keep_25 : decode cX13_keep 25 = .ok (.aload_n 0, 1) := by decide +kernel
theorem dX13_keep_26 : decode cX13_keep 26 = .ok (.getfield 16, 3) := by decide +kernel
theorem dX13_keep_29 : decode cX13_keep 29 = .ok (.sipush 386, 3) := by decide +kernel
theorem dX13_keep_32 : decode cX13_keep 32 = .ok (.iload_n 1, 1) := by decide +kernel
theorem dX13_keep_33 : decode cX13_keep 33 = .ok (.imul, 1) := by decide +kernel
theorem dX13_keep_34 : decode cX13_keep 34 = .ok (.iload_n 2, 1) := by decide +kernel
theorem dX13_keep_35 : decode cX13_keep 35 = .ok (.iadd, 1) := by decide +kernel
theorem dX13_keep_36 : decode cX13_keep 36 = .ok (.aload_n 0, 1) := by decide +kernel
theorem dX13_keep_37 : decode cX13_keep 37 = .ok (.getfield 13, 3) := by decide +kernel
theorem dX13_keep_40 : decode cX13_keep 40 = .ok (.iload_n 2, 1) := by decide +kernel
theorem dX13_keep_41 : decode cX13_keep 41 = .ok (.iaload, 1) := by decide +kernel
theorem dX13_keep_42 : decode cX13_keep 42 = .ok (.iastore, 1) := by decide +kernel
theorem dX13_keep_43 : decode cX13_keep 43 = .ok (.iinc 2 1, 3) := by decide +kernel
theorem dX13_keep_46 : decode cX13_keep 46 = .ok (.goto (-28), 3) := by decide +kernel
theorem dX13_keep_49 : decode cX13_keep 49 = .ok (.aload_n 0, 1) := by decide +kernel
theorem dX13_keep_50 : decode cX13_keep 50 = .ok (.getfield 19, 3) := by decide +kernel
theorem dX13_keep_53 : decode cX13_keep 53 = .ok (.iload_n 1, 1) := by decide +kernel
theorem dX13_keep_54 : decode cX13_keep 54 = .ok (.iconst 1, 1) := by decide +kernel
theorem dX13_keep_55 : decode cX13_keep 55 = .ok (.bastore, 1) := by decide +kernel
theorem dX13_keep_56 : decode cX13_keep 56 = .ok (.aload_n 0, 1) := by decide +kernel
theorem dX13_keep_57 : decode cX13_keep 57 = .ok (.getfield 13, 3) := by decide +kernel
theorem dX13_keep_60 : decode cX13_keep 60 = .ok (.bipush 85, 2) := by decide +kernel
theorem dX13_keep_62 : decode cX13_keep 62 = .ok (.iaload, 1) := by decide +kernel
theorem dX13_keep_63 : decode cX13_keep 63 = .ok (.ireturn, 1) := by decide +kernel
theorem dX13_back_0 : decode cX13_back 0 = .ok (.aload_n 0, 1) := by decide +kernel
theorem dX13_back_1 : decode cX13_back 1 = .ok (.iconst 0, 1) := by decide +kernel
theorem dX13_back_2 : decode cX13_back 2 = .ok (.putfield 53, 3) := by decide +kernel
theorem dX13_back_5 : decode cX13_back 5 = .ok (.iload_n 1, 1) := by decide +kernel
theorem dX13_back_6 : decode cX13_back 6 = .ok (.iconst 0, 1) := by decide +kernel
theorem dX13_back_7 : decode cX13_back 7 = .ok (.iconst 1, 1) := by decide +kernel
theorem dX13_back_8 : decode cX13_back 8 = .ok (.invokestatic 57, 3) := by decide +kernel
theorem dX13_back_11 : decode cX13_back 11 = .ok (.ifCond .ne 5, 3) := by decide +kernel
theorem dX13_back_14 : decode cX13_back 14 = .ok (.iconst (-1), 1) := by decide +kernel
theorem dX13_back_15 : decode cX13_back 15 = .ok (.ireturn, 1) := by decide +kernel
theorem dX13_back_16 : decode cX13_back 16 = .ok (.aload_n 0, 1) := by decide +kernel
theorem dX13_back_17 : decode cX13_back 17 = .ok (.getfield 19, 3) := by decide +kernel
theorem dX13_back_20 : decode cX13_back 20 = .ok (.iload_n 1, 1) := by decide +kernel
theorem dX13_back_21 : decode cX13_back 21 = .ok (.baload, 1) := by decide +kernel
theorem dX13_back_22 : decode cX13_back 22 = .ok (.ifCond .ne 6, 3) := by decide +kernel
theorem dX13_back_25 : decode cX13_back 25 = .ok (.bipush (-2), 2) := by decide +kernel
theorem dX13_back_27 : decode cX13_back 27 = .ok (.ireturn, 1) := by decide +kernel
theorem dX13_back_28 : decode cX13_back 28 = .ok (.iconst 0, 1) := by decide +kernel
theorem dX13_back_29 : decode cX13_back 29 = .ok (.istore_n 2, 1) := by decide +kernel
theorem dX13_back_30 : decode cX13_back 30 = .ok (.iload_n 2, 1) := by decide +kernel
theorem dX13_back_31 : decode cX13_back 31 = .ok (.sipush 386, 3) := by decide +kernel
theorem dX13_back_34 : decode cX13_back 34 = .ok (.if_icmp .ge 27, 3) := by decide +kernel
theorem dX13_back_37 : decode cX13_back 37 = .ok (.aload_n 0, 1) := by decide +kernel
theorem dX13_back_38 : decode cX13_back 38 = .ok (.getfield 13, 3) := by decide +kernel
theorem dX13_back_41 : decode cX13_back 41 = .ok (.iload_n 2, 1) := by decide +kernel
theorem dX13_back_42 : decode cX13_back 42 = .ok (.aload_n 0, 1) := by decide +kernel
theorem dX13_back_43 : decode cX13_back 43 = .ok (.getfield 16, 3) := by decide +kernel
theorem dX13_back_46 : decode cX13_back 46 = .ok (.sipush 386, 3) := by decide +kernel
theorem dX13_back_49 : decode cX13_back 49 = .ok (.iload_n 1, 1) := by decide +kernel
theorem dX13_back_50 : decode cX13_back 50 = .ok (.imul, 1) := by decide +kernel
theorem dX13_back_51 : decode cX13_back 51 = .ok (.iload_n 2, 1) := by decide +kernel
theorem dX13_back_52 : decode cX13_back 52 = .ok (.iadd, 1) := by decide +kernel
theorem dX13_back_53 : decode cX13_back 53 = .ok (.iaload, 1) := by decide +kernel
theorem dX13_back_54 : decode cX13_back 54 = .ok (.iastore, 1) := by decide +kernel
theorem dX13_back_55 : decode cX13_back 55 = .ok (.iinc 2 1, 3) := by decide +kernel
theorem dX13_back_58 : decode cX13_back 58 = .ok (.goto (-28), 3) := by decide +kernel
theorem dX13_back_61 : decode cX13_back 61 = .ok (.aload_n 0, 1) := by decide +kernel
theorem dX13_back_62 : decode cX13_back 62 = .ok (.getfield 13, 3) := by decide +kernel
theorem dX13_back_65 : decode cX13_back 65 = .ok (.bipush 85, 2) := by decide +kernel
theorem dX13_back_67 : decode cX13_back 67 = .ok (.iaload, 1) := by decide +kernel
theorem dX13_back_68 : decode cX13_back 68 = .ok (.ireturn, 1) := by decide +kernel
theorem dX13_count_0 : decode cX13_count 0 = .ok (.aload_n 0, 1) := by decide +kernel
theorem dX13_count_1 : decode cX13_count 1 = .ok (.iconst 0, 1) := by decide +kernel
theorem dX13_count_2 : decode cX13_count 2 = .ok (.putfield 53, 3) := by decide +kernel
theorem dX13_count_5 : decode cX13_count 5 = .ok (.iload_n 1, 1) := by decide +kernel
theorem dX13_count_6 : decode cX13_count 6 = .ok (.ifCond .ne 10, 3) := by decide +kernel
theorem dX13_count_9 : decode cX13_count 9 = .ok (.aload_n 0, 1) := by decide +kernel
theorem dX13_count_10 : decode cX13_count 10 = .ok (.getfield 127, 3) := by decide +kernel
theorem dX13_count_13 : decode cX13_count 13 = .ok (.goto 55, 3) := by decide +kernel
theorem dX13_count_16 : decode cX13_count 16 = .ok (.iload_n 1, 1) := by decide +kernel
theorem dX13_count_17 : decode cX13_count 17 = .ok (.iconst 1, 1) := by decide +kernel
theorem dX13_count_18 : decode cX13_count 18 = .ok (.if_icmp .ne 10, 3) := by decide +kernel
theorem dX13_count_21 : decode cX13_count 21 = .ok (.aload_n 0, 1) := by decide +kernel
theorem dX13_count_22 : decode cX13_count 22 = .ok (.getfield 130, 3) := by decide +kernel
theorem dX13_count_25 : decode cX13_count 25 = .ok (.goto 43, 3) := by decide +kernel
theorem dX13_count_28 : decode cX13_count 28 = .ok (.iload_n 1, 1) := by decide +kernel
theorem dX13_count_29 : decode cX13_count 29 = .ok (.iconst 2, 1) := by decide +kernel
theorem dX13_count_30 : decode cX13_count 30 = .ok (.if_icmp .ne 10, 3) := by decide +kernel
theorem dX13_count_33 : decode cX13_count 33 = .ok (.aload_n 0, 1) := by decide +kernel
theorem dX13_count_34 : decode cX13_count 34 = .ok (.getfield 133, 3) := by decide +kernel
theorem dX13_count_37 : decode cX13_count 37 = .ok (.goto 31, 3) := by decide +kernel
theorem dX13_count_40 : decode cX13_count 40 = .ok (.iload_n 1, 1) := by decide +kernel
theorem dX13_count_41 : decode cX13_count 41 = .ok (.iconst 3, 1) := by decide +kernel
theorem dX13_count_42 : decode cX13_count 42 = .ok (.if_icmp .ne 13, 3) := by decide +kernel
theorem dX13_count_45 : decode cX13_count 45 = .ok (.aload_n 0, 1) := by decide +kernel
theorem dX13_count_46 : decode cX13_count 46 = .ok (.getfield 13, 3) := by decide +kernel
theorem dX13_count_49 : decode cX13_count 49 = .ok (.bipush 85, 2) := by decide +kernel
theorem dX13_count_51 : decode cX13_count 51 = .ok (.iaload, 1) := by decide +kernel
theorem dX13_count_52 : decode cX13_count 52 = .ok (.goto 16, 3) := by decide +kernel
theorem dX13_count_55 : decode cX13_count 55 = .ok (.iload_n 1, 1) := by decide +kernel
theorem dX13_count_56 : decode cX13_count 56 = .ok (.iconst 4, 1) := by decide +kernel
theorem dX13_count_57 : decode cX13_count 57 = .ok (.if_icmp .ne 10, 3) := by decide +kernel
theorem dX13_count_60 : decode cX13_count 60 = .ok (.aload_n 0, 1) := by decide +kernel
theorem dX13_count_61 : decode cX13_count 61 = .ok (.getfield 61, 3) := by decide +kernel
theorem dX13_count_64 : decode cX13_count 64 = .ok (.goto 4, 3) := by decide +kernel
theorem dX13_count_67 : decode cX13_count 67 = .ok (.iconst (-1), 1) := by decide +kernel
theorem dX13_count_68 : decode cX13_count 68 = .ok (.ireturn, 1) := by decide +kernel
theorem dX13_trace_0 : decode cX13_trace 0 = .ok (.aload_n 0, 1) := by decide +kernel
theorem dX13_trace_1 : decode cX13_trace 1 = .ok (.iconst 0, 1) := by decide +kernel
theorem dX13_trace_2 : decode cX13_trace 2 = .ok (.putfield 53, 3) := by decide +kernel
theorem dX13_trace_5 : decode cX13_trace 5 = .ok (.aload_n 0, 1) := by decide +kernel
theorem dX13_trace_6 : decode cX13_trace 6 = .ok (.getfield 225, 3) := by decide +kernel
theorem dX13_trace_9 : decode cX13_trace 9 = .ok (.lreturn, 1) := by decide +kernel
end
section
theorem dJ6_bitCount_0f7a4_0 : decode cJ6_bitCount_0f7a4 0 = .ok (.iload_n 0, 1) := by decide +kernel
theorem dJ6_bitCount_0f7a4_1 : decode cJ6_bitCount_0f7a4 1 = .ok (.iload_n 0, 1) := by decide +kernel
theorem dJ6_bitCount_0f7a4_2 : decode cJ6_bitCount_0f7a4 2 = .ok (.iconst 1, 1) := by decide +kernel
theorem dJ6_bitCount_0f7a4_3 : decode cJ6_bitCount_0f7a4 3 = .ok (.iushr, 1) := by decide +kernel
theorem dJ6_bitCount_0f7a4_4 : decode cJ6_bitCount_0f7a4 4 = .ok (.ldc_w 265, 3) := by decide +kernel
theorem dJ6_bitCount_0f7a4_7 : decode cJ6_bitCount_0f7a4 7 = .ok (.iand, 1) := by decide +kernel
theorem dJ6_bitCount_0f7a4_8 : decode cJ6_bitCount_0f7a4 8 = .ok (.isub, 1) := by decide +kernel
theorem dJ6_bitCount_0f7a4_9 : decode cJ6_bitCount_0f7a4 9 = .ok (.istore_n 0, 1) := by decide +kernel
theorem dJ6_bitCount_0f7a4_10 : decode cJ6_bitCount_0f7a4 10 = .ok (.iload_n 0, 1) := by decide +kernel
theorem dJ6_bitCount_0f7a4_11 : decode cJ6_bitCount_0f7a4 11 = .ok (.ldc_w 266, 3) := by decide +kernel
theorem dJ6_bitCount_0f7a4_14 : decode cJ6_bitCount_0f7a4 14 = .ok (.iand, 1) := by decide +kernel
theorem dJ6_bitCount_0f7a4_15 : decode cJ6_bitCount_0f7a4 15 = .ok (.iload_n 0, 1) := by decide +kernel
theorem dJ6_bitCount_0f7a4_16 : decode cJ6_bitCount_0f7a4 16 = .ok (.iconst 2, 1) := by decide +kernel
theorem dJ6_bitCount_0f7a4_17 : decode cJ6_bitCount_0f7a4 17 = .ok (.iushr, 1) := by decide +kernel
theorem dJ6_bitCount_0f7a4_18 : decode cJ6_bitCount_0f7a4 18 = .ok (.ldc_w 266, 3) := by decide +kernel
theorem dJ6_bitCount_0f7a4_21 : decode cJ6_bitCount_0f7a4 21 = .ok (.iand, 1) := by decide +kernel
theorem dJ6_bitCount_0f7a4_22 : decode cJ6_bitCount_0f7a4 22 = .ok (.iadd, 1) := by decide +kernel
theorem dJ6_bitCount_0f7a4_23 : decode cJ6_bitCount_0f7a4 23 = .ok (.istore_n 0, 1) := by decide +kernel
theorem dJ6_bitCount_0f7a4_24 : decode cJ6_bitCount_0f7a4 24 = .ok (.iload_n 0, 1) := by decide +kernel
theorem dJ6_bitCount_0f7a4_25 : decode cJ6_bitCount_0f7a4 25 = .ok (.iload_n 0, 1) := by decide +kernel
theorem dJ6_bitCount_0f7a4_26 : decode cJ6_bitCount_0f7a4 26 = .ok (.iconst 4, 1) := by decide +kernel
theorem dJ6_bitCount_0f7a4_27 : decode cJ6_bitCount_0f7a4 27 = .ok (.iushr, 1) := by decide +kernel
theorem dJ6_bitCount_0f7a4_28 : decode cJ6_bitCount_0f7a4 28 = .ok (.iadd, 1) := by decide +kernel
theorem dJ6_bitCount_0f7a4_29 : decode cJ6_bitCount_0f7a4 29 = .ok (.ldc_w 267, 3) := by decide +kernel
theorem dJ6_bitCount_0f7a4_32 : decode cJ6_bitCount_0f7a4 32 = .ok (.iand, 1) := by decide +kernel
theorem dJ6_bitCount_0f7a4_33 : decode cJ6_bitCount_0f7a4 33 = .ok (.istore_n 0, 1) := by decide +kernel
theorem dJ6_bitCount_0f7a4_34 : decode cJ6_bitCount_0f7a4 34 = .ok (.iload_n 0, 1) := by decide +kernel
theorem dJ6_bitCount_0f7a4_35 : decode cJ6_bitCount_0f7a4 35 = .ok (.iload_n 0, 1) := by decide +kernel
theorem dJ6_bitCount_0f7a4_36 : decode cJ6_bitCount_0f7a4 36 = .ok (.bipush 8, 2) := by decide +kernel
theorem dJ6_bitCount_0f7a4_38 : decode cJ6_bitCount_0f7a4 38 = .ok (.iushr, 1) := by decide +kernel
theorem dJ6_bitCount_0f7a4_39 : decode cJ6_bitCount_0f7a4 39 = .ok (.iadd, 1) := by decide +kernel
theorem dJ6_bitCount_0f7a4_40 : decode cJ6_bitCount_0f7a4 40 = .ok (.istore_n 0, 1) := by decide +kernel
theorem dJ6_bitCount_0f7a4_41 : decode cJ6_bitCount_0f7a4 41 = .ok (.iload_n 0, 1) := by decide +kernel
theorem dJ6_bitCount_0f7a4_42 : decode cJ6_bitCount_0f7a4 42 = .ok (.iload_n 0, 1) := by decide +kernel
theorem dJ6_bitCount_0f7a4_43 : decode cJ6_bitCount_0f7a4 43 = .ok (.bipush 16, 2) := by decide +kernel
theorem dJ6_bitCount_0f7a4_45 : decode cJ6_bitCount_0f7a4 45 = .ok (.iushr, 1) := by decide +kernel
theorem dJ6_bitCount_0f7a4_46 : decode cJ6_bitCount_0f7a4 46 = .ok (.iadd, 1) := by decide +kernel
theorem dJ6_bitCount_0f7a4_47 : decode cJ6_bitCount_0f7a4 47 = .ok (.istore_n 0, 1) := by decide +kernel
theorem dJ6_bitCount_0f7a4_48 : decode cJ6_bitCount_0f7a4 48 = .ok (.iload_n 0, 1) := by decide +kernel
theorem dJ6_bitCount_0f7a4_49 : decode cJ6_bitCount_0f7a4 49 = .ok (.bipush 63, 2) := by decide +kernel
theorem dJ6_bitCount_0f7a4_51 : decode cJ6_bitCount_0f7a4 51 = .ok (.iand, 1) := by decide +kernel
theorem dJ6_bitCount_0f7a4_52 : decode cJ6_bitCount_0f7a4 52 = .ok (.ireturn, 1) := by decide +kernel
theorem dJ9_abs_0f7a4_0 : decode cJ9_abs_0f7a4 0 = .ok (.iload_n 0, 1) := by decide +kernel
theorem dJ9_abs_0f7a4_1 : decode cJ9_abs_0f7a4 1 = .ok (.ifCond .ge 8, 3) := by decide +kernel
theorem dJ9_abs_0f7a4_4 : decode cJ9_abs_0f7a4 4 = .ok (.iload_n 0, 1) := by decide +kernel
theorem dJ9_abs_0f7a4_5 : decode cJ9_abs_0f7a4 5 = .ok (.ineg, 1) := by decide +kernel
theorem dJ9_abs_0f7a4_6 : decode cJ9_abs_0f7a4 6 = .ok (.goto 4, 3) := by decide +kernel
theorem dJ9_abs_0f7a4_9 : decode cJ9_abs_0f7a4 9 = .ok (.iload_n 0, 1) := by decide +kernel
theorem dJ9_abs_0f7a4_10 : decode cJ9_abs_0f7a4 10 = .ok (.ireturn, 1) := by decide +kernel
theorem dJ9_abs_067f4_0 : decode cJ9_abs_067f4 0 = .ok (.lload_n 0, 1) := by decide +kernel
theorem dJ9_abs_067f4_1 : decode cJ9_abs_067f4 1 = .ok (.lconst 0, 1) := by decide +kernel
theorem dJ9_abs_067f4_2 : decode cJ9_abs_067f4 2 = .ok (.lcmp, 1) := by decide +kernel
theorem dJ9_abs_067f4_3 : decode cJ9_abs_067f4 3 = .ok (.ifCond .ge 8, 3) := by decide +kernel
theorem dJ9_abs_067f4_6 : decode cJ9_abs_067f4 6 = .ok (.lload_n 0, 1) := by decide +kernel
theorem dJ9_abs_067f4_7 : decode cJ9_abs_067f4 7 = .ok (.lneg, 1) := by decide +kernel
theorem dJ9_abs_067f4_8 : decode cJ9_abs_067f4 8 = .ok (.goto 4, 3) := by decide +kernel
theorem dJ9_abs_067f4_11 : decode cJ9_abs_067f4 11 = .ok (.lload_n 0, 1) := by decide +kernel
theorem dJ9_abs_067f4_12 : decode cJ9_abs_067f4 12 = .ok (.lreturn, 1) := by decide +kernel
theorem dJ9_max_7cf53_0 : decode cJ9_max_7cf53 0 = .ok (.iload_n 0, 1) := by decide +kernel
theorem dJ9_max_7cf53_1 : decode cJ9_max_7cf53 1 = .ok (.iload_n 1, 1) := by decide +kernel
theorem dJ9_max_7cf53_2 : decode cJ9_max_7cf53 2 = .ok (.if_icmp .lt 7, 3) := by decide +kernel
theorem dJ9_max_7cf53_5 : decode cJ9_max_7cf53 5 = .ok (.iload_n 0, 1) := by decide +kernel
theorem dJ9_max_7cf53_6 : decode cJ9_max_7cf53 6 = .ok (.goto 4, 3) := by decide +kernel
theorem dJ9_max_7cf53_9 : decode cJ9_max_7cf53 9 = .ok (.iload_n 1, 1) := by decide +kernel
theorem dJ9_max_7cf53_10 : decode cJ9_max_7cf53 10 = .ok (.ireturn, 1) := by decide +kernel
theorem dJ9_min_7cf53_0 : decode cJ9_min_7cf53 0 = .ok (.iload_n 0, 1) := by decide +kernel
theorem dJ9_min_7cf53_1 : decode cJ9_min_7cf53 1 = .ok (.iload_n 1, 1) := by decide +kernel
theorem dJ9_min_7cf53_2 : decode cJ9_min_7cf53 2 = .ok (.if_icmp .gt 7, 3) := by decide +kernel
theorem dJ9_min_7cf53_5 : decode cJ9_min_7cf53 5 = .ok (.iload_n 0, 1) := by decide +kernel
theorem dJ9_min_7cf53_6 : decode cJ9_min_7cf53 6 = .ok (.goto 4, 3) := by decide +kernel
theorem dJ9_min_7cf53_9 : decode cJ9_min_7cf53 9 = .ok (.iload_n 1, 1) := by decide +kernel
theorem dJ9_min_7cf53_10 : decode cJ9_min_7cf53 10 = .ok (.ireturn, 1) := by decide +kernel
theorem dJ0_length_8abf5_0 : decode cJ0_length_8abf5 0 = .ok (.aload_n 0, 1) := by decide +kernel
theorem dJ0_length_8abf5_1 : decode cJ0_length_8abf5 1 = .ok (.getfield 9, 3) := by decide +kernel
theorem dJ0_length_8abf5_4 : decode cJ0_length_8abf5 4 = .ok (.arraylength, 1) := by decide +kernel
theorem dJ0_length_8abf5_5 : decode cJ0_length_8abf5 5 = .ok (.aload_n 0, 1) := by decide +kernel
theorem dJ0_length_8abf5_6 : decode cJ0_length_8abf5 6 = .ok (.invokevirtual 335, 3) := by decide +kernel
theorem dJ0_length_8abf5_9 : decode cJ0_length_8abf5 9 = .ok (.ishr, 1) := by decide +kernel
theorem dJ0_length_8abf5_10 : decode cJ0_length_8abf5 10 = .ok (.ireturn, 1) := by decide +kernel
theorem dJ0_charAt_5068e_0 : decode cJ0_charAt_5068e 0 = .ok (.aload_n 0, 1) := by decide +kernel
theorem dJ0_charAt_5068e_1 : decode cJ0_charAt_5068e 1 = .ok (.invokevirtual 492, 3) := by decide +kernel
theorem dJ0_charAt_5068e_4 : decode cJ0_charAt_5068e 4 = .ok (.ifCond .eq 12, 3) := by decide +kernel
theorem dJ0_charAt_5068e_7 : decode cJ0_charAt_5068e 7 = .ok (.aload_n 0, 1) := by decide +kernel
theorem dJ0_charAt_5068e_8 : decode cJ0_charAt_5068e 8 = .ok (.getfield 9, 3) := by decide +kernel
theorem dJ0_charAt_5068e_11 : decode cJ0_charAt_5068e 11 = .ok (.iload_n 1, 1) := by decide +kernel
theorem dJ0_charAt_5068e_12 : decode cJ0_charAt_5068e 12 = .ok (.invokestatic 495, 3) := by decide +kernel
theorem dJ0_charAt_5068e_15 : decode cJ0_charAt_5068e 15 = .ok (.ireturn, 1) := by decide +kernel
theorem dJ0_charAt_5068e_16 : decode cJ0_charAt_5068e 16 = .ok (.aload_n 0, 1) := by decide +kernel
theorem dJ0_charAt_5068e_17 : decode cJ0_charAt_5068e 17 = .ok (.getfield 9, 3) := by decide +kernel
theorem dJ0_charAt_5068e_20 : decode cJ0_charAt_5068e 20 = .ok (.iload_n 1, 1) := by decide +kernel
theorem dJ0_charAt_5068e_21 : decode cJ0_charAt_5068e 21 = .ok (.invokestatic 498, 3) := by decide +kernel
theorem dJ0_charAt_5068e_24 : decode cJ0_charAt_5068e 24 = .ok (.ireturn, 1) := by decide +kernel
theorem dJ0_coder_7d493_0 : decode cJ0_coder_7d493 0 = .ok (.getstatic 38, 3) := by decide +kernel
theorem dJ0_coder_7d493_3 : decode cJ0_coder_7d493 3 = .ok (.ifCond .eq 10, 3) := by decide +kernel
theorem dJ0_coder_7d493_6 : decode cJ0_coder_7d493 6 = .ok (.aload_n 0, 1) := by decide +kernel
theorem dJ0_coder_7d493_7 : decode cJ0_coder_7d493 7 = .ok (.getfield 15, 3) := by decide +kernel
theorem dJ0_coder_7d493_10 : decode cJ0_coder_7d493 10 = .ok (.goto 4, 3) := by decide +kernel
theorem dJ0_coder_7d493_13 : decode cJ0_coder_7d493 13 = .ok (.iconst 1, 1) := by decide +kernel
theorem dJ0_coder_7d493_14 : decode cJ0_coder_7d493 14 = .ok (.ireturn, 1) := by decide +kernel
theorem dJ0_isLatin1_aae02_0 : decode cJ0_isLatin1_aae02 0 = .ok (.getstatic 38, 3) := by decide +kernel
theorem dJ0_isLatin1_aae02_3 : decode cJ0_isLatin1_aae02 3 = .ok (.ifCond .eq 14, 3) := by decide +kernel
theorem dJ0_isLatin1_aae02_6 : decode cJ0_isLatin1_aae02 6 = .ok (.aload_n 0, 1) := by decide +kernel
theorem dJ0_isLatin1_aae02_7 : decode cJ0_isLatin1_aae02 7 = .ok (.getfield 15, 3) := by decide +kernel
theorem dJ0_isLatin1_aae02_10 : decode cJ0_isLatin1_aae02 10 = .ok (.ifCond .ne 7, 3) := by decide +kernel
theorem dJ0_isLatin1_aae02_13 : decode cJ0_isLatin1_aae02 13 = .ok (.iconst 1, 1) := by decide +kernel
theorem dJ0_isLatin1_aae02_14 : decode cJ0_isLatin1_aae02 14 = .ok (.goto 4, 3) := by decide +kernel
theorem dJ0_isLatin1_aae02_17 : decode cJ0_isLatin1_aae02 17 = .ok (.iconst 0, 1) := by decide +kernel
theorem dJ0_isLatin1_aae02_18 : decode cJ0_isLatin1_aae02 18 = .ok (.ireturn, 1) := by decide +kernel
theorem dJ0_checkIndex_df160_0 : decode cJ0_checkIndex_df160 0 = .ok (.iload_n 0, 1) := by decide +kernel
theorem dJ0_checkIndex_df160_1 : decode cJ0_checkIndex_df160 1 = .ok (.iload_n 1, 1) := by decide +kernel
theorem dJ0_checkIndex_df160_2 : decode cJ0_checkIndex_df160 2 = .ok (.getstatic 1053, 3) := by decide +kernel
theorem dJ0_checkIndex_df160_5 : decode cJ0_checkIndex_df160 5 = .ok (.invokestatic 1059, 3) := by decide +kernel
theorem dJ0_checkIndex_df160_8 : decode cJ0_checkIndex_df160 8 = .ok (.pop, 1) := by decide +kernel
theorem dJ0_checkIndex_df160_9 : decode cJ0_checkIndex_df160 9 = .ok (.return_, 1) := by decide +kernel
theorem dJ1_charAt_3b067_0 : decode cJ1_charAt_3b067 0 = .ok (.iload_n 1, 1) := by decide +kernel
theorem dJ1_charAt_3b067_1 : decode cJ1_charAt_3b067 1 = .ok (.aload_n 0, 1) := by decide +kernel
theorem dJ1_charAt_3b067_2 : decode cJ1_charAt_3b067 2 = .ok (.arraylength, 1) := by decide +kernel
theorem dJ1_charAt_3b067_3 : decode cJ1_charAt_3b067 3 = .ok (.invokestatic 9, 3) := by decide +kernel
theorem dJ1_charAt_3b067_6 : decode cJ1_charAt_3b067 6 = .ok (.aload_n 0, 1) := by decide +kernel
theorem dJ1_charAt_3b067_7 : decode cJ1_charAt_3b067 7 = .ok (.iload_n 1, 1) := by decide +kernel
theorem dJ1_charAt_3b067_8 : decode cJ1_charAt_3b067 8 = .ok (.baload, 1) := by decide +kernel
theorem dJ1_charAt_3b067_9 : decode cJ1_charAt_3b067 9 = .ok (.sipush 255, 3) := by decide +kernel
theorem dJ1_charAt_3b067_12 : decode cJ1_charAt_3b067 12 = .ok (.iand, 1) := by decide +kernel
theorem dJ1_charAt_3b067_13 : decode cJ1_charAt_3b067 13 = .ok (.i2c, 1) := by decide +kernel
theorem dJ1_charAt_3b067_14 : decode cJ1_charAt_3b067 14 = .ok (.ireturn, 1) := by decide +kernel
theorem dJ2_getChar_3b067_0 : decode cJ2_getChar_3b067 0 = .ok (.getstatic 44, 3) := by decide +kernel
theorem dJ2_getChar_3b067_3 : decode cJ2_getChar_3b067 3 = .ok (.ifCond .ne 25, 3) := by decide +kernel
theorem dJ2_getChar_3b067_6 : decode cJ2_getChar_3b067 6 = .ok (.iload_n 1, 1) := by decide +kernel
theorem dJ2_getChar_3b067_7 : decode cJ2_getChar_3b067 7 = .ok (.ifCond .lt 11, 3) := by decide +kernel
theorem dJ2_getChar_3b067_10 : decode cJ2_getChar_3b067 10 = .ok (.iload_n 1, 1) := by decide +kernel
theorem dJ2_getChar_3b067_11 : decode cJ2_getChar_3b067 11 = .ok (.aload_n 0, 1) := by decide +kernel
theorem dJ2_getChar_3b067_12 : decode cJ2_getChar_3b067 12 = .ok (.invokestatic 48, 3) := by decide +kernel
theorem dJ2_getChar_3b067_15 : decode cJ2_getChar_3b067 15 = .ok (.if_icmp .lt 13, 3) := by decide +kernel
theorem dJ2_getChar_3b067_18 : decode cJ2_getChar_3b067 18 = .ok (.new 52, 3) := by decide +kernel
theorem dJ2_getChar_3b067_21 : decode cJ2_getChar_3b067 21 = .ok (.dup, 1) := by decide +kernel
theorem dJ2_getChar_3b067_22 : decode cJ2_getChar_3b067 22 = .ok (.ldc 54, 2) := by decide +kernel
theorem dJ2_getChar_3b067_24 : decode cJ2_getChar_3b067 24 = .ok (.invokespecial 56, 3) := by decide +kernel
theorem dJ2_getChar_3b067_27 : decode cJ2_getChar_3b067 27 = .ok (.athrow, 1) := by decide +kernel
theorem dJ2_getChar_3b067_28 : decode cJ2_getChar_3b067 28 = .ok (.iload_n 1, 1) := by decide +kernel
theorem dJ2_getChar_3b067_29 : decode cJ2_getChar_3b067 29 = .ok (.iconst 1, 1) := by decide +kernel
theorem dJ2_getChar_3b067_30 : decode cJ2_getChar_3b067 30 = .ok (.ishl, 1) := by decide +kernel
theorem dJ2_getChar_3b067_31 : decode cJ2_getChar_3b067 31 = .ok (.istore_n 1, 1) := by decide +kernel
theorem dJ2_getChar_3b067_32 : decode cJ2_getChar_3b067 32 = .ok (.aload_n 0, 1) := by decide +kernel
theorem dJ2_getChar_3b067_33 : decode cJ2_getChar_3b067 33 = .ok (.iload_n 1, 1) := by decide +kernel
theorem dJ2_getChar_3b067_34 : decode cJ2_getChar_3b067 34 = .ok (.iinc 1 1, 3) := by decide +kernel
theorem dJ2_getChar_3b067_37 : decode cJ2_getChar_3b067 37 = .ok (.baload, 1) := by decide +kernel
theorem dJ2_getChar_3b067_38 : decode cJ2_getChar_3b067 38 = .ok (.sipush 255, 3) := by decide +kernel
theorem dJ2_getChar_3b067_41 : decode cJ2_getChar_3b067 41 = .ok (.iand, 1) := by decide +kernel
theorem dJ2_getChar_3b067_42 : decode cJ2_getChar_3b067 42 = .ok (.getstatic 59, 3) := by decide +kernel
theorem dJ2_getChar_3b067_45 : decode cJ2_getChar_3b067 45 = .ok (.ishl, 1) := by decide +kernel
theorem dJ2_getChar_3b067_46 : decode cJ2_getChar_3b067 46 = .ok (.aload_n 0, 1) := by decide +kernel
theorem dJ2_getChar_3b067_47 : decode cJ2_getChar_3b067 47 = .ok (.iload_n 1, 1) := by decide +kernel
theorem dJ2_getChar_3b067_48 : decode cJ2_getChar_3b067 48 = .ok (.baload, 1) := by decide +kernel
theorem dJ2_getChar_3b067_49 : decode cJ2_getChar_3b067 49 = .ok (.sipush 255, 3) := by decide +kernel
theorem dJ2_getChar_3b067_52 : decode cJ2_getChar_3b067 52 = .ok (.iand, 1) := by decide +kernel
theorem dJ2_getChar_3b067_53 : decode cJ2_getChar_3b067 53 = .ok (.getstatic 63, 3) := by decide +kernel
theorem dJ2_getChar_3b067_56 : decode cJ2_getChar_3b067 56 = .ok (.ishl, 1) := by decide +kernel
theorem dJ2_getChar_3b067_57 : decode cJ2_getChar_3b067 57 = .ok (.ior, 1) := by decide +kernel
theorem dJ2_getChar_3b067_58 : decode cJ2_getChar_3b067 58 = .ok (.i2c, 1) := by decide +kernel
theorem dJ2_getChar_3b067_59 : decode cJ2_getChar_3b067 59 = .ok (.ireturn, 1) := by decide +kernel
theorem dJ2_length_9d52b_0 : decode cJ2_length_9d52b 0 = .ok (.aload_n 0, 1) := by decide +kernel
theorem dJ2_length_9d52b_1 : decode cJ2_length_9d52b 1 = .ok (.arraylength, 1) := by decide +kernel
theorem dJ2_length_9d52b_2 : decode cJ2_length_9d52b 2 = .ok (.iconst 1, 1) := by decide +kernel
theorem dJ2_length_9d52b_3 : decode cJ2_length_9d52b 3 = .ok (.ishr, 1) := by decide +kernel
theorem dJ2_length_9d52b_4 : decode cJ2_length_9d52b 4 = .ok (.ireturn, 1) := by decide +kernel
theorem dJ2_charAt_3b067_0 : decode cJ2_charAt_3b067 0 = .ok (.iload_n 1, 1) := by decide +kernel
theorem dJ2_charAt_3b067_1 : decode cJ2_charAt_3b067 1 = .ok (.aload_n 0, 1) := by decide +kernel
theorem dJ2_charAt_3b067_2 : decode cJ2_charAt_3b067 2 = .ok (.invokestatic 67, 3) := by decide +kernel
theorem dJ2_charAt_3b067_5 : decode cJ2_charAt_3b067 5 = .ok (.aload_n 0, 1) := by decide +kernel
theorem dJ2_charAt_3b067_6 : decode cJ2_charAt_3b067 6 = .ok (.iload_n 1, 1) := by decide +kernel
theorem dJ2_charAt_3b067_7 : decode cJ2_charAt_3b067 7 = .ok (.invokestatic 71, 3) := by decide +kernel
theorem dJ2_charAt_3b067_10 : decode cJ2_charAt_3b067 10 = .ok (.ireturn, 1) := by decide +kernel
theorem dJ2_checkIndex_2214a_0 : decode cJ2_checkIndex_2214a 0 = .ok (.iload_n 0, 1) := by decide +kernel
theorem dJ2_checkIndex_2214a_1 : decode cJ2_checkIndex_2214a 1 = .ok (.aload_n 1, 1) := by decide +kernel
theorem dJ2_checkIndex_2214a_2 : decode cJ2_checkIndex_2214a 2 = .ok (.invokestatic 48, 3) := by decide +kernel
theorem dJ2_checkIndex_2214a_5 : decode cJ2_checkIndex_2214a 5 = .ok (.invokestatic 414, 3) := by decide +kernel
theorem dJ2_checkIndex_2214a_8 : decode cJ2_checkIndex_2214a 8 = .ok (.return_, 1) := by decide +kernel
theorem dJ3_checkIndex_8e157_0 : decode cJ3_checkIndex_8e157 0 = .ok (.iload_n 0, 1) := by decide +kernel
theorem dJ3_checkIndex_8e157_1 : decode cJ3_checkIndex_8e157 1 = .ok (.ifCond .lt 8, 3) := by decide +kernel
theorem dJ3_checkIndex_8e157_4 : decode cJ3_checkIndex_8e157 4 = .ok (.iload_n 0, 1) := by decide +kernel
theorem dJ3_checkIndex_8e157_5 : decode cJ3_checkIndex_8e157 5 = .ok (.iload_n 1, 1) := by decide +kernel
theorem dJ3_checkIndex_8e157_6 : decode cJ3_checkIndex_8e157 6 = .ok (.if_icmp .lt 10, 3) := by decide +kernel
theorem dJ3_checkIndex_8e157_9 : decode cJ3_checkIndex_8e157 9 = .ok (.aload_n 2, 1) := by decide +kernel
theorem dJ3_checkIndex_8e157_10 : decode cJ3_checkIndex_8e157 10 = .ok (.iload_n 0, 1) := by decide +kernel
theorem dJ3_checkIndex_8e157_11 : decode cJ3_checkIndex_8e157 11 = .ok (.iload_n 1, 1) := by decide +kernel
theorem dJ3_checkIndex_8e157_12 : decode cJ3_checkIndex_8e157 12 = .ok (.invokestatic 95, 3) := by decide +kernel
theorem dJ3_checkIndex_8e157_15 : decode cJ3_checkIndex_8e157 15 = .ok (.athrow, 1) := by decide +kernel
theorem dJ3_checkIndex_8e157_16 : decode cJ3_checkIndex_8e157 16 = .ok (.iload_n 0, 1) := by decide +kernel
theorem dJ3_checkIndex_8e157_17 : decode cJ3_checkIndex_8e157 17 = .ok (.ireturn, 1) := by decide +kernel
end
section
theorem dL_law_0 : decode cL_law 0 = .ok (.new 7, 3) := by decide +kernel
theorem dL_law_3 : decode cL_law 3 = .ok (.dup, 1) := by decide +kernel
theorem dL_law_4 : decode cL_law 4 = .ok (.invokespecial 9, 3) := by decide +kernel
theorem dL_law_7 : decode cL_law 7 = .ok (.astore_n 1, 1) := by decide +kernel
theorem dL_law_8 : decode cL_law 8 = .ok (.new 10, 3) := by decide +kernel
theorem dL_law_11 : decode cL_law 11 = .ok (.dup, 1) := by decide +kernel
theorem dL_law_12 : decode cL_law 12 = .ok (.invokespecial 12, 3) := by decide +kernel
theorem dL_law_15 : decode cL_law 15 = .ok (.astore_n 2, 1) := by decide +kernel
theorem dL_law_16 : decode cL_law 16 = .ok (.iconst 0, 1) := by decide +kernel
theorem dL_law_17 : decode cL_law 17 = .ok (.istore_n 3, 1) := by decide +kernel
theorem dL_law_18 : decode cL_law 18 = .ok (.iload_n 3, 1) := by decide +kernel
theorem dL_law_19 : decode cL_law 19 = .ok (.aload_n 0, 1) := by decide +kernel
theorem dL_law_20 : decode cL_law 20 = .ok (.arraylength, 1) := by decide +kernel
theorem dL_law_21 : decode cL_law 21 = .ok (.bipush 6, 2) := by decide +kernel
theorem dL_law_23 : decode cL_law 23 = .ok (.isub, 1) := by decide +kernel
theorem dL_law_24 : decode cL_law 24 = .ok (.if_icmp .gt 1195, 3) := by decide +kernel
theorem dL_law_27 : decode cL_law 27 = .ok (.aload_n 0, 1) := by decide +kernel
theorem dL_law_28 : decode cL_law 28 = .ok (.iload_n 3, 1) := by decide +kernel
theorem dL_law_29 : decode cL_law 29 = .ok (.iaload, 1) := by decide +kernel
theorem dL_law_30 : decode cL_law 30 = .ok (.bipush 31, 2) := by decide +kernel
theorem dL_law_32 : decode cL_law 32 = .ok (.iand, 1) := by decide +kernel
theorem dL_law_33 : decode cL_law 33 = .ok (.tableswitch 1180 0 31 #[143, 206, 219, 232, 265, 298, 331, 364, 387, 410, 433, 456, 519, 562, 615, 658, 711, 754, 797, 840, 883, 926, 959, 972, 985, 1008, 1041, 1064, 1097, 1120, 1143, 1166], 143) := by decide +kernel
theorem dL_law_176 : decode cL_law 176 = .ok (.aload_n 1, 1) := by decide +kernel
theorem dL_law_177 : decode cL_law 177 = .ok (.aload_n 0, 1) := by decide +kernel
theorem dL_law_178 : decode cL_law 178 = .ok (.iload_n 3, 1) := by decide +kernel
theorem dL_law_179 : decode cL_law 179 = .ok (.iconst 1, 1) := by decide +kernel
theorem dL_law_180 : decode cL_law 180 = .ok (.iadd, 1) := by decide +kernel
theorem dL_law_181 : decode cL_law 181 = .ok (.iaload, 1) := by decide +kernel
theorem dL_law_182 : decode cL_law 182 = .ok (.i2l, 1) := by decide +kernel
theorem dL_law_183 : decode cL_law 183 = .ok (.bipush 32, 2) := by decide +kernel
theorem dL_law_185 : decode cL_law 185 = .ok (.lshl, 1) := by decide +kernel
theorem dL_law_186 : decode cL_law 186 = .ok (.aload_n 0, 1) := by decide +kernel
theorem dL_law_187 : decode cL_law 187 = .ok (.iload_n 3, 1) := by decide +kernel
theorem dL_law_188 : decode cL_law 188 = .ok (.iconst 2, 1) := by decide +kernel
theorem dL_law_189 : decode cL_law 189 = .ok (.iadd, 1) := by decide +kernel
theorem dL_law_190 : decode cL_law 190 = .ok (.iaload, 1) := by decide +kernel
theorem dL_law_191 : decode cL_law 191 = .ok (.i2l, 1) := by decide +kernel
theorem dL_law_192 : decode cL_law 192 = .ok (.ldc2_w 13, 3) := by decide +kernel
theorem dL_law_195 : decode cL_law 195 = .ok (.land, 1) := by decide +kernel
theorem dL_law_196 : decode cL_law 196 = .ok (.lor, 1) := by decide +kernel
theorem dL_law_197 : decode cL_law 197 = .ok (.aload_n 0, 1) := by decide +kernel
theorem dL_law_198 : decode cL_law 198 = .ok (.iload_n 3, 1) := by decide +kernel
theorem dL_law_199 : decode cL_law 199 = .ok (.iconst 3, 1) := by decide +kernel
theorem dL_law_200 : decode cL_law 200 = .ok (.iadd, 1) := by decide +kernel
theorem dL_law_201 : decode cL_law 201 = .ok (.iaload, 1) := by decide +kernel
theorem dL_law_202 : decode cL_law 202 = .ok (.invokevirtual 15, 3) := by decide +kernel
theorem dL_law_205 : decode cL_law 205 = .ok (.aload_n 2, 1) := by decide +kernel
theorem dL_law_206 : decode cL_law 206 = .ok (.aload_n 0, 1) := by decide +kernel
theorem dL_law_207 : decode cL_law 207 = .ok (.iload_n 3, 1) := by decide +kernel
theorem dL_law_208 : decode cL_law 208 = .ok (.iconst 1, 1) := by decide +kernel
theorem dL_law_209 : decode cL_law 209 = .ok (.iadd, 1) := by decide +kernel
theorem dL_law_210 : decode cL_law 210 = .ok (.iaload, 1) := by decide +kernel
theorem dL_law_211 : decode cL_law 211 = .ok (.i2l, 1) := by decide +kernel
theorem dL_law_212 : decode cL_law 212 = .ok (.bipush 32, 2) := by decide +kernel
theorem dL_law_214 : decode cL_law 214 = .ok (.lshl, 1) := by decide +kernel
theorem dL_law_215 : decode cL_law 215 = .ok (.aload_n 0, 1) := by decide +kernel
theorem dL_law_216 : decode cL_law 216 = .ok (.iload_n 3, 1) := by decide +kernel
theorem dL_law_217 : decode cL_law 217 = .ok (.iconst 2, 1) := by decide +kernel
theorem dL_law_218 : decode cL_law 218 = .ok (.iadd, 1) := by decide +kernel
theorem dL_law_219 : decode cL_law 219 = .ok (.iaload, 1) := by decide +kernel
theorem dL_law_220 : decode cL_law 220 = .ok (.i2l, 1) := by decide +kernel
theorem dL_law_221 : decode cL_law 221 = .ok (.ldc2_w 13, 3) := by decide +kernel
theorem dL_law_224 : decode cL_law 224 = .ok (.land, 1) := by decide +kernel
theorem dL_law_225 : decode cL_law 225 = .ok (.lor, 1) := by decide +kernel
theorem dL_law_226 : decode cL_law 226 = .ok (.aload_n 0, 1) := by decide +kernel
theorem dL_law_227 : decode cL_law 227 = .ok (.iload_n 3, 1) := by decide +kernel
theorem dL_law_228 : decode cL_law 228 = .ok (.iconst 3, 1) := by decide +kernel
theorem dL_law_229 : decode cL_law 229 = .ok (.iadd, 1) := by decide +kernel
theorem dL_law_230 : decode cL_law 230 = .ok (.iaload, 1) := by decide +kernel
theorem dL_law_231 : decode cL_law 231 = .ok (.invokevirtual 19, 3) := by decide +kernel
theorem dL_law_234 : decode cL_law 234 = .ok (.if_icmp .eq 979, 3) := by decide +kernel
theorem dL_law_237 : decode cL_law 237 = .ok (.iconst 0, 1) := by decide +kernel
theorem dL_law_238 : decode cL_law 238 = .ok (.ireturn, 1) := by decide +kernel
theorem dL_law_239 : decode cL_law 239 = .ok (.aload_n 1, 1) := by decide +kernel
theorem dL_law_240 : decode cL_law 240 = .ok (.invokevirtual 20, 3) := by decide +kernel
theorem dL_law_243 : decode cL_law 243 = .ok (.aload_n 2, 1) := by decide +kernel
theorem dL_law_244 : decode cL_law 244 = .ok (.invokevirtual 24, 3) := by decide +kernel
theorem dL_law_247 : decode cL_law 247 = .ok (.if_icmp .eq 966, 3) := by decide +kernel
theorem dL_law_250 : decode cL_law 250 = .ok (.iconst 0, 1) := by decide +kernel
theorem dL_law_251 : decode cL_law 251 = .ok (.ireturn, 1) := by decide +kernel
theorem dL_law_252 : decode cL_law 252 = .ok (.aload_n 1, 1) := by decide +kernel
theorem dL_law_253 : decode cL_law 253 = .ok (.invokevirtual 25, 3) := by decide +kernel
theorem dL_law_256 : decode cL_law 256 = .ok (.aload_n 2, 1) := by decide +kernel
theorem dL_law_257 : decode cL_law 257 = .ok (.invokevirtual 28, 3) := by decide +kernel
theorem dL_law_260 : decode cL_law 260 = .ok (.if_icmp .eq 953, 3) := by decide +kernel
theorem dL_law_263 : decode cL_law 263 = .ok (.iconst 0, 1) := by decide +kernel
theorem dL_law_264 : decode cL_law 264 = .ok (.ireturn, 1) := by decide +kernel
theorem dL_law_265 : decode cL_law 265 = .ok (.aload_n 1, 1) := by decide +kernel
theorem dL_law_266 : decode cL_law 266 = .ok (.aload_n 0, 1) := by decide +kernel
theorem dL_law_267 : decode cL_law 267 = .ok (.iload_n 3, 1) := by decide +kernel
theorem dL_law_268 : decode cL_law 268 = .ok (.iconst 1, 1) := by decide +kernel
theorem dL_law_269 : decode cL_law 269 = .ok (.iadd, 1) := by decide +kernel
theorem dL_law_270 : decode cL_law 270 = .ok (.iaload, 1) := by decide +kernel
theorem dL_law_271 : decode cL_law 271 = .ok (.aload_n 0, 1) := by decide +kernel
theorem dL_law_272 : decode cL_law 272 = .ok (.iload_n 3, 1) := by decide +kernel
theorem dL_law_273 : decode cL_law 273 = .ok (.iconst 2, 1) := by decide +kernel
theorem dL_law_274 : decode cL_law 274 = .ok (.iadd, 1) := by decide +kernel
theorem dL_law_275 : decode cL_law 275 = .ok (.iaload, 1) := by decide +kernel
theorem dL_law_276 : decode cL_law 276 = .ok (.invokevirtual 29, 3) := by decide +kernel
theorem dL_law_279 : decode cL_law 279 = .ok (.aload_n 2, 1) := by decide +kernel
theorem dL_law_280 : decode cL_law 280 = .ok (.aload_n 0, 1) := by decide +kernel
theorem dL_law_281 : decode cL_law 281 = .ok (.iload_n 3, 1) := by decide +kernel
theorem dL_law_282 : decode cL_law 282 = .ok (.iconst 1, 1) := by decide +kernel
theorem dL_law_283 : decode cL_law 283 = .ok (.iadd, 1) := by decide +kernel
theorem dL_law_284 : decode cL_law 284 = .ok (.iaload, 1) := by decide +kernel
theorem dL_law_285 : decode cL_law 285 = .ok (.aload_n 0, 1) := by decide +kernel
theorem dL_law_286 : decode cL_law 286 = .ok (.iload_n 3, 1) := by decide +kernel
theorem dL_law_287 : decode cL_law 287 = .ok (.iconst 2, 1) := by decide +kernel
theorem dL_law_288 : decode cL_law 288 = .ok (.iadd, 1) := by decide +kernel
theorem dL_law_289 : decode cL_law 289 = .ok (.iaload, 1) := by decide +kernel
theorem dL_law_290 : decode cL_law 290 = .ok (.invokevirtual 33, 3) := by decide +kernel
theorem dL_law_293 : decode cL_law 293 = .ok (.if_icmp .eq 920, 3) := by decide +kernel
theorem dL_law_296 : decode cL_law 296 = .ok (.iconst 0, 1) := by decide +kernel
theorem dL_law_297 : decode cL_law 297 = .ok (.ireturn, 1) := by decide +kernel
theorem dL_law_298 : decode cL_law 298 = .ok (.aload_n 1, 1) := by decide +kernel
theorem dL_law_299 : decode cL_law 299 = .ok (.aload_n 0, 1) := by decide +kernel
theorem dL_law_300 : decode cL_law 300 = .ok (.iload_n 3, 1) := by decide +kernel
theorem dL_law_301 : decode cL_law 301 = .ok (.iconst 1, 1) := by decide +kernel
theorem dL_law_302 : decode cL_law 302 = .ok (.iadd, 1) := by decide +kernel
theorem dL_law_303 : decode cL_law 303 = .ok (.iaload, 1) := by decide +kernel
theorem dL_law_304 : decode cL_law 304 = .ok (.aload_n 0, 1) := by decide +kernel
theorem dL_law_305 : decode cL_law 305 = .ok (.iload_n 3, 1) := by decide +kernel
theorem dL_law_306 : decode cL_law 306 = .ok (.iconst 2, 1) := by decide +kernel
theorem dL_law_307 : decode cL_law 307 = .ok (.iadd, 1) := by decide +kernel
theorem dL_law_308 : decode cL_law 308 = .ok (.iaload, 1) := by decide +kernel
theorem dL_law_309 : decode cL_law 309 = .ok (.invokevirtual 34, 3) := by decide +kernel
theorem dL_law_312 : decode cL_law 312 = .ok (.aload_n 2, 1) := by decide +kernel
theorem dL_law_313 : decode cL_law 313 = .ok (.aload_n 0, 1) := by decide +kernel
theorem dL_law_314 : decode cL_law 314 = .ok (.iload_n 3, 1) := by decide +kernel
theorem dL_law_315 : decode cL_law 315 = .ok (.iconst 1, 1) := by decide +kernel
theorem dL_law_316 : decode cL_law 316 = .ok (.iadd, 1) := by decide +kernel
theorem dL_law_317 : decode cL_law 317 = .ok (.iaload, 1) := by decide +kernel
theorem dL_law_318 : decode cL_law 318 = .ok (.aload_n 0, 1) := by decide +kernel
theorem dL_law_319 : decode cL_law 319 = .ok (.iload_n 3, 1) := by decide +kernel
theorem dL_law_320 : decode cL_law 320 = .ok (.iconst 2, 1) := by decide +kernel
theorem dL_law_321 : decode cL_law 321 = .ok (.iadd, 1) := by decide +kernel
theorem dL_law_322 : decode cL_law 322 = .ok (.iaload, 1) := by decide +kernel
theorem dL_law_323 : decode cL_law 323 = .ok (.invokevirtual 37, 3) := by decide +kernel
theorem dL_law_326 : decode cL_law 326 = .ok (.if_icmp .eq 887, 3) := by decide +kernel
theorem dL_law_329 : decode cL_law 329 = .ok (.iconst 0, 1) := by decide +kernel
theorem dL_law_330 : decode cL_law 330 = .ok (.ireturn, 1) := by decide +kernel
theorem dL_law_331 : decode cL_law 331 = .ok (.aload_n 1, 1) := by decide +kernel
theorem dL_law_332 : decode cL_law 332 = .ok (.aload_n 0, 1) := by decide +kernel
theorem dL_law_333 : decode cL_law 333 = .ok (.iload_n 3, 1) := by decide +kernel
theorem dL_law_334 : decode cL_law 334 = .ok (.iconst 1, 1) := by decide +kernel
theorem dL_law_335 : decode cL_law 335 = .ok (.iadd, 1) := by decide +kernel
theorem dL_law_336 : decode cL_law 336 = .ok (.iaload, 1) := by decide +kernel
theorem dL_law_337 : decode cL_law 337 = .ok (.aload_n 0, 1) := by decide +kernel
theorem dL_law_338 : decode cL_law 338 = .ok (.iload_n 3, 1) := by decide +kernel
theorem dL_law_339 : decode cL_law 339 = .ok (.iconst 2, 1) := by decide +kernel
theorem dL_law_340 : decode cL_law 340 = .ok (.iadd, 1) := by decide +kernel
theorem dL_law_341 : decode cL_law 341 = .ok (.iaload, 1) := by decide +kernel
theorem dL_law_342 : decode cL_law 342 = .ok (.invokevirtual 38, 3) := by decide +kernel
theorem dL_law_345 : decode cL_law 345 = .ok (.aload_n 2, 1) := by decide +kernel
theorem dL_law_346 : decode cL_law 346 = .ok (.aload_n 0, 1) := by decide +kernel
theorem dL_law_347 : decode cL_law 347 = .ok (.iload_n 3, 1) := by decide +kernel
theorem dL_law_348 : decode cL_law 348 = .ok (.iconst 1, 1) := by decide +kernel
theorem dL_law_349 : decode cL_law 349 = .ok (.iadd, 1) := by decide +kernel
theorem dL_law_350 : decode cL_law 350 = .ok (.iaload, 1) := by decide +kernel
theorem dL_law_351 : decode cL_law 351 = .ok (.aload_n 0, 1) := by decide +kernel
theorem dL_law_352 : decode cL_law 352 = .ok (.iload_n 3, 1) := by decide +kernel
theorem dL_law_353 : decode cL_law 353 = .ok (.iconst 2, 1) := by decide +kernel
theorem dL_law_354 : decode cL_law 354 = .ok (.iadd, 1) := by decide +kernel
theorem dL_law_355 : decode cL_law 355 = .ok (.iaload, 1) := by decide +kernel
theorem dL_law_356 : decode cL_law 356 = .ok (.invokevirtual 41, 3) := by decide +kernel
theorem dL_law_359 : decode cL_law 359 = .ok (.if_icmp .eq 854, 3) := by decide +kernel
theorem dL_law_362 : decode cL_law 362 = .ok (.iconst 0, 1) := by decide +kernel
theorem dL_law_363 : decode cL_law 363 = .ok (.ireturn, 1) := by decide +kernel
theorem dL_law_364 : decode cL_law 364 = .ok (.aload_n 1, 1) := by decide +kernel
theorem dL_law_365 : decode cL_law 365 = .ok (.aload_n 0, 1) := by decide +kernel
theorem dL_law_366 : decode cL_law 366 = .ok (.iload_n 3, 1) := by decide +kernel
theorem dL_law_367 : decode cL_law 367 = .ok (.iconst 1, 1) := by decide +kernel
theorem dL_law_368 : decode cL_law 368 = .ok (.iadd, 1) := by decide +kernel
theorem dL_law_369 : decode cL_law 369 = .ok (.iaload, 1) := by decide +kernel
theorem dL_law_370 : decode cL_law 370 = .ok (.aload_n 0, 1) := by decide +kernel
theorem dL_law_371 : decode cL_law 371 = .ok (.iload_n 3, 1) := by decide +kernel
theorem dL_law_372 : decode cL_law 372 = .ok (.iconst 2, 1) := by decide +kernel
theorem dL_law_373 : decode cL_law 373 = .ok (.iadd, 1) := by decide +kernel
theorem dL_law_374 : decode cL_law 374 = .ok (.iaload, 1) := by decide +kernel
theorem dL_law_375 : decode cL_law 375 = .ok (.invokevirtual 42, 3) := by decide +kernel
theorem dL_law_378 : decode cL_law 378 = .ok (.aload_n 2, 1) := by decide +kernel
theorem dL_law_379 : decode cL_law 379 = .ok (.aload_n 0, 1) := by decide +kernel
theorem dL_law_380 : decode cL_law 380 = .ok (.iload_n 3, 1) := by decide +kernel
theorem dL_law_381 : decode cL_law 381 = .ok (.iconst 1, 1) := by decide +kernel
theorem dL_law_382 : decode cL_law 382 = .ok (.iadd, 1) := by decide +kernel
theorem dL_law_383 : decode cL_law 383 = .ok (.iaload, 1) := by decide +kernel
theorem dL_law_384 : decode cL_law 384 = .ok (.aload_n 0, 1) := by decide +kernel
theorem dL_law_385 : decode cL_law 385 = .ok (.iload_n 3, 1) := by decide +kernel
theorem dL_law_386 : decode cL_law 386 = .ok (.iconst 2, 1) := by decide +kernel
theorem dL_law_387 : decode cL_law 387 = .ok (.iadd, 1) := by decide +kernel
theorem dL_law_388 : decode cL_law 388 = .ok (.iaload, 1) := by decide +kernel
theorem dL_law_389 : decode cL_law 389 = .ok (.invokevirtual 45, 3) := by decide +kernel
theorem dL_law_392 : decode cL_law 392 = .ok (.if_icmp .eq 821, 3) := by decide +kernel
theorem dL_law_395 : decode cL_law 395 = .ok (.iconst 0, 1) := by decide +kernel
theorem dL_law_396 : decode cL_law 396 = .ok (.ireturn, 1) := by decide +kernel
theorem dL_law_397 : decode cL_law 397 = .ok (.aload_n 1, 1) := by decide +kernel
theorem dL_law_398 : decode cL_law 398 = .ok (.aload_n 0, 1) := by decide +kernel
theorem dL_law_399 : decode cL_law 399 = .ok (.iload_n 3, 1) := by decide +kernel
theorem dL_law_400 : decode cL_law 400 = .ok (.iconst 1, 1) := by decide +kernel
theorem dL_law_401 : decode cL_law 401 = .ok (.iadd, 1) := by decide +kernel
theorem dL_law_402 : decode cL_law 402 = .ok (.iaload, 1) := by decide +kernel
theorem dL_law_403 : decode cL_law 403 = .ok (.invokevirtual 46, 3) := by decide +kernel
theorem dL_law_406 : decode cL_law 406 = .ok (.aload_n 2, 1) := by decide +kernel
theorem dL_law_407 : decode cL_law 407 = .ok (.aload_n 0, 1) := by decide +kernel
theorem dL_law_408 : decode cL_law 408 = .ok (.iload_n 3, 1) := by decide +kernel
theorem dL_law_409 : decode cL_law 409 = .ok (.iconst 1, 1) := by decide +kernel
theorem dL_law_410 : decode cL_law 410 = .ok (.iadd, 1) := by decide +kernel
theorem dL_law_411 : decode cL_law 411 = .ok (.iaload, 1) := by decide +kernel
theorem dL_law_412 : decode cL_law 412 = .ok (.invokevirtual 50, 3) := by decide +kernel
theorem dL_law_415 : decode cL_law 415 = .ok (.if_icmp .eq 798, 3) := by decide +kernel
theorem dL_law_418 : decode cL_law 418 = .ok (.iconst 0, 1) := by decide +kernel
theorem dL_law_419 : decode cL_law 419 = .ok (.ireturn, 1) := by decide +kernel
theorem dL_law_420 : decode cL_law 420 = .ok (.aload_n 1, 1) := by decide +kernel
theorem dL_law_421 : decode cL_law 421 = .ok (.aload_n 0, 1) := by decide +kernel
theorem dL_law_422 : decode cL_law 422 = .ok (.iload_n 3, 1) := by decide +kernel
theorem dL_law_423 : decode cL_law 423 = .ok (.iconst 1, 1) := by decide +kernel
theorem dL_law_424 : decode cL_law 424 = .ok (.iadd, 1) := by decide +kernel
theorem dL_law_425 : decode cL_law 425 = .ok (.iaload, 1) := by decide +kernel
theorem dL_law_426 : decode cL_law 426 = .ok (.invokevirtual 51, 3) := by decide +kernel
theorem dL_law_429 : decode cL_law 429 = .ok (.aload_n 2, 1) := by decide +kernel
theorem dL_law_430 : decode cL_law 430 = .ok (.aload_n 0, 1) := by decide +kernel
theorem dL_law_431 : decode cL_law 431 = .ok (.iload_n 3, 1) := by decide +kernel
theorem dL_law_432 : decode cL_law 432 = .ok (.iconst 1, 1) := by decide +kernel
theorem dL_law_433 : decode cL_law 433 = .ok (.iadd, 1) := by decide +kernel
theorem dL_law_434 : decode cL_law 434 = .ok (.iaload, 1) := by decide +kernel
theorem dL_law_435 : decode cL_law 435 = .ok (.invokevirtual 54, 3) := by decide +kernel
theorem dL_law_438 : decode cL_law 438 = .ok (.if_icmp .eq 775, 3) := by decide +kernel
theorem dL_law_441 : decode cL_law 441 = .ok (.iconst 0, 1) := by decide +kernel
theorem dL_law_442 : decode cL_law 442 = .ok (.ireturn, 1) := by decide +kernel
theorem dL_law_443 : decode cL_law 443 = .ok (.aload_n 1, 1) := by decide +kernel
theorem dL_law_444 : decode cL_law 444 = .ok (.aload_n 0, 1) := by decide +kernel
theorem dL_law_445 : decode cL_law 445 = .ok (.iload_n 3, 1) := by decide +kernel
theorem dL_law_446 : decode cL_law 446 = .ok (.iconst 1, 1) := by decide +kernel
theorem dL_law_447 : decode cL_law 447 = .ok (.iadd, 1) := by decide +kernel
theorem dL_law_448 : decode cL_law 448 = .ok (.iaload, 1) := by decide +kernel
theorem dL_law_449 : decode cL_law 449 = .ok (.invokevirtual 55, 3) := by decide +kernel
theorem dL_law_452 : decode cL_law 452 = .ok (.aload_n 2, 1) := by decide +kernel
theorem dL_law_453 : decode cL_law 453 = .ok (.aload_n 0, 1) := by decide +kernel
theorem dL_law_454 : decode cL_law 454 = .ok (.iload_n 3, 1) := by decide +kernel
theorem dL_law_455 : decode cL_law 455 = .ok (.iconst 1, 1) := by decide +kernel
theorem dL_law_456 : decode cL_law 456 = .ok (.iadd, 1) := by decide +kernel
theorem dL_law_457 : decode cL_law 457 = .ok (.iaload, 1) := by decide +kernel
theorem dL_law_458 : decode cL_law 458 = .ok (.invokevirtual 58, 3) := by decide +kernel
theorem dL_law_461 : decode cL_law 461 = .ok (.if_icmp .eq 752, 3) := by decide +kernel
theorem dL_law_464 : decode cL_law 464 = .ok (.iconst 0, 1) := by decide +kernel
theorem dL_law_465 : decode cL_law 465 = .ok (.ireturn, 1) := by decide +kernel
theorem dL_law_466 : decode cL_law 466 = .ok (.aload_n 1, 1) := by decide +kernel
theorem dL_law_467 : decode cL_law 467 = .ok (.aload_n 0, 1) := by decide +kernel
theorem dL_law_468 : decode cL_law 468 = .ok (.iload_n 3, 1) := by decide +kernel
theorem dL_law_469 : decode cL_law 469 = .ok (.iconst 1, 1) := by decide +kernel
theorem dL_law_470 : decode cL_law 470 = .ok (.iadd, 1) := by decide +kernel
theorem dL_law_471 : decode cL_law 471 = .ok (.iaload, 1) := by decide +kernel
theorem dL_law_472 : decode cL_law 472 = .ok (.invokevirtual 59, 3) := by decide +kernel
theorem dL_law_475 : decode cL_law 475 = .ok (.aload_n 2, 1) := by decide +kernel
theorem dL_law_476 : decode cL_law 476 = .ok (.aload_n 0, 1) := by decide +kernel
theorem dL_law_477 : decode cL_law 477 = .ok (.iload_n 3, 1) := by decide +kernel
theorem dL_law_478 : decode cL_law 478 = .ok (.iconst 1, 1) := by decide +kernel
theorem dL_law_479 : decode cL_law 479 = .ok (.iadd, 1) := by decide +kernel
theorem dL_law_480 : decode cL_law 480 = .ok (.iaload, 1) := by decide +kernel
theorem dL_law_481 : decode cL_law 481 = .ok (.invokevirtual 62, 3) := by decide +kernel
theorem dL_law_484 : decode cL_law 484 = .ok (.if_icmp .eq 729, 3) := by decide +kernel
theorem dL_law_487 : decode cL_law 487 = .ok (.iconst 0, 1) := by decide +kernel
theorem dL_law_488 : decode cL_law 488 = .ok (.ireturn, 1) := by decide +kernel
theorem dL_law_489 : decode cL_law 489 = .ok (.aload_n 1, 1) := by decide +kernel
theorem dL_law_490 : decode cL_law 490 = .ok (.aload_n 0, 1) := by decide +kernel
theorem dL_law_491 : decode cL_law 491 = .ok (.iload_n 3, 1) := by decide +kernel
theorem dL_law_492 : decode cL_law 492 = .ok (.iconst 1, 1) := by decide +kernel
theorem dL_law_493 : decode cL_law 493 = .ok (.iadd, 1) := by decide +kernel
theorem dL_law_494 : decode cL_law 494 = .ok (.iaload, 1) := by decide +kernel
theorem dL_law_495 : decode cL_law 495 = .ok (.aload_n 0, 1) := by decide +kernel
theorem dL_law_496 : decode cL_law 496 = .ok (.iload_n 3, 1) := by decide +kernel
theorem dL_law_497 : decode cL_law 497 = .ok (.iconst 2, 1) := by decide +kernel
theorem dL_law_498 : decode cL_law 498 = .ok (.iadd, 1) := by decide +kernel
theorem dL_law_499 : decode cL_law 499 = .ok (.iaload, 1) := by decide +kernel
theorem dL_law_500 : decode cL_law 500 = .ok (.aload_n 0, 1) := by decide +kernel
theorem dL_law_501 : decode cL_law 501 = .ok (.iload_n 3, 1) := by decide +kernel
theorem dL_law_502 : decode cL_law 502 = .ok (.iconst 3, 1) := by decide +kernel
theorem dL_law_503 : decode cL_law 503 = .ok (.iadd, 1) := by decide +kernel
theorem dL_law_504 : decode cL_law 504 = .ok (.iaload, 1) := by decide +kernel
theorem dL_law_505 : decode cL_law 505 = .ok (.aload_n 0, 1) := by decide +kernel
theorem dL_law_506 : decode cL_law 506 = .ok (.iload_n 3, 1) := by decide +kernel
theorem dL_law_507 : decode cL_law 507 = .ok (.iconst 4, 1) := by decide +kernel
theorem dL_law_508 : decode cL_law 508 = .ok (.iadd, 1) := by decide +kernel
theorem dL_law_509 : decode cL_law 509 = .ok (.iaload, 1) := by decide +kernel
theorem dL_law_510 : decode cL_law 510 = .ok (.aload_n 0, 1) := by decide +kernel
theorem dL_law_511 : decode cL_law 511 = .ok (.iload_n 3, 1) := by decide +kernel
theorem dL_law_512 : decode cL_law 512 = .ok (.iconst 5, 1) := by decide +kernel
theorem dL_law_513 : decode cL_law 513 = .ok (.iadd, 1) := by decide +kernel
theorem dL_law_514 : decode cL_law 514 = .ok (.iaload, 1) := by decide +kernel
theorem dL_law_515 : decode cL_law 515 = .ok (.invokevirtual 63, 3) := by decide +kernel
theorem dL_law_518 : decode cL_law 518 = .ok (.aload_n 2, 1) := by decide +kernel
theorem dL_law_519 : decode cL_law 519 = .ok (.aload_n 0, 1) := by decide +kernel
theorem dL_law_520 : decode cL_law 520 = .ok (.iload_n 3, 1) := by decide +kernel
theorem dL_law_521 : decode cL_law 521 = .ok (.iconst 1, 1) := by decide +kernel
theorem dL_law_522 : decode cL_law 522 = .ok (.iadd, 1) := by decide +kernel
theorem dL_law_523 : decode cL_law 523 = .ok (.iaload, 1) := by decide +kernel
theorem dL_law_524 : decode cL_law 524 = .ok (.aload_n 0, 1) := by decide +kernel
theorem dL_law_525 : decode cL_law 525 = .ok (.iload_n 3, 1) := by decide +kernel
theorem dL_law_526 : decode cL_law 526 = .ok (.iconst 2, 1) := by decide +kernel
theorem dL_law_527 : decode cL_law 527 = .ok (.iadd, 1) := by decide +kernel
theorem dL_law_528 : decode cL_law 528 = .ok (.iaload, 1) := by decide +kernel
theorem dL_law_529 : decode cL_law 529 = .ok (.aload_n 0, 1) := by decide +kernel
theorem dL_law_530 : decode cL_law 530 = .ok (.iload_n 3, 1) := by decide +kernel
theorem dL_law_531 : decode cL_law 531 = .ok (.iconst 3, 1) := by decide +kernel
theorem dL_law_532 : decode cL_law 532 = .ok (.iadd, 1) := by decide +kernel
theorem dL_law_533 : decode cL_law 533 = .ok (.iaload, 1) := by decide +kernel
theorem dL_law_534 : decode cL_law 534 = .ok (.aload_n 0, 1) := by decide +kernel
theorem dL_law_535 : decode cL_law 535 = .ok (.iload_n 3, 1) := by decide +kernel
theorem dL_law_536 : decode cL_law 536 = .ok (.iconst 4, 1) := by decide +kernel
theorem dL_law_537 : decode cL_law 537 = .ok (.iadd, 1) := by decide +kernel
theorem dL_law_538 : decode cL_law 538 = .ok (.iaload, 1) := by decide +kernel
theorem dL_law_539 : decode cL_law 539 = .ok (.aload_n 0, 1) := by decide +kernel
theorem dL_law_540 : decode cL_law 540 = .ok (.iload_n 3, 1) := by decide +kernel
theorem dL_law_541 : decode cL_law 541 = .ok (.iconst 5, 1) := by decide +kernel
theorem dL_law_542 : decode cL_law 542 = .ok (.iadd, 1) := by decide +kernel
theorem dL_law_543 : decode cL_law 543 = .ok (.iaload, 1) := by decide +kernel
theorem dL_law_544 : decode cL_law 544 = .ok (.invokevirtual 67, 3) := by decide +kernel
theorem dL_law_547 : decode cL_law 547 = .ok (.if_icmp .eq 666, 3) := by decide +kernel
theorem dL_law_550 : decode cL_law 550 = .ok (.iconst 0, 1) := by decide +kernel
theorem dL_law_551 : decode cL_law 551 = .ok (.ireturn, 1) := by decide +kernel
theorem dL_law_552 : decode cL_law 552 = .ok (.aload_n 1, 1) := by decide +kernel
theorem dL_law_553 : decode cL_law 553 = .ok (.aload_n 0, 1) := by decide +kernel
theorem dL_law_554 : decode cL_law 554 = .ok (.iload_n 3, 1) := by decide +kernel
theorem dL_law_555 : decode cL_law 555 = .ok (.iconst 1, 1) := by decide +kernel
theorem dL_law_556 : decode cL_law 556 = .ok (.iadd, 1) := by decide +kernel
theorem dL_law_557 : decode cL_law 557 = .ok (.iaload, 1) := by decide +kernel
theorem dL_law_558 : decode cL_law 558 = .ok (.aload_n 0, 1) := by decide +kernel
theorem dL_law_559 : decode cL_law 559 = .ok (.iload_n 3, 1) := by decide +kernel
theorem dL_law_560 : decode cL_law 560 = .ok (.iconst 2, 1) := by decide +kernel
theorem dL_law_561 : decode cL_law 561 = .ok (.iadd, 1) := by decide +kernel
theorem dL_law_562 : decode cL_law 562 = .ok (.iaload, 1) := by decide +kernel
theorem dL_law_563 : decode cL_law 563 = .ok (.aload_n 0, 1) := by decide +kernel
theorem dL_law_564 : decode cL_law 564 = .ok (.iload_n 3, 1) := by decide +kernel
theorem dL_law_565 : decode cL_law 565 = .ok (.iconst 3, 1) := by decide +kernel
theorem dL_law_566 : decode cL_law 566 = .ok (.iadd, 1) := by decide +kernel
theorem dL_law_567 : decode cL_law 567 = .ok (.iaload, 1) := by decide +kernel
theorem dL_law_568 : decode cL_law 568 = .ok (.invokevirtual 68, 3) := by decide +kernel
theorem dL_law_571 : decode cL_law 571 = .ok (.aload_n 2, 1) := by decide +kernel
theorem dL_law_572 : decode cL_law 572 = .ok (.aload_n 0, 1) := by decide +kernel
theorem dL_law_573 : decode cL_law 573 = .ok (.iload_n 3, 1) := by decide +kernel
theorem dL_law_574 : decode cL_law 574 = .ok (.iconst 1, 1) := by decide +kernel
theorem dL_law_575 : decode cL_law 575 = .ok (.iadd, 1) := by decide +kernel
theorem dL_law_576 : decode cL_law 576 = .ok (.iaload, 1) := by decide +kernel
theorem dL_law_577 : decode cL_law 577 = .ok (.aload_n 0, 1) := by decide +kernel
theorem dL_law_578 : decode cL_law 578 = .ok (.iload_n 3, 1) := by decide +kernel
theorem dL_law_579 : decode cL_law 579 = .ok (.iconst 2, 1) := by decide +kernel
theorem dL_law_580 : decode cL_law 580 = .ok (.iadd, 1) := by decide +kernel
theorem dL_law_581 : decode cL_law 581 = .ok (.iaload, 1) := by decide +kernel
theorem dL_law_582 : decode cL_law 582 = .ok (.aload_n 0, 1) := by decide +kernel
theorem dL_law_583 : decode cL_law 583 = .ok (.iload_n 3, 1) := by decide +kernel
theorem dL_law_584 : decode cL_law 584 = .ok (.iconst 3, 1) := by decide +kernel
theorem dL_law_585 : decode cL_law 585 = .ok (.iadd, 1) := by decide +kernel
theorem dL_law_586 : decode cL_law 586 = .ok (.iaload, 1) := by decide +kernel
theorem dL_law_587 : decode cL_law 587 = .ok (.invokevirtual 72, 3) := by decide +kernel
theorem dL_law_590 : decode cL_law 590 = .ok (.if_icmp .eq 623, 3) := by decide +kernel
theorem dL_law_593 : decode cL_law 593 = .ok (.iconst 0, 1) := by decide +kernel
theorem dL_law_594 : decode cL_law 594 = .ok (.ireturn, 1) := by decide +kernel
theorem dL_law_595 : decode cL_law 595 = .ok (.aload_n 1, 1) := by decide +kernel
theorem dL_law_596 : decode cL_law 596 = .ok (.aload_n 0, 1) := by decide +kernel
theorem dL_law_597 : decode cL_law 597 = .ok (.iload_n 3, 1) := by decide +kernel
theorem dL_law_598 : decode cL_law 598 = .ok (.iconst 1, 1) := by decide +kernel
theorem dL_law_599 : decode cL_law 599 = .ok (.iadd, 1) := by decide +kernel
theorem dL_law_600 : decode cL_law 600 = .ok (.iaload, 1) := by decide +kernel
theorem dL_law_601 : decode cL_law 601 = .ok (.aload_n 0, 1) := by decide +kernel
theorem dL_law_602 : decode cL_law 602 = .ok (.iload_n 3, 1) := by decide +kernel
theorem dL_law_603 : decode cL_law 603 = .ok (.iconst 2, 1) := by decide +kernel
theorem dL_law_604 : decode cL_law 604 = .ok (.iadd, 1) := by decide +kernel
theorem dL_law_605 : decode cL_law 605 = .ok (.iaload, 1) := by decide +kernel
theorem dL_law_606 : decode cL_law 606 = .ok (.aload_n 0, 1) := by decide +kernel
theorem dL_law_607 : decode cL_law 607 = .ok (.iload_n 3, 1) := by decide +kernel
theorem dL_law_608 : decode cL_law 608 = .ok (.iconst 3, 1) := by decide +kernel
theorem dL_law_609 : decode cL_law 609 = .ok (.iadd, 1) := by decide +kernel
theorem dL_law_610 : decode cL_law 610 = .ok (.iaload, 1) := by decide +kernel
theorem dL_law_611 : decode cL_law 611 = .ok (.aload_n 0, 1) := by decide +kernel
theorem dL_law_612 : decode cL_law 612 = .ok (.iload_n 3, 1) := by decide +kernel
theorem dL_law_613 : decode cL_law 613 = .ok (.iconst 4, 1) := by decide +kernel
theorem dL_law_614 : decode cL_law 614 = .ok (.iadd, 1) := by decide +kernel
theorem dL_law_615 : decode cL_law 615 = .ok (.iaload, 1) := by decide +kernel
theorem dL_law_616 : decode cL_law 616 = .ok (.invokevirtual 73, 3) := by decide +kernel
theorem dL_law_619 : decode cL_law 619 = .ok (.aload_n 2, 1) := by decide +kernel
theorem dL_law_620 : decode cL_law 620 = .ok (.aload_n 0, 1) := by decide +kernel
theorem dL_law_621 : decode cL_law 621 = .ok (.iload_n 3, 1) := by decide +kernel
theorem dL_law_622 : decode cL_law 622 = .ok (.iconst 1, 1) := by decide +kernel
theorem dL_law_623 : decode cL_law 623 = .ok (.iadd, 1) := by decide +kernel
theorem dL_law_624 : decode cL_law 624 = .ok (.iaload, 1) := by decide +kernel
theorem dL_law_625 : decode cL_law 625 = .ok (.aload_n 0, 1) := by decide +kernel
theorem dL_law_626 : decode cL_law 626 = .ok (.iload_n 3, 1) := by decide +kernel
theorem dL_law_627 : decode cL_law 627 = .ok (.iconst 2, 1) := by decide +kernel
theorem dL_law_628 : decode cL_law 628 = .ok (.iadd, 1) := by decide +kernel
theorem dL_law_629 : decode cL_law 629 = .ok (.iaload, 1) := by decide +kernel
theorem dL_law_630 : decode cL_law 630 = .ok (.aload_n 0, 1) := by decide +kernel
theorem dL_law_631 : decode cL_law 631 = .ok (.iload_n 3, 1) := by decide +kernel
theorem dL_law_632 : decode cL_law 632 = .ok (.iconst 3, 1) := by decide +kernel
theorem dL_law_633 : decode cL_law 633 = .ok (.iadd, 1) := by decide +kernel
theorem dL_law_634 : decode cL_law 634 = .ok (.iaload, 1) := by decide +kernel
theorem dL_law_635 : decode cL_law 635 = .ok (.aload_n 0, 1) := by decide +kernel
theorem dL_law_636 : decode cL_law 636 = .ok (.iload_n 3, 1) := by decide +kernel
theorem dL_law_637 : decode cL_law 637 = .ok (.iconst 4, 1) := by decide +kernel
theorem dL_law_638 : decode cL_law 638 = .ok (.iadd, 1) := by decide +kernel
theorem dL_law_639 : decode cL_law 639 = .ok (.iaload, 1) := by decide +kernel
theorem dL_law_640 : decode cL_law 640 = .ok (.invokevirtual 77, 3) := by decide +kernel
theorem dL_law_643 : decode cL_law 643 = .ok (.if_icmp .eq 570, 3) := by decide +kernel
theorem dL_law_646 : decode cL_law 646 = .ok (.iconst 0, 1) := by decide +kernel
theorem dL_law_647 : decode cL_law 647 = .ok (.ireturn, 1) := by decide +kernel
theorem dL_law_648 : decode cL_law 648 = .ok (.aload_n 1, 1) := by decide +kernel
theorem dL_law_649 : decode cL_law 649 = .ok (.aload_n 0, 1) := by decide +kernel
theorem dL_law_650 : decode cL_law 650 = .ok (.iload_n 3, 1) := by decide +kernel
theorem dL_law_651 : decode cL_law 651 = .ok (.iconst 1, 1) := by decide +kernel
theorem dL_law_652 : decode cL_law 652 = .ok (.iadd, 1) := by decide +kernel
theorem dL_law_653 : decode cL_law 653 = .ok (.iaload, 1) := by decide +kernel
theorem dL_law_654 : decode cL_law 654 = .ok (.aload_n 0, 1) := by decide +kernel
theorem dL_law_655 : decode cL_law 655 = .ok (.iload_n 3, 1) := by decide +kernel
theorem dL_law_656 : decode cL_law 656 = .ok (.iconst 2, 1) := by decide +kernel
theorem dL_law_657 : decode cL_law 657 = .ok (.iadd, 1) := by decide +kernel
theorem dL_law_658 : decode cL_law 658 = .ok (.iaload, 1) := by decide +kernel
theorem dL_law_659 : decode cL_law 659 = .ok (.aload_n 0, 1) := by decide +kernel
theorem dL_law_660 : decode cL_law 660 = .ok (.iload_n 3, 1) := by decide +kernel
theorem dL_law_661 : decode cL_law 661 = .ok (.iconst 3, 1) := by decide +kernel
theorem dL_law_662 : decode cL_law 662 = .ok (.iadd, 1) := by decide +kernel
theorem dL_law_663 : decode cL_law 663 = .ok (.iaload, 1) := by decide +kernel
theorem dL_law_664 : decode cL_law 664 = .ok (.invokevirtual 78, 3) := by decide +kernel
theorem dL_law_667 : decode cL_law 667 = .ok (.aload_n 2, 1) := by decide +kernel
theorem dL_law_668 : decode cL_law 668 = .ok (.aload_n 0, 1) := by decide +kernel
theorem dL_law_669 : decode cL_law 669 = .ok (.iload_n 3, 1) := by decide +kernel
theorem dL_law_670 : decode cL_law 670 = .ok (.iconst 1, 1) := by decide +kernel
theorem dL_law_671 : decode cL_law 671 = .ok (.iadd, 1) := by decide +kernel
theorem dL_law_672 : decode cL_law 672 = .ok (.iaload, 1) := by decide +kernel
theorem dL_law_673 : decode cL_law 673 = .ok (.aload_n 0, 1) := by decide +kernel
theorem dL_law_674 : decode cL_law 674 = .ok (.iload_n 3, 1) := by decide +kernel
theorem dL_law_675 : decode cL_law 675 = .ok (.iconst 2, 1) := by decide +kernel
theorem dL_law_676 : decode cL_law 676 = .ok (.iadd, 1) := by decide +kernel
theorem dL_law_677 : decode cL_law 677 = .ok (.iaload, 1) := by decide +kernel
theorem dL_law_678 : decode cL_law 678 = .ok (.aload_n 0, 1) := by decide +kernel
theorem dL_law_679 : decode cL_law 679 = .ok (.iload_n 3, 1) := by decide +kernel
theorem dL_law_680 : decode cL_law 680 = .ok (.iconst 3, 1) := by decide +kernel
theorem dL_law_681 : decode cL_law 681 = .ok (.iadd, 1) := by decide +kernel
theorem dL_law_682 : decode cL_law 682 = .ok (.iaload, 1) := by decide +kernel
theorem dL_law_683 : decode cL_law 683 = .ok (.invokevirtual 81, 3) := by decide +kernel
theorem dL_law_686 : decode cL_law 686 = .ok (.if_icmp .eq 527, 3) := by decide +kernel
theorem dL_law_689 : decode cL_law 689 = .ok (.iconst 0, 1) := by decide +kernel
theorem dL_law_690 : decode cL_law 690 = .ok (.ireturn, 1) := by decide +kernel
theorem dL_law_691 : decode cL_law 691 = .ok (.aload_n 1, 1) := by decide +kernel
theorem dL_law_692 : decode cL_law 692 = .ok (.aload_n 0, 1) := by decide +kernel
theorem dL_law_693 : decode cL_law 693 = .ok (.iload_n 3, 1) := by decide +kernel
theorem dL_law_694 : decode cL_law 694 = .ok (.iconst 1, 1) := by decide +kernel
theorem dL_law_695 : decode cL_law 695 = .ok (.iadd, 1) := by decide +kernel
theorem dL_law_696 : decode cL_law 696 = .ok (.iaload, 1) := by decide +kernel
theorem dL_law_697 : decode cL_law 697 = .ok (.aload_n 0, 1) := by decide +kernel
theorem dL_law_698 : decode cL_law 698 = .ok (.iload_n 3, 1) := by decide +kernel
theorem dL_law_699 : decode cL_law 699 = .ok (.iconst 2, 1) := by decide +kernel
theorem dL_law_700 : decode cL_law 700 = .ok (.iadd, 1) := by decide +kernel
theorem dL_law_701 : decode cL_law 701 = .ok (.iaload, 1) := by decide +kernel
theorem dL_law_702 : decode cL_law 702 = .ok (.aload_n 0, 1) := by decide +kernel
theorem dL_law_703 : decode cL_law 703 = .ok (.iload_n 3, 1) := by decide +kernel
theorem dL_law_704 : decode cL_law 704 = .ok (.iconst 3, 1) := by decide +kernel
theorem dL_law_705 : decode cL_law 705 = .ok (.iadd, 1) := by decide +kernel
theorem dL_law_706 : decode cL_law 706 = .ok (.iaload, 1) := by decide +kernel
theorem dL_law_707 : decode cL_law 707 = .ok (.aload_n 0, 1) := by decide +kernel
theorem dL_law_708 : decode cL_law 708 = .ok (.iload_n 3, 1) := by decide +kernel
theorem dL_law_709 : decode cL_law 709 = .ok (.iconst 4, 1) := by decide +kernel
theorem dL_law_710 : decode cL_law 710 = .ok (.iadd, 1) := by decide +kernel
theorem dL_law_711 : decode cL_law 711 = .ok (.iaload, 1) := by decide +kernel
theorem dL_law_712 : decode cL_law 712 = .ok (.invokevirtual 82, 3) := by decide +kernel
theorem dL_law_715 : decode cL_law 715 = .ok (.aload_n 2, 1) := by decide +kernel
theorem dL_law_716 : decode cL_law 716 = .ok (.aload_n 0, 1) := by decide +kernel
theorem dL_law_717 : decode cL_law 717 = .ok (.iload_n 3, 1) := by decide +kernel
theorem dL_law_718 : decode cL_law 718 = .ok (.iconst 1, 1) := by decide +kernel
theorem dL_law_719 : decode cL_law 719 = .ok (.iadd, 1) := by decide +kernel
theorem dL_law_720 : decode cL_law 720 = .ok (.iaload, 1) := by decide +kernel
theorem dL_law_721 : decode cL_law 721 = .ok (.aload_n 0, 1) := by decide +kernel
theorem dL_law_722 : decode cL_law 722 = .ok (.iload_n 3, 1) := by decide +kernel
theorem dL_law_723 : decode cL_law 723 = .ok (.iconst 2, 1) := by decide +kernel
theorem dL_law_724 : decode cL_law 724 = .ok (.iadd, 1) := by decide +kernel
theorem dL_law_725 : decode cL_law 725 = .ok (.iaload, 1) := by decide +kernel
theorem dL_law_726 : decode cL_law 726 = .ok (.aload_n 0, 1) := by decide +kernel
theorem dL_law_727 : decode cL_law 727 = .ok (.iload_n 3, 1) := by decide +kernel
theorem dL_law_728 : decode cL_law 728 = .ok (.iconst 3, 1) := by decide +kernel
theorem dL_law_729 : decode cL_law 729 = .ok (.iadd, 1) := by decide +kernel
theorem dL_law_730 : decode cL_law 730 = .ok (.iaload, 1) := by decide +kernel
theorem dL_law_731 : decode cL_law 731 = .ok (.aload_n 0, 1) := by decide +kernel
theorem dL_law_732 : decode cL_law 732 = .ok (.iload_n 3, 1) := by decide +kernel
theorem dL_law_733 : decode cL_law 733 = .ok (.iconst 4, 1) := by decide +kernel
theorem dL_law_734 : decode cL_law 734 = .ok (.iadd, 1) := by decide +kernel
theorem dL_law_735 : decode cL_law 735 = .ok (.iaload, 1) := by decide +kernel
theorem dL_law_736 : decode cL_law 736 = .ok (.invokevirtual 85, 3) := by decide +kernel
theorem dL_law_739 : decode cL_law 739 = .ok (.if_icmp .eq 474, 3) := by decide +kernel
theorem dL_law_742 : decode cL_law 742 = .ok (.iconst 0, 1) := by decide +kernel
theorem dL_law_743 : decode cL_law 743 = .ok (.ireturn, 1) := by decide +kernel
theorem dL_law_744 : decode cL_law 744 = .ok (.aload_n 1, 1) := by decide +kernel
theorem dL_law_745 : decode cL_law 745 = .ok (.aload_n 0, 1) := by decide +kernel
theorem dL_law_746 : decode cL_law 746 = .ok (.iload_n 3, 1) := by decide +kernel
theorem dL_law_747 : decode cL_law 747 = .ok (.iconst 1, 1) := by decide +kernel
theorem dL_law_748 : decode cL_law 748 = .ok (.iadd, 1) := by decide +kernel
theorem dL_law_749 : decode cL_law 749 = .ok (.iaload, 1) := by decide +kernel
theorem dL_law_750 : decode cL_law 750 = .ok (.aload_n 0, 1) := by decide +kernel
theorem dL_law_751 : decode cL_law 751 = .ok (.iload_n 3, 1) := by decide +kernel
theorem dL_law_752 : decode cL_law 752 = .ok (.iconst 2, 1) := by decide +kernel
theorem dL_law_753 : decode cL_law 753 = .ok (.iadd, 1) := by decide +kernel
theorem dL_law_754 : decode cL_law 754 = .ok (.iaload, 1) := by decide +kernel
theorem dL_law_755 : decode cL_law 755 = .ok (.aload_n 0, 1) := by decide +kernel
theorem dL_law_756 : decode cL_law 756 = .ok (.iload_n 3, 1) := by decide +kernel
theorem dL_law_757 : decode cL_law 757 = .ok (.iconst 3, 1) := by decide +kernel
theorem dL_law_758 : decode cL_law 758 = .ok (.iadd, 1) := by decide +kernel
theorem dL_law_759 : decode cL_law 759 = .ok (.iaload, 1) := by decide +kernel
theorem dL_law_760 : decode cL_law 760 = .ok (.invokevirtual 86, 3) := by decide +kernel
theorem dL_law_763 : decode cL_law 763 = .ok (.aload_n 2, 1) := by decide +kernel
theorem dL_law_764 : decode cL_law 764 = .ok (.aload_n 0, 1) := by decide +kernel
theorem dL_law_765 : decode cL_law 765 = .ok (.iload_n 3, 1) := by decide +kernel
theorem dL_law_766 : decode cL_law 766 = .ok (.iconst 1, 1) := by decide +kernel
theorem dL_law_767 : decode cL_law 767 = .ok (.iadd, 1) := by decide +kernel
theorem dL_law_768 : decode cL_law 768 = .ok (.iaload, 1) := by decide +kernel
theorem dL_law_769 : decode cL_law 769 = .ok (.aload_n 0, 1) := by decide +kernel
theorem dL_law_770 : decode cL_law 770 = .ok (.iload_n 3, 1) := by decide +kernel
theorem dL_law_771 : decode cL_law 771 = .ok (.iconst 2, 1) := by decide +kernel
theorem dL_law_772 : decode cL_law 772 = .ok (.iadd, 1) := by decide +kernel
theorem dL_law_773 : decode cL_law 773 = .ok (.iaload, 1) := by decide +kernel
theorem dL_law_774 : decode cL_law 774 = .ok (.aload_n 0, 1) := by decide +kernel
theorem dL_law_775 : decode cL_law 775 = .ok (.iload_n 3, 1) := by decide +kernel
theorem dL_law_776 : decode cL_law 776 = .ok (.iconst 3, 1) := by decide +kernel
theorem dL_law_777 : decode cL_law 777 = .ok (.iadd, 1) := by decide +kernel
theorem dL_law_778 : decode cL_law 778 = .ok (.iaload, 1) := by decide +kernel
theorem dL_law_779 : decode cL_law 779 = .ok (.invokevirtual 89, 3) := by decide +kernel
theorem dL_law_782 : decode cL_law 782 = .ok (.if_icmp .eq 431, 3) := by decide +kernel
theorem dL_law_785 : decode cL_law 785 = .ok (.iconst 0, 1) := by decide +kernel
theorem dL_law_786 : decode cL_law 786 = .ok (.ireturn, 1) := by decide +kernel
theorem dL_law_787 : decode cL_law 787 = .ok (.aload_n 1, 1) := by decide +kernel
theorem dL_law_788 : decode cL_law 788 = .ok (.aload_n 0, 1) := by decide +kernel
theorem dL_law_789 : decode cL_law 789 = .ok (.iload_n 3, 1) := by decide +kernel
theorem dL_law_790 : decode cL_law 790 = .ok (.iconst 1, 1) := by decide +kernel
theorem dL_law_791 : decode cL_law 791 = .ok (.iadd, 1) := by decide +kernel
theorem dL_law_792 : decode cL_law 792 = .ok (.iaload, 1) := by decide +kernel
theorem dL_law_793 : decode cL_law 793 = .ok (.aload_n 0, 1) := by decide +kernel
theorem dL_law_794 : decode cL_law 794 = .ok (.iload_n 3, 1) := by decide +kernel
theorem dL_law_795 : decode cL_law 795 = .ok (.iconst 2, 1) := by decide +kernel
theorem dL_law_796 : decode cL_law 796 = .ok (.iadd, 1) := by decide +kernel
theorem dL_law_797 : decode cL_law 797 = .ok (.iaload, 1) := by decide +kernel
theorem dL_law_798 : decode cL_law 798 = .ok (.aload_n 0, 1) := by decide +kernel
theorem dL_law_799 : decode cL_law 799 = .ok (.iload_n 3, 1) := by decide +kernel
theorem dL_law_800 : decode cL_law 800 = .ok (.iconst 3, 1) := by decide +kernel
theorem dL_law_801 : decode cL_law 801 = .ok (.iadd, 1) := by decide +kernel
theorem dL_law_802 : decode cL_law 802 = .ok (.iaload, 1) := by decide +kernel
theorem dL_law_803 : decode cL_law 803 = .ok (.invokevirtual 90, 3) := by decide +kernel
theorem dL_law_806 : decode cL_law 806 = .ok (.aload_n 2, 1) := by decide +kernel
theorem dL_law_807 : decode cL_law 807 = .ok (.aload_n 0, 1) := by decide +kernel
theorem dL_law_808 : decode cL_law 808 = .ok (.iload_n 3, 1) := by decide +kernel
theorem dL_law_809 : decode cL_law 809 = .ok (.iconst 1, 1) := by decide +kernel
theorem dL_law_810 : decode cL_law 810 = .ok (.iadd, 1) := by decide +kernel
theorem dL_law_811 : decode cL_law 811 = .ok (.iaload, 1) := by decide +kernel
theorem dL_law_812 : decode cL_law 812 = .ok (.aload_n 0, 1) := by decide +kernel
theorem dL_law_813 : decode cL_law 813 = .ok (.iload_n 3, 1) := by decide +kernel
theorem dL_law_814 : decode cL_law 814 = .ok (.iconst 2, 1) := by decide +kernel
theorem dL_law_815 : decode cL_law 815 = .ok (.iadd, 1) := by decide +kernel
theorem dL_law_816 : decode cL_law 816 = .ok (.iaload, 1) := by decide +kernel
theorem dL_law_817 : decode cL_law 817 = .ok (.aload_n 0, 1) := by decide +kernel
theorem dL_law_818 : decode cL_law 818 = .ok (.iload_n 3, 1) := by decide +kernel
theorem dL_law_819 : decode cL_law 819 = .ok (.iconst 3, 1) := by decide +kernel
theorem dL_law_820 : decode cL_law 820 = .ok (.iadd, 1) := by decide +kernel
theorem dL_law_821 : decode cL_law 821 = .ok (.iaload, 1) := by decide +kernel
theorem dL_law_822 : decode cL_law 822 = .ok (.invokevirtual 93, 3) := by decide +kernel
theorem dL_law_825 : decode cL_law 825 = .ok (.if_icmp .eq 388, 3) := by decide +kernel
theorem dL_law_828 : decode cL_law 828 = .ok (.iconst 0, 1) := by decide +kernel
theorem dL_law_829 : decode cL_law 829 = .ok (.ireturn, 1) := by decide +kernel
theorem dL_law_830 : decode cL_law 830 = .ok (.aload_n 1, 1) := by decide +kernel
theorem dL_law_831 : decode cL_law 831 = .ok (.aload_n 0, 1) := by decide +kernel
theorem dL_law_832 : decode cL_law 832 = .ok (.iload_n 3, 1) := by decide +kernel
theorem dL_law_833 : decode cL_law 833 = .ok (.iconst 1, 1) := by decide +kernel
theorem dL_law_834 : decode cL_law 834 = .ok (.iadd, 1) := by decide +kernel
theorem dL_law_835 : decode cL_law 835 = .ok (.iaload, 1) := by decide +kernel
theorem dL_law_836 : decode cL_law 836 = .ok (.aload_n 0, 1) := by decide +kernel
theorem dL_law_837 : decode cL_law 837 = .ok (.iload_n 3, 1) := by decide +kernel
theorem dL_law_838 : decode cL_law 838 = .ok (.iconst 2, 1) := by decide +kernel
theorem dL_law_839 : decode cL_law 839 = .ok (.iadd, 1) := by decide +kernel
theorem dL_law_840 : decode cL_law 840 = .ok (.iaload, 1) := by decide +kernel
theorem dL_law_841 : decode cL_law 841 = .ok (.aload_n 0, 1) := by decide +kernel
theorem dL_law_842 : decode cL_law 842 = .ok (.iload_n 3, 1) := by decide +kernel
theorem dL_law_843 : decode cL_law 843 = .ok (.iconst 3, 1) := by decide +kernel
theorem dL_law_844 : decode cL_law 844 = .ok (.iadd, 1) := by decide +kernel
theorem dL_law_845 : decode cL_law 845 = .ok (.iaload, 1) := by decide +kernel
theorem dL_law_846 : decode cL_law 846 = .ok (.invokevirtual 94, 3) := by decide +kernel
theorem dL_law_849 : decode cL_law 849 = .ok (.aload_n 2, 1) := by decide +kernel
theorem dL_law_850 : decode cL_law 850 = .ok (.aload_n 0, 1) := by decide +kernel
theorem dL_law_851 : decode cL_law 851 = .ok (.iload_n 3, 1) := by decide +kernel
theorem dL_law_852 : decode cL_law 852 = .ok (.iconst 1, 1) := by decide +kernel
theorem dL_law_853 : decode cL_law 853 = .ok (.iadd, 1) := by decide +kernel
theorem dL_law_854 : decode cL_law 854 = .ok (.iaload, 1) := by decide +kernel
theorem dL_law_855 : decode cL_law 855 = .ok (.aload_n 0, 1) := by decide +kernel
theorem dL_law_856 : decode cL_law 856 = .ok (.iload_n 3, 1) := by decide +kernel
theorem dL_law_857 : decode cL_law 857 = .ok (.iconst 2, 1) := by decide +kernel
theorem dL_law_858 : decode cL_law 858 = .ok (.iadd, 1) := by decide +kernel
theorem dL_law_859 : decode cL_law 859 = .ok (.iaload, 1) := by decide +kernel
theorem dL_law_860 : decode cL_law 860 = .ok (.aload_n 0, 1) := by decide +kernel
theorem dL_law_861 : decode cL_law 861 = .ok (.iload_n 3, 1) := by decide +kernel
theorem dL_law_862 : decode cL_law 862 = .ok (.iconst 3, 1) := by decide +kernel
theorem dL_law_863 : decode cL_law 863 = .ok (.iadd, 1) := by decide +kernel
theorem dL_law_864 : decode cL_law 864 = .ok (.iaload, 1) := by decide +kernel
theorem dL_law_865 : decode cL_law 865 = .ok (.invokevirtual 97, 3) := by decide +kernel
theorem dL_law_868 : decode cL_law 868 = .ok (.if_icmp .eq 345, 3) := by decide +kernel
theorem dL_law_871 : decode cL_law 871 = .ok (.iconst 0, 1) := by decide +kernel
theorem dL_law_872 : decode cL_law 872 = .ok (.ireturn, 1) := by decide +kernel
theorem dL_law_873 : decode cL_law 873 = .ok (.aload_n 1, 1) := by decide +kernel
theorem dL_law_874 : decode cL_law 874 = .ok (.aload_n 0, 1) := by decide +kernel
theorem dL_law_875 : decode cL_law 875 = .ok (.iload_n 3, 1) := by decide +kernel
theorem dL_law_876 : decode cL_law 876 = .ok (.iconst 1, 1) := by decide +kernel
theorem dL_law_877 : decode cL_law 877 = .ok (.iadd, 1) := by decide +kernel
theorem dL_law_878 : decode cL_law 878 = .ok (.iaload, 1) := by decide +kernel
theorem dL_law_879 : decode cL_law 879 = .ok (.aload_n 0, 1) := by decide +kernel
theorem dL_law_880 : decode cL_law 880 = .ok (.iload_n 3, 1) := by decide +kernel
theorem dL_law_881 : decode cL_law 881 = .ok (.iconst 2, 1) := by decide +kernel
theorem dL_law_882 : decode cL_law 882 = .ok (.iadd, 1) := by decide +kernel
theorem dL_law_883 : decode cL_law 883 = .ok (.iaload, 1) := by decide +kernel
theorem dL_law_884 : decode cL_law 884 = .ok (.aload_n 0, 1) := by decide +kernel
theorem dL_law_885 : decode cL_law 885 = .ok (.iload_n 3, 1) := by decide +kernel
theorem dL_law_886 : decode cL_law 886 = .ok (.iconst 3, 1) := by decide +kernel
theorem dL_law_887 : decode cL_law 887 = .ok (.iadd, 1) := by decide +kernel
theorem dL_law_888 : decode cL_law 888 = .ok (.iaload, 1) := by decide +kernel
theorem dL_law_889 : decode cL_law 889 = .ok (.invokevirtual 98, 3) := by decide +kernel
theorem dL_law_892 : decode cL_law 892 = .ok (.aload_n 2, 1) := by decide +kernel
theorem dL_law_893 : decode cL_law 893 = .ok (.aload_n 0, 1) := by decide +kernel
theorem dL_law_894 : decode cL_law 894 = .ok (.iload_n 3, 1) := by decide +kernel
theorem dL_law_895 : decode cL_law 895 = .ok (.iconst 1, 1) := by decide +kernel
theorem dL_law_896 : decode cL_law 896 = .ok (.iadd, 1) := by decide +kernel
theorem dL_law_897 : decode cL_law 897 = .ok (.iaload, 1) := by decide +kernel
theorem dL_law_898 : decode cL_law 898 = .ok (.aload_n 0, 1) := by decide +kernel
theorem dL_law_899 : decode cL_law 899 = .ok (.iload_n 3, 1) := by decide +kernel
theorem dL_law_900 : decode cL_law 900 = .ok (.iconst 2, 1) := by decide +kernel
theorem dL_law_901 : decode cL_law 901 = .ok (.iadd, 1) := by decide +kernel
theorem dL_law_902 : decode cL_law 902 = .ok (.iaload, 1) := by decide +kernel
theorem dL_law_903 : decode cL_law 903 = .ok (.aload_n 0, 1) := by decide +kernel
theorem dL_law_904 : decode cL_law 904 = .ok (.iload_n 3, 1) := by decide +kernel
theorem dL_law_905 : decode cL_law 905 = .ok (.iconst 3, 1) := by decide +kernel
theorem dL_law_906 : decode cL_law 906 = .ok (.iadd, 1) := by decide +kernel
theorem dL_law_907 : decode cL_law 907 = .ok (.iaload, 1) := by decide +kernel
theorem dL_law_908 : decode cL_law 908 = .ok (.invokevirtual 101, 3) := by decide +kernel
theorem dL_law_911 : decode cL_law 911 = .ok (.if_icmp .eq 302, 3) := by decide +kernel
theorem dL_law_914 : decode cL_law 914 = .ok (.iconst 0, 1) := by decide +kernel
theorem dL_law_915 : decode cL_law 915 = .ok (.ireturn, 1) := by decide +kernel
theorem dL_law_916 : decode cL_law 916 = .ok (.aload_n 1, 1) := by decide +kernel
theorem dL_law_917 : decode cL_law 917 = .ok (.aload_n 0, 1) := by decide +kernel
theorem dL_law_918 : decode cL_law 918 = .ok (.iload_n 3, 1) := by decide +kernel
theorem dL_law_919 : decode cL_law 919 = .ok (.iconst 1, 1) := by decide +kernel
theorem dL_law_920 : decode cL_law 920 = .ok (.iadd, 1) := by decide +kernel
theorem dL_law_921 : decode cL_law 921 = .ok (.iaload, 1) := by decide +kernel
theorem dL_law_922 : decode cL_law 922 = .ok (.aload_n 0, 1) := by decide +kernel
theorem dL_law_923 : decode cL_law 923 = .ok (.iload_n 3, 1) := by decide +kernel
theorem dL_law_924 : decode cL_law 924 = .ok (.iconst 2, 1) := by decide +kernel
theorem dL_law_925 : decode cL_law 925 = .ok (.iadd, 1) := by decide +kernel
theorem dL_law_926 : decode cL_law 926 = .ok (.iaload, 1) := by decide +kernel
theorem dL_law_927 : decode cL_law 927 = .ok (.aload_n 0, 1) := by decide +kernel
theorem dL_law_928 : decode cL_law 928 = .ok (.iload_n 3, 1) := by decide +kernel
theorem dL_law_929 : decode cL_law 929 = .ok (.iconst 3, 1) := by decide +kernel
theorem dL_law_930 : decode cL_law 930 = .ok (.iadd, 1) := by decide +kernel
theorem dL_law_931 : decode cL_law 931 = .ok (.iaload, 1) := by decide +kernel
theorem dL_law_932 : decode cL_law 932 = .ok (.invokevirtual 102, 3) := by decide +kernel
theorem dL_law_935 : decode cL_law 935 = .ok (.aload_n 2, 1) := by decide +kernel
theorem dL_law_936 : decode cL_law 936 = .ok (.aload_n 0, 1) := by decide +kernel
theorem dL_law_937 : decode cL_law 937 = .ok (.iload_n 3, 1) := by decide +kernel
theorem dL_law_938 : decode cL_law 938 = .ok (.iconst 1, 1) := by decide +kernel
theorem dL_law_939 : decode cL_law 939 = .ok (.iadd, 1) := by decide +kernel
theorem dL_law_940 : decode cL_law 940 = .ok (.iaload, 1) := by decide +kernel
theorem dL_law_941 : decode cL_law 941 = .ok (.aload_n 0, 1) := by decide +kernel
theorem dL_law_942 : decode cL_law 942 = .ok (.iload_n 3, 1) := by decide +kernel
theorem dL_law_943 : decode cL_law 943 = .ok (.iconst 2, 1) := by decide +kernel
theorem dL_law_944 : decode cL_law 944 = .ok (.iadd, 1) := by decide +kernel
theorem dL_law_945 : decode cL_law 945 = .ok (.iaload, 1) := by decide +kernel
theorem dL_law_946 : decode cL_law 946 = .ok (.aload_n 0, 1) := by decide +kernel
theorem dL_law_947 : decode cL_law 947 = .ok (.iload_n 3, 1) := by decide +kernel
theorem dL_law_948 : decode cL_law 948 = .ok (.iconst 3, 1) := by decide +kernel
theorem dL_law_949 : decode cL_law 949 = .ok (.iadd, 1) := by decide +kernel
theorem dL_law_950 : decode cL_law 950 = .ok (.iaload, 1) := by decide +kernel
theorem dL_law_951 : decode cL_law 951 = .ok (.invokevirtual 105, 3) := by decide +kernel
theorem dL_law_954 : decode cL_law 954 = .ok (.if_icmp .eq 259, 3) := by decide +kernel
theorem dL_law_957 : decode cL_law 957 = .ok (.iconst 0, 1) := by decide +kernel
theorem dL_law_958 : decode cL_law 958 = .ok (.ireturn, 1) := by decide +kernel
theorem dL_law_959 : decode cL_law 959 = .ok (.aload_n 1, 1) := by decide +kernel
theorem dL_law_960 : decode cL_law 960 = .ok (.aload_n 0, 1) := by decide +kernel
theorem dL_law_961 : decode cL_law 961 = .ok (.iload_n 3, 1) := by decide +kernel
theorem dL_law_962 : decode cL_law 962 = .ok (.iconst 1, 1) := by decide +kernel
theorem dL_law_963 : decode cL_law 963 = .ok (.iadd, 1) := by decide +kernel
theorem dL_law_964 : decode cL_law 964 = .ok (.iaload, 1) := by decide +kernel
theorem dL_law_965 : decode cL_law 965 = .ok (.aload_n 0, 1) := by decide +kernel
theorem dL_law_966 : decode cL_law 966 = .ok (.iload_n 3, 1) := by decide +kernel
theorem dL_law_967 : decode cL_law 967 = .ok (.iconst 2, 1) := by decide +kernel
theorem dL_law_968 : decode cL_law 968 = .ok (.iadd, 1) := by decide +kernel
theorem dL_law_969 : decode cL_law 969 = .ok (.iaload, 1) := by decide +kernel
theorem dL_law_970 : decode cL_law 970 = .ok (.invokevirtual 106, 3) := by decide +kernel
theorem dL_law_973 : decode cL_law 973 = .ok (.aload_n 2, 1) := by decide +kernel
theorem dL_law_974 : decode cL_law 974 = .ok (.aload_n 0, 1) := by decide +kernel
theorem dL_law_975 : decode cL_law 975 = .ok (.iload_n 3, 1) := by decide +kernel
theorem dL_law_976 : decode cL_law 976 = .ok (.iconst 1, 1) := by decide +kernel
theorem dL_law_977 : decode cL_law 977 = .ok (.iadd, 1) := by decide +kernel
theorem dL_law_978 : decode cL_law 978 = .ok (.iaload, 1) := by decide +kernel
theorem dL_law_979 : decode cL_law 979 = .ok (.aload_n 0, 1) := by decide +kernel
theorem dL_law_980 : decode cL_law 980 = .ok (.iload_n 3, 1) := by decide +kernel
theorem dL_law_981 : decode cL_law 981 = .ok (.iconst 2, 1) := by decide +kernel
theorem dL_law_982 : decode cL_law 982 = .ok (.iadd, 1) := by decide +kernel
theorem dL_law_983 : decode cL_law 983 = .ok (.iaload, 1) := by decide +kernel
theorem dL_law_984 : decode cL_law 984 = .ok (.invokevirtual 109, 3) := by decide +kernel
theorem dL_law_987 : decode cL_law 987 = .ok (.if_icmp .eq 226, 3) := by decide +kernel
theorem dL_law_990 : decode cL_law 990 = .ok (.iconst 0, 1) := by decide +kernel
theorem dL_law_991 : decode cL_law 991 = .ok (.ireturn, 1) := by decide +kernel
theorem dL_law_992 : decode cL_law 992 = .ok (.aload_n 1, 1) := by decide +kernel
theorem dL_law_993 : decode cL_law 993 = .ok (.invokevirtual 110, 3) := by decide +kernel
theorem dL_law_996 : decode cL_law 996 = .ok (.aload_n 2, 1) := by decide +kernel
theorem dL_law_997 : decode cL_law 997 = .ok (.invokevirtual 113, 3) := by decide +kernel
theorem dL_law_1000 : decode cL_law 1000 = .ok (.if_icmp .eq 213, 3) := by decide +kernel
theorem dL_law_1003 : decode cL_law 1003 = .ok (.iconst 0, 1) := by decide +kernel
theorem dL_law_1004 : decode cL_law 1004 = .ok (.ireturn, 1) := by decide +kernel
theorem dL_law_1005 : decode cL_law 1005 = .ok (.aload_n 1, 1) := by decide +kernel
theorem dL_law_1006 : decode cL_law 1006 = .ok (.invokevirtual 114, 3) := by decide +kernel
theorem dL_law_1009 : decode cL_law 1009 = .ok (.aload_n 2, 1) := by decide +kernel
theorem dL_law_1010 : decode cL_law 1010 = .ok (.invokevirtual 117, 3) := by decide +kernel
theorem dL_law_1013 : decode cL_law 1013 = .ok (.if_icmp .eq 200, 3) := by decide +kernel
theorem dL_law_1016 : decode cL_law 1016 = .ok (.iconst 0, 1) := by decide +kernel
theorem dL_law_1017 : decode cL_law 1017 = .ok (.ireturn, 1) := by decide +kernel
theorem dL_law_1018 : decode cL_law 1018 = .ok (.aload_n 1, 1) := by decide +kernel
theorem dL_law_1019 : decode cL_law 1019 = .ok (.aload_n 0, 1) := by decide +kernel
theorem dL_law_1020 : decode cL_law 1020 = .ok (.iload_n 3, 1) := by decide +kernel
theorem dL_law_1021 : decode cL_law 1021 = .ok (.iconst 1, 1) := by decide +kernel
theorem dL_law_1022 : decode cL_law 1022 = .ok (.iadd, 1) := by decide +kernel
theorem dL_law_1023 : decode cL_law 1023 = .ok (.iaload, 1) := by decide +kernel
theorem dL_law_1024 : decode cL_law 1024 = .ok (.invokevirtual 118, 3) := by decide +kernel
theorem dL_law_1027 : decode cL_law 1027 = .ok (.aload_n 2, 1) := by decide +kernel
theorem dL_law_1028 : decode cL_law 1028 = .ok (.aload_n 0, 1) := by decide +kernel
theorem dL_law_1029 : decode cL_law 1029 = .ok (.iload_n 3, 1) := by decide +kernel
theorem dL_law_1030 : decode cL_law 1030 = .ok (.iconst 1, 1) := by decide +kernel
theorem dL_law_1031 : decode cL_law 1031 = .ok (.iadd, 1) := by decide +kernel
theorem dL_law_1032 : decode cL_law 1032 = .ok (.iaload, 1) := by decide +kernel
theorem dL_law_1033 : decode cL_law 1033 = .ok (.invokevirtual 121, 3) := by decide +kernel
theorem dL_law_1036 : decode cL_law 1036 = .ok (.if_icmp .eq 177, 3) := by decide +kernel
theorem dL_law_1039 : decode cL_law 1039 = .ok (.iconst 0, 1) := by decide +kernel
theorem dL_law_1040 : decode cL_law 1040 = .ok (.ireturn, 1) := by decide +kernel
theorem dL_law_1041 : decode cL_law 1041 = .ok (.aload_n 1, 1) := by decide +kernel
theorem dL_law_1042 : decode cL_law 1042 = .ok (.aload_n 0, 1) := by decide +kernel
theorem dL_law_1043 : decode cL_law 1043 = .ok (.iload_n 3, 1) := by decide +kernel
theorem dL_law_1044 : decode cL_law 1044 = .ok (.iconst 1, 1) := by decide +kernel
theorem dL_law_1045 : decode cL_law 1045 = .ok (.iadd, 1) := by decide +kernel
theorem dL_law_1046 : decode cL_law 1046 = .ok (.iaload, 1) := by decide +kernel
theorem dL_law_1047 : decode cL_law 1047 = .ok (.aload_n 0, 1) := by decide +kernel
theorem dL_law_1048 : decode cL_law 1048 = .ok (.iload_n 3, 1) := by decide +kernel
theorem dL_law_1049 : decode cL_law 1049 = .ok (.iconst 2, 1) := by decide +kernel
theorem dL_law_1050 : decode cL_law 1050 = .ok (.iadd, 1) := by decide +kernel
theorem dL_law_1051 : decode cL_law 1051 = .ok (.iaload, 1) := by decide +kernel
theorem dL_law_1052 : decode cL_law 1052 = .ok (.invokevirtual 122, 3) := by decide +kernel
theorem dL_law_1055 : decode cL_law 1055 = .ok (.aload_n 2, 1) := by decide +kernel
theorem dL_law_1056 : decode cL_law 1056 = .ok (.aload_n 0, 1) := by decide +kernel
theorem dL_law_1057 : decode cL_law 1057 = .ok (.iload_n 3, 1) := by decide +kernel
theorem dL_law_1058 : decode cL_law 1058 = .ok (.iconst 1, 1) := by decide +kernel
theorem dL_law_1059 : decode cL_law 1059 = .ok (.iadd, 1) := by decide +kernel
theorem dL_law_1060 : decode cL_law 1060 = .ok (.iaload, 1) := by decide +kernel
theorem dL_law_1061 : decode cL_law 1061 = .ok (.aload_n 0, 1) := by decide +kernel
theorem dL_law_1062 : decode cL_law 1062 = .ok (.iload_n 3, 1) := by decide +kernel
theorem dL_law_1063 : decode cL_law 1063 = .ok (.iconst 2, 1) := by decide +kernel
theorem dL_law_1064 : decode cL_law 1064 = .ok (.iadd, 1) := by decide +kernel
theorem dL_law_1065 : decode cL_law 1065 = .ok (.iaload, 1) := by decide +kernel
theorem dL_law_1066 : decode cL_law 1066 = .ok (.invokevirtual 125, 3) := by decide +kernel
theorem dL_law_1069 : decode cL_law 1069 = .ok (.if_icmp .eq 144, 3) := by decide +kernel
theorem dL_law_1072 : decode cL_law 1072 = .ok (.iconst 0, 1) := by decide +kernel
theorem dL_law_1073 : decode cL_law 1073 = .ok (.ireturn, 1) := by decide +kernel
theorem dL_law_1074 : decode cL_law 1074 = .ok (.aload_n 1, 1) := by decide +kernel
theorem dL_law_1075 : decode cL_law 1075 = .ok (.aload_n 0, 1) := by decide +kernel
theorem dL_law_1076 : decode cL_law 1076 = .ok (.iload_n 3, 1) := by decide +kernel
theorem dL_law_1077 : decode cL_law 1077 = .ok (.iconst 1, 1) := by decide +kernel
theorem dL_law_1078 : decode cL_law 1078 = .ok (.iadd, 1) := by decide +kernel
theorem dL_law_1079 : decode cL_law 1079 = .ok (.iaload, 1) := by decide +kernel
theorem dL_law_1080 : decode cL_law 1080 = .ok (.invokevirtual 126, 3) := by decide +kernel
theorem dL_law_1083 : decode cL_law 1083 = .ok (.aload_n 2, 1) := by decide +kernel
theorem dL_law_1084 : decode cL_law 1084 = .ok (.aload_n 0, 1) := by decide +kernel
theorem dL_law_1085 : decode cL_law 1085 = .ok (.iload_n 3, 1) := by decide +kernel
theorem dL_law_1086 : decode cL_law 1086 = .ok (.iconst 1, 1) := by decide +kernel
theorem dL_law_1087 : decode cL_law 1087 = .ok (.iadd, 1) := by decide +kernel
theorem dL_law_1088 : decode cL_law 1088 = .ok (.iaload, 1) := by decide +kernel
theorem dL_law_1089 : decode cL_law 1089 = .ok (.invokevirtual 129, 3) := by decide +kernel
theorem dL_law_1092 : decode cL_law 1092 = .ok (.if_icmp .eq 121, 3) := by decide +kernel
theorem dL_law_1095 : decode cL_law 1095 = .ok (.iconst 0, 1) := by decide +kernel
theorem dL_law_1096 : decode cL_law 1096 = .ok (.ireturn, 1) := by decide +kernel
theorem dL_law_1097 : decode cL_law 1097 = .ok (.aload_n 1, 1) := by decide +kernel
theorem dL_law_1098 : decode cL_law 1098 = .ok (.aload_n 0, 1) := by decide +kernel
theorem dL_law_1099 : decode cL_law 1099 = .ok (.iload_n 3, 1) := by decide +kernel
theorem dL_law_1100 : decode cL_law 1100 = .ok (.iconst 1, 1) := by decide +kernel
theorem dL_law_1101 : decode cL_law 1101 = .ok (.iadd, 1) := by decide +kernel
theorem dL_law_1102 : decode cL_law 1102 = .ok (.iaload, 1) := by decide +kernel
theorem dL_law_1103 : decode cL_law 1103 = .ok (.aload_n 0, 1) := by decide +kernel
theorem dL_law_1104 : decode cL_law 1104 = .ok (.iload_n 3, 1) := by decide +kernel
theorem dL_law_1105 : decode cL_law 1105 = .ok (.iconst 2, 1) := by decide +kernel
theorem dL_law_1106 : decode cL_law 1106 = .ok (.iadd, 1) := by decide +kernel
theorem dL_law_1107 : decode cL_law 1107 = .ok (.iaload, 1) := by decide +kernel
theorem dL_law_1108 : decode cL_law 1108 = .ok (.invokevirtual 130, 3) := by decide +kernel
theorem dL_law_1111 : decode cL_law 1111 = .ok (.aload_n 2, 1) := by decide +kernel
theorem dL_law_1112 : decode cL_law 1112 = .ok (.aload_n 0, 1) := by decide +kernel
theorem dL_law_1113 : decode cL_law 1113 = .ok (.iload_n 3, 1) := by decide +kernel
theorem dL_law_1114 : decode cL_law 1114 = .ok (.iconst 1, 1) := by decide +kernel
theorem dL_law_1115 : decode cL_law 1115 = .ok (.iadd, 1) := by decide +kernel
theorem dL_law_1116 : decode cL_law 1116 = .ok (.iaload, 1) := by decide +kernel
theorem dL_law_1117 : decode cL_law 1117 = .ok (.aload_n 0, 1) := by decide +kernel
theorem dL_law_1118 : decode cL_law 1118 = .ok (.iload_n 3, 1) := by decide +kernel
theorem dL_law_1119 : decode cL_law 1119 = .ok (.iconst 2, 1) := by decide +kernel
theorem dL_law_1120 : decode cL_law 1120 = .ok (.iadd, 1) := by decide +kernel
theorem dL_law_1121 : decode cL_law 1121 = .ok (.iaload, 1) := by decide +kernel
theorem dL_law_1122 : decode cL_law 1122 = .ok (.invokevirtual 133, 3) := by decide +kernel
theorem dL_law_1125 : decode cL_law 1125 = .ok (.if_icmp .eq 88, 3) := by decide +kernel
theorem dL_law_1128 : decode cL_law 1128 = .ok (.iconst 0, 1) := by decide +kernel
theorem dL_law_1129 : decode cL_law 1129 = .ok (.ireturn, 1) := by decide +kernel
theorem dL_law_1130 : decode cL_law 1130 = .ok (.aload_n 1, 1) := by decide +kernel
theorem dL_law_1131 : decode cL_law 1131 = .ok (.aload_n 0, 1) := by decide +kernel
theorem dL_law_1132 : decode cL_law 1132 = .ok (.iload_n 3, 1) := by decide +kernel
theorem dL_law_1133 : decode cL_law 1133 = .ok (.iconst 1, 1) := by decide +kernel
theorem dL_law_1134 : decode cL_law 1134 = .ok (.iadd, 1) := by decide +kernel
theorem dL_law_1135 : decode cL_law 1135 = .ok (.iaload, 1) := by decide +kernel
theorem dL_law_1136 : decode cL_law 1136 = .ok (.invokevirtual 134, 3) := by decide +kernel
theorem dL_law_1139 : decode cL_law 1139 = .ok (.aload_n 2, 1) := by decide +kernel
theorem dL_law_1140 : decode cL_law 1140 = .ok (.aload_n 0, 1) := by decide +kernel
theorem dL_law_1141 : decode cL_law 1141 = .ok (.iload_n 3, 1) := by decide +kernel
theorem dL_law_1142 : decode cL_law 1142 = .ok (.iconst 1, 1) := by decide +kernel
theorem dL_law_1143 : decode cL_law 1143 = .ok (.iadd, 1) := by decide +kernel
theorem dL_law_1144 : decode cL_law 1144 = .ok (.iaload, 1) := by decide +kernel
theorem dL_law_1145 : decode cL_law 1145 = .ok (.invokevirtual 137, 3) := by decide +kernel
theorem dL_law_1148 : decode cL_law 1148 = .ok (.if_icmp .eq 65, 3) := by decide +kernel
theorem dL_law_1151 : decode cL_law 1151 = .ok (.iconst 0, 1) := by decide +kernel
theorem dL_law_1152 : decode cL_law 1152 = .ok (.ireturn, 1) := by decide +kernel
theorem dL_law_1153 : decode cL_law 1153 = .ok (.aload_n 1, 1) := by decide +kernel
theorem dL_law_1154 : decode cL_law 1154 = .ok (.aload_n 0, 1) := by decide +kernel
theorem dL_law_1155 : decode cL_law 1155 = .ok (.iload_n 3, 1) := by decide +kernel
theorem dL_law_1156 : decode cL_law 1156 = .ok (.iconst 1, 1) := by decide +kernel
theorem dL_law_1157 : decode cL_law 1157 = .ok (.iadd, 1) := by decide +kernel
theorem dL_law_1158 : decode cL_law 1158 = .ok (.iaload, 1) := by decide +kernel
theorem dL_law_1159 : decode cL_law 1159 = .ok (.invokevirtual 138, 3) := by decide +kernel
theorem dL_law_1162 : decode cL_law 1162 = .ok (.aload_n 2, 1) := by decide +kernel
theorem dL_law_1163 : decode cL_law 1163 = .ok (.aload_n 0, 1) := by decide +kernel
theorem dL_law_1164 : decode cL_law 1164 = .ok (.iload_n 3, 1) := by decide +kernel
theorem dL_law_1165 : decode cL_law 1165 = .ok (.iconst 1, 1) := by decide +kernel
theorem dL_law_1166 : decode cL_law 1166 = .ok (.iadd, 1) := by decide +kernel
theorem dL_law_1167 : decode cL_law 1167 = .ok (.iaload, 1) := by decide +kernel
theorem dL_law_1168 : decode cL_law 1168 = .ok (.invokevirtual 141, 3) := by decide +kernel
theorem dL_law_1171 : decode cL_law 1171 = .ok (.if_icmp .eq 42, 3) := by decide +kernel
theorem dL_law_1174 : decode cL_law 1174 = .ok (.iconst 0, 1) := by decide +kernel
theorem dL_law_1175 : decode cL_law 1175 = .ok (.ireturn, 1) := by decide +kernel
theorem dL_law_1176 : decode cL_law 1176 = .ok (.aload_n 1, 1) := by decide +kernel
theorem dL_law_1177 : decode cL_law 1177 = .ok (.aload_n 0, 1) := by decide +kernel
theorem dL_law_1178 : decode cL_law 1178 = .ok (.iload_n 3, 1) := by decide +kernel
theorem dL_law_1179 : decode cL_law 1179 = .ok (.iconst 1, 1) := by decide +kernel
theorem dL_law_1180 : decode cL_law 1180 = .ok (.iadd, 1) := by decide +kernel
theorem dL_law_1181 : decode cL_law 1181 = .ok (.iaload, 1) := by decide +kernel
theorem dL_law_1182 : decode cL_law 1182 = .ok (.invokevirtual 142, 3) := by decide +kernel
theorem dL_law_1185 : decode cL_law 1185 = .ok (.aload_n 2, 1) := by decide +kernel
theorem dL_law_1186 : decode cL_law 1186 = .ok (.aload_n 0, 1) := by decide +kernel
theorem dL_law_1187 : decode cL_law 1187 = .ok (.iload_n 3, 1) := by decide +kernel
theorem dL_law_1188 : decode cL_law 1188 = .ok (.iconst 1, 1) := by decide +kernel
theorem dL_law_1189 : decode cL_law 1189 = .ok (.iadd, 1) := by decide +kernel
theorem dL_law_1190 : decode cL_law 1190 = .ok (.iaload, 1) := by decide +kernel
theorem dL_law_1191 : decode cL_law 1191 = .ok (.invokevirtual 145, 3) := by decide +kernel
theorem dL_law_1194 : decode cL_law 1194 = .ok (.if_icmp .eq 19, 3) := by decide +kernel
theorem dL_law_1197 : decode cL_law 1197 = .ok (.iconst 0, 1) := by decide +kernel
theorem dL_law_1198 : decode cL_law 1198 = .ok (.ireturn, 1) := by decide +kernel
theorem dL_law_1199 : decode cL_law 1199 = .ok (.aload_n 1, 1) := by decide +kernel
theorem dL_law_1200 : decode cL_law 1200 = .ok (.invokevirtual 146, 3) := by decide +kernel
theorem dL_law_1203 : decode cL_law 1203 = .ok (.aload_n 2, 1) := by decide +kernel
theorem dL_law_1204 : decode cL_law 1204 = .ok (.invokevirtual 150, 3) := by decide +kernel
theorem dL_law_1207 : decode cL_law 1207 = .ok (.lcmp, 1) := by decide +kernel
theorem dL_law_1208 : decode cL_law 1208 = .ok (.ifCond .eq 5, 3) := by decide +kernel
theorem dL_law_1211 : decode cL_law 1211 = .ok (.iconst 0, 1) := by decide +kernel
theorem dL_law_1212 : decode cL_law 1212 = .ok (.ireturn, 1) := by decide +kernel
theorem dL_law_1213 : decode cL_law 1213 = .ok (.iinc 3 6, 3) := by decide +kernel
theorem dL_law_1216 : decode cL_law 1216 = .ok (.goto (-1198), 3) := by decide +kernel
theorem dL_law_1219 : decode cL_law 1219 = .ok (.iconst 1, 1) := by decide +kernel
theorem dL_law_1220 : decode cL_law 1220 = .ok (.ireturn, 1) := by decide +kernel
end
section
/-! ===== own layer: a small machine over addresses that are numbers; 'ev_E' is a walk of one method, 'ev_Cal' a contract ===== -/
def ev_TB : List Cond := lw_tbl.filter goodWord
theorem ev_in {w : Cond} (h : w ∈ lw_tbl) (g : goodWord w = true) : w ∈ ev_TB := List.mem_filter.mpr ⟨h, g⟩
abbrev ev_MI : Type := MethodName × ByteArray × Nat × Option FieldType
def ev_code (y : ev_MI) : Cond := Cond.code y.1 y.2.1 y.2.2.1 y.2.2.2
def ev_ws (y : ev_MI) : List Cond := Cond.code y.1 y.2.1 y.2.2.1 y.2.2.2 :: ev_TB
theorem ev_good {yc : ev_MI} (h : Cond.code yc.1 yc.2.1 yc.2.2.1 yc.2.2.2 ∈ ev_TB) : GoodIn ev_TB (ev_ws yc) := by
  intro w hw
  have h1 : w ∈ ev_TB := by
    rcases List.mem_cons.mp hw with rfl | hw
    · exact h
    · exact hw
  exact ⟨h1, good_of_word (List.mem_filter.mp h1).2⟩
/-- what a whole run fixes: where our cells begin, where the 20 older ones lie, the array classes' numbers, the classes' numbers and slots, the script, a static of the JDK's that is only carried -/
abbrev ev_G : Type := (Nat × (Nat → Nat)) × (Nat → ClassId) × va_G × (Nat × (Nat → Int32)) × Value
def ev_base (G : ev_G) : Nat := G.1.1
def ev_pre (G : ev_G) : Nat → Nat := G.1.2
def ev_cA (G : ev_G) : Nat → ClassId := G.2.1
def ev_D (G : ev_G) : va_G := G.2.2.1
def ev_L (G : ev_G) : Nat := G.2.2.2.1.1
def ev_xs (G : ev_G) : Nat → Int32 := G.2.2.2.1.2
def ev_sio (G : ev_G) : Value := G.2.2.2.2
def ev_ad (G : ev_G) (k : Nat) : Nat := if k < 20 then ev_pre G k else ev_base G + (k - 20)
def ev_v (G : ev_G) : Value → Value
  | .ref k => .ref (ev_ad G k)
  | v => v
abbrev ev_MC : Type := (Nat × vp_A) ⊕ (Nat × List Value)
abbrev ev_M : Type := Nat → ev_MC
def ev_junk : ev_MC := .inr (99, [])
def ev_a (G : ev_G) (a : vp_A) : vp_A := match a with
  | (n, .inr (.inr (.inr (.inr f)))) => (n, .inr (.inr (.inr (.inr (fun j => (f j).map (ev_ad G))))))
  | a => a
def ev_cell (G : ev_G) : ev_MC → va_E
  | .inl (t, a) => .inl (ev_cA G t, ev_a G a)
  | .inr (ci, fs) => .inr (ci, fs.map (ev_v G))
def ev_set (M : ev_M) (a : Nat) (c : ev_MC) : ev_M := fun k => if k = a then c else M k
theorem ev_set_eq {M : ev_M} {a : Nat} {c : ev_MC} : ev_set M a c a = c := if_pos rfl
theorem ev_set_ne {M : ev_M} {a b : Nat} {c : ev_MC} (h : b ≠ a) : ev_set M a c b = M b := if_neg h
theorem ev_set_set {M : ev_M} {a : Nat} {c d : ev_MC} : ev_set (ev_set M a c) a d = ev_set M a d := by
  funext k; simp only [ev_set]; split <;> rfl
theorem ev_set_self {M : ev_M} {a : Nat} {c : ev_MC} (h : M a = c) : ev_set M a c = M := by
  funext k; simp only [ev_set]; split
  · rename_i q; rw [q, h]
  · rfl
theorem ev_set_comm {M : ev_M} {a b : Nat} {c d : ev_MC} (h : a ≠ b) : ev_set (ev_set M a c) b d = ev_set (ev_set M b d) a c := by
  funext k; simp only [ev_set]
  by_cases h1 : k = b
  · subst h1; rw [if_pos rfl, if_neg (Ne.symm h), if_pos rfl]
  · rw [if_neg h1, if_neg h1]
def ev_wl (G : ev_G) (n : Nat) (M : ev_M) : va_W := (List.range n).map fun k => (ev_base G + k, ev_cell G (M (20 + k)))
def ev_A (G : ev_G) : Nat → Prop := fun q => ev_base G ≤ q
theorem ev_wl_at {G : ev_G} {n : Nat} {M : ev_M} {a : Nat} (h1 : 20 ≤ a) (h2 : a < 20 + n) : (ev_wl G n M)[a - 20]? = some (ev_ad G a, ev_cell G (M a)) := by
  have h3 : a - 20 < n := by omega
  simp only [ev_wl, List.getElem?_map, List.getElem?_range h3, Option.map_some, ev_ad]
  rw [if_neg (by omega), show 20 + (a - 20) = a by omega]
theorem ev_wl_inv {G : ev_G} {n : Nat} {M : ev_M} {k : Nat} {q : Nat × va_E} (h : (ev_wl G n M)[k]? = some q) : k < n ∧ q = (ev_base G + k, ev_cell G (M (20 + k))) := by
  have hk : k < n := by
    have := (List.getElem?_eq_some_iff.mp h).1
    simpa [ev_wl] using this
  simp only [ev_wl, List.getElem?_map, List.getElem?_range hk, Option.map_some] at h
  exact ⟨hk, (Option.some.inj h).symm⟩
theorem ev_wl_set {G : ev_G} {n : Nat} {M : ev_M} {a : Nat} {c : ev_MC} (h1 : 20 ≤ a) (h2 : a < 20 + n) : (ev_wl G n M).set (a - 20) (ev_ad G a, ev_cell G c) = ev_wl G n (ev_set M a c) := by
  apply List.ext_getElem?
  intro k
  by_cases hk : k = a - 20
  · subst hk
    rw [List.getElem?_set_self (by simp [ev_wl]; omega), ev_wl_at h1 h2, ev_set_eq]
  · rw [List.getElem?_set_ne (Ne.symm hk)]
    by_cases hn : k < n
    · simp only [ev_wl, List.getElem?_map, List.getElem?_range hn, Option.map_some]
      rw [ev_set_ne (by omega)]
    · simp [ev_wl, Nat.not_lt.mp hn]
theorem ev_wl_push {G : ev_G} {n : Nat} {M : ev_M} {c : ev_MC} : ev_wl G n M ++ [(ev_base G + n, ev_cell G c)] = ev_wl G (n + 1) (ev_set M (20 + n) c) := by
  simp only [ev_wl, List.range_succ, List.map_append, List.map_cons, List.map_nil, ev_set_eq]
  congr 1
  apply List.map_congr_left
  intro k hk
  have := List.mem_range.mp hk
  rw [ev_set_ne (by omega)]
theorem ev_wl_D {G : ev_G} {n : Nat} {M : ev_M} : va_D (ev_A G) (ev_wl G n M) := by
  refine ⟨fun i j p q hi hj h => ?_, fun k q hk => ?_⟩
  · obtain ⟨-, rfl⟩ := ev_wl_inv hi
    obtain ⟨-, rfl⟩ := ev_wl_inv hj
    have h : ev_base G + i = ev_base G + j := h
    omega
  · obtain ⟨-, rfl⟩ := ev_wl_inv hk
    exact Nat.le_add_right _ _
def ev_tys (G : ev_G) : List (ClassId × FieldType) := [(ev_cA G 0, .int), (ev_cA G 1, .boolean), (ev_cA G 2, .object RX9), (ev_cA G 3, .object RX1), (ev_cA G 4, .object RX0)]
/-- the older cells: 0 the script, 1 .. 8 the static arrays, 9 .. 13 the texts, 14 .. 18 their bytes, 19 what is only carried -/
def ev_stA (i : Nat) : List Int32 := [[0, 0, 0, -9], [20, 60, 30, 9], [80, 200, 20, 20, 0, 0], [130, 600, 99, 99, 200, 9], [20, 0], [70, 9], [0, 0], [30, 20]].getD i []
def ev_stN (i : Nat) : String × String := [(RX11, "LEASTS"), (RX11, "MOSTS"), (RX7, "STICK_LEASTS"), (RX7, "STICK_MOSTS"), (RX7, "BOW_LEASTS"), (RX7, "BOW_MOSTS"), (RX7, "ARCHER_LEASTS"), (RX7, "ARCHER_MOSTS")].getD i (RX7, "")
def ev_sx : List (Nat × String) := [(43, "stick"), (55, "bow"), (63, "archer"), (127, "left"), (129, "right")]
def ev_sl : List Nat := [5, 3, 6, 4, 5]
def ev_sb : List (List Int32) := [[115, 116, 105, 99, 107], [98, 111, 119], [97, 114, 99, 104, 101, 114], [108, 101, 102, 116], [114, 105, 103, 104, 116]]
def ev_nest : List Cond := lw_tbl.filter (fun w => match w with | .methodLinkNest .. => true | _ => false)
def ev_stLS (i : Nat) : Cond := .laysStatic (ev_stN i).1 (ev_stN i).2 "[I"
/-- of the tables -/
def ev_F (G : ev_G) (U : State) : Prop := va_K (ev_D G) vwCl (ev_tys G) U ∧ (∀ w ∈ ev_nest, va_Nw w U) ∧ (va_AO RX9 U ∧ va_AO RX1 U ∧ va_AO RX0 U) ∧ ∀ (i : Nat) (q : Nat × String), ev_sx[i]? = some q → vk_R RX7 q.1 q.2 (ev_pre G (9 + i)) U
/-- of the older cells -/
def ev_P (G : ev_G) (U : State) (H : Heap) : Prop :=
  (∀ i : Nat, i < 8 → va_Z (ev_stN i).1 (ev_stN i).2 "[I" (.ref (ev_pre G (1 + i))) (ev_A G) U H ∧ va_T .int (ev_pre G (1 + i)) (ev_stA i).length (fun j => .int ((ev_stA i).getD j 0)) (ev_A G) U H) ∧
  va_T .int (ev_pre G 0) (ev_L G) (fun j => .int (ev_xs G j)) (ev_A G) U H ∧ vk_S 5 ev_sl ev_sb (fun i => ev_pre G (9 + i)) (fun i => ev_pre G (14 + i)) (ev_A G) U H ∧
  va_Z "java/lang/String" "COMPACT_STRINGS" "Z" (.int 1) (ev_A G) U H ∧ va_Z "jdk/internal/util/Preconditions" "SIOOBE_FORMATTER" "Ljava/util/function/BiFunction;" (ev_v G (ev_sio G)) (ev_A G) U H
/-- the heap holds the small machine's memory -/
def ev_H (G : ev_G) (U : State) (n : Nat) (M : ev_M) (H : Heap) : Prop :=
  va_P (ev_D G) vwCl (ev_wl G n M) H ∧ H.size = ev_base G + n ∧ ev_P G U H ∧ ∀ k : Nat, ¬ (20 ≤ k ∧ k < 20 + n) → M k = ev_junk
theorem ev_F.warm {G : ev_G} {s U : State} (hW : s.WarmedH U.vm) (h : ev_F G s) : ev_F G U := by
  obtain ⟨h1, h2, h3, h4⟩ := h
  refine ⟨va_K.moved hW.alike h1, fun w hw => ?_, ⟨va_AO.moved hW.alike h3.1, va_AO.moved hW.alike h3.2.1, va_AO.moved hW.alike h3.2.2⟩, fun i q hq => vk_R.warm hW (h4 i q hq)⟩
  have h5 := h2 w hw
  have h6 := (List.mem_filter.mp hw).2
  cases w <;> first | exact va_Nw.warmM hW h5 | (exact absurd (show false = true from h6) (by decide))
theorem ev_F.calling {G : ev_G} {U : State} {g : JFrame} {mk : MethodId} {a : Array Value} (h : ev_F G U) : ev_F G (U.calling g mk a) := by
  obtain ⟨h1, h2, h3, h4⟩ := h
  refine ⟨va_K.moved (u := U) (Vm.Alike.refl U.vm) h1, fun w hw => ?_, ⟨va_AO.moved (u := U) (Vm.Alike.refl U.vm) h3.1, va_AO.moved (u := U) (Vm.Alike.refl U.vm) h3.2.1, va_AO.moved (u := U) (Vm.Alike.refl U.vm) h3.2.2⟩, fun i q hq => vk_R.same (u := U) rfl (h4 i q hq)⟩
  have h5 := h2 w hw
  have h6 := (List.mem_filter.mp hw).2
  cases w <;> first | exact va_Nw.same rfl (u := U) rfl h5 | (exact absurd (show false = true from h6) (by decide))
theorem ev_P.moved {G : ev_G} {u U : State} {H : Heap} (hvm : u.vm.Alike U.vm) (h : ev_P G u H) : ev_P G U H := by
  obtain ⟨h1, h2, h3, h4, h5⟩ := h
  exact ⟨fun i hi => ⟨(h1 i hi).1.moved hvm, (h1 i hi).2.moved hvm⟩, h2.moved hvm, h3.moved hvm, h4.moved hvm, h5.moved hvm⟩
theorem ev_P.kept {G : ev_G} {U : State} {H H1 : Heap} (h : ev_P G U H) (hq : ∀ a : Nat, a < H.size → ¬ ev_A G a → H1[a]? = H[a]?) : ev_P G U H1 := by
  obtain ⟨h1, h2, h3, h4, h5⟩ := h
  exact ⟨fun i hi => ⟨(h1 i hi).1.kept hq, (h1 i hi).2.kept hq⟩, h2.kept hq, h3.kept hq, h4.kept hq, h5.kept hq⟩
theorem ev_H.moved {G : ev_G} {u U : State} {n : Nat} {M : ev_M} {H : Heap} (hvm : u.vm.Alike U.vm) (h : ev_H G u n M H) : ev_H G U n M H := ⟨h.1, h.2.1, h.2.2.1.moved hvm, h.2.2.2⟩
/-- where a cell that is no junk lies -/
theorem ev_H.rng {G : ev_G} {U : State} {n : Nat} {M : ev_M} {H : Heap} (h : ev_H G U n M H) {a : Nat} (hj : M a ≠ ev_junk) : 20 ≤ a ∧ a < 20 + n := by
  by_cases q : 20 ≤ a ∧ a < 20 + n
  · exact q
  · exact absurd (h.2.2.2 a q) hj
theorem ev_nj_l {x : Nat × vp_A} : (.inl x : ev_MC) ≠ ev_junk := fun h => by cases h
theorem ev_nj_r {ci : Nat} {fs : List Value} {r : vw_C} (h : vwCl[ci]? = some r) : (.inr (ci, fs) : ev_MC) ≠ ev_junk := by
  intro q
  have h1 : ci = 99 := congrArg (fun z : ev_MC => match z with | .inr w => w.1 | .inl w => w.1) q
  subst h1
  cases h
theorem ev_ad_own {G : ev_G} {a : Nat} (h : 20 ≤ a) : ev_A G (ev_ad G a) := by
  show ev_base G ≤ ev_ad G a
  rw [ev_ad, if_neg (by omega)]; exact Nat.le_add_right _ _
/-- the locals -/
def ev_R (G : ev_G) (ls : Array Slot) (nL : Nat) (L : List (Option Value)) : Prop := ls.size = nL ∧ lv_wf ls ∧ ∀ (i : Nat) (v : Value), L[i]? = some (some v) → ls[i]? = some (.val (ev_v G v))
def ev_pr (G : ev_G) (L : List (Option Value)) : List (Nat × Value) := (List.range L.length).filterMap fun i => (L[i]?.join).map fun v => (i, ev_v G v)
theorem ev_pr_mem {G : ev_G} {L : List (Option Value)} {i : Nat} {v : Value} (h : L[i]? = some (some v)) : (i, ev_v G v) ∈ ev_pr G L :=
  List.mem_filterMap.mpr ⟨i, List.mem_range.mpr (List.getElem?_eq_some_iff.mp h).1, by rw [h]; rfl⟩
theorem ev_R.has {G : ev_G} {ls : Array Slot} {nL : Nat} {L : List (Option Value)} (h : ev_R G ls nL L) : lv_has ls nL (ev_pr G L) := by
  refine ⟨h.1, h.2.1, fun q hq => ?_⟩
  obtain ⟨i, -, hi⟩ := List.mem_filterMap.mp hq
  cases hv : L[i]? with
  | none => rw [hv] at hi; cases hi
  | some o =>
    cases o with
    | none => rw [hv] at hi; cases hi
    | some v =>
      rw [hv] at hi
      cases hi
      exact h.2.2 i v hv
theorem ev_v_cat {G : ev_G} (v : Value) : (ev_v G v).category = v.category := by cases v <;> rfl
/-- behind a store of one word: what stood a place ahead, if it was a long, is gone -/
def ev_st1 (L : List (Option Value)) (i : Nat) (v : Value) : List (Option Value) := L.set i (some v)
/-- no long stands just ahead of place i -/
def ev_ok1 (L : List (Option Value)) (i : Nat) : Bool := match i with
  | 0 => true
  | j + 1 => match L[j]? with
    | some (some w) => w.category != 2
    | _ => true
theorem ev_ok1_at {L : List (Option Value)} {i j : Nat} {w : Value} (h : ev_ok1 L i = true) (hj : j + 1 = i) (hw : L[j]? = some (some w)) : ¬ w.category = 2 := by
  subst hj
  simp only [ev_ok1, hw, bne_iff_ne, ne_eq] at h
  exact h
theorem ev_R.st1 {G : ev_G} {ls : Array Slot} {nL : Nat} {L : List (Option Value)} {i : Nat} {v : Value} {l : List (Nat × Value)} (hL : ev_R G ls nL L) (hk : ev_ok1 L i = true)
    (hl : (i, ev_v G v) :: (ev_pr G L).filter (fun q => !(q.1 == i) && !(q.1 + 1 == i && q.2.category == 2)) = l) {ls' : Array Slot} (h : lv_has ls' nL l) : ev_R G ls' nL (L.set i (some v)) := by
  subst hl
  refine ⟨h.1, h.2.1, fun j w hj => ?_⟩
  by_cases hji : j = i
  · subst hji
    have hlt : j < L.length := by
      have := (List.getElem?_eq_some_iff.mp hj).1
      simpa using this
    rw [List.getElem?_set_self hlt] at hj
    cases hj
    exact h.2.2 _ List.mem_cons_self
  · rw [List.getElem?_set_ne (Ne.symm hji)] at hj
    refine h.2.2 (j, ev_v G w) (List.mem_cons_of_mem _ (List.mem_filter.mpr ⟨ev_pr_mem hj, ?_⟩))
    simp only [Bool.and_eq_true, Bool.not_eq_true', beq_eq_false_iff_ne, ne_eq, Bool.and_eq_false_iff, ev_v_cat]
    refine ⟨hji, ?_⟩
    by_cases z : j + 1 = i
    · exact Or.inr (ev_ok1_at hk z hj)
    · exact Or.inl z
theorem ev_R.st2 {G : ev_G} {ls : Array Slot} {nL : Nat} {L : List (Option Value)} {i : Nat} {v : Value} {l : List (Nat × Value)} (hL : ev_R G ls nL L) (hk : ev_ok1 L i = true)
    (hl : (i, ev_v G v) :: (ev_pr G L).filter (fun q => !(q.1 == i) && (!(q.1 == i + 1) && !(q.1 + 1 == i && q.2.category == 2))) = l) {ls' : Array Slot} (h : lv_has ls' nL l) : ev_R G ls' nL ((L.set i (some v)).set (i + 1) none) := by
  subst hl
  refine ⟨h.1, h.2.1, fun j w hj => ?_⟩
  by_cases hj1 : j = i + 1
  · subst hj1
    by_cases hlt : i + 1 < (L.set i (some v)).length
    · rw [List.getElem?_set_self hlt] at hj
      cases hj
    · have := (List.getElem?_eq_some_iff.mp hj).1
      rw [List.length_set] at this
      exact absurd this hlt
  · rw [List.getElem?_set_ne (Ne.symm hj1)] at hj
    by_cases hji : j = i
    · subst hji
      have hlt : j < L.length := by
        have := (List.getElem?_eq_some_iff.mp hj).1
        simpa using this
      rw [List.getElem?_set_self hlt] at hj
      cases hj
      exact h.2.2 _ List.mem_cons_self
    · rw [List.getElem?_set_ne (Ne.symm hji)] at hj
      refine h.2.2 (j, ev_v G w) (List.mem_cons_of_mem _ (List.mem_filter.mpr ⟨ev_pr_mem hj, ?_⟩))
      simp only [Bool.and_eq_true, Bool.not_eq_true', beq_eq_false_iff_ne, ne_eq, Bool.and_eq_false_iff, ev_v_cat]
      refine ⟨hji, hj1, ?_⟩
      by_cases z : j + 1 = i
      · exact Or.inr (ev_ok1_at hk z hj)
      · exact Or.inl z
/-- what stands at a method's entry -/
def ev_C (G : ev_G) (y : ev_MI) (p : Program) (s : State) (m : MethodId) (args : Array Value) (meth : Method) (c : Code) : Prop :=
  p.tables.exec = Jvm.exec ∧ c.code = y.2.1 ∧ c.maxLocals = y.2.2.1 ∧ s.vm.findClass y.1.cls = some m.cls ∧ (∀ w ∈ ev_TB, w.before args s = true) ∧ ev_F G s ∧ meth.sig.returnType = y.2.2.2 ∧ meth.locks = false ∧ (y.1.name = "<init>" → meth.name = "<init>")
/-- an answer of the method's type, and the instruction that gives it -/
def ev_ok (y : ev_MI) (pc : Nat) (r : Option Value) : Prop := match r with
  | none => y.2.2.2 = none ∧ decode y.2.1 pc = .ok (.return_, 1)
  | some (.int v) => (∃ ty, y.2.2.2 = some ty ∧ narrow ty (.int v) = .int v) ∧ decode y.2.1 pc = .ok (.ireturn, 1)
  | some (.long _) => y.2.2.2 = some .long ∧ decode y.2.1 pc = .ok (.lreturn, 1)
  | some .null => (∃ n, y.2.2.2 = some (.object n)) ∧ decode y.2.1 pc = .ok (.areturn, 1)
  | some (.ref _) => (∃ n, y.2.2.2 = some (.object n)) ∧ decode y.2.1 pc = .ok (.areturn, 1)
  | _ => False
/-- from here the method comes to its end, makes rc cells of ru slots, and answers as Post says -/
def ev_E (G : ev_G) (y : ev_MI) (f rc ru n : Nat) (M : ev_M) (pc : Nat) (L : List (Option Value)) (st : List Value) (Post : Option Value → ev_M → Prop) : Prop :=
  ∀ (p : Program) (l : Launch) (e : Env) (R : Room) (s : State) (m : MethodId) (args : Array Value) (below : List Frame) (meth : Method) (c : Code) (H : Heap) (locs : List Loc) (cells slots : Nat) (ls : Array Slot) (Q : State → Prop),
    ev_C G y p s m args meth c → f ≤ R.frames → 36 * f ≤ R.locals → cells + rc ≤ R.cells → slots + ru ≤ R.slots → ev_R G ls y.2.2.1 L → ev_H G s n M H → va_S (ev_A G) s.heap H locs →
    (∀ (pc' : Nat) (ls' : Array Slot) (r : Option Value) (M' : ev_M) (H' : Heap) (locs' : List Loc), ev_ok y pc' r → ev_H G s (n + rc) M' H' → va_S (ev_A G) s.heap H' locs' → Post r M' →
      W p l e R s m args below meth c H' locs' (cells + rc) (slots + ru) Q (F0 m pc' ls' (r.toList.map (ev_v G)))) →
    W p l e R s m args below meth c H locs cells slots Q (F0 m pc ls (st.map (ev_v G)))
/-- a contract: with these arguments, from this memory -/
def ev_Cal (G : ev_G) (y : ev_MI) (f rc ru : Nat) (as : List Value) (n : Nat) (M : ev_M) (Post : Option Value → ev_M → Prop) : Prop :=
  ∀ l : Launch, Met l y.1 (ev_ws y) { frames := f, cells := rc, slots := ru, locals := 36 * f } (va_Pc (as.map (ev_v G)) (fun U => ev_F G U ∧ ev_H G U n M U.heap))
    (fun _ st o t => ∃ (r : Option Value) (M' : ev_M), o = .returned (r.map (ev_v G)) ∧ ev_H G t (n + rc) M' t.heap ∧ Post r M' ∧ va_F (ev_A G) st t) rc ru (ev_A G)
/-- the locals at the entry -/
def ev_e0 : List Value → List (Option Value)
  | [] => []
  | v :: vs => if v.category = 2 then some v :: none :: ev_e0 vs else some v :: ev_e0 vs
def ev_e (as : List Value) (nL : Nat) : List (Option Value) := ev_e0 as ++ List.replicate (nL - (ev_e0 as).length) none
theorem ev_e0_mem {G : ev_G} : ∀ (as : List Value) (k i : Nat) (v : Value), (ev_e0 as)[i]? = some (some v) → (k + i, ev_v G v) ∈ lv_args k (as.map (ev_v G))
  | [], k, i, v, h => by simp [ev_e0] at h
  | a :: as, k, i, v, h => by
    rw [ev_e0] at h
    rw [List.map_cons, lv_args, ev_v_cat]
    by_cases hc : a.category = 2
    · rw [if_pos hc] at h
      rw [if_pos hc]
      match i, h with
      | 0, h => cases h; exact List.mem_cons_self
      | 1, h => cases h
      | i + 2, h =>
        have := ev_e0_mem (G := G) as (k + 2) i v h
        rw [show k + (i + 2) = k + 2 + i by omega]
        exact List.mem_cons_of_mem _ this
    · rw [if_neg hc] at h
      rw [if_neg hc]
      match i, h with
      | 0, h => cases h; exact List.mem_cons_self
      | i + 1, h =>
        have := ev_e0_mem (G := G) as (k + 1) i v h
        rw [show k + (i + 1) = k + 1 + i by omega]
        exact List.mem_cons_of_mem _ this
theorem ev_e_at {as : List Value} {nL i : Nat} {v : Value} (h : (ev_e as nL)[i]? = some (some v)) : (ev_e0 as)[i]? = some (some v) := by
  by_cases hi : i < (ev_e0 as).length
  · rwa [ev_e, List.getElem?_append_left hi] at h
  · rw [ev_e, List.getElem?_append_right (by omega), List.getElem?_replicate] at h
    split at h <;> cases h
theorem ev_e0_len {G : ev_G} : ∀ as : List Value, (ev_e0 as).length = (lg_sl (as.map (ev_v G))).length
  | [] => rfl
  | a :: as => by
    have ih := ev_e0_len (G := G) as
    simp only [lg_sl, List.map_cons, List.flatMap_cons, List.length_append, ev_v_cat] at ih ⊢
    rw [ev_e0]
    by_cases hc : a.category = 2
    · rw [if_pos hc, if_pos hc]; simp only [List.length_cons, List.length_nil]; omega
    · rw [if_neg hc, if_neg hc]; simp only [List.length_cons, List.length_nil]; omega
theorem ev_Cal_of {G : ev_G} {y : ev_MI} {f rc ru n : Nat} {as : List Value} {M : ev_M} {Post : Option Value → ev_M → Prop} {L : List (Option Value)} (hy : plainName y.1.cls = true) (hl : (ev_e0 as).length ≤ y.2.2.1) (hL : ev_e as y.2.2.1 = L)
    (h : ev_E G y f rc ru n M 0 L [] Post) : ev_Cal G y f rc ru as n M Post := by
  intro l
  subst hL
  refine Met.ofW (cc := y.2.1) (maxL := y.2.2.1) (ret := y.2.2.2) (ws' := ev_TB) hy rfl ?_
  intro p e s m args below meth c s₁ B hml hv
  obtain ⟨rfl, hF, hH⟩ := hv
  have hts0 := atoms_spec (ws := ev_ws y) B.pre
  have hts : ∀ w ∈ ev_TB, w.before ((as.map (ev_v G)).toArray) s = true := fun w hw => hts0 w (List.mem_cons_of_mem _ hw)
  have hown : s.vm.findClass y.1.cls = some m.cls := findClass_of_methodNamed B.named
  have hlocks := B.notSynchronized
  have hnm : meth.name = y.1.name := (name_of_methodNamed B.named B.method).1
  have hC : ev_C G y p s m ((as.map (ev_v G)).toArray) meth c := ⟨B.exec, B.bytes, hml, hown, hts, hF, B.returns, hlocks, fun q => hnm.trans q⟩
  have hl0 := lv_entry (as.map (ev_v G)) (n := y.2.2.1) (by rw [← ev_e0_len]; exact hl)
  rw [lg_entry_eq]
  have hR : ev_R G ((lg_sl (as.map (ev_v G)) ++ List.replicate (y.2.2.1 - (lg_sl (as.map (ev_v G))).length) Slot.unset).toArray) y.2.2.1 (ev_e as y.2.2.1) :=
    ⟨hl0.1, hl0.2.1, fun i v hi => by
      have := ev_e0_mem (G := G) as 0 i v (ev_e_at hi)
      rw [Nat.zero_add] at this
      exact hl0.2.2 _ this⟩
  have K := h p l e (headSpec (ev_ws y) { frames := f, cells := rc, slots := ru, locals := 36 * f }).room s m ((as.map (ev_v G)).toArray) below meth c s.heap [] 0 0 _
    (MQ below (fun _ st o t => ∃ (r : Option Value) (M' : ev_M), o = .returned (r.map (ev_v G)) ∧ ev_H G t (n + rc) M' t.heap ∧ Post r M' ∧ va_F (ev_A G) st t) ((as.map (ev_v G)).toArray) s rc ru (ev_A G))
    hC (Nat.le_refl _) (Nat.le_refl _) (by rw [Nat.zero_add]; exact Nat.le_refl _) (by rw [Nat.zero_add]; exact Nat.le_refl _) hR hH va_S.rf ?_
  · exact K
  · intro pc' ls' r M' H' locs' hok hH' hS' hP
    rw [Nat.zero_add, Nat.zero_add]
    have fin : ∀ t : State, t.heap = H' → s.WarmedH t.vm → ∃ (r2 : Option Value) (M2 : ev_M), Outcome.returned (r.map (ev_v G)) = .returned (r2.map (ev_v G)) ∧ ev_H G t (n + rc) M2 t.heap ∧ Post r2 M2 ∧ va_F (ev_A G) s t :=
      fun t ht hW => ⟨r, M', rfl, by rw [ht]; exact hH'.moved hW.alike, hP, hS'.F ht⟩
    match r, hok, fin with
    | none, hok, fin => exact W.vret hC.1 hC.2.1 (hC.2.2.2.2.2.2.1.trans hok.1) fin hS'.2.2 hok.2 hlocks
    | some (.int v), hok, fin =>
      obtain ⟨⟨ty, h1, h2⟩, h3⟩ := hok
      exact W.zret hC.1 hC.2.1 (hC.2.2.2.2.2.2.1.trans h1) h2 fin hS'.2.2 h3 hlocks
    | some (.long v), hok, fin => exact W.lret hC.1 hC.2.1 (hC.2.2.2.2.2.2.1.trans hok.1) fin hS'.2.2 hok.2 hlocks
    | some .null, hok, fin =>
      obtain ⟨⟨nn, h1⟩, h3⟩ := hok
      exact W.aret hC.1 hC.2.1 (hC.2.2.2.2.2.2.1.trans h1) (Or.inl ⟨nn, rfl⟩) (Or.inl rfl) fin hS'.2.2 h3 hlocks
    | some (.ref v), hok, fin =>
      obtain ⟨⟨nn, h1⟩, h3⟩ := hok
      exact W.aret hC.1 hC.2.1 (hC.2.2.2.2.2.2.1.trans h1) (Or.inl ⟨nn, rfl⟩) (Or.inr ⟨_, rfl⟩) fin hS'.2.2 h3 hlocks
end
section
/-! ===== own layer: a row an instruction ===== -/
def ev_b (p : Bool) : Int32 := bif p then 1 else 0
abbrev ev_ix (i : Int32) (j : Nat) : Prop := ¬ i < 0 ∧ i.toNatClampNeg = j
theorem ev_ix_in {i : Int32} {j n : Nat} (h : ev_ix i j) (hj : j < n) : vp_in i n := by
  intro q
  rcases q with q | q
  · exact h.1 q
  · rw [h.2] at q; omega
theorem ev_upd {G : ev_G} {s : State} {n : Nat} {M : ev_M} {H H1 : Heap} {a : Nat} {c : ev_MC} (hH : ev_H G s n M H) (h1 : 20 ≤ a ∧ a < 20 + n) (hz : H1.size = H.size) (oq : ∀ q, q ≠ ev_ad G a → H1[q]? = H[q]?) (hat : va_at (ev_D G) vwCl (ev_ad G a, ev_cell G c) H1) : ev_H G s n (ev_set M a c) H1 := by
  refine ⟨?_, by rw [hz]; exact hH.2.1, hH.2.2.1.kept (fun q _ hA => oq q (fun e => hA (by rw [e]; exact ev_ad_own h1.1))), fun k hk => ?_⟩
  · rw [← ev_wl_set h1.1 h1.2]
    exact hH.1.set ev_wl_D (ev_wl_at h1.1 h1.2) hat oq
  · rw [ev_set_ne (by omega)]; exact hH.2.2.2 k hk
theorem ev_grow {G : ev_G} {s : State} {n : Nat} {M : ev_M} {H H1 : Heap} {c : ev_MC} (hH : ev_H G s n M H) (hz : H1.size = H.size + 1) (oq : ∀ q, q < H.size → H1[q]? = H[q]?) (hat : va_at (ev_D G) vwCl (H.size, ev_cell G c) H1) : ev_H G s (n + 1) (ev_set M (20 + n) c) H1 := by
  refine ⟨?_, by rw [hz, hH.2.1]; omega, hH.2.2.1.kept (fun q hl _ => oq q hl), fun k hk => ?_⟩
  · rw [← ev_wl_push]
    refine va_P.app (hH.1.kept (fun k x hx => oq x.1 ((hH.1 k x hx).lt))) (fun k x hx => ?_)
    have hk : k < 1 := (List.getElem?_eq_some_iff.mp hx).1
    rw [show k = 0 by omega] at hx
    cases hx
    rw [← hH.2.1]
    exact hat
  · rw [ev_set_ne (by omega)]; exact hH.2.2.2 k (by omega)
theorem ev_S_grow {A : Nat → Prop} {H0 H H1 : Heap} {locs : List Loc} (hS : va_S A H0 H locs) (hz : H1.size = H.size + 1) (oq : ∀ q, q < H.size → H1[q]? = H[q]?) : va_S A H0 H1 locs :=
  ⟨Nat.le_trans hS.1 (by omega), fun x h1 h2 => (oq x (Nat.lt_of_lt_of_le h1 hS.1)).trans (hS.2.1 x h1 h2), hS.2.2⟩
/-- a field: which entry of whose pool, which class's which slot -/
def ev_FL (own : String) (idx ci k : Nat) : Prop := ∃ r : vw_C, vwCl[ci]? = some r ∧ k < r.2.2 ∧ Cond.fieldLink own idx r.1 (r.2.1 k).2.1 (r.2.1 k).2.2.1 ∈ ev_TB ∧ (∀ w ∈ u_ws r.1 r.2.1 r.2.2, w ∈ ev_TB) ∧ (r.2.1 k).1 = r.1
/-- ... one that is written: its type, whether it is final -/
def ev_FP (own : String) (idx ci k : Nat) (ty : FieldType) (fin : Bool) : Prop := ∃ (r : vw_C) (ty0 : Nat → FieldType), vwCl[ci]? = some r ∧ k < r.2.2 ∧ Cond.fieldLink own idx r.1 (r.2.1 k).2.1 (r.2.1 k).2.2.1 ∈ ev_TB ∧ (∀ w ∈ u_ws r.1 r.2.1 r.2.2, w ∈ ev_TB) ∧ (r.2.1 k).1 = r.1 ∧
  (∀ k, k < r.2.2 → parseFieldDescriptor (r.2.1 k).2.2.1 = some (ty0 k)) ∧ (∀ a, a < r.2.2 → ∀ b, b < r.2.2 → a ≠ b → (r.2.1 a).2.1 ≠ (r.2.1 b).2.1) ∧ parseFieldDescriptor (r.2.1 k).2.2.1 = some ty ∧ (r.2.1 k).2.2.2 = fin ∧ (fin = true → r.1 = own)
/-- a class that is made: its fields' defaults -/
def ev_NW (own : String) (idx ci : Nat) (fs : List Value) (N : Nat) : Prop := ∃ (r : vw_C) (ty0 : Nat → FieldType), vwCl[ci]? = some r ∧ r.2.2 = N ∧ Cond.classLink own idx r.1 ∈ ev_TB ∧ Cond.instantiable r.1 r.2.2 ∈ ev_TB ∧ Cond.initialized r.1 ∈ ev_TB ∧ (∀ w ∈ u_ws r.1 r.2.1 r.2.2, w ∈ ev_TB) ∧
  (∀ k, k < r.2.2 → parseFieldDescriptor (r.2.1 k).2.2.1 = some (ty0 k)) ∧ ∀ j, j < r.2.2 → defaultValue (ty0 j) = vp_V (fs.map fun v => v) j ∧ ∀ G, vp_V (fs.map (ev_v G)) j = vp_V fs j
theorem ev_top {G : ev_G} {n : Nat} : ev_v G (.ref (20 + n)) = .ref (ev_base G + n) := by rw [ev_v, ev_ad, if_neg (by omega), Nat.add_sub_cancel_left]
theorem ev_old {G : ev_G} {k : Nat} (h : k < 20) : ev_v G (.ref k) = .ref (ev_pre G k) := by rw [ev_v, ev_ad, if_pos h]
section EVR
variable {G : ev_G} {y : ev_MI} {f rc ru n : Nat} {M : ev_M} {pc : Nat} {L : List (Option Value)} {st : List Value} {Post : Option Value → ev_M → Prop}
/-- the memory may be put otherwise -/
theorem ev_mem {M2 : ev_M} (h : M = M2) (k : ev_E G y f rc ru n M2 pc L st Post) : ev_E G y f rc ru n M pc L st Post := h ▸ k
theorem ev_pre1 {a : Nat} {c : ev_MC} (h : M a = c) (k : ev_E G y f rc ru n (ev_set M a c) pc L st Post) : ev_E G y f rc ru n M pc L st Post := by rw [ev_set_self h] at k; exact k
theorem ev_loc {L2 : List (Option Value)} (h : L = L2) (k : ev_E G y f rc ru n M pc L2 st Post) : ev_E G y f rc ru n M pc L st Post := h ▸ k
theorem ev_stk {st2 : List Value} (h : st = st2) (k : ev_E G y f rc ru n M pc L st2 Post) : ev_E G y f rc ru n M pc L st Post := h ▸ k
/-- fewer locals -/
theorem ev_fewer {L2 : List (Option Value)} (h : ∀ (i : Nat) (v : Value), L2[i]? = some (some v) → L[i]? = some (some v)) (k : ev_E G y f rc ru n M pc L2 st Post) : ev_E G y f rc ru n M pc L st Post :=
  fun p l e R s m args below meth c H locs cells slots ls Q hC hf hlo hc hs hL hH hS hend => k p l e R s m args below meth c H locs cells slots ls Q hC hf hlo hc hs ⟨hL.1, hL.2.1, fun i v hi => hL.2.2 i v (h i v hi)⟩ hH hS hend
theorem ev_post {Post2 : Option Value → ev_M → Prop} (h : ∀ r M1, Post2 r M1 → Post r M1) (k : ev_E G y f rc ru n M pc L st Post2) : ev_E G y f rc ru n M pc L st Post :=
  fun p l e R s m args below meth c H locs cells slots ls Q hC hf hlo hc hs hL hH hS hend => k p l e R s m args below meth c H locs cells slots ls Q hC hf hlo hc hs hL hH hS (fun pc' ls' r M' H' locs' ho hH' hS' hP => hend pc' ls' r M' H' locs' ho hH' hS' (h r M' hP))

theorem ev_iconst {z : Int} {v : Int32} (hd : decode y.2.1 pc = .ok (.iconst z, 1)) (hv : Int32.ofInt z = v) (k : ev_E G y f rc ru n M (pc + 1) L (.int v :: st) Post) : ev_E G y f rc ru n M pc L (st) Post := by
  intro p l e R s m args below meth c H locs cells slots ls Q hC hf hlo hc hs hL hH hS hend
  exact lv_iconst hC.1 hC.2.1 hd hv (k p l e R s m args below meth c H locs cells slots ls Q hC hf hlo hc hs hL hH hS hend)

theorem ev_bipush {z : Int} {v : Int32} (hd : decode y.2.1 pc = .ok (.bipush z, 2)) (hv : (Int8.ofInt z).toInt32 = v) (k : ev_E G y f rc ru n M (pc + 2) L (.int v :: st) Post) : ev_E G y f rc ru n M pc L (st) Post := by
  intro p l e R s m args below meth c H locs cells slots ls Q hC hf hlo hc hs hL hH hS hend
  exact lv_bipush hC.1 hC.2.1 hd hv (k p l e R s m args below meth c H locs cells slots ls Q hC hf hlo hc hs hL hH hS hend)

theorem ev_sipush {z : Int} {v : Int32} (hd : decode y.2.1 pc = .ok (.sipush z, 3)) (hv : (Int16.ofInt z).toInt32 = v) (k : ev_E G y f rc ru n M (pc + 3) L (.int v :: st) Post) : ev_E G y f rc ru n M pc L (st) Post := by
  intro p l e R s m args below meth c H locs cells slots ls Q hC hf hlo hc hs hL hH hS hend
  exact lv_sipush hC.1 hC.2.1 hd hv (k p l e R s m args below meth c H locs cells slots ls Q hC hf hlo hc hs hL hH hS hend)

theorem ev_lconst {z : Fin 2} {v : Int64} (hd : decode y.2.1 pc = .ok (.lconst z, 1)) (hv : Int64.ofNat (z : Nat) = v) (k : ev_E G y f rc ru n M (pc + 1) L (.long v :: st) Post) : ev_E G y f rc ru n M pc L (st) Post := by
  intro p l e R s m args below meth c H locs cells slots ls Q hC hf hlo hc hs hL hH hS hend
  exact lv_lconst hC.1 hC.2.1 hd hv (k p l e R s m args below meth c H locs cells slots ls Q hC hf hlo hc hs hL hH hS hend)

theorem ev_ldc {idx : Nat} {v : Int32} (hd : decode y.2.1 pc = .ok (.ldc idx, 2)) (hw : Cond.constant y.1.cls idx v ∈ ev_TB) (k : ev_E G y f rc ru n M (pc + 2) L (.int v :: st) Post) : ev_E G y f rc ru n M pc L (st) Post := by
  intro p l e R s m args below meth c H locs cells slots ls Q hC hf hlo hc hs hL hH hS hend
  exact lv_ldc hC.1 hC.2.1 hC.2.2.2.1 (hC.2.2.2.2.1 _ hw) hd (k p l e R s m args below meth c H locs cells slots ls Q hC hf hlo hc hs hL hH hS hend)

theorem ev_ldcw {idx : Nat} {v : Int32} (hd : decode y.2.1 pc = .ok (.ldc_w idx, 3)) (hw : Cond.constant y.1.cls idx v ∈ ev_TB) (k : ev_E G y f rc ru n M (pc + 3) L (.int v :: st) Post) : ev_E G y f rc ru n M pc L (st) Post := by
  intro p l e R s m args below meth c H locs cells slots ls Q hC hf hlo hc hs hL hH hS hend
  exact lv_ldcw hC.1 hC.2.1 hC.2.2.2.1 (hC.2.2.2.2.1 _ hw) hd (k p l e R s m args below meth c H locs cells slots ls Q hC hf hlo hc hs hL hH hS hend)

theorem ev_ldc2 {idx : Nat} {v : Int64} (hd : decode y.2.1 pc = .ok (.ldc2_w idx, 3)) (hw : Cond.constantLong y.1.cls idx v ∈ ev_TB) (k : ev_E G y f rc ru n M (pc + 3) L (.long v :: st) Post) : ev_E G y f rc ru n M pc L (st) Post := by
  intro p l e R s m args below meth c H locs cells slots ls Q hC hf hlo hc hs hL hH hS hend
  exact lv_ldc2 hC.1 hC.2.1 hC.2.2.2.1 (hC.2.2.2.2.1 _ hw) hd (k p l e R s m args below meth c H locs cells slots ls Q hC hf hlo hc hs hL hH hS hend)

theorem ev_ldcS {i idx : Nat} {tx : String} (hd : decode y.2.1 pc = .ok (.ldc idx, 2)) (ho : y.1.cls = RX7) (hi : i < 5) (hq : ev_sx[i]? = some (idx, tx)) (k : ev_E G y f rc ru n M (pc + 2) L (.ref (9 + i) :: st) Post) : ev_E G y f rc ru n M pc L (st) Post := by
  intro p l e R s m args below meth c H locs cells slots ls Q hC hf hlo hc hs hL hH hS hend
  exact va_ldcS hC.1 hC.2.1 (own := RX7) (tx := tx) (q := ev_pre G (9 + i)) (by rw [← ho]; exact hC.2.2.2.1) (hC.2.2.2.2.2.1.2.2.2 i _ hq) hd (by have k2 := k p l e R s m args below meth c H locs cells slots ls Q hC hf hlo hc hs hL hH hS hend; rw [List.map_cons, ev_v, ev_ad, if_pos (by omega)] at k2; exact k2)

theorem ev_null  (hd : decode y.2.1 pc = .ok (.aconst_null, 1)) (k : ev_E G y f rc ru n M (pc + 1) L (.null :: st) Post) : ev_E G y f rc ru n M pc L (st) Post := by
  intro p l e R s m args below meth c H locs cells slots ls Q hC hf hlo hc hs hL hH hS hend
  exact lv_null hC.1 hC.2.1 hd (k p l e R s m args below meth c H locs cells slots ls Q hC hf hlo hc hs hL hH hS hend)

theorem ev_iload_n {q : Fin 4} {i : Nat} {x : Int32} (hd : decode y.2.1 pc = .ok (.iload_n q, 1)) (hi : (q : Nat) = i) (hl : L[i]? = some (some (.int x))) (k : ev_E G y f rc ru n M (pc + 1) L (.int x :: st) Post) : ev_E G y f rc ru n M pc L (st) Post := by
  intro p l e R s m args below meth c H locs cells slots ls Q hC hf hlo hc hs hL hH hS hend
  exact lv_iload_n hC.1 hC.2.1 hd hi (hL.2.2 _ _ hl) (k p l e R s m args below meth c H locs cells slots ls Q hC hf hlo hc hs hL hH hS hend)

theorem ev_iload {i : Nat} {x : Int32} (hd : decode y.2.1 pc = .ok (.iload i, 2)) (hl : L[i]? = some (some (.int x))) (k : ev_E G y f rc ru n M (pc + 2) L (.int x :: st) Post) : ev_E G y f rc ru n M pc L (st) Post := by
  intro p l e R s m args below meth c H locs cells slots ls Q hC hf hlo hc hs hL hH hS hend
  exact lv_iload hC.1 hC.2.1 hd (hL.2.2 _ _ hl) (k p l e R s m args below meth c H locs cells slots ls Q hC hf hlo hc hs hL hH hS hend)

theorem ev_lload_n {q : Fin 4} {i : Nat} {x : Int64} (hd : decode y.2.1 pc = .ok (.lload_n q, 1)) (hi : (q : Nat) = i) (hl : L[i]? = some (some (.long x))) (k : ev_E G y f rc ru n M (pc + 1) L (.long x :: st) Post) : ev_E G y f rc ru n M pc L (st) Post := by
  intro p l e R s m args below meth c H locs cells slots ls Q hC hf hlo hc hs hL hH hS hend
  exact lv_lload_n hC.1 hC.2.1 hd hi (hL.2.2 _ _ hl) (k p l e R s m args below meth c H locs cells slots ls Q hC hf hlo hc hs hL hH hS hend)

theorem ev_lload {i : Nat} {x : Int64} (hd : decode y.2.1 pc = .ok (.lload i, 2)) (hl : L[i]? = some (some (.long x))) (k : ev_E G y f rc ru n M (pc + 2) L (.long x :: st) Post) : ev_E G y f rc ru n M pc L (st) Post := by
  intro p l e R s m args below meth c H locs cells slots ls Q hC hf hlo hc hs hL hH hS hend
  exact lv_lload hC.1 hC.2.1 hd (hL.2.2 _ _ hl) (k p l e R s m args below meth c H locs cells slots ls Q hC hf hlo hc hs hL hH hS hend)

theorem ev_aload_n {q : Fin 4} {i x : Nat} (hd : decode y.2.1 pc = .ok (.aload_n q, 1)) (hi : (q : Nat) = i) (hl : L[i]? = some (some (.ref x))) (k : ev_E G y f rc ru n M (pc + 1) L (.ref x :: st) Post) : ev_E G y f rc ru n M pc L (st) Post := by
  intro p l e R s m args below meth c H locs cells slots ls Q hC hf hlo hc hs hL hH hS hend
  exact lv_aload_n hC.1 hC.2.1 hd hi (hL.2.2 _ _ hl) (k p l e R s m args below meth c H locs cells slots ls Q hC hf hlo hc hs hL hH hS hend)

theorem ev_aload {i x : Nat} (hd : decode y.2.1 pc = .ok (.aload i, 2)) (hl : L[i]? = some (some (.ref x))) (k : ev_E G y f rc ru n M (pc + 2) L (.ref x :: st) Post) : ev_E G y f rc ru n M pc L (st) Post := by
  intro p l e R s m args below meth c H locs cells slots ls Q hC hf hlo hc hs hL hH hS hend
  exact lv_aload hC.1 hC.2.1 hd (hL.2.2 _ _ hl) (k p l e R s m args below meth c H locs cells slots ls Q hC hf hlo hc hs hL hH hS hend)

theorem ev_aload_nN {q : Fin 4} {i : Nat} (hd : decode y.2.1 pc = .ok (.aload_n q, 1)) (hi : (q : Nat) = i) (hl : L[i]? = some (some .null)) (k : ev_E G y f rc ru n M (pc + 1) L (.null :: st) Post) : ev_E G y f rc ru n M pc L (st) Post := by
  intro p l e R s m args below meth c H locs cells slots ls Q hC hf hlo hc hs hL hH hS hend
  exact lv_aload_nN hC.1 hC.2.1 hd hi (hL.2.2 _ _ hl) (k p l e R s m args below meth c H locs cells slots ls Q hC hf hlo hc hs hL hH hS hend)

theorem ev_aloadN {i : Nat} (hd : decode y.2.1 pc = .ok (.aload i, 2)) (hl : L[i]? = some (some .null)) (k : ev_E G y f rc ru n M (pc + 2) L (.null :: st) Post) : ev_E G y f rc ru n M pc L (st) Post := by
  intro p l e R s m args below meth c H locs cells slots ls Q hC hf hlo hc hs hL hH hS hend
  exact lv_aloadN hC.1 hC.2.1 hd (hL.2.2 _ _ hl) (k p l e R s m args below meth c H locs cells slots ls Q hC hf hlo hc hs hL hH hS hend)

theorem ev_istore_n {q : Fin 4} {i : Nat} {x : Int32} (hd : decode y.2.1 pc = .ok (.istore_n q, 1)) (hi : (q : Nat) = i) (hn : i < y.2.2.1) (hk : ev_ok1 L i = true) (k : ev_E G y f rc ru n M (pc + 1) (L.set i (some (.int x))) (st) Post) : ev_E G y f rc ru n M pc L (.int x :: st) Post := by
  intro p l e R s m args below meth c H locs cells slots ls Q hC hf hlo hc hs hL hH hS hend
  exact lv_istore_n hC.1 hC.2.1 hd hi hL.has hn rfl (fun ls' h' => k p l e R s m args below meth c H locs cells slots ls' Q hC hf hlo hc hs (hL.st1 hk rfl h') hH hS hend)

theorem ev_istore {i : Nat} {x : Int32} (hd : decode y.2.1 pc = .ok (.istore i, 2)) (hn : i < y.2.2.1) (hk : ev_ok1 L i = true) (k : ev_E G y f rc ru n M (pc + 2) (L.set i (some (.int x))) (st) Post) : ev_E G y f rc ru n M pc L (.int x :: st) Post := by
  intro p l e R s m args below meth c H locs cells slots ls Q hC hf hlo hc hs hL hH hS hend
  exact lv_istore hC.1 hC.2.1 hd hL.has hn rfl (fun ls' h' => k p l e R s m args below meth c H locs cells slots ls' Q hC hf hlo hc hs (hL.st1 hk rfl h') hH hS hend)

theorem ev_lstore_n {q : Fin 4} {i : Nat} {x : Int64} (hd : decode y.2.1 pc = .ok (.lstore_n q, 1)) (hi : (q : Nat) = i) (hn : i + 1 < y.2.2.1) (hk : ev_ok1 L i = true) (k : ev_E G y f rc ru n M (pc + 1) ((L.set i (some (.long x))).set (i + 1) none) (st) Post) : ev_E G y f rc ru n M pc L (.long x :: st) Post := by
  intro p l e R s m args below meth c H locs cells slots ls Q hC hf hlo hc hs hL hH hS hend
  exact lv_lstore_n hC.1 hC.2.1 hd hi hL.has hn rfl (fun ls' h' => k p l e R s m args below meth c H locs cells slots ls' Q hC hf hlo hc hs (hL.st2 hk rfl h') hH hS hend)

theorem ev_lstore {i : Nat} {x : Int64} (hd : decode y.2.1 pc = .ok (.lstore i, 2)) (hn : i + 1 < y.2.2.1) (hk : ev_ok1 L i = true) (k : ev_E G y f rc ru n M (pc + 2) ((L.set i (some (.long x))).set (i + 1) none) (st) Post) : ev_E G y f rc ru n M pc L (.long x :: st) Post := by
  intro p l e R s m args below meth c H locs cells slots ls Q hC hf hlo hc hs hL hH hS hend
  exact lv_lstore hC.1 hC.2.1 hd hL.has hn rfl (fun ls' h' => k p l e R s m args below meth c H locs cells slots ls' Q hC hf hlo hc hs (hL.st2 hk rfl h') hH hS hend)

theorem ev_astore_n {q : Fin 4} {i x : Nat} (hd : decode y.2.1 pc = .ok (.astore_n q, 1)) (hi : (q : Nat) = i) (hn : i < y.2.2.1) (hk : ev_ok1 L i = true) (k : ev_E G y f rc ru n M (pc + 1) (L.set i (some (.ref x))) (st) Post) : ev_E G y f rc ru n M pc L (.ref x :: st) Post := by
  intro p l e R s m args below meth c H locs cells slots ls Q hC hf hlo hc hs hL hH hS hend
  exact lv_astore_n hC.1 hC.2.1 hd hi hL.has hn rfl (fun ls' h' => k p l e R s m args below meth c H locs cells slots ls' Q hC hf hlo hc hs (hL.st1 hk rfl h') hH hS hend)

theorem ev_astore {i x : Nat} (hd : decode y.2.1 pc = .ok (.astore i, 2)) (hn : i < y.2.2.1) (hk : ev_ok1 L i = true) (k : ev_E G y f rc ru n M (pc + 2) (L.set i (some (.ref x))) (st) Post) : ev_E G y f rc ru n M pc L (.ref x :: st) Post := by
  intro p l e R s m args below meth c H locs cells slots ls Q hC hf hlo hc hs hL hH hS hend
  exact lv_astore hC.1 hC.2.1 hd hL.has hn rfl (fun ls' h' => k p l e R s m args below meth c H locs cells slots ls' Q hC hf hlo hc hs (hL.st1 hk rfl h') hH hS hend)

theorem ev_astore_nN {q : Fin 4} {i : Nat} (hd : decode y.2.1 pc = .ok (.astore_n q, 1)) (hi : (q : Nat) = i) (hn : i < y.2.2.1) (hk : ev_ok1 L i = true) (k : ev_E G y f rc ru n M (pc + 1) (L.set i (some .null)) (st) Post) : ev_E G y f rc ru n M pc L (.null :: st) Post := by
  intro p l e R s m args below meth c H locs cells slots ls Q hC hf hlo hc hs hL hH hS hend
  exact lv_astore_nN hC.1 hC.2.1 hd hi hL.has hn rfl (fun ls' h' => k p l e R s m args below meth c H locs cells slots ls' Q hC hf hlo hc hs (hL.st1 hk rfl h') hH hS hend)

theorem ev_astoreN {i : Nat} (hd : decode y.2.1 pc = .ok (.astore i, 2)) (hn : i < y.2.2.1) (hk : ev_ok1 L i = true) (k : ev_E G y f rc ru n M (pc + 2) (L.set i (some .null)) (st) Post) : ev_E G y f rc ru n M pc L (.null :: st) Post := by
  intro p l e R s m args below meth c H locs cells slots ls Q hC hf hlo hc hs hL hH hS hend
  exact lv_astoreN hC.1 hC.2.1 hd hL.has hn rfl (fun ls' h' => k p l e R s m args below meth c H locs cells slots ls' Q hC hf hlo hc hs (hL.st1 hk rfl h') hH hS hend)

theorem ev_iinc {i : Nat} {z : Int} {x v : Int32} (hd : decode y.2.1 pc = .ok (.iinc i z, 3)) (hl : L[i]? = some (some (.int x))) (hv : x + Int32.ofInt z = v) (hn : i < y.2.2.1) (hk : ev_ok1 L i = true) (k : ev_E G y f rc ru n M (pc + 3) (L.set i (some (.int v))) st Post) : ev_E G y f rc ru n M pc L st Post := by
  intro p l e R s m args below meth c H locs cells slots ls Q hC hf hlo hc hs hL hH hS hend
  obtain ⟨j, hj⟩ := List.getElem?_of_mem (ev_pr_mem (G := G) hl)
  exact lv_iinc hC.1 hC.2.1 hd hL.has (k := j) hj hv hn rfl (fun ls' h' => k p l e R s m args below meth c H locs cells slots ls' Q hC hf hlo hc hs (hL.st1 hk rfl h') hH hS hend)

theorem ev_iadd {a b : Int32} (hd : decode y.2.1 pc = .ok (.iadd, 1)) (k : ev_E G y f rc ru n M (pc + 1) L (.int (a + b) :: st) Post) : ev_E G y f rc ru n M pc L (.int b :: .int a :: st) Post := by
  intro p l e R s m args below meth c H locs cells slots ls Q hC hf hlo hc hs hL hH hS hend
  exact lv_iadd hC.1 hC.2.1 hd (k p l e R s m args below meth c H locs cells slots ls Q hC hf hlo hc hs hL hH hS hend)

theorem ev_isub {a b : Int32} (hd : decode y.2.1 pc = .ok (.isub, 1)) (k : ev_E G y f rc ru n M (pc + 1) L (.int (a - b) :: st) Post) : ev_E G y f rc ru n M pc L (.int b :: .int a :: st) Post := by
  intro p l e R s m args below meth c H locs cells slots ls Q hC hf hlo hc hs hL hH hS hend
  exact lv_isub hC.1 hC.2.1 hd (k p l e R s m args below meth c H locs cells slots ls Q hC hf hlo hc hs hL hH hS hend)

theorem ev_imul {a b : Int32} (hd : decode y.2.1 pc = .ok (.imul, 1)) (k : ev_E G y f rc ru n M (pc + 1) L (.int (a * b) :: st) Post) : ev_E G y f rc ru n M pc L (.int b :: .int a :: st) Post := by
  intro p l e R s m args below meth c H locs cells slots ls Q hC hf hlo hc hs hL hH hS hend
  exact lv_imul hC.1 hC.2.1 hd (k p l e R s m args below meth c H locs cells slots ls Q hC hf hlo hc hs hL hH hS hend)

theorem ev_iand {a b : Int32} (hd : decode y.2.1 pc = .ok (.iand, 1)) (k : ev_E G y f rc ru n M (pc + 1) L (.int (a &&& b) :: st) Post) : ev_E G y f rc ru n M pc L (.int b :: .int a :: st) Post := by
  intro p l e R s m args below meth c H locs cells slots ls Q hC hf hlo hc hs hL hH hS hend
  exact lv_iand hC.1 hC.2.1 hd (k p l e R s m args below meth c H locs cells slots ls Q hC hf hlo hc hs hL hH hS hend)

theorem ev_ior {a b : Int32} (hd : decode y.2.1 pc = .ok (.ior, 1)) (k : ev_E G y f rc ru n M (pc + 1) L (.int (a ||| b) :: st) Post) : ev_E G y f rc ru n M pc L (.int b :: .int a :: st) Post := by
  intro p l e R s m args below meth c H locs cells slots ls Q hC hf hlo hc hs hL hH hS hend
  exact lv_ior hC.1 hC.2.1 hd (k p l e R s m args below meth c H locs cells slots ls Q hC hf hlo hc hs hL hH hS hend)

theorem ev_ishl {a b : Int32} (hd : decode y.2.1 pc = .ok (.ishl, 1)) (k : ev_E G y f rc ru n M (pc + 1) L (.int (a <<< (b &&& 31)) :: st) Post) : ev_E G y f rc ru n M pc L (.int b :: .int a :: st) Post := by
  intro p l e R s m args below meth c H locs cells slots ls Q hC hf hlo hc hs hL hH hS hend
  exact lv_ishl hC.1 hC.2.1 hd (k p l e R s m args below meth c H locs cells slots ls Q hC hf hlo hc hs hL hH hS hend)

theorem ev_ishr {a b : Int32} (hd : decode y.2.1 pc = .ok (.ishr, 1)) (k : ev_E G y f rc ru n M (pc + 1) L (.int (a >>> (b &&& 31)) :: st) Post) : ev_E G y f rc ru n M pc L (.int b :: .int a :: st) Post := by
  intro p l e R s m args below meth c H locs cells slots ls Q hC hf hlo hc hs hL hH hS hend
  exact lv_ishr hC.1 hC.2.1 hd (k p l e R s m args below meth c H locs cells slots ls Q hC hf hlo hc hs hL hH hS hend)

theorem ev_idiv {a b : Int32} (hd : decode y.2.1 pc = .ok (.idiv, 1)) (hne : ¬ b = 0) (k : ev_E G y f rc ru n M (pc + 1) L (.int (a / b) :: st) Post) : ev_E G y f rc ru n M pc L (.int b :: .int a :: st) Post := by
  intro p l e R s m args below meth c H locs cells slots ls Q hC hf hlo hc hs hL hH hS hend
  exact lv_idiv hC.1 hC.2.1 hd hne (k p l e R s m args below meth c H locs cells slots ls Q hC hf hlo hc hs hL hH hS hend)

theorem ev_irem {a b : Int32} (hd : decode y.2.1 pc = .ok (.irem, 1)) (hne : ¬ b = 0) (k : ev_E G y f rc ru n M (pc + 1) L (.int (a - a / b * b) :: st) Post) : ev_E G y f rc ru n M pc L (.int b :: .int a :: st) Post := by
  intro p l e R s m args below meth c H locs cells slots ls Q hC hf hlo hc hs hL hH hS hend
  exact lv_irem hC.1 hC.2.1 hd hne (k p l e R s m args below meth c H locs cells slots ls Q hC hf hlo hc hs hL hH hS hend)

theorem ev_ladd {a b : Int64} (hd : decode y.2.1 pc = .ok (.ladd, 1)) (k : ev_E G y f rc ru n M (pc + 1) L (.long (a + b) :: st) Post) : ev_E G y f rc ru n M pc L (.long b :: .long a :: st) Post := by
  intro p l e R s m args below meth c H locs cells slots ls Q hC hf hlo hc hs hL hH hS hend
  exact lv_ladd hC.1 hC.2.1 hd (k p l e R s m args below meth c H locs cells slots ls Q hC hf hlo hc hs hL hH hS hend)

theorem ev_lsub {a b : Int64} (hd : decode y.2.1 pc = .ok (.lsub, 1)) (k : ev_E G y f rc ru n M (pc + 1) L (.long (a - b) :: st) Post) : ev_E G y f rc ru n M pc L (.long b :: .long a :: st) Post := by
  intro p l e R s m args below meth c H locs cells slots ls Q hC hf hlo hc hs hL hH hS hend
  exact lv_lsub hC.1 hC.2.1 hd (k p l e R s m args below meth c H locs cells slots ls Q hC hf hlo hc hs hL hH hS hend)

theorem ev_lmul {a b : Int64} (hd : decode y.2.1 pc = .ok (.lmul, 1)) (k : ev_E G y f rc ru n M (pc + 1) L (.long (a * b) :: st) Post) : ev_E G y f rc ru n M pc L (.long b :: .long a :: st) Post := by
  intro p l e R s m args below meth c H locs cells slots ls Q hC hf hlo hc hs hL hH hS hend
  exact lv_lmul hC.1 hC.2.1 hd (k p l e R s m args below meth c H locs cells slots ls Q hC hf hlo hc hs hL hH hS hend)

theorem ev_land {a b : Int64} (hd : decode y.2.1 pc = .ok (.land, 1)) (k : ev_E G y f rc ru n M (pc + 1) L (.long (a &&& b) :: st) Post) : ev_E G y f rc ru n M pc L (.long b :: .long a :: st) Post := by
  intro p l e R s m args below meth c H locs cells slots ls Q hC hf hlo hc hs hL hH hS hend
  exact lv_land hC.1 hC.2.1 hd (k p l e R s m args below meth c H locs cells slots ls Q hC hf hlo hc hs hL hH hS hend)

theorem ev_lor {a b : Int64} (hd : decode y.2.1 pc = .ok (.lor, 1)) (k : ev_E G y f rc ru n M (pc + 1) L (.long (a ||| b) :: st) Post) : ev_E G y f rc ru n M pc L (.long b :: .long a :: st) Post := by
  intro p l e R s m args below meth c H locs cells slots ls Q hC hf hlo hc hs hL hH hS hend
  exact lv_lor hC.1 hC.2.1 hd (k p l e R s m args below meth c H locs cells slots ls Q hC hf hlo hc hs hL hH hS hend)

theorem ev_ldiv {a b : Int64} (hd : decode y.2.1 pc = .ok (.ldiv, 1)) (hne : ¬ b = 0) (k : ev_E G y f rc ru n M (pc + 1) L (.long (a / b) :: st) Post) : ev_E G y f rc ru n M pc L (.long b :: .long a :: st) Post := by
  intro p l e R s m args below meth c H locs cells slots ls Q hC hf hlo hc hs hL hH hS hend
  exact lv_ldiv hC.1 hC.2.1 hd hne (k p l e R s m args below meth c H locs cells slots ls Q hC hf hlo hc hs hL hH hS hend)

theorem ev_lrem {a b : Int64} (hd : decode y.2.1 pc = .ok (.lrem, 1)) (hne : ¬ b = 0) (k : ev_E G y f rc ru n M (pc + 1) L (.long (a - a / b * b) :: st) Post) : ev_E G y f rc ru n M pc L (.long b :: .long a :: st) Post := by
  intro p l e R s m args below meth c H locs cells slots ls Q hC hf hlo hc hs hL hH hS hend
  exact lv_lrem hC.1 hC.2.1 hd hne (k p l e R s m args below meth c H locs cells slots ls Q hC hf hlo hc hs hL hH hS hend)

theorem ev_ineg {a : Int32} (hd : decode y.2.1 pc = .ok (.ineg, 1)) (k : ev_E G y f rc ru n M (pc + 1) L (.int (-a) :: st) Post) : ev_E G y f rc ru n M pc L (.int a :: st) Post := by
  intro p l e R s m args below meth c H locs cells slots ls Q hC hf hlo hc hs hL hH hS hend
  exact lv_ineg hC.1 hC.2.1 hd (k p l e R s m args below meth c H locs cells slots ls Q hC hf hlo hc hs hL hH hS hend)

theorem ev_lneg {a : Int64} (hd : decode y.2.1 pc = .ok (.lneg, 1)) (k : ev_E G y f rc ru n M (pc + 1) L (.long (-a) :: st) Post) : ev_E G y f rc ru n M pc L (.long a :: st) Post := by
  intro p l e R s m args below meth c H locs cells slots ls Q hC hf hlo hc hs hL hH hS hend
  exact lv_lneg hC.1 hC.2.1 hd (k p l e R s m args below meth c H locs cells slots ls Q hC hf hlo hc hs hL hH hS hend)

theorem ev_i2l {a : Int32} (hd : decode y.2.1 pc = .ok (.i2l, 1)) (k : ev_E G y f rc ru n M (pc + 1) L (.long a.toInt64 :: st) Post) : ev_E G y f rc ru n M pc L (.int a :: st) Post := by
  intro p l e R s m args below meth c H locs cells slots ls Q hC hf hlo hc hs hL hH hS hend
  exact lv_i2l hC.1 hC.2.1 hd rfl (k p l e R s m args below meth c H locs cells slots ls Q hC hf hlo hc hs hL hH hS hend)

theorem ev_l2i {a : Int64} (hd : decode y.2.1 pc = .ok (.l2i, 1)) (k : ev_E G y f rc ru n M (pc + 1) L (.int a.toInt32 :: st) Post) : ev_E G y f rc ru n M pc L (.long a :: st) Post := by
  intro p l e R s m args below meth c H locs cells slots ls Q hC hf hlo hc hs hL hH hS hend
  exact lv_l2i hC.1 hC.2.1 hd rfl (k p l e R s m args below meth c H locs cells slots ls Q hC hf hlo hc hs hL hH hS hend)

theorem ev_i2c {a v : Int32} (hd : decode y.2.1 pc = .ok (.i2c, 1)) (hv : (a.toUInt32 % 65536).toInt32 = v) (k : ev_E G y f rc ru n M (pc + 1) L (.int v :: st) Post) : ev_E G y f rc ru n M pc L (.int a :: st) Post := by
  intro p l e R s m args below meth c H locs cells slots ls Q hC hf hlo hc hs hL hH hS hend
  exact lv_i2c hC.1 hC.2.1 hd hv (k p l e R s m args below meth c H locs cells slots ls Q hC hf hlo hc hs hL hH hS hend)

theorem ev_iushr {a b : Int32} (hd : decode y.2.1 pc = .ok (.iushr, 1)) (k : ev_E G y f rc ru n M (pc + 1) L (.int (a.toUInt32 >>> (b.toUInt32 &&& Int32.toUInt32 31)).toInt32 :: st) Post) : ev_E G y f rc ru n M pc L (.int b :: .int a :: st) Post := by
  intro p l e R s m args below meth c H locs cells slots ls Q hC hf hlo hc hs hL hH hS hend
  exact lv_iushr hC.1 hC.2.1 hd rfl (k p l e R s m args below meth c H locs cells slots ls Q hC hf hlo hc hs hL hH hS hend)

theorem ev_lushr {a : Int64} {b : Int32} (hd : decode y.2.1 pc = .ok (.lushr, 1)) (k : ev_E G y f rc ru n M (pc + 1) L (.long (a.toUInt64 >>> (b.toInt64.toUInt64 &&& Int64.toUInt64 63)).toInt64 :: st) Post) : ev_E G y f rc ru n M pc L (.int b :: .long a :: st) Post := by
  intro p l e R s m args below meth c H locs cells slots ls Q hC hf hlo hc hs hL hH hS hend
  exact lv_lushr hC.1 hC.2.1 hd rfl (k p l e R s m args below meth c H locs cells slots ls Q hC hf hlo hc hs hL hH hS hend)

theorem ev_lshr {a : Int64} {b : Int32} (hd : decode y.2.1 pc = .ok (.lshr, 1)) (k : ev_E G y f rc ru n M (pc + 1) L (.long (a >>> (b.toInt64 &&& 63)) :: st) Post) : ev_E G y f rc ru n M pc L (.int b :: .long a :: st) Post := by
  intro p l e R s m args below meth c H locs cells slots ls Q hC hf hlo hc hs hL hH hS hend
  exact lv_lshr hC.1 hC.2.1 hd rfl (k p l e R s m args below meth c H locs cells slots ls Q hC hf hlo hc hs hL hH hS hend)

theorem ev_lshl {a : Int64} {b : Int32} (hd : decode y.2.1 pc = .ok (.lshl, 1)) (k : ev_E G y f rc ru n M (pc + 1) L (.long (a <<< (b.toInt64 &&& 63)) :: st) Post) : ev_E G y f rc ru n M pc L (.int b :: .long a :: st) Post := by
  intro p l e R s m args below meth c H locs cells slots ls Q hC hf hlo hc hs hL hH hS hend
  exact lv_lshl hC.1 hC.2.1 hd rfl (k p l e R s m args below meth c H locs cells slots ls Q hC hf hlo hc hs hL hH hS hend)

theorem ev_lcmp {a b : Int64} (hd : decode y.2.1 pc = .ok (.lcmp, 1)) (k : ev_E G y f rc ru n M (pc + 1) L (.int (lg_cmp a b) :: st) Post) : ev_E G y f rc ru n M pc L (.long b :: .long a :: st) Post := by
  intro p l e R s m args below meth c H locs cells slots ls Q hC hf hlo hc hs hL hH hS hend
  exact W.lcmp hC.1 hC.2.1 hd (k p l e R s m args below meth c H locs cells slots ls Q hC hf hlo hc hs hL hH hS hend)

theorem ev_dup {v : Value} (hd : decode y.2.1 pc = .ok (.dup, 1)) (hv : v.category = 1) (k : ev_E G y f rc ru n M (pc + 1) L (v :: v :: st) Post) : ev_E G y f rc ru n M pc L (v :: st) Post := by
  intro p l e R s m args below meth c H locs cells slots ls Q hC hf hlo hc hs hL hH hS hend
  exact lv_dup hC.1 hC.2.1 hd (by rw [ev_v_cat]; exact hv) (k p l e R s m args below meth c H locs cells slots ls Q hC hf hlo hc hs hL hH hS hend)

theorem ev_pop {v : Value} (hd : decode y.2.1 pc = .ok (.pop, 1)) (hv : v.category = 1) (k : ev_E G y f rc ru n M (pc + 1) L (st) Post) : ev_E G y f rc ru n M pc L (v :: st) Post := by
  intro p l e R s m args below meth c H locs cells slots ls Q hC hf hlo hc hs hL hH hS hend
  exact lv_pop hC.1 hC.2.1 hd (by rw [ev_v_cat]; exact hv) (k p l e R s m args below meth c H locs cells slots ls Q hC hf hlo hc hs hL hH hS hend)

theorem ev_dup2 {v w : Value} (hd : decode y.2.1 pc = .ok (.dup2, 1)) (hv : v.category = 1) (hw : w.category = 1) (k : ev_E G y f rc ru n M (pc + 1) L (v :: w :: v :: w :: st) Post) : ev_E G y f rc ru n M pc L (v :: w :: st) Post := by
  intro p l e R s m args below meth c H locs cells slots ls Q hC hf hlo hc hs hL hH hS hend
  exact lv_dup2_11 hC.1 hC.2.1 hd (by rw [ev_v_cat]; exact hv) (by rw [ev_v_cat]; exact hw) (k p l e R s m args below meth c H locs cells slots ls Q hC hf hlo hc hs hL hH hS hend)

theorem ev_topi {x x2 : Int32} (h : x = x2) (k : ev_E G y f rc ru n M pc L (.int x2 :: st) Post) : ev_E G y f rc ru n M pc L (.int x :: st) Post := by
  intro p l e R s m args below meth c H locs cells slots ls Q hC hf hlo hc hs hL hH hS hend
  exact by subst h; exact k p l e R s m args below meth c H locs cells slots ls Q hC hf hlo hc hs hL hH hS hend

theorem ev_icmp_eq {a b : Int32} {off : Int} {tgt : Nat} (hd : decode y.2.1 pc = .ok (.if_icmp .eq off, 3)) (ht : (pc : Int) + off = (tgt : Int)) (kt : a = b → ev_E G y f rc ru n M tgt L st Post) (kf : ¬ a = b → ev_E G y f rc ru n M (pc + 3) L st Post) : ev_E G y f rc ru n M pc L (.int b :: .int a :: st) Post := by
  intro p l e R s m args below meth c H locs cells slots ls Q hC hf hlo hc hs hL hH hS hend
  exact lv_icmp_eq hC.1 hC.2.1 hd ht (fun q => kt q p l e R s m args below meth c H locs cells slots ls Q hC hf hlo hc hs hL hH hS hend) (fun q => kf q p l e R s m args below meth c H locs cells slots ls Q hC hf hlo hc hs hL hH hS hend)

theorem ev_if_eq {a : Int32} {off : Int} {tgt : Nat} (hd : decode y.2.1 pc = .ok (.ifCond .eq off, 3)) (ht : (pc : Int) + off = (tgt : Int)) (kt : a = 0 → ev_E G y f rc ru n M tgt L st Post) (kf : ¬ a = 0 → ev_E G y f rc ru n M (pc + 3) L st Post) : ev_E G y f rc ru n M pc L (.int a :: st) Post := by
  intro p l e R s m args below meth c H locs cells slots ls Q hC hf hlo hc hs hL hH hS hend
  exact lv_if_eq hC.1 hC.2.1 hd ht (fun q => kt q p l e R s m args below meth c H locs cells slots ls Q hC hf hlo hc hs hL hH hS hend) (fun q => kf q p l e R s m args below meth c H locs cells slots ls Q hC hf hlo hc hs hL hH hS hend)

theorem ev_icmp_ne {a b : Int32} {off : Int} {tgt : Nat} (hd : decode y.2.1 pc = .ok (.if_icmp .ne off, 3)) (ht : (pc : Int) + off = (tgt : Int)) (kt : ¬ a = b → ev_E G y f rc ru n M tgt L st Post) (kf : a = b → ev_E G y f rc ru n M (pc + 3) L st Post) : ev_E G y f rc ru n M pc L (.int b :: .int a :: st) Post := by
  intro p l e R s m args below meth c H locs cells slots ls Q hC hf hlo hc hs hL hH hS hend
  exact lv_icmp_ne hC.1 hC.2.1 hd ht (fun q => kt q p l e R s m args below meth c H locs cells slots ls Q hC hf hlo hc hs hL hH hS hend) (fun q => kf q p l e R s m args below meth c H locs cells slots ls Q hC hf hlo hc hs hL hH hS hend)

theorem ev_if_ne {a : Int32} {off : Int} {tgt : Nat} (hd : decode y.2.1 pc = .ok (.ifCond .ne off, 3)) (ht : (pc : Int) + off = (tgt : Int)) (kt : ¬ a = 0 → ev_E G y f rc ru n M tgt L st Post) (kf : a = 0 → ev_E G y f rc ru n M (pc + 3) L st Post) : ev_E G y f rc ru n M pc L (.int a :: st) Post := by
  intro p l e R s m args below meth c H locs cells slots ls Q hC hf hlo hc hs hL hH hS hend
  exact lv_if_ne hC.1 hC.2.1 hd ht (fun q => kt q p l e R s m args below meth c H locs cells slots ls Q hC hf hlo hc hs hL hH hS hend) (fun q => kf q p l e R s m args below meth c H locs cells slots ls Q hC hf hlo hc hs hL hH hS hend)

theorem ev_icmp_lt {a b : Int32} {off : Int} {tgt : Nat} (hd : decode y.2.1 pc = .ok (.if_icmp .lt off, 3)) (ht : (pc : Int) + off = (tgt : Int)) (kt : a < b → ev_E G y f rc ru n M tgt L st Post) (kf : b ≤ a → ev_E G y f rc ru n M (pc + 3) L st Post) : ev_E G y f rc ru n M pc L (.int b :: .int a :: st) Post := by
  intro p l e R s m args below meth c H locs cells slots ls Q hC hf hlo hc hs hL hH hS hend
  exact lv_icmp_lt hC.1 hC.2.1 hd ht (fun q => kt q p l e R s m args below meth c H locs cells slots ls Q hC hf hlo hc hs hL hH hS hend) (fun q => kf (Int32.not_lt.mp q) p l e R s m args below meth c H locs cells slots ls Q hC hf hlo hc hs hL hH hS hend)

theorem ev_if_lt {a : Int32} {off : Int} {tgt : Nat} (hd : decode y.2.1 pc = .ok (.ifCond .lt off, 3)) (ht : (pc : Int) + off = (tgt : Int)) (kt : a < 0 → ev_E G y f rc ru n M tgt L st Post) (kf : 0 ≤ a → ev_E G y f rc ru n M (pc + 3) L st Post) : ev_E G y f rc ru n M pc L (.int a :: st) Post := by
  intro p l e R s m args below meth c H locs cells slots ls Q hC hf hlo hc hs hL hH hS hend
  exact lv_if_lt hC.1 hC.2.1 hd ht (fun q => kt q p l e R s m args below meth c H locs cells slots ls Q hC hf hlo hc hs hL hH hS hend) (fun q => kf (Int32.not_lt.mp q) p l e R s m args below meth c H locs cells slots ls Q hC hf hlo hc hs hL hH hS hend)

theorem ev_icmp_ge {a b : Int32} {off : Int} {tgt : Nat} (hd : decode y.2.1 pc = .ok (.if_icmp .ge off, 3)) (ht : (pc : Int) + off = (tgt : Int)) (kt : b ≤ a → ev_E G y f rc ru n M tgt L st Post) (kf : a < b → ev_E G y f rc ru n M (pc + 3) L st Post) : ev_E G y f rc ru n M pc L (.int b :: .int a :: st) Post := by
  intro p l e R s m args below meth c H locs cells slots ls Q hC hf hlo hc hs hL hH hS hend
  exact lv_icmp_ge hC.1 hC.2.1 hd ht (fun q => kt q p l e R s m args below meth c H locs cells slots ls Q hC hf hlo hc hs hL hH hS hend) (fun q => kf (Int32.not_le.mp q) p l e R s m args below meth c H locs cells slots ls Q hC hf hlo hc hs hL hH hS hend)

theorem ev_if_ge {a : Int32} {off : Int} {tgt : Nat} (hd : decode y.2.1 pc = .ok (.ifCond .ge off, 3)) (ht : (pc : Int) + off = (tgt : Int)) (kt : 0 ≤ a → ev_E G y f rc ru n M tgt L st Post) (kf : a < 0 → ev_E G y f rc ru n M (pc + 3) L st Post) : ev_E G y f rc ru n M pc L (.int a :: st) Post := by
  intro p l e R s m args below meth c H locs cells slots ls Q hC hf hlo hc hs hL hH hS hend
  exact lv_if_ge hC.1 hC.2.1 hd ht (fun q => kt q p l e R s m args below meth c H locs cells slots ls Q hC hf hlo hc hs hL hH hS hend) (fun q => kf (Int32.not_le.mp q) p l e R s m args below meth c H locs cells slots ls Q hC hf hlo hc hs hL hH hS hend)

theorem ev_icmp_gt {a b : Int32} {off : Int} {tgt : Nat} (hd : decode y.2.1 pc = .ok (.if_icmp .gt off, 3)) (ht : (pc : Int) + off = (tgt : Int)) (kt : b < a → ev_E G y f rc ru n M tgt L st Post) (kf : a ≤ b → ev_E G y f rc ru n M (pc + 3) L st Post) : ev_E G y f rc ru n M pc L (.int b :: .int a :: st) Post := by
  intro p l e R s m args below meth c H locs cells slots ls Q hC hf hlo hc hs hL hH hS hend
  exact lv_icmp_gt hC.1 hC.2.1 hd ht (fun q => kt q p l e R s m args below meth c H locs cells slots ls Q hC hf hlo hc hs hL hH hS hend) (fun q => kf (Int32.not_lt.mp q) p l e R s m args below meth c H locs cells slots ls Q hC hf hlo hc hs hL hH hS hend)

theorem ev_if_gt {a : Int32} {off : Int} {tgt : Nat} (hd : decode y.2.1 pc = .ok (.ifCond .gt off, 3)) (ht : (pc : Int) + off = (tgt : Int)) (kt : 0 < a → ev_E G y f rc ru n M tgt L st Post) (kf : a ≤ 0 → ev_E G y f rc ru n M (pc + 3) L st Post) : ev_E G y f rc ru n M pc L (.int a :: st) Post := by
  intro p l e R s m args below meth c H locs cells slots ls Q hC hf hlo hc hs hL hH hS hend
  exact lv_if_gt hC.1 hC.2.1 hd ht (fun q => kt q p l e R s m args below meth c H locs cells slots ls Q hC hf hlo hc hs hL hH hS hend) (fun q => kf (Int32.not_lt.mp q) p l e R s m args below meth c H locs cells slots ls Q hC hf hlo hc hs hL hH hS hend)

theorem ev_icmp_le {a b : Int32} {off : Int} {tgt : Nat} (hd : decode y.2.1 pc = .ok (.if_icmp .le off, 3)) (ht : (pc : Int) + off = (tgt : Int)) (kt : a ≤ b → ev_E G y f rc ru n M tgt L st Post) (kf : b < a → ev_E G y f rc ru n M (pc + 3) L st Post) : ev_E G y f rc ru n M pc L (.int b :: .int a :: st) Post := by
  intro p l e R s m args below meth c H locs cells slots ls Q hC hf hlo hc hs hL hH hS hend
  exact lv_icmp_le hC.1 hC.2.1 hd ht (fun q => kt q p l e R s m args below meth c H locs cells slots ls Q hC hf hlo hc hs hL hH hS hend) (fun q => kf (Int32.not_le.mp q) p l e R s m args below meth c H locs cells slots ls Q hC hf hlo hc hs hL hH hS hend)

theorem ev_if_le {a : Int32} {off : Int} {tgt : Nat} (hd : decode y.2.1 pc = .ok (.ifCond .le off, 3)) (ht : (pc : Int) + off = (tgt : Int)) (kt : a ≤ 0 → ev_E G y f rc ru n M tgt L st Post) (kf : 0 < a → ev_E G y f rc ru n M (pc + 3) L st Post) : ev_E G y f rc ru n M pc L (.int a :: st) Post := by
  intro p l e R s m args below meth c H locs cells slots ls Q hC hf hlo hc hs hL hH hS hend
  exact lv_if_le hC.1 hC.2.1 hd ht (fun q => kt q p l e R s m args below meth c H locs cells slots ls Q hC hf hlo hc hs hL hH hS hend) (fun q => kf (Int32.not_le.mp q) p l e R s m args below meth c H locs cells slots ls Q hC hf hlo hc hs hL hH hS hend)

theorem ev_b_0 {p : Bool} : ev_b p = 0 ↔ p = false := by cases p <;> decide
theorem ev_if_eqb {q : Bool} {off : Int} {tgt : Nat} (hd : decode y.2.1 pc = .ok (.ifCond .eq off, 3)) (ht : (pc : Int) + off = (tgt : Int)) (kt : q = false → ev_E G y f rc ru n M tgt L st Post) (kf : q = true → ev_E G y f rc ru n M (pc + 3) L st Post) : ev_E G y f rc ru n M pc L (.int (ev_b q) :: st) Post :=
  ev_if_eq hd ht (fun h => kt (ev_b_0.mp h)) (fun h => kf (by cases q; exact absurd rfl h; rfl))
theorem ev_if_neb {q : Bool} {off : Int} {tgt : Nat} (hd : decode y.2.1 pc = .ok (.ifCond .ne off, 3)) (ht : (pc : Int) + off = (tgt : Int)) (kt : q = true → ev_E G y f rc ru n M tgt L st Post) (kf : q = false → ev_E G y f rc ru n M (pc + 3) L st Post) : ev_E G y f rc ru n M pc L (.int (ev_b q) :: st) Post :=
  ev_if_ne hd ht (fun h => kt (by cases q; exact absurd rfl h; rfl)) (fun h => kf (ev_b_0.mp h))
theorem ev_goto {off : Int} {tgt : Nat} (hd : decode y.2.1 pc = .ok (.goto off, 3)) (ht : (pc : Int) + off = (tgt : Int)) (k : ev_E G y f rc ru n M tgt L st Post) : ev_E G y f rc ru n M pc L st Post := by
  intro p l e R s m args below meth c H locs cells slots ls Q hC hf hlo hc hs hL hH hS hend
  exact lv_goto hC.1 hC.2.1 hd ht (k p l e R s m args below meth c H locs cells slots ls Q hC hf hlo hc hs hL hH hS hend)
theorem ev_ifnonnull {x : Nat} {off : Int} {tgt : Nat} (hd : decode y.2.1 pc = .ok (.ifnonnull off, 3)) (ht : (pc : Int) + off = (tgt : Int)) (k : ev_E G y f rc ru n M tgt L st Post) : ev_E G y f rc ru n M pc L (.ref x :: st) Post := by
  intro p l e R s m args below meth c H locs cells slots ls Q hC hf hlo hc hs hL hH hS hend
  exact lv_ifnonnull hC.1 hC.2.1 hd ht (k p l e R s m args below meth c H locs cells slots ls Q hC hf hlo hc hs hL hH hS hend)
theorem ev_ifnonnullN {off : Int} (hd : decode y.2.1 pc = .ok (.ifnonnull off, 3)) (k : ev_E G y f rc ru n M (pc + 3) L st Post) : ev_E G y f rc ru n M pc L (.null :: st) Post := by
  intro p l e R s m args below meth c H locs cells slots ls Q hC hf hlo hc hs hL hH hS hend
  exact lv_ifnonnullN hC.1 hC.2.1 hd (k p l e R s m args below meth c H locs cells slots ls Q hC hf hlo hc hs hL hH hS hend)
theorem ev_ifnull {x : Nat} {off : Int} (hd : decode y.2.1 pc = .ok (.ifnull off, 3)) (k : ev_E G y f rc ru n M (pc + 3) L st Post) : ev_E G y f rc ru n M pc L (.ref x :: st) Post := by
  intro p l e R s m args below meth c H locs cells slots ls Q hC hf hlo hc hs hL hH hS hend
  exact lv_ifnull hC.1 hC.2.1 hd (k p l e R s m args below meth c H locs cells slots ls Q hC hf hlo hc hs hL hH hS hend)
theorem ev_ifnullN {off : Int} {tgt : Nat} (hd : decode y.2.1 pc = .ok (.ifnull off, 3)) (ht : (pc : Int) + off = (tgt : Int)) (k : ev_E G y f rc ru n M tgt L st Post) : ev_E G y f rc ru n M pc L (.null :: st) Post := by
  intro p l e R s m args below meth c H locs cells slots ls Q hC hf hlo hc hs hL hH hS hend
  exact lv_ifnullN hC.1 hC.2.1 hd ht (k p l e R s m args below meth c H locs cells slots ls Q hC hf hlo hc hs hL hH hS hend)
theorem ev_tsout {dflt lo hi : Int} {offs : Array Int} {len : Nat} {x : Int32} {tgt : Nat} (hd : decode y.2.1 pc = .ok (.tableswitch dflt lo hi offs, len)) (h : x.toInt < lo ∨ hi < x.toInt) (ht : (pc : Int) + dflt = (tgt : Int)) (k : ev_E G y f rc ru n M tgt L st Post) : ev_E G y f rc ru n M pc L (.int x :: st) Post := by
  intro p l e R s m args below meth c H locs cells slots ls Q hC hf hlo hc hs hL hH hS hend
  exact lv_tableOut hC.1 hC.2.1 hd h ht (k p l e R s m args below meth c H locs cells slots ls Q hC hf hlo hc hs hL hH hS hend)
theorem ev_tsin {dflt lo hi : Int} {offs : Array Int} {len : Nat} {x : Int32} {off : Int} {tgt : Nat} (hd : decode y.2.1 pc = .ok (.tableswitch dflt lo hi offs, len)) (h1 : ¬ x.toInt < lo) (h2 : ¬ hi < x.toInt) (ho : offs[(x.toInt - lo).toNat]? = some off) (ht : (pc : Int) + off = (tgt : Int)) (k : ev_E G y f rc ru n M tgt L st Post) : ev_E G y f rc ru n M pc L (.int x :: st) Post := by
  intro p l e R s m args below meth c H locs cells slots ls Q hC hf hlo hc hs hL hH hS hend
  exact lv_tableIn hC.1 hC.2.1 hd h1 h2 ho ht (k p l e R s m args below meth c H locs cells slots ls Q hC hf hlo hc hs hL hH hS hend)
theorem ev_lookup {dflt : Int} {ps : Array (Int × Int)} {len : Nat} {x : Int32} {off : Int} {tgt : Nat} (hd : decode y.2.1 pc = .ok (.lookupswitch dflt ps, len)) (hp : (ps.toList.zip (ps.toList.drop 1)).all (fun (a, next) => a.1 < next.1) = true) (ho : Op.lookupswitch.offset ps.toList dflt x.toInt = off) (ht : (pc : Int) + off = (tgt : Int)) (k : ev_E G y f rc ru n M tgt L st Post) : ev_E G y f rc ru n M pc L (.int x :: st) Post := by
  intro p l e R s m args below meth c H locs cells slots ls Q hC hf hlo hc hs hL hH hS hend
  exact lv_lookup hC.1 hC.2.1 hd hp ho ht (k p l e R s m args below meth c H locs cells slots ls Q hC hf hlo hc hs hL hH hS hend)
/-- the end -/
theorem ev_reti {x : Int32} {ty : FieldType} (hd : decode y.2.1 pc = .ok (.ireturn, 1)) (hr : y.2.2.2 = some ty) (hn : narrow ty (.int x) = .int x) (hP : Post (some (.int x)) M) : ev_E G y f 0 0 n M pc L [.int x] Post := by
  intro p l e R s m args below meth c H locs cells slots ls Q hC hf hlo hc hs hL hH hS hend
  exact hend pc ls (some (.int x)) M H locs ⟨⟨ty, hr, hn⟩, hd⟩ hH hS hP
theorem ev_retz {q : Bool} (hd : decode y.2.1 pc = .ok (.ireturn, 1)) (hr : y.2.2.2 = some .boolean) (hP : Post (some (.int (ev_b q))) M) : ev_E G y f 0 0 n M pc L [.int (ev_b q)] Post :=
  ev_reti hd hr (by cases q <;> rfl) hP
theorem ev_retl {x : Int64} (hd : decode y.2.1 pc = .ok (.lreturn, 1)) (hr : y.2.2.2 = some .long) (hP : Post (some (.long x)) M) : ev_E G y f 0 0 n M pc L [.long x] Post := by
  intro p l e R s m args below meth c H locs cells slots ls Q hC hf hlo hc hs hL hH hS hend
  exact hend pc ls (some (.long x)) M H locs ⟨hr, hd⟩ hH hS hP
theorem ev_reta {x : Nat} {C : String} (hd : decode y.2.1 pc = .ok (.areturn, 1)) (hr : y.2.2.2 = some (.object C)) (hP : Post (some (.ref x)) M) : ev_E G y f 0 0 n M pc L [.ref x] Post := by
  intro p l e R s m args below meth c H locs cells slots ls Q hC hf hlo hc hs hL hH hS hend
  exact hend pc ls (some (.ref x)) M H locs ⟨⟨C, hr⟩, hd⟩ hH hS hP
theorem ev_retN {C : String} (hd : decode y.2.1 pc = .ok (.areturn, 1)) (hr : y.2.2.2 = some (.object C)) (hP : Post (some .null) M) : ev_E G y f 0 0 n M pc L [.null] Post := by
  intro p l e R s m args below meth c H locs cells slots ls Q hC hf hlo hc hs hL hH hS hend
  exact hend pc ls (some .null) M H locs ⟨⟨C, hr⟩, hd⟩ hH hS hP
theorem ev_retv (hd : decode y.2.1 pc = .ok (.return_, 1)) (hr : y.2.2.2 = none) (hP : Post none M) : ev_E G y f 0 0 n M pc L [] Post := by
  intro p l e R s m args below meth c H locs cells slots ls Q hC hf hlo hc hs hL hH hS hend
  exact hend pc ls none M H locs ⟨hr, hd⟩ hH hS hP

theorem ev_min {idx : Nat} {a b : Int32} (hd : decode y.2.1 pc = .ok (.invokestatic idx, 3)) (h1 : Cond.methodLink y.1.cls idx Lib.Math.min.name ∈ ev_TB ∧ Cond.static Lib.Math.min.name ∈ ev_TB ∧ Cond.initialized "java/lang/Math" ∈ ev_TB ∧ Cond.code Lib.Math.min.name Lib.Math.min.code 2 (some .int) ∈ ev_TB) (hf1 : 1 ≤ f) (hst : (st.map fun v => v.category).sum ≤ 8) (k : ev_E G y f rc ru n M (pc + 3) L (.int (if b < a then b else a) :: st) Post) : ev_E G y f rc ru n M pc L (.int b :: .int a :: st) Post := by
  intro p l e R s m args below meth c H locs cells slots ls Q hC hf hlo hc hs hL hH hS hend
  have hst2 : ((st.map (ev_v G)).map fun v => v.category).sum ≤ 8 := by rw [List.map_map]; rw [show ((fun v : Value => v.category) ∘ ev_v G) = (fun v => v.category) from funext fun v => ev_v_cat v]; exact hst
  exact va_mmin hC.1 hC.2.1 (hC.2.2.1.trans hL.1.symm) hC.2.2.2.1 (hC.2.2.2.2.1 _ h1.1) (hC.2.2.2.2.1 _ h1.2.1) (hC.2.2.2.2.1 _ h1.2.2.1) (hC.2.2.2.2.1 _ h1.2.2.2) (by omega) (by omega) (by omega) (by omega) hd (k p l e R s m args below meth c H locs cells slots ls Q hC hf hlo hc hs hL hH hS hend)

theorem ev_max {idx : Nat} {a b : Int32} (hd : decode y.2.1 pc = .ok (.invokestatic idx, 3)) (h1 : Cond.methodLink y.1.cls idx Lib.Math.max.name ∈ ev_TB ∧ Cond.static Lib.Math.max.name ∈ ev_TB ∧ Cond.initialized "java/lang/Math" ∈ ev_TB ∧ Cond.code Lib.Math.max.name Lib.Math.max.code 2 (some .int) ∈ ev_TB) (hf1 : 1 ≤ f) (hst : (st.map fun v => v.category).sum ≤ 8) (k : ev_E G y f rc ru n M (pc + 3) L (.int (if a < b then b else a) :: st) Post) : ev_E G y f rc ru n M pc L (.int b :: .int a :: st) Post := by
  intro p l e R s m args below meth c H locs cells slots ls Q hC hf hlo hc hs hL hH hS hend
  have hst2 : ((st.map (ev_v G)).map fun v => v.category).sum ≤ 8 := by rw [List.map_map]; rw [show ((fun v : Value => v.category) ∘ ev_v G) = (fun v => v.category) from funext fun v => ev_v_cat v]; exact hst
  exact va_mmax hC.1 hC.2.1 (hC.2.2.1.trans hL.1.symm) hC.2.2.2.1 (hC.2.2.2.2.1 _ h1.1) (hC.2.2.2.2.1 _ h1.2.1) (hC.2.2.2.2.1 _ h1.2.2.1) (hC.2.2.2.2.1 _ h1.2.2.2) (by omega) (by omega) (by omega) (by omega) hd (k p l e R s m args below meth c H locs cells slots ls Q hC hf hlo hc hs hL hH hS hend)

theorem ev_abs {idx : Nat} {a : Int32} (hd : decode y.2.1 pc = .ok (.invokestatic idx, 3)) (h1 : Cond.methodLink y.1.cls idx Lib.Math.abs.name ∈ ev_TB ∧ Cond.static Lib.Math.abs.name ∈ ev_TB ∧ Cond.initialized "java/lang/Math" ∈ ev_TB ∧ Cond.code Lib.Math.abs.name Lib.Math.abs.code 1 (some .int) ∈ ev_TB) (hf1 : 1 ≤ f) (hst : (st.map fun v => v.category).sum ≤ 8) (k : ev_E G y f rc ru n M (pc + 3) L (.int (if 0 ≤ a then a else 0 - a) :: st) Post) : ev_E G y f rc ru n M pc L (.int a :: st) Post := by
  intro p l e R s m args below meth c H locs cells slots ls Q hC hf hlo hc hs hL hH hS hend
  have hst2 : ((st.map (ev_v G)).map fun v => v.category).sum ≤ 8 := by rw [List.map_map]; rw [show ((fun v : Value => v.category) ∘ ev_v G) = (fun v => v.category) from funext fun v => ev_v_cat v]; exact hst
  exact va_mabs hC.1 hC.2.1 (hC.2.2.1.trans hL.1.symm) hC.2.2.2.1 (hC.2.2.2.2.1 _ h1.1) (hC.2.2.2.2.1 _ h1.2.1) (hC.2.2.2.2.1 _ h1.2.2.1) (hC.2.2.2.2.1 _ h1.2.2.2) (by omega) (by omega) (by omega) (by omega) hd (k p l e R s m args below meth c H locs cells slots ls Q hC hf hlo hc hs hL hH hS hend)

theorem ev_absl {idx : Nat} {a : Int64} (hd : decode y.2.1 pc = .ok (.invokestatic idx, 3)) (h1 : Cond.methodLink y.1.cls idx Lib.MathLoose.abs_long.x ∈ ev_TB ∧ Cond.static Lib.MathLoose.abs_long.x ∈ ev_TB ∧ Cond.initialized "java/lang/Math" ∈ ev_TB ∧ Cond.code Lib.MathLoose.abs_long.x Lib.MathLoose.abs_long.code 2 (some .long) ∈ ev_TB) (hf1 : 1 ≤ f) (hst : (st.map fun v => v.category).sum ≤ 8) (k : ev_E G y f rc ru n M (pc + 3) L (.long (if 0 < a then a else -a) :: st) Post) : ev_E G y f rc ru n M pc L (.long a :: st) Post := by
  intro p l e R s m args below meth c H locs cells slots ls Q hC hf hlo hc hs hL hH hS hend
  have hst2 : ((st.map (ev_v G)).map fun v => v.category).sum ≤ 8 := by rw [List.map_map]; rw [show ((fun v : Value => v.category) ∘ ev_v G) = (fun v => v.category) from funext fun v => ev_v_cat v]; exact hst
  exact va_mabs_long hC.1 hC.2.1 (hC.2.2.1.trans hL.1.symm) hC.2.2.2.1 (hC.2.2.2.2.1 _ h1.1) (hC.2.2.2.2.1 _ h1.2.1) (hC.2.2.2.2.1 _ h1.2.2.1) (hC.2.2.2.2.1 _ h1.2.2.2) (by omega) (by omega) (by omega) (by omega) hd (k p l e R s m args below meth c H locs cells slots ls Q hC hf hlo hc hs hL hH hS hend)
theorem ev_objInit {idx a : Nat} (hd : decode y.2.1 pc = .ok (.invokespecial idx, 3)) (h1 : Cond.methodLink y.1.cls idx objectInit ∈ ev_TB ∧ Cond.instanceMethod objectInit ∈ ev_TB ∧ Cond.code objectInit ⟨#[0xb1]⟩ 1 none ∈ ev_TB) (hf1 : 1 ≤ f) (hst : (st.map fun v => v.category).sum ≤ 8) (k : ev_E G y f rc ru n M (pc + 3) L st Post) : ev_E G y f rc ru n M pc L (.ref a :: st) Post := by
  intro p l e R s m args below meth c H locs cells slots ls Q hC hf hlo hc hs hL hH hS hend
  have hst2 : ((st.map (ev_v G)).map fun v => v.category).sum ≤ 8 := by rw [List.map_map]; rw [show ((fun v : Value => v.category) ∘ ev_v G) = (fun v => v.category) from funext fun v => ev_v_cat v]; exact hst
  exact W.objInit hC.1 hC.2.1 hC.2.2.2.1 (hC.2.2.2.2.1 _ h1.1) (hC.2.2.2.2.1 _ h1.2.1) (hC.2.2.2.2.1 _ h1.2.2) rfl (hL.1.trans hC.2.2.1.symm) rfl hd (by omega) (by show 2 * 0 + _ + 12 ≤ _; omega) (k p l e R s m args below meth c H locs cells slots ls Q hC hf hlo hc hs hL hH hS hend)

theorem ev_getf {a ci j idx : Nat} {fs : List Value} {v : Value} (hd : decode y.2.1 pc = .ok (.getfield idx, 3)) (hl : ev_FL y.1.cls idx ci j) (hM : M a = .inr (ci, fs)) (hv : fs[j]? = some v) (k : ev_E G y f rc ru n M (pc + 3) L (v :: st) Post) : ev_E G y f rc ru n M pc L (.ref a :: st) Post := by
  intro p l e R s m args below meth c H locs cells slots ls Q hC hf hlo hc hs hL hH hS hend
  obtain ⟨⟨C, T, N⟩, h1, h2, h3, h4, h5⟩ := hl
  have hr := hH.rng (a := a) (by rw [hM]; exact ev_nj_r h1)
  have hw := ev_wl_at (G := G) (M := M) hr.1 hr.2
  rw [hM] at hw
  exact va_get (C := C) (T := T) (N := N) (ref := C) hC.1 hC.2.1 hC.2.2.2.2.1 h4 hC.2.2.2.1 hC.2.2.2.2.2.1.1 hH.1 (a - 20) hw h1 j h2 (hC.2.2.2.2.1 _ h3) (fun x hx => by have h5' : (T j).1 = C := h5; rw [← h5']; exact hx) (v := ev_v G v) (by rw [List.getElem?_map, hv]; rfl) hd (k p l e R s m args below meth c H locs cells slots ls Q hC hf hlo hc hs hL hH hS hend)
theorem ev_put {a ci j idx : Nat} {fs : List Value} {v : Value} {ty : FieldType} {fin : Bool} (hd : decode y.2.1 pc = .ok (.putfield idx, 3)) (hl : ev_FP y.1.cls idx ci j ty fin) (hfin : fin = true → y.1.name = "<init>") (hM : M a = .inr (ci, fs)) (hj : j < fs.length) (hn : ∀ G, narrow ty (ev_v G v) = ev_v G v) (hfit : ∀ G, fits ty (ev_v G v) = true) (k : ev_E G y f rc ru n (ev_set M a (.inr (ci, fs.set j v))) (pc + 3) L st Post) : ev_E G y f rc ru n M pc L (v :: .ref a :: st) Post := by
  intro p l e R s m args below meth c H locs cells slots ls Q hC hf hlo hc hs hL hH hS hend
  obtain ⟨⟨C, T, N⟩, ty0, h1, h2, h3, h4, h5, hty, hnm, hde, hfi, hown⟩ := hl
  have hr := hH.rng (a := a) (by rw [hM]; exact ev_nj_r h1)
  have hw := ev_wl_at (G := G) (M := M) hr.1 hr.2
  rw [hM] at hw
  have hts := hC.2.2.2.2.1
  have hK := hC.2.2.2.2.2.1.1
  have hap := va_apart (s := s) (args := args) (own := C) hts h4 ty0 hty hnm hK h1
  obtain ⟨r, g1, cell, q1, q2, q3, q4⟩ := hH.1 (a - 20) _ hw
  have hr2 : r = (C, T, N) := Option.some.inj (g1.symm.trans h1)
  subst hr2
  obtain ⟨hS2, hfc, kC, hkC, hkind⟩ := hK.1 ci _ h1
  obtain ⟨cf, kf, fi, fd, hi, hsl⟩ := hS2 j h2
  have hlay := hts _ (h4 _ (u_in_lay h2))
  have hst := (u_facts hfc hkC (u_lays hts h4 h2) hi).1
  have hlink := hts _ h3
  have h5' : (T j).1 = C := h5
  have hi2 : s.fieldFound? C (T j).2.1 (T j).2.2.1 = some (cf, kf, fi, fd) := by rw [← h5']; exact hi
  have hlen : j < (fs.map (ev_v G)).length := by rw [List.length_map]; exact hj
  have go : ∀ H' : Heap, H'[ev_ad G a]? = some (cell.setSlot fd.slot (ev_v G v)) → H'.size = H.size → (∀ q, q ≠ ev_ad G a → H'[q]? = H[q]?) → W p l e R s m args below meth c H' (locs ++ [⟨ev_ad G a, fd.slot⟩]) cells slots Q (F0 m (pc + 3) ls (st.map (ev_v G))) := by
    intro H' e1 e2 e3
    rw [hsl] at e1
    refine k p l e R s m args below meth c H' _ cells slots ls Q hC hf hlo hc hs hL (ev_upd hH hr e2 e3 ?_) (hS.put e2 e3 (ev_ad_own hr.1)) hend
    show va_at (ev_D G) vwCl (ev_ad G a, .inr (ci, (fs.set j v).map (ev_v G))) H'
    rw [List.map_set]
    exact ⟨_, h1, t_OB.to (V := updV (vp_V (fs.map (ev_v G))) j (ev_v G v)) ⟨_, e1, q2, q3, t_set q4 hap h2 _⟩ (fun i _ => vp_updV_set hlen _ i)⟩
  unfold u_lay at hlay
  by_cases hb : fin = true
  · rw [if_pos (hfi.trans hb)] at hlay
    have hdecl : (T j).1 = y.1.cls := h5.trans (hown hb)
    have hcf : m.cls = cf := by
      obtain ⟨_, _, c', _, _, _, -, -, hf', -, -, -, hown2, -⟩ := Cond.laysFinal_spec hlay
      have e1 : c' = cf := by have := hi.symm.trans hf'; simp at this; exact this.1.symm
      rw [hdecl] at hown2
      rw [← e1]; exact Option.some.inj (hC.2.2.2.1.symm.trans hown2)
    have h6 := u_fits hfc hkC hkind (Or.inr hlay) hi hde (hn G) (hfit G)
    exact W.putFinK hC.1 hC.2.1 hC.2.2.2.1 hlink hi2 hst hcf (hC.2.2.2.2.2.2.2.2 (hfin hb)) (by rw [q2]; exact h6) q1 q3 (by rw [hsl]; exact k2_hasslot (q4 j h2)) rfl rfl hd go
  · have hfi2 : (T j).2.2.2 = false := hfi.trans (by cases fin; rfl; exact absurd rfl hb)
    rw [if_neg (by rw [hfi2]; decide)] at hlay
    have h6 := u_store hfc hkC hkind hlay hi hde (hn G) (hfit G)
    exact W.putK hC.1 hC.2.1 (f := fd) ⟨hC.2.2.2.1, hlink, ⟨_, _, _, hi2⟩, hst⟩ (by rw [q2]; exact h6) q1 q3 (by rw [hsl]; exact k2_hasslot (q4 j h2)) rfl rfl hd go
theorem ev_puti {a ci j idx : Nat} {fs : List Value} {x : Int32} (hd : decode y.2.1 pc = .ok (.putfield idx, 3)) (hl : ev_FP y.1.cls idx ci j .int false) (hM : M a = .inr (ci, fs)) (hj : j < fs.length) (k : ev_E G y f rc ru n (ev_set M a (.inr (ci, fs.set j (.int x)))) (pc + 3) L st Post) : ev_E G y f rc ru n M pc L (.int x :: .ref a :: st) Post :=
  ev_put hd hl (fun h => by cases h) hM hj (fun _ => rfl) (fun _ => rfl) k
theorem ev_putl {a ci j idx : Nat} {fs : List Value} {x : Int64} (hd : decode y.2.1 pc = .ok (.putfield idx, 3)) (hl : ev_FP y.1.cls idx ci j .long false) (hM : M a = .inr (ci, fs)) (hj : j < fs.length) (k : ev_E G y f rc ru n (ev_set M a (.inr (ci, fs.set j (.long x)))) (pc + 3) L st Post) : ev_E G y f rc ru n M pc L (.long x :: .ref a :: st) Post :=
  ev_put hd hl (fun h => by cases h) hM hj (fun _ => rfl) (fun _ => rfl) k
theorem ev_putz {a ci j idx : Nat} {fs : List Value} {q : Bool} (hd : decode y.2.1 pc = .ok (.putfield idx, 3)) (hl : ev_FP y.1.cls idx ci j .boolean false) (hM : M a = .inr (ci, fs)) (hj : j < fs.length) (k : ev_E G y f rc ru n (ev_set M a (.inr (ci, fs.set j (.int (ev_b q))))) (pc + 3) L st Post) : ev_E G y f rc ru n M pc L (.int (ev_b q) :: .ref a :: st) Post :=
  ev_put hd hl (fun h => by cases h) hM hj (fun _ => by cases q <;> rfl) (fun _ => by cases q <;> rfl) k
theorem ev_putr {a ci j idx b : Nat} {fs : List Value} {C : String} (hd : decode y.2.1 pc = .ok (.putfield idx, 3)) (hl : ev_FP y.1.cls idx ci j (.object C) false) (hM : M a = .inr (ci, fs)) (hj : j < fs.length) (k : ev_E G y f rc ru n (ev_set M a (.inr (ci, fs.set j (.ref b)))) (pc + 3) L st Post) : ev_E G y f rc ru n M pc L (.ref b :: .ref a :: st) Post :=
  ev_put hd hl (fun h => by cases h) hM hj (fun _ => rfl) (fun _ => rfl) k
theorem ev_putrF {a ci j idx b : Nat} {fs : List Value} {C : String} (hd : decode y.2.1 pc = .ok (.putfield idx, 3)) (hl : ev_FP y.1.cls idx ci j (.object C) true) (hi : y.1.name = "<init>") (hM : M a = .inr (ci, fs)) (hj : j < fs.length) (k : ev_E G y f rc ru n (ev_set M a (.inr (ci, fs.set j (.ref b)))) (pc + 3) L st Post) : ev_E G y f rc ru n M pc L (.ref b :: .ref a :: st) Post :=
  ev_put hd hl (fun _ => hi) hM hj (fun _ => rfl) (fun _ => rfl) k
theorem ev_putaF {a ci j idx b : Nat} {fs : List Value} {t : FieldType} (hd : decode y.2.1 pc = .ok (.putfield idx, 3)) (hl : ev_FP y.1.cls idx ci j (.array t) true) (hi : y.1.name = "<init>") (hM : M a = .inr (ci, fs)) (hj : j < fs.length) (k : ev_E G y f rc ru n (ev_set M a (.inr (ci, fs.set j (.ref b)))) (pc + 3) L st Post) : ev_E G y f rc ru n M pc L (.ref b :: .ref a :: st) Post :=
  ev_put hd hl (fun _ => hi) hM hj (fun _ => rfl) (fun _ => rfl) k
/-- arrays -/
theorem ev_iald {a N j : Nat} {i : Int32} {g : Nat → Int32} (hd : decode y.2.1 pc = .ok (.iaload, 1)) (hM : M a = .inl (0, N, .inl g)) (hx : ev_ix i j) (hj : j < N) (k : ev_E G y f rc ru n M (pc + 1) L (.int (g j) :: st) Post) : ev_E G y f rc ru n M pc L (.int i :: .ref a :: st) Post := by
  intro p l e R s m args below meth c H locs cells slots ls Q hC hf hlo hc hs hL hH hS hend
  have hr := hH.rng (a := a) (by rw [hM]; exact ev_nj_l)
  have hw := ev_wl_at (G := G) (M := M) hr.1 hr.2
  rw [hM] at hw
  exact va_iald hC.1 hC.2.1 hC.2.2.2.2.2.1.1 hH.1 (a - 20) 0 hw rfl (ev_ix_in hx hj) hd (by rw [hx.2]; exact k p l e R s m args below meth c H locs cells slots ls Q hC hf hlo hc hs hL hH hS hend)
theorem ev_zald {a N j : Nat} {i : Int32} {g : Nat → Int32} (hd : decode y.2.1 pc = .ok (.baload, 1)) (hM : M a = .inl (1, N, .inl g)) (hx : ev_ix i j) (hj : j < N) (k : ev_E G y f rc ru n M (pc + 1) L (.int (g j) :: st) Post) : ev_E G y f rc ru n M pc L (.int i :: .ref a :: st) Post := by
  intro p l e R s m args below meth c H locs cells slots ls Q hC hf hlo hc hs hL hH hS hend
  have hr := hH.rng (a := a) (by rw [hM]; exact ev_nj_l)
  have hw := ev_wl_at (G := G) (M := M) hr.1 hr.2
  rw [hM] at hw
  exact va_zald hC.1 hC.2.1 hC.2.2.2.2.2.1.1 hH.1 (a - 20) 1 hw rfl (ev_ix_in hx hj) hd (by rw [hx.2]; exact k p l e R s m args below meth c H locs cells slots ls Q hC hf hlo hc hs hL hH hS hend)
theorem ev_aald {a N j t b : Nat} {i : Int32} {g : Nat → Option Nat} {C : String} (hd : decode y.2.1 pc = .ok (.aaload, 1)) (ht : ∀ G, (ev_tys G)[t]? = some (ev_cA G t, .object C)) (hM : M a = .inl (t, N, .inr (.inr (.inr (.inr g))))) (hx : ev_ix i j) (hj : j < N) (hg : g j = some b) (k : ev_E G y f rc ru n M (pc + 1) L (.ref b :: st) Post) : ev_E G y f rc ru n M pc L (.int i :: .ref a :: st) Post := by
  intro p l e R s m args below meth c H locs cells slots ls Q hC hf hlo hc hs hL hH hS hend
  have hr := hH.rng (a := a) (by rw [hM]; exact ev_nj_l)
  have hw := ev_wl_at (G := G) (M := M) hr.1 hr.2
  rw [hM] at hw
  refine va_aldq hC.1 hC.2.1 hC.2.2.2.2.2.1.1 hH.1 (a - 20) t (f := fun j => (g j).map (ev_ad G)) hw (ht G) (ev_ix_in hx hj) hd ?_
  rw [hx.2, hg]
  exact k p l e R s m args below meth c H locs cells slots ls Q hC hf hlo hc hs hL hH hS hend
theorem ev_alen {a t N : Nat} {x : (Nat → Int32) ⊕ (Nat → Int64) ⊕ (Nat → UInt32) ⊕ (Nat → UInt64) ⊕ (Nat → Option Nat)} {ty : FieldType} {v : Int32} (hd : decode y.2.1 pc = .ok (.arraylength, 1)) (ht : ∀ G, (ev_tys G)[t]? = some (ev_cA G t, ty)) (hM : M a = .inl (t, N, x)) (hv : Int32.ofNat N = v) (k : ev_E G y f rc ru n M (pc + 1) L (.int v :: st) Post) : ev_E G y f rc ru n M pc L (.ref a :: st) Post := by
  intro p l e R s m args below meth c H locs cells slots ls Q hC hf hlo hc hs hL hH hS hend
  have hr := hH.rng (a := a) (by rw [hM]; exact ev_nj_l)
  have hw := ev_wl_at (G := G) (M := M) hr.1 hr.2
  rw [hM] at hw
  refine va_alen hC.1 hC.2.1 hC.2.2.2.2.2.1.1 hH.1 (a - 20) t (x := ev_a G (N, x)) hw (ht G) (v := v) ?_ hd (k p l e R s m args below meth c H locs cells slots ls Q hC hf hlo hc hs hL hH hS hend)
  obtain x | x | x | x | x := x <;> exact hv
theorem ev_iast {a N j : Nat} {i x : Int32} {g : Nat → Int32} (hd : decode y.2.1 pc = .ok (.iastore, 1)) (hM : M a = .inl (0, N, .inl g)) (hx : ev_ix i j) (hj : j < N) (k : ev_E G y f rc ru n (ev_set M a (.inl (0, N, .inl (upd g j x)))) (pc + 1) L st Post) : ev_E G y f rc ru n M pc L (.int x :: .int i :: .ref a :: st) Post := by
  intro p l e R s m args below meth c H locs cells slots ls Q hC hf hlo hc hs hL hH hS hend
  have hr := hH.rng (a := a) (by rw [hM]; exact ev_nj_l)
  have hw := ev_wl_at (G := G) (M := M) hr.1 hr.2
  rw [hM] at hw
  refine W.iast hC.1 hC.2.1 (hH.1 (a - 20) _ hw) ((hC.2.2.2.2.2.1.1.2 0 _ rfl).1 N (fun j => .int (g j))) (fun q => by cases q) (by show ¬ (i < 0 ∨ (arrV _ _ _).slots.size ≤ _); rw [arrV_size]; exact ev_ix_in hx hj) rfl rfl hd fun H1 e1 e2 e3 => ?_
  refine k p l e R s m args below meth c H1 _ cells slots ls Q hC hf hlo hc hs hL (ev_upd hH hr e2 e3 ?_) (hS.put e2 e3 (ev_ad_own hr.1)) hend
  show H1[ev_ad G a]? = some (vp_cell _ _)
  rw [e1]
  show some (Cell.setSlot (vp_cell (ev_cA G 0) (N, .inl g)) _ _) = some (vp_cell (ev_cA G 0) (N, .inl (upd g j x)))
  rw [vp_cell_i, vp_cell_i, arrV_store, hx.2]
  congr 2
  funext q
  by_cases hq : q = j
  · subst hq
    simp [updV, upd]
  · simp [updV, upd, hq]
theorem ev_zast {a N j : Nat} {i : Int32} {x : Bool} {g : Nat → Int32} (hd : decode y.2.1 pc = .ok (.bastore, 1)) (hM : M a = .inl (1, N, .inl g)) (hx : ev_ix i j) (hj : j < N) (k : ev_E G y f rc ru n (ev_set M a (.inl (1, N, .inl (upd g j (ev_b x))))) (pc + 1) L st Post) : ev_E G y f rc ru n M pc L (.int (ev_b x) :: .int i :: .ref a :: st) Post := by
  intro p l e R s m args below meth c H locs cells slots ls Q hC hf hlo hc hs hL hH hS hend
  have hr := hH.rng (a := a) (by rw [hM]; exact ev_nj_l)
  have hw := ev_wl_at (G := G) (M := M) hr.1 hr.2
  rw [hM] at hw
  refine W.zast hC.1 hC.2.1 (hH.1 (a - 20) _ hw) ((hC.2.2.2.2.2.1.1.2 1 _ rfl).1 N (fun j => .int (g j))) (fun q => by cases q) (by show ¬ (i < 0 ∨ (arrV _ _ _).slots.size ≤ _); rw [arrV_size]; exact ev_ix_in hx hj) rfl rfl hd fun H1 e1 e2 e3 => ?_
  refine k p l e R s m args below meth c H1 _ cells slots ls Q hC hf hlo hc hs hL (ev_upd hH hr e2 e3 ?_) (hS.put e2 e3 (ev_ad_own hr.1)) hend
  show H1[ev_ad G a]? = some (vp_cell _ _)
  rw [e1]
  show some (Cell.setSlot (vp_cell (ev_cA G 1) (N, .inl g)) _ _) = some (vp_cell (ev_cA G 1) (N, .inl (upd g j (ev_b x))))
  rw [vp_cell_i, vp_cell_i, arrV_store, hx.2]
  congr 2
  funext q
  by_cases hq : q = j
  · subst hq
    cases x <;> simp [updV, upd, ev_b] <;> rfl
  · simp [updV, upd, hq]
theorem ev_aast {a N j t b ci : Nat} {fs : List Value} {i : Int32} {r : vw_C} {g : Nat → Option Nat} (hd : decode y.2.1 pc = .ok (.aastore, 1)) (hcl : vwCl[ci]? = some r) (ht : ∀ G, (ev_tys G)[t]? = some (ev_cA G t, .object r.1)) (hM : M a = .inl (t, N, .inr (.inr (.inr (.inr g))))) (hx : ev_ix i j) (hj : j < N) (hb : M b = .inr (ci, fs)) (k : ev_E G y f rc ru n (ev_set M a (.inl (t, N, .inr (.inr (.inr (.inr (va_up g j (some b)))))))) (pc + 1) L st Post) : ev_E G y f rc ru n M pc L (.ref b :: .int i :: .ref a :: st) Post := by
  intro p l e R s m args below meth c H locs cells slots ls Q hC hf hlo hc hs hL hH hS hend
  have hr := hH.rng (a := a) (by rw [hM]; exact ev_nj_l)
  have hw := ev_wl_at (G := G) (M := M) hr.1 hr.2
  rw [hM] at hw
  have hrb := hH.rng (a := b) (by rw [hb]; exact ev_nj_r hcl)
  have hwb := ev_wl_at (G := G) (M := M) hrb.1 hrb.2
  rw [hb] at hwb
  have hK := hC.2.2.2.2.2.1.1
  obtain ⟨r', hr', cellV, g1, g2, g3, -⟩ := hH.1 (b - 20) _ hwb
  have hcls := (hK.1 ci r hcl).2
  obtain ⟨kA, comp, k1, k2, k3, -⟩ := (hK.2 t _ (ht G)).2
  have hcomp : comp = (ev_D G).1 ci := Option.some.inj (k3.symm.trans hcls.1)
  subst hcomp
  obtain ⟨kC, hkC, -⟩ := hcls.2
  refine W.aast hC.1 hC.2.1 (hH.1 (a - 20) _ hw) (fun q h => by cases h) (fun h => by cases h) k1 k2 rfl hkC ⟨hx.1, by show _ < (arrV _ _ _).slots.size; rw [arrV_size, hx.2]; exact hj⟩ g1 (fun q h => by rw [g3] at h; cases h) (by rw [g2]; exact hkC) (by rw [g2]; exact va_assign hcls) rfl rfl hd fun H1 e1 e2 e3 => ?_
  refine k p l e R s m args below meth c H1 _ cells slots ls Q hC hf hlo hc hs hL (ev_upd hH hr e2 e3 ?_) (hS.put e2 e3 (ev_ad_own hr.1)) hend
  show H1[ev_ad G a]? = some (vp_cell _ _)
  rw [e1]
  show some (Cell.setSlot (vp_cell (ev_cA G t) (N, .inr (.inr (.inr (.inr (fun j => (g j).map (ev_ad G))))))) _ _) = some (vp_cell (ev_cA G t) (N, .inr (.inr (.inr (.inr (fun q => (va_up g j (some b) q).map (ev_ad G)))))))
  rw [vp_cell_q, vp_cell_q, arrV_store, hx.2]
  congr 2
  funext q
  by_cases hq : q = j
  · subst hq
    simp [updV, va_up, va_rf]
  · simp [updV, va_up, hq]
/-- what is made -/
theorem ev_new {idx ci N rc' ru' : Nat} {fs : List Value} (hd : decode y.2.1 pc = .ok (.new idx, 3)) (hl : ev_NW y.1.cls idx ci fs N) (h1 : rc = rc' + 1) (h2 : ru = ru' + N) (k : ev_E G y f rc' ru' (n + 1) (ev_set M (20 + n) (.inr (ci, fs))) (pc + 3) L (.ref (20 + n) :: st) Post) : ev_E G y f rc ru n M pc L st Post := by
  intro p l e R s m args below meth c H locs cells slots ls Q hC hf hlo hc hs hL hH hS hend
  subst h1 h2
  obtain ⟨⟨C, T, N2⟩, ty0, g1, gN, g2, g3, g4, g5, g6, g7⟩ := hl
  have gN : N2 = N := gN
  subst gN
  have hts := hC.2.2.2.2.1
  have hKn := hC.2.2.2.2.2.1.1.1 ci _ g1
  have hsz := hH.2.1
  refine W.newcK hC.1 hC.2.1 hC.2.2.2.1 (hts _ g2) (hts _ g3) (hts _ g4) rfl hd (by omega) (by omega) hKn.2.1 hsz fun H1 kC hkC e1 z1 o1 => ?_
  rw [← hsz] at o1 e1 z1
  refine W.eq (g2 := F0 m (pc + 3) ls ((.ref (20 + n) :: st).map (ev_v G))) (by show F0 m (pc + 3) ls (.ref (ev_base G + n) :: st.map (ev_v G)) = F0 m (pc + 3) ls (ev_v G (.ref (20 + n)) :: st.map (ev_v G)); rw [ev_top]) ?_
  refine k p l e R s m args below meth c H1 locs (cells + 1) (slots + N2) ls Q hC hf hlo (by omega) (by show slots + N2 + ru' ≤ R.slots; omega) hL (ev_grow hH z1 o1 ?_) (ev_S_grow hS z1 o1) ?_
  · refine ⟨_, g1, (u_born ty0 hts g5 hKn hkC e1 g6).to fun j hj => ?_⟩
    show defaultValue (ty0 j) = vp_V (fs.map (ev_v G)) j
    rw [(g7 j hj).2 G, (g7 j hj).1, List.map_id'']
    exact fun _ => rfl
  · intro pc' ls' r M' H' locs' ho hH' hS' hP
    have := hend pc' ls' r M' H' locs' ho (by rw [show n + (rc' + 1) = n + 1 + rc' by omega]; exact hH') hS' hP
    rw [show cells + (rc' + 1) = cells + 1 + rc' by omega, show slots + (ru' + N2) = slots + N2 + ru' by omega] at this
    exact this
theorem ev_newa {N rc' ru' t : Nat} {i : Int32} {at' : ArrayType} {ty : FieldType} (hd : decode y.2.1 pc = .ok (.newarray at', 2)) (hw : Cond.arrayClass (newarray.typeOf at') ∈ ev_TB) (hty : newarray.typeOf at' = ty) (ht : ∀ G, (ev_tys G)[t]? = some (ev_cA G t, ty)) (hdf : defaultValue ty = .int 0) (hra : ∀ U cA, va_RA U cA ty → U.vm.findClass ("[" ++ ty.toString) = some cA) (hx : ev_ix i N) (hb : N * componentBytes ty ≤ 536870912) (h1 : rc = rc' + 1) (h2 : ru = ru' + N) (k : ev_E G y f rc' ru' (n + 1) (ev_set M (20 + n) (.inl (t, N, .inl (fun _ => 0)))) (pc + 2) L (.ref (20 + n) :: st) Post) : ev_E G y f rc ru n M pc L (.int i :: st) Post := by
  intro p l e R s m args below meth c H locs cells slots ls Q hC hf hlo hc hs hL hH hS hend
  subst h1 h2 hty
  have hsz := hH.2.1
  have hts := hC.2.2.2.2.1
  have hKt := hC.2.2.2.2.2.1.1.2 t _ (ht G)
  refine va_newaK hC.1 hC.2.1 (hts _ hw) rfl hd rfl hx.1 hx.2 hb (by omega) (by omega) hsz fun H1 cA e1 z1 o1 hAr hNm => ?_
  rw [← hsz] at o1 e1 z1
  have hcA : cA = ev_cA G t := Option.some.inj (hNm.symm.trans (hra _ _ hKt.2))
  subst hcA
  refine W.eq (g2 := F0 m (pc + 2) ls ((.ref (20 + n) :: st).map (ev_v G))) (by show F0 m (pc + 2) ls (.ref (ev_base G + n) :: st.map (ev_v G)) = F0 m (pc + 2) ls (ev_v G (.ref (20 + n)) :: st.map (ev_v G)); rw [ev_top]) ?_
  refine k p l e R s m args below meth c H1 locs (cells + 1) (slots + N) ls Q hC hf hlo (by omega) (by show slots + N + ru' ≤ R.slots; omega) hL (ev_grow hH z1 o1 ?_) (ev_S_grow hS z1 o1) ?_
  · show H1[H.size]? = some (vp_cell (ev_cA G t) (N, .inl (fun _ => 0)))
    rw [vp_cell_i, e1, hdf]
  · intro pc' ls' r M' H' locs' ho hH' hS' hP
    have := hend pc' ls' r M' H' locs' ho (by rw [show n + (rc' + 1) = n + 1 + rc' by omega]; exact hH') hS' hP
    rw [show cells + (rc' + 1) = cells + 1 + rc' by omega, show slots + (ru' + N) = slots + N + ru' by omega] at this
    exact this
theorem ev_newI {N rc' ru' : Nat} {i : Int32} (hd : decode y.2.1 pc = .ok (.newarray .int, 2)) (hw : Cond.arrayClass .int ∈ ev_TB) (hx : ev_ix i N) (hb : N ≤ 10000) (h1 : rc = rc' + 1) (h2 : ru = ru' + N) (k : ev_E G y f rc' ru' (n + 1) (ev_set M (20 + n) (.inl (0, N, .inl (fun _ => 0)))) (pc + 2) L (.ref (20 + n) :: st) Post) : ev_E G y f rc ru n M pc L (.int i :: st) Post :=
  ev_newa (t := 0) (ty := .int) hd hw rfl (fun _ => rfl) rfl (fun _ _ h => h) hx (by show N * 4 ≤ _; omega) h1 h2 k
theorem ev_newZ {N rc' ru' : Nat} {i : Int32} (hd : decode y.2.1 pc = .ok (.newarray .boolean, 2)) (hw : Cond.arrayClass .boolean ∈ ev_TB) (hx : ev_ix i N) (hb : N ≤ 10000) (h1 : rc = rc' + 1) (h2 : ru = ru' + N) (k : ev_E G y f rc' ru' (n + 1) (ev_set M (20 + n) (.inl (1, N, .inl (fun _ => 0)))) (pc + 2) L (.ref (20 + n) :: st) Post) : ev_E G y f rc ru n M pc L (.int i :: st) Post :=
  ev_newa (t := 1) (ty := .boolean) hd hw rfl (fun _ => rfl) rfl (fun _ _ h => h) hx (by show N * 1 ≤ _; omega) h1 h2 k
theorem ev_newq {N rc' ru' t idx : Nat} {i : Int32} {C : String} (hd : decode y.2.1 pc = .ok (.anewarray idx, 3)) (hw : Cond.classLink y.1.cls idx C ∈ ev_TB) (ho : ∀ (G : ev_G) (s : State), ev_F G s → va_AO C s) (ht : ∀ G, (ev_tys G)[t]? = some (ev_cA G t, .object C)) (hx : ev_ix i N) (hb : N ≤ 10000) (h1 : rc = rc' + 1) (h2 : ru = ru' + N) (k : ev_E G y f rc' ru' (n + 1) (ev_set M (20 + n) (.inl (t, N, .inr (.inr (.inr (.inr (fun _ => none))))))) (pc + 3) L (.ref (20 + n) :: st) Post) : ev_E G y f rc ru n M pc L (.int i :: st) Post := by
  intro p l e R s m args below meth c H locs cells slots ls Q hC hf hlo hc hs hL hH hS hend
  subst h1 h2
  obtain ⟨hx1, rfl⟩ := hx
  have hsz := hH.2.1
  have hts := hC.2.2.2.2.1
  have hKt := hC.2.2.2.2.2.1.1.2 t _ (ht G)
  refine W.anew hC.1 hC.2.1 hC.2.2.2.1 (hts _ hw) (va_AO.use (ho G s hC.2.2.2.2.2.1)) rfl hd rfl hx1 (by omega) (by omega) (by omega) fun cA kA comp f1 f2 f3 f4 => ?_
  obtain ⟨kA2, comp2, j1, j2, j3, j4⟩ := hKt.2
  have hcA : cA = ev_cA G t := Option.some.inj (f1.symm.trans j4)
  subst hcA
  generalize hH1 : H.push ({ cls := ev_cA G t, slots := Array.replicate i.toNatClampNeg .null, vm := .none } : Cell) = H1
  have z1 : H1.size = H.size + 1 := by rw [← hH1, Array.size_push]
  have e1 : H1[H.size]? = some (arrV (ev_cA G t) i.toNatClampNeg (fun _ => .null)) := by rw [← hH1, Array.getElem?_push_size, ← arrV_new]
  have o1 : ∀ q : Nat, q < H.size → H1[q]? = H[q]? := fun q hq => by rw [← hH1, Array.getElem?_push, if_neg (Nat.ne_of_lt hq)]
  refine W.eq (g2 := F0 m (pc + 3) ls ((.ref (20 + n) :: st).map (ev_v G))) (by show F0 m (pc + 3) ls (.ref H.size :: st.map (ev_v G)) = F0 m (pc + 3) ls (ev_v G (.ref (20 + n)) :: st.map (ev_v G)); rw [ev_top, hsz]) ?_
  refine k p l e R s m args below meth c H1 locs (cells + 1) (slots + i.toNatClampNeg) ls Q hC hf hlo (by omega) (by omega) hL (ev_grow hH z1 o1 ?_) (ev_S_grow hS z1 o1) ?_
  · show H1[H.size]? = some (vp_cell (ev_cA G t) (i.toNatClampNeg, .inr (.inr (.inr (.inr (fun _ => none))))))
    rw [vp_cell_q, e1]
    rfl
  · intro pc' ls' r M' H' locs' ho hH' hS' hP
    have := hend pc' ls' r M' H' locs' ho (by rw [show n + (rc' + 1) = n + 1 + rc' by omega]; exact hH') hS' hP
    rw [show cells + (rc' + 1) = cells + 1 + rc' by omega, show slots + (ru' + i.toNatClampNeg) = slots + i.toNatClampNeg + ru' by omega] at this
    exact this
/-- the older cells -/
theorem ev_gets {i idx : Nat} (hd : decode y.2.1 pc = .ok (.getstatic idx, 3)) (hi : i < 8) (hw : Cond.fieldLink y.1.cls idx (ev_stN i).1 (ev_stN i).2 "[I" ∈ ev_TB) (k : ev_E G y f rc ru n M (pc + 3) L (.ref (1 + i) :: st) Post) : ev_E G y f rc ru n M pc L st Post := by
  intro p l e R s m args below meth c H locs cells slots ls Q hC hf hlo hc hs hL hH hS hend
  obtain ⟨cf, kf, fi, fd, a, cell, h1, h2, h3, h4, h5, h6, h7, h8⟩ := (hH.2.2.1.1 i hi).1
  refine W.gets hC.1 hC.2.1 hC.2.2.2.1 (hC.2.2.2.2.1 _ hw) h1 h2 h3 h4 h5 (fun e => by rw [e] at h6; cases h6) h7 rfl hd ?_
  have k2 := k p l e R s m args below meth c H locs cells slots ls Q hC hf hlo hc hs hL hH hS hend
  rw [List.map_cons, ev_v, ev_ad, if_pos (by omega)] at k2
  exact k2
theorem ev_iaS {a j : Nat} {i : Int32} (hd : decode y.2.1 pc = .ok (.iaload, 1)) (ha : a < 8) (hx : ev_ix i j) (hj : j < (ev_stA a).length) (k : ev_E G y f rc ru n M (pc + 1) L (.int ((ev_stA a).getD j 0) :: st) Post) : ev_E G y f rc ru n M pc L (.int i :: .ref (1 + a) :: st) Post := by
  intro p l e R s m args below meth c H locs cells slots ls Q hC hf hlo hc hs hL hH hS hend
  obtain ⟨cell, h1, h2, h3, h4, h5, h6, h7⟩ := (hH.2.2.1.1 a ha).2
  refine W.eq (g2 := F0 m pc ls (.int i :: .ref (ev_pre G (1 + a)) :: st.map (ev_v G))) (by show F0 m pc ls (.int i :: ev_v G (.ref (1 + a)) :: st.map (ev_v G)) = _; rw [ev_old (by omega)]) ?_
  refine W.iald (v := .int ((ev_stA a).getD j 0)) hC.1 hC.2.1 h1 h2 h3 (fun q => ?_) (by rw [hx.2, h6 _ hj]) rfl rfl hd (k p l e R s m args below meth c H locs cells slots ls Q hC hf hlo hc hs hL hH hS hend)
  rcases q with q | q
  · exact hx.1 q
  · rw [hx.2] at q; omega
theorem ev_alS {a : Nat} {v : Int32} (hd : decode y.2.1 pc = .ok (.arraylength, 1)) (ha : a < 8) (hv : Int32.ofNat (ev_stA a).length = v) (k : ev_E G y f rc ru n M (pc + 1) L (.int v :: st) Post) : ev_E G y f rc ru n M pc L (.ref (1 + a) :: st) Post := by
  intro p l e R s m args below meth c H locs cells slots ls Q hC hf hlo hc hs hL hH hS hend
  subst hv
  obtain ⟨cell, h1, h2, h3, h4, h5, h6, h7⟩ := (hH.2.2.1.1 a ha).2
  refine W.eq (g2 := F0 m pc ls (.ref (ev_pre G (1 + a)) :: st.map (ev_v G))) (by rw [List.map_cons, ev_v, ev_ad, if_pos (by omega)]) ?_
  exact W.alen (n := Int32.ofNat (ev_stA a).length) hC.1 hC.2.1 h1 h2 h5 rfl rfl hd (k p l e R s m args below meth c H locs cells slots ls Q hC hf hlo hc hs hL hH hS hend)
theorem ev_iaX {j : Nat} {i : Int32} (hd : decode y.2.1 pc = .ok (.iaload, 1)) (hx : ev_ix i j) (hj : j < ev_L G) (k : ev_E G y f rc ru n M (pc + 1) L (.int (ev_xs G j) :: st) Post) : ev_E G y f rc ru n M pc L (.int i :: .ref 0 :: st) Post := by
  intro p l e R s m args below meth c H locs cells slots ls Q hC hf hlo hc hs hL hH hS hend
  obtain ⟨cell, h1, h2, h3, h4, h5, h6, h7⟩ := hH.2.2.1.2.1
  refine W.iald (v := .int (ev_xs G j)) (a := ev_pre G 0) hC.1 hC.2.1 h1 h2 h3 (fun q => ?_) (by rw [hx.2, h6 _ hj]) rfl rfl hd (k p l e R s m args below meth c H locs cells slots ls Q hC hf hlo hc hs hL hH hS hend)
  rcases q with q | q
  · exact hx.1 q
  · rw [hx.2] at q; omega
theorem ev_alX (hd : decode y.2.1 pc = .ok (.arraylength, 1)) (k : ev_E G y f rc ru n M (pc + 1) L (.int (Int32.ofNat (ev_L G)) :: st) Post) : ev_E G y f rc ru n M pc L (.ref 0 :: st) Post := by
  intro p l e R s m args below meth c H locs cells slots ls Q hC hf hlo hc hs hL hH hS hend
  obtain ⟨cell, h1, h2, h3, h4, h5, h6, h7⟩ := hH.2.2.1.2.1
  exact W.alen (n := Int32.ofNat (ev_L G)) (a := ev_pre G 0) hC.1 hC.2.1 h1 h2 h5 rfl rfl hd (k p l e R s m args below meth c H locs cells slots ls Q hC hf hlo hc hs hL hH hS hend)
theorem ev_strV {i idx : Nat} (hd : decode y.2.1 pc = .ok (.getfield idx, 3)) (hi : i < 5) (hw : Cond.fieldLink y.1.cls idx "java/lang/String" "value" "[B" ∈ ev_TB) (k : ev_E G y f rc ru n M (pc + 3) L (.ref (14 + i) :: st) Post) : ev_E G y f rc ru n M pc L (.ref (9 + i) :: st) Post := by
  intro p l e R s m args below meth c H locs cells slots ls Q hC hf hlo hc hs hL hH hS hend
  obtain ⟨cf, kk, fi, fd, cell, h1, h2, h3, h4, h5, h6⟩ := (hH.2.2.1.2.2.1.1 i hi).2.2.1
  refine W.eq (g2 := F0 m pc ls (.ref (ev_pre G (9 + i)) :: st.map (ev_v G))) (by rw [List.map_cons, ev_v, ev_ad, if_pos (by omega)]) ?_
  refine W.getf hC.1 hC.2.1 hC.2.2.2.1 (hC.2.2.2.2.1 _ hw) h1 h2 h3 h4 h5 rfl rfl hd ?_
  have k2 := k p l e R s m args below meth c H locs cells slots ls Q hC hf hlo hc hs hL hH hS hend
  rw [List.map_cons, ev_v, ev_ad, if_pos (by omega)] at k2
  exact k2
theorem ev_strC {i idx : Nat} (hd : decode y.2.1 pc = .ok (.getfield idx, 3)) (hi : i < 5) (hw : Cond.fieldLink y.1.cls idx "java/lang/String" "coder" "B" ∈ ev_TB) (k : ev_E G y f rc ru n M (pc + 3) L (.int 0 :: st) Post) : ev_E G y f rc ru n M pc L (.ref (9 + i) :: st) Post := by
  intro p l e R s m args below meth c H locs cells slots ls Q hC hf hlo hc hs hL hH hS hend
  obtain ⟨cf, kk, fi, fd, cell, h1, h2, h3, h4, h5, h6⟩ := (hH.2.2.1.2.2.1.1 i hi).2.1
  refine W.eq (g2 := F0 m pc ls (.ref (ev_pre G (9 + i)) :: st.map (ev_v G))) (by rw [List.map_cons, ev_v, ev_ad, if_pos (by omega)]) ?_
  exact W.getf hC.1 hC.2.1 hC.2.2.2.1 (hC.2.2.2.2.1 _ hw) h1 h2 h3 h4 h5 rfl rfl hd (k p l e R s m args below meth c H locs cells slots ls Q hC hf hlo hc hs hL hH hS hend)
theorem ev_balS {a j : Nat} {i : Int32} (hd : decode y.2.1 pc = .ok (.baload, 1)) (ha : a < 5) (hx : ev_ix i j) (hj : j < ev_sl.getD a 0) (k : ev_E G y f rc ru n M (pc + 1) L (.int ((ev_sb.getD a []).getD j 0) :: st) Post) : ev_E G y f rc ru n M pc L (.int i :: .ref (14 + a) :: st) Post := by
  intro p l e R s m args below meth c H locs cells slots ls Q hC hf hlo hc hs hL hH hS hend
  obtain ⟨cell, h1, h2, h3, h4, h5, h6, h7⟩ := (hH.2.2.1.2.2.1.1 a ha).2.2.2
  refine W.eq (g2 := F0 m pc ls (.int i :: .ref (ev_pre G (14 + a)) :: st.map (ev_v G))) (by show F0 m pc ls (.int i :: ev_v G (.ref (14 + a)) :: st.map (ev_v G)) = _; rw [ev_old (by omega)]) ?_
  refine W.bald (v := .int ((ev_sb.getD a []).getD j 0)) hC.1 hC.2.1 h1 h2 h3 (fun q => ?_) (by rw [hx.2, h6 _ hj]) rfl rfl hd (k p l e R s m args below meth c H locs cells slots ls Q hC hf hlo hc hs hL hH hS hend)
  rcases q with q | q
  · exact hx.1 q
  · rw [hx.2] at q; omega
theorem ev_blS {a : Nat} {v : Int32} (hd : decode y.2.1 pc = .ok (.arraylength, 1)) (ha : a < 5) (hv : Int32.ofNat (ev_sl.getD a 0) = v) (k : ev_E G y f rc ru n M (pc + 1) L (.int v :: st) Post) : ev_E G y f rc ru n M pc L (.ref (14 + a) :: st) Post := by
  intro p l e R s m args below meth c H locs cells slots ls Q hC hf hlo hc hs hL hH hS hend
  subst hv
  obtain ⟨cell, h1, h2, h3, h4, h5, h6, h7⟩ := (hH.2.2.1.2.2.1.1 a ha).2.2.2
  refine W.eq (g2 := F0 m pc ls (.ref (ev_pre G (14 + a)) :: st.map (ev_v G))) (by rw [List.map_cons, ev_v, ev_ad, if_pos (by omega)]) ?_
  exact W.alen (n := Int32.ofNat (ev_sl.getD a 0)) hC.1 hC.2.1 h1 h2 h5 rfl rfl hd (k p l e R s m args below meth c H locs cells slots ls Q hC hf hlo hc hs hL hH hS hend)
theorem ev_getCS {idx : Nat} (hd : decode y.2.1 pc = .ok (.getstatic idx, 3)) (hw : Cond.fieldLink y.1.cls idx "java/lang/String" "COMPACT_STRINGS" "Z" ∈ ev_TB) (k : ev_E G y f rc ru n M (pc + 3) L (.int 1 :: st) Post) : ev_E G y f rc ru n M pc L st Post := by
  intro p l e R s m args below meth c H locs cells slots ls Q hC hf hlo hc hs hL hH hS hend
  obtain ⟨cf, kf, fi, fd, a, cell, h1, h2, h3, h4, h5, h6, h7, h8⟩ := hH.2.2.1.2.2.2.1
  exact W.gets hC.1 hC.2.1 hC.2.2.2.1 (hC.2.2.2.2.1 _ hw) h1 h2 h3 h4 h5 (fun e => by rw [e] at h6; cases h6) h7 rfl hd (k p l e R s m args below meth c H locs cells slots ls Q hC hf hlo hc hs hL hH hS hend)
theorem ev_getSio {idx : Nat} (hd : decode y.2.1 pc = .ok (.getstatic idx, 3)) (hw : Cond.fieldLink y.1.cls idx "jdk/internal/util/Preconditions" "SIOOBE_FORMATTER" "Ljava/util/function/BiFunction;" ∈ ev_TB) (k : ev_E G y f rc ru n M (pc + 3) L (ev_sio G :: st) Post) : ev_E G y f rc ru n M pc L st Post := by
  intro p l e R s m args below meth c H locs cells slots ls Q hC hf hlo hc hs hL hH hS hend
  obtain ⟨cf, kf, fi, fd, a, cell, h1, h2, h3, h4, h5, h6, h7, h8⟩ := hH.2.2.1.2.2.2.2
  exact W.gets hC.1 hC.2.1 hC.2.2.2.1 (hC.2.2.2.2.1 _ hw) h1 h2 h3 h4 h5 (fun e => by rw [e] at h6; cases h6) h7 rfl hd (k p l e R s m args below meth c H locs cells slots ls Q hC hf hlo hc hs hL hH hS hend)
end EVR
end
section
/-! ===== own layer: calls ===== -/
/-- the receiver, if there is one: an object of that class -/
def ev_rc (C : Option String) (s : State) (H : Heap) (As : List Value) : Prop := match C with
  | none => True
  | some C => ∃ (b : Addr) (As' : List Value) (cell : Cell), As = .ref b :: As' ∧ H[b]? = some cell ∧ cell.vm.isStatics = false ∧ s.vm.findClass C = some cell.cls
/-- at this place of this method, a call of that one -/
def ev_K (y : ev_MI) (pc : Nat) (yc : ev_MI) (C : Option String) (na : Nat) : Prop :=
  ∀ (G : ev_G) (p : Program) (l : Launch) (e : Env) (R : Room) (s : State) (m : MethodId) (args : Array Value) (below : List Frame) (meth : Method) (c : Code) (H : Heap) (locs : List Loc) (cells slots : Nat) (ls : Array Slot) (rest As : List Value) (rm : Room) (Pc : Array Value → State → Prop) (Qc : Array Value → State → Outcome → State → Prop) (mc ms : Nat) (free : Addr → Prop),
    ev_C G y p s m args meth c → ls.size = y.2.2.1 → Met l yc.1 (ev_ws yc) rm Pc Qc mc ms free → FrameBlind Pc → ev_rc C s H As → (∀ U : State, U.heap = H → s.WarmedH U.vm → Pc As.toArray U) → rm.cells = mc → rm.slots = ms → rm.frames + 1 ≤ R.frames → 8 + (yc.2.2.1 + 11) + rm.locals ≤ R.locals → cells + mc ≤ R.cells → slots + ms ≤ R.slots → As.length = na → (rest.map fun v => v.category).sum ≤ 8 →
    va_Run p l e R s m args below meth c H locs cells slots mc ms (F0 m pc ls (As.reverse ++ rest)) rest (Qc As.toArray) free
theorem ev_kV {y yc : ev_MI} {pc idx k : Nat} {C : String} (hd : decode y.2.1 pc = .ok (.invokevirtual idx, 3)) (h : Cond.methodLink y.1.cls idx yc.1 ∈ ev_TB ∧ Cond.instanceMethod yc.1 ∈ ev_TB ∧ Cond.selects C yc.1 yc.1 ∈ ev_TB ∧ Cond.initialized C ∈ ev_TB ∧ ev_code yc ∈ ev_TB) (hy : yc.1.cls = C ∧ yc.1.cls ≠ "java/lang/invoke/MethodHandle" ∧ yc.1.cls ≠ "java/lang/invoke/VarHandle" ∧ (parseMethodDescriptor yc.1.desc).map (fun d => d.parameters.length) = some k) : ev_K y pc yc (some C) (k + 1) := by
  intro G p l e R s m args below meth c H locs cells slots ls rest As rm Pc Qc mc ms free hC hls hM hbl hr hP hrc hrs hfr hlo hce hsl hna hst
  obtain ⟨b, As', cell, rfl, g1, g2, g3⟩ := hr
  have hts := hC.2.2.2.2.1
  have hb := callB_of (R := R) (Ts := ev_TB) (ws := ev_ws yc) (ws' := ev_TB) (bytes := yc.2.1) (maxL := yc.2.2.1) (ret := yc.2.2.2) k hts (ev_good h.2.2.2.2) rfl hrc hrs (by rw [hy.1]; exact hts _ h.2.2.2.1) (hts _ h.1) hy.2 ⟨hfr, hlo⟩
  have hlen : As'.length = k := by simpa using hna
  rw [List.reverse_cons, List.append_assoc]
  exact va_runV (C := C) (Ts := ev_TB) ⟨hC.1, hC.2.1, hC.2.2.1, hC.2.2.2.1, hts⟩ hM ⟨hb, hts _ h.2.1, hts _ h.2.2.1⟩ ⟨hbl, ⟨cell, g1, g2, g3⟩, hP⟩ rfl hlen hls rfl (lv_room hst) hd ⟨hce, hsl⟩
theorem ev_kS {y yc : ev_MI} {pc idx k : Nat} (hd : decode y.2.1 pc = .ok (.invokestatic idx, 3)) (h : Cond.methodLink y.1.cls idx yc.1 ∈ ev_TB ∧ Cond.static yc.1 ∈ ev_TB ∧ Cond.initialized yc.1.cls ∈ ev_TB ∧ ev_code yc ∈ ev_TB) (hy : yc.1.cls ≠ "java/lang/invoke/MethodHandle" ∧ yc.1.cls ≠ "java/lang/invoke/VarHandle" ∧ (parseMethodDescriptor yc.1.desc).map (fun d => d.parameters.length) = some k) : ev_K y pc yc none k := by
  intro G p l e R s m args below meth c H locs cells slots ls rest As rm Pc Qc mc ms free hC hls hM hbl hr hP hrc hrs hfr hlo hce hsl hna hst
  have hts := hC.2.2.2.2.1
  have hb := callB_of (R := R) (Ts := ev_TB) (ws := ev_ws yc) (ws' := ev_TB) (bytes := yc.2.1) (maxL := yc.2.2.1) (ret := yc.2.2.2) k hts (ev_good h.2.2.2) rfl hrc hrs (hts _ h.2.2.1) (hts _ h.1) hy ⟨hfr, hlo⟩
  exact va_runS (Ts := ev_TB) ⟨hC.1, hC.2.1, hC.2.2.1, hC.2.2.2.1, hts⟩ hM ⟨hb, hts _ h.2.1⟩ ⟨hbl, hP⟩ rfl hna hls rfl (lv_room hst) hd ⟨hce, hsl⟩
theorem ev_kI {y yc : ev_MI} {pc idx k : Nat} {C : String} (hd : decode y.2.1 pc = .ok (.invokespecial idx, 3)) (hret : yc.2.2.2 = none) (h : Cond.methodLink y.1.cls idx yc.1 ∈ ev_TB ∧ Cond.instanceMethod yc.1 ∈ ev_TB ∧ Cond.initialized yc.1.cls ∈ ev_TB ∧ ev_code yc ∈ ev_TB) (hy1 : yc.1.name = "<init>") (hy : yc.1.cls ≠ "java/lang/invoke/MethodHandle" ∧ yc.1.cls ≠ "java/lang/invoke/VarHandle" ∧ (parseMethodDescriptor yc.1.desc).map (fun d => d.parameters.length) = some k) : ev_K y pc yc (some C) (k + 1) := by
  intro G p l e R s m args below meth c H locs cells slots ls rest As rm Pc Qc mc ms free hC hls hM hbl hr hP hrc hrs hfr hlo hce hsl hna hst
  obtain ⟨b, As', cell, rfl, g1, g2, g3⟩ := hr
  have hts := hC.2.2.2.2.1
  have hG := ev_good h.2.2.2
  have hw : ev_ws yc = Cond.code yc.1 yc.2.1 yc.2.2.1 none :: ev_TB := by rw [ev_ws, hret]
  have hb := callB_of (R := R) (Ts := ev_TB) (ws := ev_ws yc) (ws' := ev_TB) (bytes := yc.2.1) (maxL := yc.2.2.1) (ret := none) k hts hG hw hrc hrs (hts _ h.2.2.1) (hts _ h.1) hy ⟨hfr, hlo⟩
  have hlen : As'.length = k := by simpa using hna
  rw [List.reverse_cons, List.append_assoc]
  exact va_runI (Ts := ev_TB) ⟨hC.1, hC.2.1, hC.2.2.1, hC.2.2.2.1, hts⟩ hM ⟨hb, hy1, hts _ h.2.1⟩ ⟨hbl, hP⟩ rfl hlen hls rfl (lv_room hst) hd ⟨hce, hsl⟩
theorem ev_kSN {y yc : ev_MI} {pc idx k : Nat} {host : String} (hd : decode y.2.1 pc = .ok (.invokestatic idx, 3)) (hn : Cond.methodLinkNest y.1.cls idx yc.1 host ∈ ev_nest) (h : Cond.static yc.1 ∈ ev_TB ∧ Cond.initialized yc.1.cls ∈ ev_TB ∧ ev_code yc ∈ ev_TB) (hy : yc.1.cls ≠ "java/lang/invoke/MethodHandle" ∧ yc.1.cls ≠ "java/lang/invoke/VarHandle" ∧ (parseMethodDescriptor yc.1.desc).map (fun d => d.parameters.length) = some k) : ev_K y pc yc none k := by
  intro G p l e R s m args below meth c H locs cells slots ls rest As rm Pc Qc mc ms free hC hls hM hbl hr hP hrc hrs hfr hlo hce hsl hna hst
  have hts := hC.2.2.2.2.1
  have hb := va_cnB (R := R) (Ts := ev_TB) (ws := ev_ws yc) (ws' := ev_TB) (bytes := yc.2.1) (maxL := yc.2.2.1) (ret := yc.2.2.2) k hts (ev_good h.2.2) rfl hrc hrs (hC.2.2.2.2.2.1.2.1 _ hn) (hts _ h.2.1) hy ⟨hfr, hlo⟩
  exact va_runSN (Ts := ev_TB) ⟨hC.1, hC.2.1, hC.2.2.1, hC.2.2.2.1, hts⟩ hM ⟨hb, hts _ h.1, trivial⟩ ⟨hbl, hP⟩ rfl hna hls rfl (lv_room hst) hd ⟨hce, hsl⟩
theorem ev_kIN {y yc : ev_MI} {pc idx k : Nat} {C host : String} (hd : decode y.2.1 pc = .ok (.invokespecial idx, 3)) (hret : yc.2.2.2 = none) (hn : Cond.methodLinkNest y.1.cls idx yc.1 host ∈ ev_nest) (h : Cond.instanceMethod yc.1 ∈ ev_TB ∧ Cond.initialized yc.1.cls ∈ ev_TB ∧ ev_code yc ∈ ev_TB) (hy1 : yc.1.name = "<init>") (hy : yc.1.cls ≠ "java/lang/invoke/MethodHandle" ∧ yc.1.cls ≠ "java/lang/invoke/VarHandle" ∧ (parseMethodDescriptor yc.1.desc).map (fun d => d.parameters.length) = some k) : ev_K y pc yc (some C) (k + 1) := by
  intro G p l e R s m args below meth c H locs cells slots ls rest As rm Pc Qc mc ms free hC hls hM hbl hr hP hrc hrs hfr hlo hce hsl hna hst
  obtain ⟨b, As', cell, rfl, g1, g2, g3⟩ := hr
  have hts := hC.2.2.2.2.1
  have hG := ev_good h.2.2
  have hw : ev_ws yc = Cond.code yc.1 yc.2.1 yc.2.2.1 none :: ev_TB := by rw [ev_ws, hret]
  have hb := va_cnB (R := R) (Ts := ev_TB) (ws := ev_ws yc) (ws' := ev_TB) (bytes := yc.2.1) (maxL := yc.2.2.1) (ret := none) k hts hG hw hrc hrs (hC.2.2.2.2.2.1.2.1 _ hn) (hts _ h.2.1) hy ⟨hfr, hlo⟩
  have hlen : As'.length = k := by simpa using hna
  rw [List.reverse_cons, List.append_assoc]
  exact va_runIN (Ts := ev_TB) ⟨hC.1, hC.2.1, hC.2.2.1, hC.2.2.2.1, hts⟩ hM ⟨hb, hy1, hts _ h.1⟩ ⟨hbl, hP⟩ rfl hlen hls rfl (lv_room hst) hd ⟨hce, hsl⟩
/-- the receiver, said of the small memory: an object of the class, or one of the texts -/
def ev_rv (C : Option String) (M : ev_M) (as : List Value) : Prop := match C with
  | none => True
  | some C => ∃ (a : Nat) (as' : List Value), as = .ref a :: as' ∧ ((∃ (ci : Nat) (fs : List Value) (r : vw_C), M a = .inr (ci, fs) ∧ vwCl[ci]? = some r ∧ r.1 = C) ∨ ∃ i, a = 9 + i ∧ i < 5 ∧ C = "java/lang/String")
theorem ev_rv_of {C : String} {M : ev_M} {a ci : Nat} {as fs : List Value} {r : vw_C} (h1 : M a = .inr (ci, fs)) (h2 : vwCl[ci]? = some r) (h3 : r.1 = C) : ev_rv (some C) M (.ref a :: as) := ⟨a, as, rfl, Or.inl ⟨ci, fs, r, h1, h2, h3⟩⟩
theorem ev_rv_s {M : ev_M} {i : Nat} {as : List Value} (h : i < 5) : ev_rv (some "java/lang/String") M (.ref (9 + i) :: as) := ⟨9 + i, as, rfl, Or.inr ⟨i, rfl, h, rfl⟩⟩
theorem ev_rv.rc {C : Option String} {G : ev_G} {s : State} {n : Nat} {M : ev_M} {H : Heap} {as : List Value} (hF : ev_F G s) (hH : ev_H G s n M H) (h : ev_rv C M as) : ev_rc C s H (as.map (ev_v G)) := by
  match C, h with
  | none, _ => trivial
  | some C, hh =>
    obtain ⟨a, as', rfl, h5⟩ := hh
    rcases h5 with ⟨ci, fs, r, h1, h2, rfl⟩ | ⟨i, rfl, hi, rfl⟩
    · have hr := hH.rng (a := a) (by rw [h1]; exact ev_nj_r h2)
      have hw := ev_wl_at (G := G) (M := M) hr.1 hr.2
      rw [h1] at hw
      obtain ⟨cell, g1, g2, g3⟩ := va_recv (q0 := a - 20) hF.1 hH.1 h2 hw
      exact ⟨_, as'.map (ev_v G), cell, rfl, g1, g2, g3⟩
    · obtain ⟨cell, g1, g2, g3, -⟩ := (hH.2.2.1.2.2.1.1 i hi).1
      exact ⟨_, as'.map (ev_v G), cell, by rw [List.map_cons, ev_old (by omega)], g1, g2, g3⟩
theorem ev_blind {G : ev_G} {as : List Value} {n : Nat} {M : ev_M} : FrameBlind (va_Pc (as.map (ev_v G)) (fun U => ev_F G U ∧ ev_H G U n M U.heap)) := by
  intro a U g mk q
  obtain ⟨q1, q2, q3⟩ := q
  exact ⟨q1, q2.calling, q3.moved (u := U) (U := U.calling g mk a) (Vm.Alike.refl U.vm)⟩
theorem ev_cats {G : ev_G} (st : List Value) : ((st.map (ev_v G)).map fun v => v.category).sum = (st.map fun v => v.category).sum := by
  rw [List.map_map]; rw [show ((fun v : Value => v.category) ∘ ev_v G) = (fun v => v.category) from funext fun v => ev_v_cat v]
theorem ev_call {G : ev_G} {y yc : ev_MI} {f fc rc ru n na rc1 ru1 rc2 ru2 : Nat} {M : ev_M} {pc : Nat} {L : List (Option Value)} {rst as : List Value} {C : Option String} {Post PostC : Option Value → ev_M → Prop}
    (hk : ev_K y pc yc C na) (hc : ev_Cal G yc fc rc1 ru1 as n M PostC) (hr : ev_rv C M as) (hff : fc + 1 ≤ f) (hm : yc.2.2.1 ≤ 17) (hna : as.length = na) (hst : (rst.map fun v => v.category).sum ≤ 8) (h1 : rc = rc1 + rc2) (h2 : ru = ru1 + ru2)
    (kk : ∀ (r : Option Value) (M1 : ev_M), PostC r M1 → ev_E G y f rc2 ru2 (n + rc1) M1 (pc + 3) L (r.toList ++ rst) Post) : ev_E G y f rc ru n M pc L (as.reverse ++ rst) Post := by
  intro p l e R s m args below meth c H locs cells slots ls Q hC hf hlo hcs hsl hL hH hS hend
  subst h1 h2
  have hrun := hk G p l e R s m args below meth c H locs cells slots ls (rst.map (ev_v G)) (as.map (ev_v G)) { frames := fc, cells := rc1, slots := ru1, locals := 36 * fc } _ _ rc1 ru1 (ev_A G) hC hL.1 (hc l) ev_blind (hr.rc hC.2.2.2.2.2.1 hH)
    (fun U hU hW => ⟨rfl, hC.2.2.2.2.2.1.warm hW, by rw [hU]; exact hH.moved hW.alike⟩) rfl rfl (by show fc + 1 ≤ R.frames; omega) (by show 8 + (yc.2.2.1 + 11) + 36 * fc ≤ R.locals; omega) (by omega) (by omega) (by rw [List.length_map]; exact hna) (by rw [ev_cats]; exact hst)
  refine W.eq (g2 := F0 m pc ls ((as.map (ev_v G)).reverse ++ rst.map (ev_v G))) (by rw [List.map_append, List.map_reverse]) ?_
  intro T hT X
  obtain ⟨v, st₀, t, T', L', h0, X', hL', e1, e2, hQ, st⟩ := hrun T hT X
  obtain ⟨r, M1, hv, hH1, hP1, hz, hkept⟩ := hQ
  rw [h0] at hz hkept
  obtain rfl : v = r.map (ev_v G) := by cases hv; rfl
  have hal : t.vm.Alike s.vm := by rw [← e2]; exact X'.warmed.alike.symm
  have hS' : va_S (ev_A G) s.heap T'.heap (locs ++ L') := ⟨Nat.le_trans hS.1 (by rw [e1]; exact hz), fun q h1 h2 => by rw [e1, hkept q (Nat.lt_of_lt_of_le h1 hS.1) h2]; exact hS.2.1 q h1 h2, fun q hq => by
      rcases List.mem_append.mp hq with h | h
      · exact hS.2.2 q h
      · exact hL' q h⟩
  obtain ⟨t2, a1, b1⟩ := kk r M1 hP1 p l e R s m args below meth c T'.heap (locs ++ L') (cells + rc1) (slots + ru1) ls Q hC hf hlo (by omega) (by omega) hL (by rw [e1]; exact hH1.moved hal) hS'
    (fun pc' ls' r' M' H' locs' ho hH' hS'' hP => by
      have := hend pc' ls' r' M' H' locs' ho (by rw [← Nat.add_assoc]; exact hH') hS'' hP
      rw [← Nat.add_assoc, ← Nat.add_assoc] at this
      exact this) T' rfl X'
  refine ⟨t2, st t2 ?_, b1⟩
  have he : (r.map (ev_v G)).toList ++ rst.map (ev_v G) = (r.toList ++ rst).map (ev_v G) := by cases r <;> simp
  show Steps _ _ _ (T'.setTop { F0 m pc ls _ with pc := pc + 3, stack := (r.map (ev_v G)).toList ++ rst.map (ev_v G) }) t2
  rw [he]
  exact a1
/-- one that answers just so -/
def ev_is (v : Option Value) (M' : ev_M) : Option Value → ev_M → Prop := fun r M1 => r = v ∧ M1 = M'
section EVC
variable {G : ev_G} {y yc : ev_MI} {f fc rc ru n : Nat} {M M' : ev_M} {pc : Nat} {L : List (Option Value)} {st : List Value} {C : Option String} {Post : Option Value → ev_M → Prop} {v : Option Value}
theorem ev_c0 (hk : ev_K y pc yc C 0) (hc : ev_Cal G yc fc 0 0 [] n M (ev_is v M')) (hr : ev_rv C M []) (hff : fc + 1 ≤ f) (hm : yc.2.2.1 ≤ 17) (hst : (st.map fun v => v.category).sum ≤ 8) (kk : ev_E G y f rc ru n M' (pc + 3) L (v.toList ++ st) Post) : ev_E G y f rc ru n M pc L (st) Post :=
  ev_call (as := []) (rst := st) hk hc hr hff hm rfl hst (Nat.zero_add _).symm (Nat.zero_add _).symm (fun r M1 h => by rw [h.1, h.2]; exact kk)
theorem ev_d0 {PostC : Option Value → ev_M → Prop} (hk : ev_K y pc yc C 0) (hc : ev_Cal G yc fc 0 0 [] n M PostC) (hr : ev_rv C M []) (hff : fc + 1 ≤ f) (hm : yc.2.2.1 ≤ 17) (hst : (st.map fun v => v.category).sum ≤ 8) (kk : ∀ (r : Option Value) (M1 : ev_M), PostC r M1 → ev_E G y f rc ru n M1 (pc + 3) L (r.toList ++ st) Post) : ev_E G y f rc ru n M pc L (st) Post :=
  ev_call (as := []) (rst := st) hk hc hr hff hm rfl hst (Nat.zero_add _).symm (Nat.zero_add _).symm kk
theorem ev_m0 {rc1 ru1 rc2 ru2 : Nat} (hk : ev_K y pc yc C 0) (hc : ev_Cal G yc fc rc1 ru1 [] n M (ev_is v M')) (hr : ev_rv C M []) (hff : fc + 1 ≤ f) (hm : yc.2.2.1 ≤ 17) (hst : (st.map fun v => v.category).sum ≤ 8) (h1 : rc = rc1 + rc2) (h2 : ru = ru1 + ru2) (kk : ev_E G y f rc2 ru2 (n + rc1) M' (pc + 3) L (v.toList ++ st) Post) : ev_E G y f rc ru n M pc L (st) Post :=
  ev_call (as := []) (rst := st) hk hc hr hff hm rfl hst h1 h2 (fun r M1 h => by rw [h.1, h.2]; exact kk)
theorem ev_c1 {v0 : Value} (hk : ev_K y pc yc C 1) (hc : ev_Cal G yc fc 0 0 [v0] n M (ev_is v M')) (hr : ev_rv C M [v0]) (hff : fc + 1 ≤ f) (hm : yc.2.2.1 ≤ 17) (hst : (st.map fun v => v.category).sum ≤ 8) (kk : ev_E G y f rc ru n M' (pc + 3) L (v.toList ++ st) Post) : ev_E G y f rc ru n M pc L (v0 :: st) Post :=
  ev_call (as := [v0]) (rst := st) hk hc hr hff hm rfl hst (Nat.zero_add _).symm (Nat.zero_add _).symm (fun r M1 h => by rw [h.1, h.2]; exact kk)
theorem ev_d1 {v0 : Value} {PostC : Option Value → ev_M → Prop} (hk : ev_K y pc yc C 1) (hc : ev_Cal G yc fc 0 0 [v0] n M PostC) (hr : ev_rv C M [v0]) (hff : fc + 1 ≤ f) (hm : yc.2.2.1 ≤ 17) (hst : (st.map fun v => v.category).sum ≤ 8) (kk : ∀ (r : Option Value) (M1 : ev_M), PostC r M1 → ev_E G y f rc ru n M1 (pc + 3) L (r.toList ++ st) Post) : ev_E G y f rc ru n M pc L (v0 :: st) Post :=
  ev_call (as := [v0]) (rst := st) hk hc hr hff hm rfl hst (Nat.zero_add _).symm (Nat.zero_add _).symm kk
theorem ev_m1 {v0 : Value} {rc1 ru1 rc2 ru2 : Nat} (hk : ev_K y pc yc C 1) (hc : ev_Cal G yc fc rc1 ru1 [v0] n M (ev_is v M')) (hr : ev_rv C M [v0]) (hff : fc + 1 ≤ f) (hm : yc.2.2.1 ≤ 17) (hst : (st.map fun v => v.category).sum ≤ 8) (h1 : rc = rc1 + rc2) (h2 : ru = ru1 + ru2) (kk : ev_E G y f rc2 ru2 (n + rc1) M' (pc + 3) L (v.toList ++ st) Post) : ev_E G y f rc ru n M pc L (v0 :: st) Post :=
  ev_call (as := [v0]) (rst := st) hk hc hr hff hm rfl hst h1 h2 (fun r M1 h => by rw [h.1, h.2]; exact kk)
theorem ev_c2 {v0 v1 : Value} (hk : ev_K y pc yc C 2) (hc : ev_Cal G yc fc 0 0 [v0, v1] n M (ev_is v M')) (hr : ev_rv C M [v0, v1]) (hff : fc + 1 ≤ f) (hm : yc.2.2.1 ≤ 17) (hst : (st.map fun v => v.category).sum ≤ 8) (kk : ev_E G y f rc ru n M' (pc + 3) L (v.toList ++ st) Post) : ev_E G y f rc ru n M pc L (v1 :: v0 :: st) Post :=
  ev_call (as := [v0, v1]) (rst := st) hk hc hr hff hm rfl hst (Nat.zero_add _).symm (Nat.zero_add _).symm (fun r M1 h => by rw [h.1, h.2]; exact kk)
theorem ev_d2 {v0 v1 : Value} {PostC : Option Value → ev_M → Prop} (hk : ev_K y pc yc C 2) (hc : ev_Cal G yc fc 0 0 [v0, v1] n M PostC) (hr : ev_rv C M [v0, v1]) (hff : fc + 1 ≤ f) (hm : yc.2.2.1 ≤ 17) (hst : (st.map fun v => v.category).sum ≤ 8) (kk : ∀ (r : Option Value) (M1 : ev_M), PostC r M1 → ev_E G y f rc ru n M1 (pc + 3) L (r.toList ++ st) Post) : ev_E G y f rc ru n M pc L (v1 :: v0 :: st) Post :=
  ev_call (as := [v0, v1]) (rst := st) hk hc hr hff hm rfl hst (Nat.zero_add _).symm (Nat.zero_add _).symm kk
theorem ev_m2 {v0 v1 : Value} {rc1 ru1 rc2 ru2 : Nat} (hk : ev_K y pc yc C 2) (hc : ev_Cal G yc fc rc1 ru1 [v0, v1] n M (ev_is v M')) (hr : ev_rv C M [v0, v1]) (hff : fc + 1 ≤ f) (hm : yc.2.2.1 ≤ 17) (hst : (st.map fun v => v.category).sum ≤ 8) (h1 : rc = rc1 + rc2) (h2 : ru = ru1 + ru2) (kk : ev_E G y f rc2 ru2 (n + rc1) M' (pc + 3) L (v.toList ++ st) Post) : ev_E G y f rc ru n M pc L (v1 :: v0 :: st) Post :=
  ev_call (as := [v0, v1]) (rst := st) hk hc hr hff hm rfl hst h1 h2 (fun r M1 h => by rw [h.1, h.2]; exact kk)
theorem ev_c3 {v0 v1 v2 : Value} (hk : ev_K y pc yc C 3) (hc : ev_Cal G yc fc 0 0 [v0, v1, v2] n M (ev_is v M')) (hr : ev_rv C M [v0, v1, v2]) (hff : fc + 1 ≤ f) (hm : yc.2.2.1 ≤ 17) (hst : (st.map fun v => v.category).sum ≤ 8) (kk : ev_E G y f rc ru n M' (pc + 3) L (v.toList ++ st) Post) : ev_E G y f rc ru n M pc L (v2 :: v1 :: v0 :: st) Post :=
  ev_call (as := [v0, v1, v2]) (rst := st) hk hc hr hff hm rfl hst (Nat.zero_add _).symm (Nat.zero_add _).symm (fun r M1 h => by rw [h.1, h.2]; exact kk)
theorem ev_d3 {v0 v1 v2 : Value} {PostC : Option Value → ev_M → Prop} (hk : ev_K y pc yc C 3) (hc : ev_Cal G yc fc 0 0 [v0, v1, v2] n M PostC) (hr : ev_rv C M [v0, v1, v2]) (hff : fc + 1 ≤ f) (hm : yc.2.2.1 ≤ 17) (hst : (st.map fun v => v.category).sum ≤ 8) (kk : ∀ (r : Option Value) (M1 : ev_M), PostC r M1 → ev_E G y f rc ru n M1 (pc + 3) L (r.toList ++ st) Post) : ev_E G y f rc ru n M pc L (v2 :: v1 :: v0 :: st) Post :=
  ev_call (as := [v0, v1, v2]) (rst := st) hk hc hr hff hm rfl hst (Nat.zero_add _).symm (Nat.zero_add _).symm kk
theorem ev_m3 {v0 v1 v2 : Value} {rc1 ru1 rc2 ru2 : Nat} (hk : ev_K y pc yc C 3) (hc : ev_Cal G yc fc rc1 ru1 [v0, v1, v2] n M (ev_is v M')) (hr : ev_rv C M [v0, v1, v2]) (hff : fc + 1 ≤ f) (hm : yc.2.2.1 ≤ 17) (hst : (st.map fun v => v.category).sum ≤ 8) (h1 : rc = rc1 + rc2) (h2 : ru = ru1 + ru2) (kk : ev_E G y f rc2 ru2 (n + rc1) M' (pc + 3) L (v.toList ++ st) Post) : ev_E G y f rc ru n M pc L (v2 :: v1 :: v0 :: st) Post :=
  ev_call (as := [v0, v1, v2]) (rst := st) hk hc hr hff hm rfl hst h1 h2 (fun r M1 h => by rw [h.1, h.2]; exact kk)
theorem ev_c4 {v0 v1 v2 v3 : Value} (hk : ev_K y pc yc C 4) (hc : ev_Cal G yc fc 0 0 [v0, v1, v2, v3] n M (ev_is v M')) (hr : ev_rv C M [v0, v1, v2, v3]) (hff : fc + 1 ≤ f) (hm : yc.2.2.1 ≤ 17) (hst : (st.map fun v => v.category).sum ≤ 8) (kk : ev_E G y f rc ru n M' (pc + 3) L (v.toList ++ st) Post) : ev_E G y f rc ru n M pc L (v3 :: v2 :: v1 :: v0 :: st) Post :=
  ev_call (as := [v0, v1, v2, v3]) (rst := st) hk hc hr hff hm rfl hst (Nat.zero_add _).symm (Nat.zero_add _).symm (fun r M1 h => by rw [h.1, h.2]; exact kk)
theorem ev_d4 {v0 v1 v2 v3 : Value} {PostC : Option Value → ev_M → Prop} (hk : ev_K y pc yc C 4) (hc : ev_Cal G yc fc 0 0 [v0, v1, v2, v3] n M PostC) (hr : ev_rv C M [v0, v1, v2, v3]) (hff : fc + 1 ≤ f) (hm : yc.2.2.1 ≤ 17) (hst : (st.map fun v => v.category).sum ≤ 8) (kk : ∀ (r : Option Value) (M1 : ev_M), PostC r M1 → ev_E G y f rc ru n M1 (pc + 3) L (r.toList ++ st) Post) : ev_E G y f rc ru n M pc L (v3 :: v2 :: v1 :: v0 :: st) Post :=
  ev_call (as := [v0, v1, v2, v3]) (rst := st) hk hc hr hff hm rfl hst (Nat.zero_add _).symm (Nat.zero_add _).symm kk
theorem ev_m4 {v0 v1 v2 v3 : Value} {rc1 ru1 rc2 ru2 : Nat} (hk : ev_K y pc yc C 4) (hc : ev_Cal G yc fc rc1 ru1 [v0, v1, v2, v3] n M (ev_is v M')) (hr : ev_rv C M [v0, v1, v2, v3]) (hff : fc + 1 ≤ f) (hm : yc.2.2.1 ≤ 17) (hst : (st.map fun v => v.category).sum ≤ 8) (h1 : rc = rc1 + rc2) (h2 : ru = ru1 + ru2) (kk : ev_E G y f rc2 ru2 (n + rc1) M' (pc + 3) L (v.toList ++ st) Post) : ev_E G y f rc ru n M pc L (v3 :: v2 :: v1 :: v0 :: st) Post :=
  ev_call (as := [v0, v1, v2, v3]) (rst := st) hk hc hr hff hm rfl hst h1 h2 (fun r M1 h => by rw [h.1, h.2]; exact kk)
theorem ev_c5 {v0 v1 v2 v3 v4 : Value} (hk : ev_K y pc yc C 5) (hc : ev_Cal G yc fc 0 0 [v0, v1, v2, v3, v4] n M (ev_is v M')) (hr : ev_rv C M [v0, v1, v2, v3, v4]) (hff : fc + 1 ≤ f) (hm : yc.2.2.1 ≤ 17) (hst : (st.map fun v => v.category).sum ≤ 8) (kk : ev_E G y f rc ru n M' (pc + 3) L (v.toList ++ st) Post) : ev_E G y f rc ru n M pc L (v4 :: v3 :: v2 :: v1 :: v0 :: st) Post :=
  ev_call (as := [v0, v1, v2, v3, v4]) (rst := st) hk hc hr hff hm rfl hst (Nat.zero_add _).symm (Nat.zero_add _).symm (fun r M1 h => by rw [h.1, h.2]; exact kk)
theorem ev_d5 {v0 v1 v2 v3 v4 : Value} {PostC : Option Value → ev_M → Prop} (hk : ev_K y pc yc C 5) (hc : ev_Cal G yc fc 0 0 [v0, v1, v2, v3, v4] n M PostC) (hr : ev_rv C M [v0, v1, v2, v3, v4]) (hff : fc + 1 ≤ f) (hm : yc.2.2.1 ≤ 17) (hst : (st.map fun v => v.category).sum ≤ 8) (kk : ∀ (r : Option Value) (M1 : ev_M), PostC r M1 → ev_E G y f rc ru n M1 (pc + 3) L (r.toList ++ st) Post) : ev_E G y f rc ru n M pc L (v4 :: v3 :: v2 :: v1 :: v0 :: st) Post :=
  ev_call (as := [v0, v1, v2, v3, v4]) (rst := st) hk hc hr hff hm rfl hst (Nat.zero_add _).symm (Nat.zero_add _).symm kk
theorem ev_m5 {v0 v1 v2 v3 v4 : Value} {rc1 ru1 rc2 ru2 : Nat} (hk : ev_K y pc yc C 5) (hc : ev_Cal G yc fc rc1 ru1 [v0, v1, v2, v3, v4] n M (ev_is v M')) (hr : ev_rv C M [v0, v1, v2, v3, v4]) (hff : fc + 1 ≤ f) (hm : yc.2.2.1 ≤ 17) (hst : (st.map fun v => v.category).sum ≤ 8) (h1 : rc = rc1 + rc2) (h2 : ru = ru1 + ru2) (kk : ev_E G y f rc2 ru2 (n + rc1) M' (pc + 3) L (v.toList ++ st) Post) : ev_E G y f rc ru n M pc L (v4 :: v3 :: v2 :: v1 :: v0 :: st) Post :=
  ev_call (as := [v0, v1, v2, v3, v4]) (rst := st) hk hc hr hff hm rfl hst h1 h2 (fun r M1 h => by rw [h.1, h.2]; exact kk)
theorem ev_c6 {v0 v1 v2 v3 v4 v5 : Value} (hk : ev_K y pc yc C 6) (hc : ev_Cal G yc fc 0 0 [v0, v1, v2, v3, v4, v5] n M (ev_is v M')) (hr : ev_rv C M [v0, v1, v2, v3, v4, v5]) (hff : fc + 1 ≤ f) (hm : yc.2.2.1 ≤ 17) (hst : (st.map fun v => v.category).sum ≤ 8) (kk : ev_E G y f rc ru n M' (pc + 3) L (v.toList ++ st) Post) : ev_E G y f rc ru n M pc L (v5 :: v4 :: v3 :: v2 :: v1 :: v0 :: st) Post :=
  ev_call (as := [v0, v1, v2, v3, v4, v5]) (rst := st) hk hc hr hff hm rfl hst (Nat.zero_add _).symm (Nat.zero_add _).symm (fun r M1 h => by rw [h.1, h.2]; exact kk)
theorem ev_d6 {v0 v1 v2 v3 v4 v5 : Value} {PostC : Option Value → ev_M → Prop} (hk : ev_K y pc yc C 6) (hc : ev_Cal G yc fc 0 0 [v0, v1, v2, v3, v4, v5] n M PostC) (hr : ev_rv C M [v0, v1, v2, v3, v4, v5]) (hff : fc + 1 ≤ f) (hm : yc.2.2.1 ≤ 17) (hst : (st.map fun v => v.category).sum ≤ 8) (kk : ∀ (r : Option Value) (M1 : ev_M), PostC r M1 → ev_E G y f rc ru n M1 (pc + 3) L (r.toList ++ st) Post) : ev_E G y f rc ru n M pc L (v5 :: v4 :: v3 :: v2 :: v1 :: v0 :: st) Post :=
  ev_call (as := [v0, v1, v2, v3, v4, v5]) (rst := st) hk hc hr hff hm rfl hst (Nat.zero_add _).symm (Nat.zero_add _).symm kk
theorem ev_m6 {v0 v1 v2 v3 v4 v5 : Value} {rc1 ru1 rc2 ru2 : Nat} (hk : ev_K y pc yc C 6) (hc : ev_Cal G yc fc rc1 ru1 [v0, v1, v2, v3, v4, v5] n M (ev_is v M')) (hr : ev_rv C M [v0, v1, v2, v3, v4, v5]) (hff : fc + 1 ≤ f) (hm : yc.2.2.1 ≤ 17) (hst : (st.map fun v => v.category).sum ≤ 8) (h1 : rc = rc1 + rc2) (h2 : ru = ru1 + ru2) (kk : ev_E G y f rc2 ru2 (n + rc1) M' (pc + 3) L (v.toList ++ st) Post) : ev_E G y f rc ru n M pc L (v5 :: v4 :: v3 :: v2 :: v1 :: v0 :: st) Post :=
  ev_call (as := [v0, v1, v2, v3, v4, v5]) (rst := st) hk hc hr hff hm rfl hst h1 h2 (fun r M1 h => by rw [h.1, h.2]; exact kk)
end EVC
end
